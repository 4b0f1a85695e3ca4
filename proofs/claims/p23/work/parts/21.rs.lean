/-! the law's own heap: Sim -/
def cut (w : Nat) (f : Nat → Int32) : Nat → Int32 := fun k => if k < w then f k else 0
def oR (c : ClassId) (w : Nat) (f : Nat → Int32) : va_E := .inl (c, w, .inl (cut w f))
def oS (rt : Nat → Nat) (b : Int32) : va_E := .inr (5, [.ref (rt 0), .ref (rt 1), .ref (rt 2), .ref (rt 3), .int b])
def RS (cy : Nat → ClassId) (s : Nat) (rt : Nat → Nat) (rd : Nat → Nat → Nat) (b : Int32) (nt nf nc nn : Nat) (S F C N : Rw) (G : GG) : Prop :=
  (G s = some (oS rt b) ∧ G (rt 0) = some (oA (cy 5) nt (rd 0) nt) ∧ G (rt 1) = some (oA (cy 5) nf (rd 1) nf) ∧ G (rt 2) = some (oA (cy 5) nc (rd 2) nc) ∧ G (rt 3) = some (oA (cy 5) nn (rd 3) nn)) ∧
  ((∀ i, i < nt → G (rd 0 i) = some (oR (cy 0) 7 (S i))) ∧ (∀ i, i < nf → G (rd 1 i) = some (oR (cy 0) 5 (F i))) ∧ (∀ i, i < nc → G (rd 2 i) = some (oR (cy 0) 5 (C i))) ∧ (∀ i, i < nn → G (rd 3 i) = some (oR (cy 0) 2 (N i)))) ∧
  ((∀ i j, i < nt → j < nt → rd 0 i = rd 0 j → i = j) ∧ (∀ i j, i < nf → j < nf → rd 1 i = rd 1 j → i = j) ∧ (∀ i j, i < nc → j < nc → rd 2 i = rd 2 j → i = j) ∧ (∀ i j, i < nf → j < nc → rd 1 i ≠ rd 2 j)) ∧ (nt ≤ 6 ∧ nf ≤ 8 ∧ nc ≤ 20 ∧ nn ≤ 3)
theorem cut_lt {w k : Nat} {f : Nat → Int32} (h : k < w) : cut w f k = f k := if_pos h
theorem cut_upd {w k i : Nat} {F : Rw} {v : Int32} (h : k < w) : upd (cut w (F i)) k v = cut w (s_set F i k v i) := by
  funext j
  unfold upd cut s_set
  by_cases hj : j = k
  · subst hj; simp [h]
  · simp [hj]
theorem cut_new {w k : Nat} {f : Nat → Int32} {v : Int32} (h : k < w) : upd (cut w f) k v = cut w (upd f k v) := by
  funext j
  unfold upd cut
  by_cases hj : j = k
  · subst hj; simp [h]
  · simp [hj]
theorem cut_0 {w : Nat} : cut w (fun _ => 0) = fun _ => 0 := by funext j; unfold cut; split <;> rfl
theorem cut_ext {w : Nat} {f g : Nat → Int32} (h : ∀ k, k < w → f k = g k) : cut w f = cut w g := by
  funext j
  unfold cut
  by_cases hj : j < w
  · rw [if_pos hj, if_pos hj, h j hj]
  · rw [if_neg hj, if_neg hj]
theorem oRw_ne {c : ClassId} {w w' : Nat} {f g : Nat → Int32} (h : w ≠ w') : oR c w f ≠ oR c w' g := by
  intro e; unfold oR at e; injection e with e1; injection e1 with _ e2; injection e2 with e3; exact h e3
theorem oR_oA {c c' : ClassId} {w n m : Nat} {f : Nat → Int32} {r : Nat → Nat} : oA c' n r m ≠ oR c w f := by
  intro e; unfold oR oA at e; injection e with e1; injection e1 with _ e2; injection e2 with _ e3; cases e3
theorem oR_oS {c : ClassId} {w : Nat} {f : Nat → Int32} {rt : Nat → Nat} {b : Int32} : oS rt b ≠ oR c w f := by
  intro e; unfold oR oS at e; cases e
section RSU
variable {cy : Nat → ClassId} {s : Nat} {rt : Nat → Nat} {rd : Nat → Nat → Nat} {b : Int32} {nt nf nc nn : Nat} {S F C N : Rw} {G : GG}
theorem RS.w0 {S' : Rw} {i : Nat} (h : RS cy s rt rd b nt nf nc nn S F C N G) (hi : i < nt) (ho : ∀ j, j ≠ i → S' j = S j) : RS cy s rt rd b nt nf nc nn S' F C N (g_up G (rd 0 i) (oR (cy 0) 7 (S' i))) := by
  obtain ⟨⟨h1, h2, h3, h4, h5⟩, ⟨k0, k1, k2, k3⟩, ⟨i0, i1, i2, i12⟩, hb⟩ := h
  have ha := k0 i hi
  refine ⟨⟨g_oth h1 ha oR_oS, g_oth h2 ha oR_oA, g_oth h3 ha oR_oA, g_oth h4 ha oR_oA, g_oth h5 ha oR_oA⟩, ⟨?_, fun j hj => g_oth (k1 j hj) ha (oRw_ne (by decide)), fun j hj => g_oth (k2 j hj) ha (oRw_ne (by decide)), fun j hj => g_oth (k3 j hj) ha (oRw_ne (by decide))⟩, ⟨i0, i1, i2, i12⟩, hb⟩
  intro j hj
  by_cases hji : j = i
  · subst hji; exact g_up_self ..
  · rw [g_up_ne (fun q => hji (i0 j i hj hi q)), k0 j hj, ho j hji]
theorem RS.w1 {F' : Rw} {i : Nat} (h : RS cy s rt rd b nt nf nc nn S F C N G) (hi : i < nf) (ho : ∀ j, j ≠ i → F' j = F j) : RS cy s rt rd b nt nf nc nn S F' C N (g_up G (rd 1 i) (oR (cy 0) 5 (F' i))) := by
  obtain ⟨⟨h1, h2, h3, h4, h5⟩, ⟨k0, k1, k2, k3⟩, ⟨i0, i1, i2, i12⟩, hb⟩ := h
  have ha := k1 i hi
  refine ⟨⟨g_oth h1 ha oR_oS, g_oth h2 ha oR_oA, g_oth h3 ha oR_oA, g_oth h4 ha oR_oA, g_oth h5 ha oR_oA⟩, ⟨fun j hj => g_oth (k0 j hj) ha (oRw_ne (by decide)), ?_, fun j hj => by rw [g_up_ne (fun q => i12 i j hi hj q.symm)]; exact k2 j hj, fun j hj => g_oth (k3 j hj) ha (oRw_ne (by decide))⟩, ⟨i0, i1, i2, i12⟩, hb⟩
  intro j hj
  by_cases hji : j = i
  · subst hji; exact g_up_self ..
  · rw [g_up_ne (fun q => hji (i1 j i hj hi q)), k1 j hj, ho j hji]
theorem RS.w2 {C' : Rw} {i : Nat} (h : RS cy s rt rd b nt nf nc nn S F C N G) (hi : i < nc) (ho : ∀ j, j ≠ i → C' j = C j) : RS cy s rt rd b nt nf nc nn S F C' N (g_up G (rd 2 i) (oR (cy 0) 5 (C' i))) := by
  obtain ⟨⟨h1, h2, h3, h4, h5⟩, ⟨k0, k1, k2, k3⟩, ⟨i0, i1, i2, i12⟩, hb⟩ := h
  have ha := k2 i hi
  refine ⟨⟨g_oth h1 ha oR_oS, g_oth h2 ha oR_oA, g_oth h3 ha oR_oA, g_oth h4 ha oR_oA, g_oth h5 ha oR_oA⟩, ⟨fun j hj => g_oth (k0 j hj) ha (oRw_ne (by decide)), fun j hj => by rw [g_up_ne (i12 j i hj hi)]; exact k1 j hj, ?_, fun j hj => g_oth (k3 j hj) ha (oRw_ne (by decide))⟩, ⟨i0, i1, i2, i12⟩, hb⟩
  intro j hj
  by_cases hji : j = i
  · subst hji; exact g_up_self ..
  · rw [g_up_ne (fun q => hji (i2 j i hj hi q)), k2 j hj, ho j hji]
theorem RS.wb {b' : Int32} (h : RS cy s rt rd b nt nf nc nn S F C N G) : RS cy s rt rd b' nt nf nc nn S F C N (g_up G s (oS rt b')) := by
  obtain ⟨⟨h1, h2, h3, h4, h5⟩, ⟨k0, k1, k2, k3⟩, hi, hb⟩ := h
  exact ⟨⟨g_up_self .., g_oth h2 h1 (by simp [oA, oS]), g_oth h3 h1 (by simp [oA, oS]), g_oth h4 h1 (by simp [oA, oS]), g_oth h5 h1 (by simp [oA, oS])⟩, ⟨fun j hj => g_oth (k0 j hj) h1 (by simp [oR, oS]), fun j hj => g_oth (k1 j hj) h1 (by simp [oR, oS]), fun j hj => g_oth (k2 j hj) h1 (by simp [oR, oS]), fun j hj => g_oth (k3 j hj) h1 (by simp [oR, oS])⟩, hi, hb⟩
theorem RS.ext {S' F' C' N' : Rw} (h : RS cy s rt rd b nt nf nc nn S F C N G) (h0 : ∀ i k, i < nt → k < 7 → S' i k = S i k) (h1 : ∀ i k, i < nf → k < 5 → F' i k = F i k) (h2 : ∀ i k, i < nc → k < 5 → C' i k = C i k) (h3 : ∀ i k, i < nn → k < 2 → N' i k = N i k) : RS cy s rt rd b nt nf nc nn S' F' C' N' G := by
  obtain ⟨a, ⟨k0, k1, k2, k3⟩, i, hb⟩ := h
  exact ⟨a, ⟨fun j hj => by rw [k0 j hj]; unfold oR; rw [cut_ext (fun k hk => h0 j k hj hk)], fun j hj => by rw [k1 j hj]; unfold oR; rw [cut_ext (fun k hk => h1 j k hj hk)], fun j hj => by rw [k2 j hj]; unfold oR; rw [cut_ext (fun k hk => h2 j k hj hk)], fun j hj => by rw [k3 j hj]; unfold oR; rw [cut_ext (fun k hk => h3 j k hj hk)]⟩, i, hb⟩
theorem RS.up {G2 : GG} (h : RS cy s rt rd b nt nf nc nn S F C N G) (hs : ∀ a e, G a = some e → G2 a = some e) : RS cy s rt rd b nt nf nc nn S F C N G2 := by
  obtain ⟨⟨h1, h2, h3, h4, h5⟩, ⟨k0, k1, k2, k3⟩, hi, hb⟩ := h
  exact ⟨⟨hs _ _ h1, hs _ _ h2, hs _ _ h3, hs _ _ h4, hs _ _ h5⟩, ⟨fun j hj => hs _ _ (k0 j hj), fun j hj => hs _ _ (k1 j hj), fun j hj => hs _ _ (k2 j hj), fun j hj => hs _ _ (k3 j hj)⟩, hi, hb⟩
/-- a row more of the table 0: the row at q, the new table at t, and the object told of it -/
theorem RS.add0 {q t : Nat} {r : Nat → Int32} {G1 G2 : GG} (h : RS cy s rt rd b nt nf nc nn S F C N G) (hc : nt < 6) (hq : G q = none) (hG1 : ∀ a e, G a = some e → G1 a = some e) (hr : G1 q = some (oR (cy 0) 7 r)) (ht : G1 t = none) (e2 : G2 = g_up (g_up G1 t (oA (cy 5) (nt + 1) (fun i => if i < nt then rd 0 i else q) (nt + 1))) s (oS (fun k => if k = 0 then t else rt k) b)) : ∃ rt' rd', RS cy s rt' rd' b (nt + 1) nf nc nn (s_add S nt r) F C N G2 := by
  subst e2
  obtain ⟨⟨h1, h2, h3, h4, h5⟩, ⟨k0, k1, k2, k3⟩, ⟨i0, i1, i2, i12⟩, hb⟩ := RS.up h hG1
  have hne : ∀ a e, G1 a = some e → a ≠ t := fun a e ha z => by subst z; rw [ht] at ha; cases ha
  have nq : ∀ a e, G a = some e → a ≠ q := fun a e ha z => by subst z; rw [hq] at ha; cases ha
  have up : ∀ a e, G1 a = some e → a ≠ s → g_up (g_up G1 t (oA (cy 5) (nt + 1) (fun i => if i < nt then rd 0 i else q) (nt + 1))) s (oS (fun k => if k = 0 then t else rt k) b) a = some e := fun a e ha hs => by rw [g_up_ne hs, g_up_ne (hne a e ha)]; exact ha
  have ns : ∀ a e, G1 a = some e → e ≠ oS rt b → a ≠ s := fun a e ha h9 z => by subst z; exact h9 (Option.some.inj (ha.symm.trans h1))
  have hts : t ≠ s := fun z => hne s _ h1 z.symm
  obtain ⟨o0, ⟨l0, l1, l2, l3⟩, -, -⟩ := h
  refine ⟨fun k => if k = 0 then t else rt k, fun z i => if z = 0 then (if i < nt then rd 0 i else q) else rd z i, ⟨g_up_self .., ?_, ?_, ?_, ?_⟩, ⟨?_, ?_, ?_, ?_⟩, ⟨?_, ?_, ?_, ?_⟩, by omega⟩
  · show g_up _ s _ t = _
    rw [g_up_ne hts, g_up_self]
    rfl
  · exact up (rt 1) _ h3 (ns _ _ h3 (by simp [oA, oS]))
  · exact up (rt 2) _ h4 (ns _ _ h4 (by simp [oA, oS]))
  · exact up (rt 3) _ h5 (ns _ _ h5 (by simp [oA, oS]))
  · intro i hi
    by_cases hin : i < nt
    · show g_up (g_up _ _ _) _ _ (if i < nt then rd 0 i else q) = some (oR (cy 0) 7 (if i = nt then r else S i))
      rw [if_pos hin, if_neg (by omega)]
      exact up _ _ (k0 i hin) (ns _ _ (k0 i hin) (by simp [oR, oS]))
    · show g_up (g_up _ _ _) _ _ (if i < nt then rd 0 i else q) = some (oR (cy 0) 7 (if i = nt then r else S i))
      rw [if_neg hin, if_pos (by omega)]
      exact up _ _ hr (ns _ _ hr (by simp [oR, oS]))
  · exact fun i hi => up _ _ (k1 i hi) (ns _ _ (k1 i hi) (by simp [oR, oS]))
  · exact fun i hi => up _ _ (k2 i hi) (ns _ _ (k2 i hi) (by simp [oR, oS]))
  · exact fun i hi => up _ _ (k3 i hi) (ns _ _ (k3 i hi) (by simp [oR, oS]))
  · intro i i' hi hi' e
    have e1 : (if i < nt then rd 0 i else q) = (if i' < nt then rd 0 i' else q) := e
    by_cases a1 : i < nt
    · rw [if_pos a1] at e1
      by_cases a2 : i' < nt
      · rw [if_pos a2] at e1; exact i0 i i' a1 a2 e1
      · rw [if_neg a2] at e1; exact absurd e1 (nq _ _ (l0 i a1))
    · rw [if_neg a1] at e1
      by_cases a2 : i' < nt
      · rw [if_pos a2] at e1; exact absurd e1.symm (nq _ _ (l0 i' a2))
      · omega
  · exact i1
  · exact i2
  · exact i12
/-- a row more of the table 1: the row at q, the new table at t, and the object told of it -/
theorem RS.add1 {q t : Nat} {r : Nat → Int32} {G1 G2 : GG} (h : RS cy s rt rd b nt nf nc nn S F C N G) (hc : nf < 8) (hq : G q = none) (hG1 : ∀ a e, G a = some e → G1 a = some e) (hr : G1 q = some (oR (cy 0) 5 r)) (ht : G1 t = none) (e2 : G2 = g_up (g_up G1 t (oA (cy 5) (nf + 1) (fun i => if i < nf then rd 1 i else q) (nf + 1))) s (oS (fun k => if k = 1 then t else rt k) b)) : ∃ rt' rd', RS cy s rt' rd' b nt (nf + 1) nc nn S (s_add F nf r) C N G2 := by
  subst e2
  obtain ⟨⟨h1, h2, h3, h4, h5⟩, ⟨k0, k1, k2, k3⟩, ⟨i0, i1, i2, i12⟩, hb⟩ := RS.up h hG1
  have hne : ∀ a e, G1 a = some e → a ≠ t := fun a e ha z => by subst z; rw [ht] at ha; cases ha
  have nq : ∀ a e, G a = some e → a ≠ q := fun a e ha z => by subst z; rw [hq] at ha; cases ha
  have up : ∀ a e, G1 a = some e → a ≠ s → g_up (g_up G1 t (oA (cy 5) (nf + 1) (fun i => if i < nf then rd 1 i else q) (nf + 1))) s (oS (fun k => if k = 1 then t else rt k) b) a = some e := fun a e ha hs => by rw [g_up_ne hs, g_up_ne (hne a e ha)]; exact ha
  have ns : ∀ a e, G1 a = some e → e ≠ oS rt b → a ≠ s := fun a e ha h9 z => by subst z; exact h9 (Option.some.inj (ha.symm.trans h1))
  have hts : t ≠ s := fun z => hne s _ h1 z.symm
  obtain ⟨o0, ⟨l0, l1, l2, l3⟩, -, -⟩ := h
  refine ⟨fun k => if k = 1 then t else rt k, fun z i => if z = 1 then (if i < nf then rd 1 i else q) else rd z i, ⟨g_up_self .., ?_, ?_, ?_, ?_⟩, ⟨?_, ?_, ?_, ?_⟩, ⟨?_, ?_, ?_, ?_⟩, by omega⟩
  · exact up (rt 0) _ h2 (ns _ _ h2 (by simp [oA, oS]))
  · show g_up _ s _ t = _
    rw [g_up_ne hts, g_up_self]
    rfl
  · exact up (rt 2) _ h4 (ns _ _ h4 (by simp [oA, oS]))
  · exact up (rt 3) _ h5 (ns _ _ h5 (by simp [oA, oS]))
  · exact fun i hi => up _ _ (k0 i hi) (ns _ _ (k0 i hi) (by simp [oR, oS]))
  · intro i hi
    by_cases hin : i < nf
    · show g_up (g_up _ _ _) _ _ (if i < nf then rd 1 i else q) = some (oR (cy 0) 5 (if i = nf then r else F i))
      rw [if_pos hin, if_neg (by omega)]
      exact up _ _ (k1 i hin) (ns _ _ (k1 i hin) (by simp [oR, oS]))
    · show g_up (g_up _ _ _) _ _ (if i < nf then rd 1 i else q) = some (oR (cy 0) 5 (if i = nf then r else F i))
      rw [if_neg hin, if_pos (by omega)]
      exact up _ _ hr (ns _ _ hr (by simp [oR, oS]))
  · exact fun i hi => up _ _ (k2 i hi) (ns _ _ (k2 i hi) (by simp [oR, oS]))
  · exact fun i hi => up _ _ (k3 i hi) (ns _ _ (k3 i hi) (by simp [oR, oS]))
  · exact i0
  · intro i i' hi hi' e
    have e1 : (if i < nf then rd 1 i else q) = (if i' < nf then rd 1 i' else q) := e
    by_cases a1 : i < nf
    · rw [if_pos a1] at e1
      by_cases a2 : i' < nf
      · rw [if_pos a2] at e1; exact i1 i i' a1 a2 e1
      · rw [if_neg a2] at e1; exact absurd e1 (nq _ _ (l1 i a1))
    · rw [if_neg a1] at e1
      by_cases a2 : i' < nf
      · rw [if_pos a2] at e1; exact absurd e1.symm (nq _ _ (l1 i' a2))
      · omega
  · exact i2
  · intro i k hi hk
    show (if i < nf then rd 1 i else q) ≠ rd 2 k
    by_cases a1 : i < nf
    · rw [if_pos a1]; exact i12 i k a1 hk
    · rw [if_neg a1]; exact fun e => nq _ _ (l2 k hk) e.symm
/-- a row more of the table 2: the row at q, the new table at t, and the object told of it -/
theorem RS.add2 {q t : Nat} {r : Nat → Int32} {G1 G2 : GG} (h : RS cy s rt rd b nt nf nc nn S F C N G) (hc : nc < 20) (hq : G q = none) (hG1 : ∀ a e, G a = some e → G1 a = some e) (hr : G1 q = some (oR (cy 0) 5 r)) (ht : G1 t = none) (e2 : G2 = g_up (g_up G1 t (oA (cy 5) (nc + 1) (fun i => if i < nc then rd 2 i else q) (nc + 1))) s (oS (fun k => if k = 2 then t else rt k) b)) : ∃ rt' rd', RS cy s rt' rd' b nt nf (nc + 1) nn S F (s_add C nc r) N G2 := by
  subst e2
  obtain ⟨⟨h1, h2, h3, h4, h5⟩, ⟨k0, k1, k2, k3⟩, ⟨i0, i1, i2, i12⟩, hb⟩ := RS.up h hG1
  have hne : ∀ a e, G1 a = some e → a ≠ t := fun a e ha z => by subst z; rw [ht] at ha; cases ha
  have nq : ∀ a e, G a = some e → a ≠ q := fun a e ha z => by subst z; rw [hq] at ha; cases ha
  have up : ∀ a e, G1 a = some e → a ≠ s → g_up (g_up G1 t (oA (cy 5) (nc + 1) (fun i => if i < nc then rd 2 i else q) (nc + 1))) s (oS (fun k => if k = 2 then t else rt k) b) a = some e := fun a e ha hs => by rw [g_up_ne hs, g_up_ne (hne a e ha)]; exact ha
  have ns : ∀ a e, G1 a = some e → e ≠ oS rt b → a ≠ s := fun a e ha h9 z => by subst z; exact h9 (Option.some.inj (ha.symm.trans h1))
  have hts : t ≠ s := fun z => hne s _ h1 z.symm
  obtain ⟨o0, ⟨l0, l1, l2, l3⟩, -, -⟩ := h
  refine ⟨fun k => if k = 2 then t else rt k, fun z i => if z = 2 then (if i < nc then rd 2 i else q) else rd z i, ⟨g_up_self .., ?_, ?_, ?_, ?_⟩, ⟨?_, ?_, ?_, ?_⟩, ⟨?_, ?_, ?_, ?_⟩, by omega⟩
  · exact up (rt 0) _ h2 (ns _ _ h2 (by simp [oA, oS]))
  · exact up (rt 1) _ h3 (ns _ _ h3 (by simp [oA, oS]))
  · show g_up _ s _ t = _
    rw [g_up_ne hts, g_up_self]
    rfl
  · exact up (rt 3) _ h5 (ns _ _ h5 (by simp [oA, oS]))
  · exact fun i hi => up _ _ (k0 i hi) (ns _ _ (k0 i hi) (by simp [oR, oS]))
  · exact fun i hi => up _ _ (k1 i hi) (ns _ _ (k1 i hi) (by simp [oR, oS]))
  · intro i hi
    by_cases hin : i < nc
    · show g_up (g_up _ _ _) _ _ (if i < nc then rd 2 i else q) = some (oR (cy 0) 5 (if i = nc then r else C i))
      rw [if_pos hin, if_neg (by omega)]
      exact up _ _ (k2 i hin) (ns _ _ (k2 i hin) (by simp [oR, oS]))
    · show g_up (g_up _ _ _) _ _ (if i < nc then rd 2 i else q) = some (oR (cy 0) 5 (if i = nc then r else C i))
      rw [if_neg hin, if_pos (by omega)]
      exact up _ _ hr (ns _ _ hr (by simp [oR, oS]))
  · exact fun i hi => up _ _ (k3 i hi) (ns _ _ (k3 i hi) (by simp [oR, oS]))
  · exact i0
  · exact i1
  · intro i i' hi hi' e
    have e1 : (if i < nc then rd 2 i else q) = (if i' < nc then rd 2 i' else q) := e
    by_cases a1 : i < nc
    · rw [if_pos a1] at e1
      by_cases a2 : i' < nc
      · rw [if_pos a2] at e1; exact i2 i i' a1 a2 e1
      · rw [if_neg a2] at e1; exact absurd e1 (nq _ _ (l2 i a1))
    · rw [if_neg a1] at e1
      by_cases a2 : i' < nc
      · rw [if_pos a2] at e1; exact absurd e1.symm (nq _ _ (l2 i' a2))
      · omega
  · intro i k hi hk
    show rd 1 i ≠ (if k < nc then rd 2 k else q)
    by_cases a1 : k < nc
    · rw [if_pos a1]; exact i12 i k hi a1
    · rw [if_neg a1]; exact nq _ _ (l1 i hi)
/-- a row more of the table 3: the row at q, the new table at t, and the object told of it -/
theorem RS.add3 {q t : Nat} {r : Nat → Int32} {G1 G2 : GG} (h : RS cy s rt rd b nt nf nc nn S F C N G) (hc : nn < 3) (hq : G q = none) (hG1 : ∀ a e, G a = some e → G1 a = some e) (hr : G1 q = some (oR (cy 0) 2 r)) (ht : G1 t = none) (e2 : G2 = g_up (g_up G1 t (oA (cy 5) (nn + 1) (fun i => if i < nn then rd 3 i else q) (nn + 1))) s (oS (fun k => if k = 3 then t else rt k) b)) : ∃ rt' rd', RS cy s rt' rd' b nt nf nc (nn + 1) S F C (s_add N nn r) G2 := by
  subst e2
  obtain ⟨⟨h1, h2, h3, h4, h5⟩, ⟨k0, k1, k2, k3⟩, ⟨i0, i1, i2, i12⟩, hb⟩ := RS.up h hG1
  have hne : ∀ a e, G1 a = some e → a ≠ t := fun a e ha z => by subst z; rw [ht] at ha; cases ha
  have nq : ∀ a e, G a = some e → a ≠ q := fun a e ha z => by subst z; rw [hq] at ha; cases ha
  have up : ∀ a e, G1 a = some e → a ≠ s → g_up (g_up G1 t (oA (cy 5) (nn + 1) (fun i => if i < nn then rd 3 i else q) (nn + 1))) s (oS (fun k => if k = 3 then t else rt k) b) a = some e := fun a e ha hs => by rw [g_up_ne hs, g_up_ne (hne a e ha)]; exact ha
  have ns : ∀ a e, G1 a = some e → e ≠ oS rt b → a ≠ s := fun a e ha h9 z => by subst z; exact h9 (Option.some.inj (ha.symm.trans h1))
  have hts : t ≠ s := fun z => hne s _ h1 z.symm
  obtain ⟨o0, ⟨l0, l1, l2, l3⟩, -, -⟩ := h
  refine ⟨fun k => if k = 3 then t else rt k, fun z i => if z = 3 then (if i < nn then rd 3 i else q) else rd z i, ⟨g_up_self .., ?_, ?_, ?_, ?_⟩, ⟨?_, ?_, ?_, ?_⟩, ⟨?_, ?_, ?_, ?_⟩, by omega⟩
  · exact up (rt 0) _ h2 (ns _ _ h2 (by simp [oA, oS]))
  · exact up (rt 1) _ h3 (ns _ _ h3 (by simp [oA, oS]))
  · exact up (rt 2) _ h4 (ns _ _ h4 (by simp [oA, oS]))
  · show g_up _ s _ t = _
    rw [g_up_ne hts, g_up_self]
    rfl
  · exact fun i hi => up _ _ (k0 i hi) (ns _ _ (k0 i hi) (by simp [oR, oS]))
  · exact fun i hi => up _ _ (k1 i hi) (ns _ _ (k1 i hi) (by simp [oR, oS]))
  · exact fun i hi => up _ _ (k2 i hi) (ns _ _ (k2 i hi) (by simp [oR, oS]))
  · intro i hi
    by_cases hin : i < nn
    · show g_up (g_up _ _ _) _ _ (if i < nn then rd 3 i else q) = some (oR (cy 0) 2 (if i = nn then r else N i))
      rw [if_pos hin, if_neg (by omega)]
      exact up _ _ (k3 i hin) (ns _ _ (k3 i hin) (by simp [oR, oS]))
    · show g_up (g_up _ _ _) _ _ (if i < nn then rd 3 i else q) = some (oR (cy 0) 2 (if i = nn then r else N i))
      rw [if_neg hin, if_pos (by omega)]
      exact up _ _ hr (ns _ _ hr (by simp [oR, oS]))
  · exact i0
  · exact i1
  · exact i2
  · exact i12
end RSU
