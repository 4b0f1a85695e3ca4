/-! a callee's world within the caller's -/
def jd (G' G1 G : GG) : GG := fun a => match G1 a with
  | none => (match G a with
    | some e => some e
    | none => G' a)
  | some _ => G' a
/-- the callee's cells, and the caller's others -/
def fr (G1 G G' G2 : GG) : Prop := (∀ a e, G' a = some e → G2 a = some e) ∧ (∀ a e, G a = some e → G1 a = none → G2 a = some e) ∧ ∀ a e, G' a = some e → (∃ e1, G1 a = some e1) ∨ G a = none
theorem g_Amono {G1 G : GG} {sz : Nat} (hs : ∀ a e, G1 a = some e → G a = some e) : ∀ q, g_A G1 sz q → g_A G sz q := fun q hq => hq.imp (fun h => h.elim fun e he => ⟨e, hs q e he⟩) id
theorem g_frj {D : va_G} {G1 G G' : GG} {sz : Nat} {st t : State} (hs : ∀ a e, G1 a = some e → G a = some e) (hP : ∀ a e, G a = some e → va_at D vwCl (a, e) st.heap) (hsz : st.heap.size = sz) (hG : ∀ a e, G' a = some e → va_at D vwCl (a, e) t.heap ∧ g_A G1 sz a) (hF : va_F (g_A G1 sz) st t) :
    fr G1 G G' (jd G' G1 G) ∧ (∀ a e, jd G' G1 G a = some e → va_at D vwCl (a, e) t.heap ∧ g_A G sz a) ∧ va_F (g_A G sz) st t := by
  refine ⟨⟨fun a e ha => ?_, fun a e ha h1 => ?_, fun a e ha => ?_⟩, fun a e ha => ?_, hF.1, fun q h1 h2 => hF.2 q h1 (fun z => h2 (g_Amono hs q z))⟩
  · unfold jd
    cases h1 : G1 a with
    | some e1 => exact ha
    | none =>
      cases h2 : G a with
      | none => exact ha
      | some e2 =>
        exfalso
        rcases (hG a e ha).2 with ⟨e3, h3⟩ | h3
        · rw [h1] at h3; cases h3
        · have := (hP a e2 h2).lt
          rw [hsz] at this
          exact absurd h3 (Nat.not_le.mpr this)
  · unfold jd; rw [h1]; simp only [ha]
  · rcases (hG a e ha).2 with h3 | h3
    · exact Or.inl h3
    · cases h2 : G a with
      | none => exact Or.inr rfl
      | some e2 =>
        have := (hP a e2 h2).lt
        rw [hsz] at this
        exact absurd h3 (Nat.not_le.mpr this)
  · unfold jd at ha
    cases h1 : G1 a with
    | some e1 => rw [h1] at ha; exact ⟨(hG a e ha).1, g_Amono hs a (hG a e ha).2⟩
    | none =>
      rw [h1] at ha
      cases h2 : G a with
      | none => rw [h2] at ha; exact ⟨(hG a e ha).1, g_Amono hs a (hG a e ha).2⟩
      | some e2 =>
        rw [h2] at ha
        cases ha
        have h3 := (hP a e h2).lt
        refine ⟨(hP a e h2).kept (hF.2 a h3 (fun z => ?_)), Or.inl ⟨e, h2⟩⟩
        rcases z with ⟨e4, h4⟩ | h4
        · rw [h1] at h4; cases h4
        · rw [hsz] at h3; exact absurd h4 (Nat.not_le.mpr h3)
theorem Ctr.frame {l : Launch} {D : va_G} {cy : Nat → ClassId} {y : MethodName} {b : ByteArray} {n : Nat} {ret : Option FieldType} {rm : Room} {av : List Value} {G1 G : GG} {post : Option Value → GG → Prop} (h : Ctr l D cy y b n ret rm av G1 post) (hs : ∀ a e, G1 a = some e → G a = some e) : Ctr l D cy y b n ret rm av G (fun r G2 => ∃ G', post r G' ∧ fr G1 G G' G2) := by
  intro sz p e ha hf hc s m args below hfr hap hP hK
  obtain ⟨hv, hsz, hat, hKK⟩ := hP
  obtain ⟨k, o, q1, q2, q3, ⟨⟨r, G', ho, hp, hG⟩, hF⟩, L, q4, q5⟩ := h sz p e ha hf hc s m args below hfr hap ⟨hv, hsz, fun a e h1 => hat a e (hs a e h1), hKK⟩ hK
  obtain ⟨j1, j2, j3⟩ := g_frj hs hat hsz hG hF
  exact ⟨k, o, q1, q2, q3, ⟨⟨r, _, ho, ⟨G', hp, j1⟩, j2⟩, j3⟩, L, q4, fun q hq => g_Amono hs _ (q5 q hq)⟩
theorem CtrX.frame {l : Launch} {D : va_G} {cy : Nat → ClassId} {y : MethodName} {b : ByteArray} {n : Nat} {ret : Option FieldType} {rm : Room} {av : List Value} {G1 G : GG} {post : Option Value → GG → Prop} {px : String → GG → Prop} (h : CtrX l D cy y b n ret rm av G1 post px) (hs : ∀ a e, G1 a = some e → G a = some e) : CtrX l D cy y b n ret rm av G (fun r G2 => ∃ G', post r G' ∧ fr G1 G G' G2) (fun x G2 => ∃ G', px x G' ∧ fr G1 G G' G2) := by
  intro sz p e ha hf hc s m args below hfr hap hP hK
  obtain ⟨hv, hsz, hat, hKK, hXF⟩ := hP
  obtain ⟨k, o, q1, q2, q3, q4⟩ := h sz p e ha hf hc s m args below hfr hap ⟨hv, hsz, fun a e h1 => hat a e (hs a e h1), hKK, hXF.1, hXF.2.1, hXF.2.2.1, hXF.2.2.2.1.narrow (g_Amono hs), hXF.2.2.2.2.narrow (g_Amono hs)⟩ hK
  refine ⟨k, o, q1, q2, q3, ?_⟩
  rcases q4 with ⟨⟨⟨r, G', ho, hp, hG⟩, hF⟩, L, q4, q5⟩ | ⟨q, hq, hT⟩
  · obtain ⟨j1, j2, j3⟩ := g_frj hs hat hsz hG hF
    exact Or.inl ⟨⟨⟨r, _, ho, ⟨G', hp, j1⟩, j2⟩, j3⟩, L, q4, fun q hq => g_Amono hs _ (q5 q hq)⟩
  · obtain ⟨E, ce, L, ⟨G', hp, hG, hF⟩, t1, t2, t3, t4, t5, t6⟩ := hT
    obtain ⟨j1, j2, j3⟩ := g_frj hs hat hsz hG hF
    exact Or.inr ⟨q, hq, E, ce, L, ⟨_, ⟨G', hp, j1⟩, j2, j3⟩, t1, t2, t3, t4, t5, fun z hz => g_Amono hs _ (t6 z hz)⟩
/-! the whole world as a list -/
theorem g_list {D : va_G} {A : Nat → Prop} {H0 H : Heap} {G : GG} {locs : List Loc} (hw : g_wd D A H0 G H locs) : ∃ ws : va_W, va_P D vwCl ws H ∧ va_D A ws ∧ ∀ b e, G b = some e ↔ (b, e) ∈ ws := by
  have hm : ∀ b e, (b, e) ∈ (List.range H.size).filterMap (fun b => (G b).map (fun e => (b, e))) ↔ G b = some e := by
    intro b e
    rw [List.mem_filterMap]
    constructor
    · rintro ⟨b', -, h⟩
      obtain ⟨e', h1, h2⟩ := Option.map_eq_some_iff.mp h
      cases h2
      exact h1
    · intro h
      exact ⟨b, List.mem_range.mpr (hw.1 b e h).1.lt, by rw [h]; rfl⟩
  refine ⟨(List.range H.size).filterMap (fun b => (G b).map (fun e => (b, e))), fun k q hk => ?_, ⟨?_, fun k q hk => ?_⟩, fun b e => (hm b e).symm⟩
  · exact (hw.1 q.1 q.2 ((hm q.1 q.2).mp (List.mem_of_getElem? hk))).1
  · have hp : ((List.range H.size).filterMap (fun b => (G b).map (fun e => (b, e)))).Pairwise (fun p q => p.1 < q.1) := by
      refine List.Pairwise.filterMap _ (fun a a' haa b hb b' hb' => ?_) List.pairwise_lt_range
      obtain ⟨e1, -, h2⟩ := Option.map_eq_some_iff.mp hb
      obtain ⟨e3, -, h4⟩ := Option.map_eq_some_iff.mp hb'
      rw [← h2, ← h4]
      exact haa
    intro i j p q hi hj hpq
    rw [List.pairwise_iff_getElem] at hp
    obtain ⟨hi1, hi2⟩ := List.getElem?_eq_some_iff.mp hi
    obtain ⟨hj1, hj2⟩ := List.getElem?_eq_some_iff.mp hj
    rcases Nat.lt_trichotomy i j with h | h | h
    · have := hp i j hi1 hj1 h
      rw [hi2, hj2] at this; omega
    · exact h
    · have := hp j i hj1 hi1 h
      rw [hi2, hj2] at this; omega
  · exact (hw.1 q.1 q.2 ((hm q.1 q.2).mp (List.mem_of_getElem? hk))).2
theorem g_unset {D : va_G} {A : Nat → Prop} {H0 H1 : Heap} {G : GG} {locs : List Loc} {ws : va_W} {a k : Nat} {e0 e : va_E} (hm : ∀ b e, G b = some e ↔ (b, e) ∈ ws) (hk : ws[k]? = some (a, e0)) (hP : va_P D vwCl (ws.set k (a, e)) H1) (hD : va_D A (ws.set k (a, e))) (hS : va_S A H0 H1 locs) : g_wd D A H0 (g_up G a e) H1 locs := by
  have hlt : k < ws.length := (List.getElem?_eq_some_iff.mp hk).1
  refine ⟨fun b e' hb => ?_, hS⟩
  by_cases hba : b = a
  · subst hba
    rw [g_up_self] at hb
    cases hb
    have h1 : (ws.set k (b, e))[k]? = some (b, e) := by rw [List.getElem?_set_self hlt]
    exact ⟨hP k _ h1, hD.2 k _ h1⟩
  · rw [g_up_ne hba] at hb
    obtain ⟨j, hj⟩ := List.getElem?_of_mem ((hm b e').mp hb)
    have hjk : k ≠ j := by
      intro h
      subst h
      rw [hk] at hj
      cases hj
      exact hba rfl
    have h1 : (ws.set k (a, e))[j]? = some (b, e') := by rw [List.getElem?_set_ne hjk]; exact hj
    exact ⟨hP j _ h1, hD.2 j _ h1⟩
theorem g_grow {D : va_G} {A : Nat → Prop} {H0 H1 : Heap} {G : GG} {locs : List Loc} {ws : va_W} {q : Nat} {e : va_E} (hm : ∀ b e, G b = some e ↔ (b, e) ∈ ws) (hP : va_P D vwCl (ws ++ [(q, e)]) H1) (hD : va_D A (ws ++ [(q, e)])) (hS : va_S A H0 H1 locs) : G q = none ∧ g_wd D A H0 (g_up G q e) H1 locs := by
  have hl : (ws ++ [(q, e)])[ws.length]? = some (q, e) := by simp
  have hi : ∀ b e', G b = some e' → ∃ j, j < ws.length ∧ (ws ++ [(q, e)])[j]? = some (b, e') := by
    intro b e' hb
    obtain ⟨j, hj⟩ := List.getElem?_of_mem ((hm b e').mp hb)
    have hlt := (List.getElem?_eq_some_iff.mp hj).1
    exact ⟨j, hlt, by rw [List.getElem?_append_left hlt]; exact hj⟩
  have hq : G q = none := by
    cases h : G q with
    | none => rfl
    | some e' =>
      exfalso
      obtain ⟨j, h1, h2⟩ := hi q e' h
      have := hD.1 j ws.length _ _ h2 hl rfl
      omega
  refine ⟨hq, fun b e' hb => ?_, hS⟩
  by_cases hba : b = q
  · subst hba
    rw [g_up_self] at hb
    cases hb
    exact ⟨hP _ _ hl, hD.2 _ _ hl⟩
  · rw [g_up_ne hba] at hb
    obtain ⟨j, h1, h2⟩ := hi b e' hb
    exact ⟨hP j _ h2, hD.2 j _ h2⟩
theorem nI_ge0 {n : Nat} (h : n < 100000) : ¬ nI n < 0 := Int32.not_lt.mpr (nI_pos' (by omega))
section PGR
variable {κ : Kx} {l0 : Launch} {D0 : va_G} {cy0 : Nat → ClassId} {y : MethodName} {nL ce sl index : Nat} {cc : ByteArray} {rm : Room} {ret : Option FieldType} {G : GG} {lv : LV} {pc : Nat} {rest : List Value} {a : Nat}
/-- System.arraycopy between two int arrays -/
theorem g_copyi {a0 n0 n1 p d n : Nat} {f g : Nat → Int32} {sp dp nn : Int32} (C : g_OK κ l0 D0 cy0 y nL cc rm ret) (hlink : Cond.methodLink y.cls index arraycopyName ∈ lw_T) (hnat : Cond.native arraycopyName ∈ lw_T) (hst : Cond.static arraycopyName ∈ lw_T) (hini : Cond.initialized "java/lang/System" ∈ lw_T)
    (ha0 : G a0 = some (.inl (cy0 0, n0, .inl f))) (ha : G a = some (.inl (cy0 0, n1, .inl g))) (hsp : sp = nI p) (hdp : dp = nI d) (hnn : nn = nI n) (h1 : p + n ≤ n0) (h2 : d + n ≤ n1) (h3 : n0 < 1000) (h4 : n1 < 1000)
    (hfr : 1 ≤ rm.frames) (hloc : (rest.map fun v => v.category).sum + (nativeFrameWords "java/lang/System" "arraycopy" 5 + 11) ≤ rm.locals) (hd : decode cc pc = .ok (.invokestatic index, 3))
    (kk : PG κ nL ce sl (g_up G a (.inl (cy0 0, n1, .inl (va_cpy f g p d n)))) lv (pc + 3) rest) : PG κ nL ce sl G lv pc (.int nn :: .int dp :: .ref a :: .int sp :: .ref a0 :: rest) := by
  obtain ⟨p9, l, e, R, s, m, args, below, meth, c, D, cy, A, H0, Q⟩ := κ
  obtain ⟨⟨-, rfl, rfl⟩, h0, hb, hml, hown, hT, hK, hA, rfl, -⟩ := C
  intro H locs ls hw hl
  obtain ⟨ws, hP, hD, hm⟩ := g_list hw
  obtain ⟨q0, hq0⟩ := List.getElem?_of_mem ((hm a0 _).mp ha0)
  obtain ⟨q1, hq1⟩ := List.getElem?_of_mem ((hm a _).mp ha)
  have ep : sp.toNatClampNeg = p := by rw [hsp]; exact nI_clamp (by omega)
  have ed : dp.toNatClampNeg = d := by rw [hdp]; exact nI_clamp (by omega)
  have en : nn.toNatClampNeg = n := by rw [hnn]; exact nI_clamp (by omega)
  refine va_copyi h0 hb (hml.trans hl.1.symm) hown (hT _ hlink) (hT _ hnat) (hT _ hst) (hT _ hini) hK.1 hP hD hw.2 q0 q1 0 0 hq0 hq1 rfl rfl rfl (by rw [hsp]; exact nI_ge0 (by omega)) (by rw [hdp]; exact nI_ge0 (by omega)) (by rw [hnn]; exact nI_ge0 (by omega)) (by rw [ep, en]; exact h1) (by rw [ed, en]; exact h2) (fun i hi => rfl) hfr hloc hd (fun H1 locs1 hP1 hD1 hS1 => ?_)
  rw [ep, ed, en] at hP1 hD1
  exact kk H1 locs1 ls (g_unset hm hq1 hP1 hD1 hS1) hl
/-- clone of an int array -/
theorem g_clonei {n : Nat} {f : Nat → Int32} (C : g_OK κ l0 D0 cy0 y nL cc rm ret) (hlink : Cond.methodLink y.cls index ⟨"[I", "clone", "()Ljava/lang/Object;"⟩ ∈ lw_T) (h5 : Cond.sameMethod "[I" "java/lang/Object" "clone" "()Ljava/lang/Object;" ∈ lw_T) (h6 : Cond.native ⟨"java/lang/Object", "clone", "()Ljava/lang/Object;"⟩ ∈ lw_T) (h7 : Cond.instanceMethod ⟨"java/lang/Object", "clone", "()Ljava/lang/Object;"⟩ ∈ lw_T) (h8 : Cond.selects "[I" ⟨"[I", "clone", "()Ljava/lang/Object;"⟩ ⟨"java/lang/Object", "clone", "()Ljava/lang/Object;"⟩ ∈ lw_T)
    (ha : G a = some (.inl (cy0 0, n, .inl f))) (hfr : 1 ≤ rm.frames) (hloc : (rest.map fun v => v.category).sum + 14 ≤ rm.locals) (hcells : ce + 1 ≤ rm.cells) (hslots : sl + n ≤ rm.slots) (hd : decode cc pc = .ok (.invokevirtual index, 3))
    (kk : ∀ q, G q = none → PG κ nL (ce + 1) (sl + n) (g_up G q (.inl (cy0 0, n, .inl f))) lv (pc + 3) (.ref q :: rest)) : PG κ nL ce sl G lv pc (.ref a :: rest) := by
  obtain ⟨p9, l, e, R, s, m, args, below, meth, c, D, cy, A, H0, Q⟩ := κ
  obtain ⟨⟨-, rfl, rfl⟩, h0, hb, hml, hown, hT, hK, hA, rfl, -⟩ := C
  intro H locs ls hw hl
  obtain ⟨ws, hP, hD, hm⟩ := g_list hw
  obtain ⟨q0, hq0⟩ := List.getElem?_of_mem ((hm a _).mp ha)
  have e1 : "[" ++ FieldType.int.toString = "[I" := by decide +kernel
  have hnm : s.vm.findClass "[I" = some (cy 0) := by have := (hK.1.2 0 _ rfl).2; rw [← e1]; exact this
  refine va_clone h0 hb (hml.trans hl.1.symm) hown (hT _ hlink) (hT _ h5) (hT _ h6) (hT _ h7) (hT _ h8) hK.2.2.2.2.2.2 hK.1 hP hD hw.2 hA q0 0 hq0 rfl hnm (va_fit (fun i hi => rfl)) hfr hloc hcells hslots hd (fun q H1 hK1 hP1 hD1 hS1 => ?_)
  obtain ⟨hq, hw1⟩ := g_grow hm hP1 hD1 hS1
  exact kk q hq H1 locs ls hw1 hl
theorem g_casti {n : Nat} {f : Nat → Int32} (C : g_OK κ l0 D0 cy0 y nL cc rm ret) (hlink : Cond.classLink y.cls index "[I" ∈ lw_T) (ha : G a = some (.inl (cy0 0, n, .inl f))) (hd : decode cc pc = .ok (.checkcast index, 3)) (kk : PG κ nL ce sl G lv (pc + 3) (.ref a :: rest)) : PG κ nL ce sl G lv pc (.ref a :: rest) := by
  obtain ⟨p9, l, e, R, s, m, args, below, meth, c, D, cy, A, H0, Q⟩ := κ
  obtain ⟨⟨-, rfl, rfl⟩, h0, hb, hml, hown, hT, hK, hA, rfl, -⟩ := C
  intro H locs ls hw hl
  have e1 : "[" ++ FieldType.int.toString = "[I" := by decide +kernel
  have hnm : s.vm.findClass "[I" = some (cy 0) := by have := (hK.1.2 0 _ rfl).2; rw [← e1]; exact this
  exact va_castA h0 hb hown (hT _ hlink) (g_sP hw ha) 0 rfl hnm hd (kk H locs ls hw hl)
/-- an array of int arrays -/
theorem g_anewA {N' : Nat} {n : Int32} (C : g_OK κ l0 D0 cy0 y nL cc rm ret) (hcl : Cond.classLink y.cls index "[I" ∈ lw_T) (hn : ¬ n < 0) (hN : n.toNatClampNeg = N') (hbytes : N' * 4 ≤ 536870912) (hcells : ce + 1 ≤ rm.cells) (hslots : sl + N' ≤ rm.slots) (hd : decode cc pc = .ok (.anewarray index, 3))
    (kk : ∀ q, G q = none → PG κ nL (ce + 1) (sl + N') (g_up G q (.inl (cy0 5, N', .inr (.inr (.inr (.inr (fun _ => none))))))) lv (pc + 3) (.ref q :: rest)) : PG κ nL ce sl G lv pc (.int n :: rest) := by
  obtain ⟨p, l, e, R, s, m, args, below, meth, c, D, cy, A, H0, Q⟩ := κ
  obtain ⟨⟨-, rfl, rfl⟩, h0, hb, hml, hown, hT, hK, hA, rfl, -⟩ := C
  subst hN
  intro H locs ls hw hl
  have e1 : (FieldType.array .int).toString = "[I" := by decide +kernel
  have hover : (Cond.arrayOver (.array .int)).before args s = true := hK.2.2.2.2.2.1
  refine W.anewA (t := .int) h0 hb hown (by rw [e1]; exact hT _ hcl) hover rfl hd rfl hn hbytes hcells hslots fun cA1 kA comp f1 f2 f3 f4 => ?_
  have r4 : s.vm.findClass ("[" ++ (FieldType.array .int).toString) = some (cy 5) := (hK.1.2 5 _ rfl).2
  cases Option.some.inj (f1.symm.trans r4)
  generalize hH1 : H.push ({ cls := cy 5, slots := Array.replicate n.toNatClampNeg .null, vm := .none } : Cell) = H1
  have z1 : H1.size = H.size + 1 := by rw [← hH1, Array.size_push]
  have e2 : H1[H.size]? = some (arrV (cy 5) n.toNatClampNeg (fun _ => .null)) := by rw [← hH1, Array.getElem?_push_size, ← arrV_new]
  have o1 : ∀ q : Nat, q < H.size → H1[q]? = H[q]? := fun q hq => by rw [← hH1, Array.getElem?_push, if_neg (Nat.ne_of_lt hq)]
  have he : va_at D vwCl (H.size, .inl (cy 5, n.toNatClampNeg, .inr (.inr (.inr (.inr (fun _ => none)))))) H1 := by
    show H1[H.size]? = some (vp_cell _ _)
    rw [vp_cell_q]
    exact e2
  obtain ⟨hn0, hw1⟩ := g_wnew hA hw he z1 o1
  exact kk H.size hn0 H1 locs ls hw1 hl
theorem g_aastI {n v n2 j : Nat} {f : Nat → Option Nat} {g : Nat → Int32} {i : Int32} (C : g_OK κ l0 D0 cy0 y nL cc rm ret) (ha : G a = some (.inl (cy0 5, n, .inr (.inr (.inr (.inr f)))))) (hv : G v = some (.inl (cy0 0, n2, .inl g))) (hi : i = nI j) (hj : j < n) (hn : n < 1000) (hd : decode cc pc = .ok (.aastore, 1)) (kk : PG κ nL ce sl (g_up G a (.inl (cy0 5, n, .inr (.inr (.inr (.inr (va_up f j (some v)))))))) lv (pc + 1) rest) : PG κ nL ce sl G lv pc (.ref v :: .int i :: .ref a :: rest) := by
  obtain ⟨p, l, e, R, s, m, args, below, meth, c, D, cy, A, H0, Q⟩ := κ
  obtain ⟨⟨-, rfl, rfl⟩, h0, hb, hml, hown, hT, hK, hA, rfl, -⟩ := C
  intro H locs ls hw hl
  have ei : i.toNatClampNeg = j := by rw [hi]; exact nI_clamp (by omega)
  have e1 : "[" ++ FieldType.int.toString = "[I" := by decide +kernel
  have e3 : (FieldType.array .int).toString = "[I" := by decide +kernel
  have hnm : s.vm.findClass "[I" = some (cy 0) := by have := (hK.1.2 0 _ rfl).2; rw [← e1]; exact this
  have r4 : s.vm.findClass ("[" ++ (FieldType.array .int).toString) = some (cy 5) := (hK.1.2 5 _ rfl).2
  have hover : (Cond.arrayOver (.array .int)).before args s = true := hK.2.2.2.2.2.1
  obtain ⟨comp, cc9, k, k1, -, k3, k4, k5⟩ := arrayOverA_spec hover
  rw [e3, hnm] at k1
  cases k1
  cases Option.some.inj (k5.symm.trans r4)
  obtain ⟨kC, hkC, -⟩ := Vm.findClass_spec hnm
  have hat : H[a]? = some (arrV (cy 5) n (fun j => va_rf (f j))) := (hw.1 a _ ha).1
  have hav : H[v]? = some (arrV (cy 0) n2 (fun j => .int (g j))) := (hw.1 v _ hv).1
  refine W.aast h0 hb hat (fun q h => by cases h) (fun h => by cases h) k3 k4 rfl hkC ⟨by rw [hi]; exact nI_ge0 (by omega), by rw [arrV_size, ei]; exact hj⟩ hav (fun q h => by cases h) hkC (va_asg _ _) rfl rfl hd fun H1 e2 z o => ?_
  refine kk H1 _ ls (g_wput hw ha ?_ z o) hl
  show H1[a]? = some (arrV (cy 5) n (fun q => va_rf (va_up f j (some v) q)))
  rw [e2, arrV_store, ei]
  congr 2
  funext q
  by_cases hq : q = j
  · subst hq; simp [updV, va_up, va_rf]
  · simp [updV, va_up, hq]
theorem g_aaldI {n j : Nat} {f : Nat → Option Nat} {i : Int32} {v : Nat} (C : g_OK κ l0 D0 cy0 y nL cc rm ret) (ha : G a = some (.inl (cy0 5, n, .inr (.inr (.inr (.inr f)))))) (hi : i = nI j) (hj : j < n) (hn : n < 1000) (hf : f j = some v) (hd : decode cc pc = .ok (.aaload, 1)) (kk : PG κ nL ce sl G lv (pc + 1) (.ref v :: rest)) : PG κ nL ce sl G lv pc (.int i :: .ref a :: rest) := by
  obtain ⟨p, l, e, R, s, m, args, below, meth, c, D, cy, A, H0, Q⟩ := κ
  obtain ⟨⟨-, rfl, rfl⟩, h0, hb, hml, hown, hT, hK, hA, rfl, -⟩ := C
  intro H locs ls hw hl
  have ei : i.toNatClampNeg = j := by rw [hi]; exact nI_clamp (by omega)
  have hat : H[a]? = some (arrV (cy 5) n (fun j => va_rf (f j))) := (hw.1 a _ ha).1
  refine W.aald (v := .ref v) (ty := .array .int) h0 hb hat ((hK.1.2 5 _ rfl).1 n (fun j => va_rf (f j))) rfl (fun q => by cases q) (by rw [arrV_size, hi]; exact vp_in_nI hj (by omega)) (by rw [ei, arrV_read _ _ hj, hf]; rfl) rfl rfl hd (kk H locs ls hw hl)
end PGR
