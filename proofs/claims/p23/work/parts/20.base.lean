theorem nI_ge0 {n : Nat} (h : n < 100000) : ¬ nI n < 0 := Int32.not_lt.mpr (nI_pos' (by omega))
/-! rows that the law of its own wants beside the class's -/
section PGM
variable {κ : Kx} {l0 : Launch} {D0 : va_G} {cy0 : Nat → ClassId} {y y' : MethodName} {nL ce sl n' index k : Nat} {cc b' : ByteArray} {rm rm' : Room} {ret ret' : Option FieldType} {G : GG} {lv : LV} {pc : Nat} {st rest As : List Value} {a : Nat} {post : Option Value → GG → Prop}
theorem g_ialdM {n : Nat} {f : Nat → Int32} {x : Int32} (j : Nat) (v : Int32) (C : g_OK κ l0 D0 cy0 y nL cc rm ret) (ha : G a = some (.inl (cy0 0, n, .inl f))) (hx : x = nI j) (hj : j < n) (hn : n < 2 ^ 31) (hv : f j = v) (hd : decode cc pc = .ok (.iaload, 1)) (kk : PG κ nL ce sl G lv (pc + 1) (.int v :: rest)) : PG κ nL ce sl G lv pc (.int x :: .ref a :: rest) := by
  refine g_iald C ha (by rw [hx]; exact vp_in_nI hj hn) hd ?_
  rw [hx, nI_clamp (by omega), hv]
  exact kk
theorem g_iastM {n : Nat} {f : Nat → Int32} {x z : Int32} (j : Nat) (f' : Nat → Int32) (C : g_OK κ l0 D0 cy0 y nL cc rm ret) (ha : G a = some (.inl (cy0 0, n, .inl f))) (hx : x = nI j) (hj : j < n) (hn : n < 2 ^ 31) (hv : upd f j z = f') (hd : decode cc pc = .ok (.iastore, 1)) (kk : PG κ nL ce sl (g_up G a (.inl (cy0 0, n, .inl f'))) lv (pc + 1) rest) : PG κ nL ce sl G lv pc (.int z :: .int x :: .ref a :: rest) := by
  refine g_iast C ha (by rw [hx]; exact vp_in_nI hj hn) hd ?_
  rw [hx, nI_clamp (by omega), hv]
  exact kk
theorem g_anewA {N' : Nat} {n : Int32} (C : g_OK κ l0 D0 cy0 y nL cc rm ret) (hcl : Cond.classLink y.cls index "[I" ∈ lw_T) (hn : ¬ n < 0) (hN : n.toNatClampNeg = N') (hbytes : N' * 4 ≤ 536870912) (hcells : ce + 1 ≤ rm.cells) (hslots : sl + N' ≤ rm.slots) (hd : decode cc pc = .ok (.anewarray index, 3))
    (kk : ∀ q, G q = none → PG κ nL (ce + 1) (sl + N') (g_up G q (.inl (cy0 5, N', .inr (.inr (.inr (.inr (fun _ => none))))))) lv (pc + 3) (.ref q :: rest)) : PG κ nL ce sl G lv pc (.int n :: rest) := by
  obtain ⟨p, l, e, R, s, m, args, below, meth, c, D, cy, A, H0, Q⟩ := κ
  obtain ⟨⟨-, rfl, rfl⟩, h0, hb, hml, hown, hT, hK, hA, rfl, -⟩ := C
  subst hN
  intro H locs ls hw hl
  have e1 : (FieldType.array .int).toString = "[I" := by decide +kernel
  have hover : (Cond.arrayOver (.array .int)).before args s = true := hK.2.2.2.2.2.1
  refine W.anewA (t := .int) h0 hb hown (by rw [e1]; exact hT _ hcl) hover rfl hd rfl hn hbytes hcells hslots fun cA1 kA comp f1 f2 f3 f4 => ?_
  have r4 : s.vm.findClass ("[" ++ (FieldType.array .int).toString) = some (cy 5) := (hK.1.2 5 _ rfl).2
  cases Option.some.inj (f1.symm.trans r4)
  generalize hH1 : H.push ({ cls := cy 5, slots := Array.replicate n.toNatClampNeg .null, vm := .none } : Cell) = H1
  have z1 : H1.size = H.size + 1 := by rw [← hH1, Array.size_push]
  have e2 : H1[H.size]? = some (arrV (cy 5) n.toNatClampNeg (fun _ => .null)) := by rw [← hH1, Array.getElem?_push_size, ← arrV_new]
  have o1 : ∀ q : Nat, q < H.size → H1[q]? = H[q]? := fun q hq => by rw [← hH1, Array.getElem?_push, if_neg (Nat.ne_of_lt hq)]
  have he : va_at D vwCl (H.size, .inl (cy 5, n.toNatClampNeg, .inr (.inr (.inr (.inr (fun _ => none)))))) H1 := by
    show H1[H.size]? = some (vp_cell _ _)
    rw [vp_cell_q]
    exact e2
  obtain ⟨hn0, hw1⟩ := g_wnew hA hw he z1 o1
  exact kk H.size hn0 H1 locs ls hw1 hl
theorem g_aastI {n v n2 j : Nat} {f : Nat → Option Nat} {g : Nat → Int32} {i : Int32} (C : g_OK κ l0 D0 cy0 y nL cc rm ret) (ha : G a = some (.inl (cy0 5, n, .inr (.inr (.inr (.inr f)))))) (hv : G v = some (.inl (cy0 0, n2, .inl g))) (hi : i = nI j) (hj : j < n) (hn : n < 1000) (hd : decode cc pc = .ok (.aastore, 1)) (kk : PG κ nL ce sl (g_up G a (.inl (cy0 5, n, .inr (.inr (.inr (.inr (va_up f j (some v)))))))) lv (pc + 1) rest) : PG κ nL ce sl G lv pc (.ref v :: .int i :: .ref a :: rest) := by
  obtain ⟨p, l, e, R, s, m, args, below, meth, c, D, cy, A, H0, Q⟩ := κ
  obtain ⟨⟨-, rfl, rfl⟩, h0, hb, hml, hown, hT, hK, hA, rfl, -⟩ := C
  intro H locs ls hw hl
  have ei : i.toNatClampNeg = j := by rw [hi]; exact nI_clamp (by omega)
  have e1 : "[" ++ FieldType.int.toString = "[I" := by decide +kernel
  have e3 : (FieldType.array .int).toString = "[I" := by decide +kernel
  have hnm : s.vm.findClass "[I" = some (cy 0) := by have := (hK.1.2 0 _ rfl).2; rw [← e1]; exact this
  have r4 : s.vm.findClass ("[" ++ (FieldType.array .int).toString) = some (cy 5) := (hK.1.2 5 _ rfl).2
  have hover : (Cond.arrayOver (.array .int)).before args s = true := hK.2.2.2.2.2.1
  obtain ⟨comp, cc9, k, k1, -, k3, k4, k5⟩ := arrayOverA_spec hover
  rw [e3, hnm] at k1
  cases k1
  cases Option.some.inj (k5.symm.trans r4)
  obtain ⟨kC, hkC, -⟩ := Vm.findClass_spec hnm
  have hat : H[a]? = some (arrV (cy 5) n (fun j => va_rf (f j))) := (hw.1 a _ ha).1
  have hav : H[v]? = some (arrV (cy 0) n2 (fun j => .int (g j))) := (hw.1 v _ hv).1
  refine W.aast h0 hb hat (fun q h => by cases h) (fun h => by cases h) k3 k4 rfl hkC ⟨by rw [hi]; exact nI_ge0 (by omega), by rw [arrV_size, ei]; exact hj⟩ hav (fun q h => by cases h) hkC (va_asg _ _) rfl rfl hd fun H1 e2 z o => ?_
  refine kk H1 _ ls (g_wput hw ha ?_ z o) hl
  show H1[a]? = some (arrV (cy 5) n (fun q => va_rf (va_up f j (some v) q)))
  rw [e2, arrV_store, ei]
  congr 2
  funext q
  by_cases hq : q = j
  · subst hq; simp [updV, va_up, va_rf]
  · simp [updV, va_up, hq]
theorem g_aaldI {n j : Nat} {f : Nat → Option Nat} {i : Int32} {v : Nat} (C : g_OK κ l0 D0 cy0 y nL cc rm ret) (ha : G a = some (.inl (cy0 5, n, .inr (.inr (.inr (.inr f)))))) (hi : i = nI j) (hj : j < n) (hn : n < 1000) (hf : f j = some v) (hd : decode cc pc = .ok (.aaload, 1)) (kk : PG κ nL ce sl G lv (pc + 1) (.ref v :: rest)) : PG κ nL ce sl G lv pc (.int i :: .ref a :: rest) := by
  obtain ⟨p, l, e, R, s, m, args, below, meth, c, D, cy, A, H0, Q⟩ := κ
  obtain ⟨⟨-, rfl, rfl⟩, h0, hb, hml, hown, hT, hK, hA, rfl, -⟩ := C
  intro H locs ls hw hl
  have ei : i.toNatClampNeg = j := by rw [hi]; exact nI_clamp (by omega)
  have hat : H[a]? = some (arrV (cy 5) n (fun j => va_rf (f j))) := (hw.1 a _ ha).1
  refine W.aald (v := .ref v) (ty := .array .int) h0 hb hat ((hK.1.2 5 _ rfl).1 n (fun j => va_rf (f j))) rfl (fun q => by cases q) (by rw [arrV_size, hi]; exact vp_in_nI hj (by omega)) (by rw [ei, arrV_read _ _ hj, hf]; rfl) rfl rfl hd (kk H locs ls hw hl)
end PGM
theorem in_ix0 {n : Int32} {k : Nat} (hk2 : k < 1000) (h : 0 ≤ n ∧ n ≤ nI k - 1) : ∃ j, j < k ∧ n = nI j := by
  rcases Nat.eq_zero_or_pos k with rfl | hk
  · exfalso
    obtain ⟨h1, h2⟩ := h
    have e : nI 0 - 1 = -1 := by decide
    rw [e] at h2
    rw [Int32.le_iff_toInt_le] at h1 h2
    have e1 : (-1 : Int32).toInt = -1 := by decide
    rw [Int32.toInt_zero] at h1
    omega
  · exact in_ix hk hk2 h
theorem in_nix0 {n : Int32} {k : Nat} (hk2 : k < 1000) (h : ¬ (0 ≤ n ∧ n ≤ nI k - 1)) : ∀ j, j < k → n ≠ nI j := fun j hj => in_nix (by omega) hk2 h j hj
theorem cntU_y {s : Int32} {p : Nat → Bool} {k : Nat} (hs : s = nI (cnt p k)) (hp : p k = true) : s + 1 = nI (cnt p (k + 1)) := by
  rw [hs]; simp only [cnt, hp, if_true]; exact nI_1 _
theorem cntU_n {s : Int32} {p : Nat → Bool} {k : Nat} (hs : s = nI (cnt p k)) (hp : p k = false) : s + 0 = nI (cnt p (k + 1)) := by
  rw [hs]; simp [cnt, hp]

def jd (G' G1 G : GG) : GG := fun a => match G1 a with
  | none => (match G a with
    | some e => some e
    | none => G' a)
  | some _ => G' a
def fr (G1 G G' G2 : GG) : Prop := (∀ a e, G' a = some e → G2 a = some e) ∧ (∀ a e, G a = some e → G1 a = none → G2 a = some e) ∧ ∀ a e, G' a = some e → (∃ e1, G1 a = some e1) ∨ G a = none
theorem g_Amono {G1 G : GG} {sz : Nat} (hs : ∀ a e, G1 a = some e → G a = some e) : ∀ q, g_A G1 sz q → g_A G sz q := fun q hq => hq.imp (fun h => h.elim fun e he => ⟨e, hs q e he⟩) id
theorem g_frj {D : va_G} {G1 G G' : GG} {sz : Nat} {st t : State} (hs : ∀ a e, G1 a = some e → G a = some e) (hP : ∀ a e, G a = some e → va_at D vwCl (a, e) st.heap) (hsz : st.heap.size = sz) (hG : ∀ a e, G' a = some e → va_at D vwCl (a, e) t.heap ∧ g_A G1 sz a) (hF : va_F (g_A G1 sz) st t) :
    fr G1 G G' (jd G' G1 G) ∧ (∀ a e, jd G' G1 G a = some e → va_at D vwCl (a, e) t.heap ∧ g_A G sz a) ∧ va_F (g_A G sz) st t := by
  refine ⟨⟨fun a e ha => ?_, fun a e ha h1 => ?_, fun a e ha => ?_⟩, fun a e ha => ?_, hF.1, fun q h1 h2 => hF.2 q h1 (fun z => h2 (g_Amono hs q z))⟩
  · unfold jd
    cases h1 : G1 a with
    | some e1 => exact ha
    | none =>
      cases h2 : G a with
      | none => exact ha
      | some e2 =>
        exfalso
        rcases (hG a e ha).2 with ⟨e3, h3⟩ | h3
        · rw [h1] at h3; cases h3
        · have := (hP a e2 h2).lt
          rw [hsz] at this
          exact absurd h3 (Nat.not_le.mpr this)
  · unfold jd; rw [h1]; simp only [ha]
  · rcases (hG a e ha).2 with h3 | h3
    · exact Or.inl h3
    · cases h2 : G a with
      | none => exact Or.inr rfl
      | some e2 =>
        have := (hP a e2 h2).lt
        rw [hsz] at this
        exact absurd h3 (Nat.not_le.mpr this)
  · unfold jd at ha
    cases h1 : G1 a with
    | some e1 => rw [h1] at ha; exact ⟨(hG a e ha).1, g_Amono hs a (hG a e ha).2⟩
    | none =>
      rw [h1] at ha
      cases h2 : G a with
      | none => rw [h2] at ha; exact ⟨(hG a e ha).1, g_Amono hs a (hG a e ha).2⟩
      | some e2 =>
        rw [h2] at ha
        cases ha
        have h3 := (hP a e h2).lt
        refine ⟨(hP a e h2).kept (hF.2 a h3 (fun z => ?_)), Or.inl ⟨e, h2⟩⟩
        rcases z with ⟨e4, h4⟩ | h4
        · rw [h1] at h4; cases h4
        · rw [hsz] at h3; exact absurd h4 (Nat.not_le.mpr h3)
theorem Ctr.frame {l : Launch} {D : va_G} {cy : Nat → ClassId} {y : MethodName} {b : ByteArray} {n : Nat} {ret : Option FieldType} {rm : Room} {av : List Value} {G1 G : GG} {post : Option Value → GG → Prop} (h : Ctr l D cy y b n ret rm av G1 post) (hs : ∀ a e, G1 a = some e → G a = some e) : Ctr l D cy y b n ret rm av G (fun r G2 => ∃ G', post r G' ∧ fr G1 G G' G2) := by
  intro sz p e ha hf hc s m args below hfr hap hP hK
  obtain ⟨hv, hsz, hat, hKK⟩ := hP
  obtain ⟨k, o, q1, q2, q3, ⟨⟨r, G', ho, hp, hG⟩, hF⟩, L, q4, q5⟩ := h sz p e ha hf hc s m args below hfr hap ⟨hv, hsz, fun a e h1 => hat a e (hs a e h1), hKK⟩ hK
  obtain ⟨j1, j2, j3⟩ := g_frj hs hat hsz hG hF
  exact ⟨k, o, q1, q2, q3, ⟨⟨r, _, ho, ⟨G', hp, j1⟩, j2⟩, j3⟩, L, q4, fun q hq => g_Amono hs _ (q5 q hq)⟩
section PGJ
variable {κ : Kx} {nL ce sl : Nat} {lv : LV} {pc : Nat} {rest : List Value}
theorem g_kVj {G1 G : GG} {P : GG → Prop} (k : ∀ G' G2, P G' → fr G1 G G' G2 → PG κ nL ce sl G2 lv pc rest) : ∀ r G2, (∃ G', pV P r G' ∧ fr G1 G G' G2) → PG κ nL ce sl G2 lv pc (r.toList ++ rest) := by
  rintro r G2 ⟨G', ⟨rfl, hp⟩, hf⟩
  exact k G' G2 hp hf
end PGJ
/-! contracts of methods that call what may throw, and never throw themselves -/
def CtrN (l : Launch) (D : va_G) (cy : Nat → ClassId) (y : MethodName) (b : ByteArray) (n : Nat) (ret : Option FieldType) (rm : Room) (av : List Value) (G : GG) (post : Option Value → GG → Prop) : Prop :=
  ∀ sz, Met l y (wsU y b n ret) rm (g_PcX l D cy G sz av) (g_Qc D (g_A G sz) post) rm.cells rm.slots (g_A G sz)
section CTN
variable {l : Launch} {D : va_G} {cy : Nat → ClassId} {y : MethodName} {b : ByteArray} {n : Nat} {ret : Option FieldType} {rm : Room} {av : List Value} {G G1 : GG} {post : Option Value → GG → Prop} {px : String → GG → Prop}
theorem Ctr.toN (h : Ctr l D cy y b n ret rm av G post) : CtrN l D cy y b n ret rm av G post := by
  intro sz p e ha hf hc s m args below hfr hap hP hK
  obtain ⟨hv, hsz, hat, hKK, -⟩ := hP
  exact h sz p e ha hf hc s m args below hfr hap ⟨hv, hsz, hat, hKK⟩ hK
theorem CtrX.no (h : CtrX l D cy y b n ret rm av G post px) (hp : ∀ E G', ¬ px E G') : CtrN l D cy y b n ret rm av G post := by
  intro sz p e ha hf hc s m args below hfr hap hP hK
  obtain ⟨k, o, q1, q2, q3, q4⟩ := h sz p e ha hf hc s m args below hfr hap hP hK
  refine ⟨k, o, q1, q2, q3, ?_⟩
  rcases q4 with h1 | ⟨q, -, E, ce, L, ⟨G', h9, -⟩, -⟩
  · exact h1
  · exact absurd h9 (hp E G')
theorem CtrN.frame (h : CtrN l D cy y b n ret rm av G1 post) (hs : ∀ a e, G1 a = some e → G a = some e) : CtrN l D cy y b n ret rm av G (fun r G2 => ∃ G', post r G' ∧ fr G1 G G' G2) := by
  intro sz p e ha hf hc s m args below hfr hap hP hK
  obtain ⟨hv, hsz, hat, hKK, hXF⟩ := hP
  obtain ⟨k, o, q1, q2, q3, ⟨⟨r, G', ho, hp, hG⟩, hF⟩, L, q4, q5⟩ := h sz p e ha hf hc s m args below hfr hap ⟨hv, hsz, fun a e h1 => hat a e (hs a e h1), hKK, hXF.1, hXF.2.1, hXF.2.2.1, hXF.2.2.2.1.narrow (g_Amono hs), hXF.2.2.2.2.narrow (g_Amono hs)⟩ hK
  obtain ⟨j1, j2, j3⟩ := g_frj hs hat hsz hG hF
  exact ⟨k, o, q1, q2, q3, ⟨⟨r, _, ho, ⟨G', hp, j1⟩, j2⟩, j3⟩, L, q4, fun q hq => g_Amono hs _ (q5 q hq)⟩
theorem CtrN.mono {post' : Option Value → GG → Prop} (h : CtrN l D cy y b n ret rm av G post) (hp : ∀ r G', post r G' → post' r G') : CtrN l D cy y b n ret rm av G post' := by
  intro sz p e ha hf hc s m args below hfr hap hP hK
  obtain ⟨k, o, q1, q2, q3, ⟨⟨r, G', ho, hp1, hG⟩, hF⟩, L, q4, q5⟩ := h sz p e ha hf hc s m args below hfr hap hP hK
  exact ⟨k, o, q1, q2, q3, ⟨⟨r, G', ho, hp r G' hp1, hG⟩, hF⟩, L, q4, q5⟩
def g_XX (κ : Kx) : Prop :=
  match κ with
  | (_, l, _, _, s, _, _, _, _, _, _, _, A, H0, _) => g_XF l A s H0
theorem CtrN.mk (hy : plainName y.cls = true) (hn : (lg_sl av).length ≤ n)
    (body : ∀ κ : Kx, g_OK κ l D cy y n b rm ret → g_RT κ post rm → g_XX κ → PG κ n 0 0 G (lv_args 0 av) 0 []) : CtrN l D cy y b n ret rm av G post := by
  intro sz
  refine Met.ofW (cc := b) (maxL := n) (ret := ret) hy rfl ?_
  intro p e s m args below meth c s₁ B hml hv
  obtain ⟨rfl, hsz, hP, hK, hF⟩ := hv
  have hts := atoms_spec (ws := wsU y b n ret) B.pre
  subst hsz
  have hb := body (p, l, e, rm, s, m, av.toArray, below, meth, c, D, cy, g_A G s.heap.size, s.heap, MQ below (g_Qc D (g_A G s.heap.size) post) av.toArray s rm.cells rm.slots (g_A G s.heap.size))
    ⟨⟨rfl, rfl, rfl⟩, B.exec, B.bytes, hml, findClass_of_methodNamed B.named, fun w hw => hts w (List.mem_cons_of_mem _ hw), hK, fun q h => Or.inr h, rfl, B.returns, B.notSynchronized, (name_of_methodNamed B.named B.method).1⟩ ⟨rfl, rfl⟩ hF
  have hl := lv_entry av hn
  rw [lg_entry_eq]
  exact hb s.heap [] _ ⟨fun a e h => ⟨hP a e h, Or.inl ⟨e, h⟩⟩, va_S.rf⟩ hl
end CTN
def g_SC (κ : Kx) (b L : Nat) (xs : Nat → Int32) : Prop :=
  match κ with
  | (_, _, _, _, s, _, _, _, _, _, _, _, A, H0, _) => va_X b L xs s H0 ∧ b < H0.size ∧ ¬ A b
theorem mo_outer (c : ClassId) (N h0 : Nat) : ∀ i : Nat, Jvm.Free.Multi.outerC c N h0 i = arrV c N (fun j => va_rf (if j < i then some (h0 + 1 + j) else none))
  | 0 => by
    show ({ cls := c, slots := Array.replicate N .null, vm := .none } : Cell) = _
    rw [arrV_new]
    refine congrArg (arrV c N) (funext fun j => ?_)
    simp [va_rf]
  | i + 1 => by
    show (Jvm.Free.Multi.outerC c N h0 i).setSlot i (.ref (h0 + 1 + i)) = _
    rw [mo_outer c N h0 i, arrV_store]
    refine congrArg (arrV c N) (funext fun j => ?_)
    by_cases e : j = i
    · subst e
      simp [updV, va_rf]
    · by_cases h : j < i
      · simp [updV, e, h, Nat.lt_succ_of_lt h]
      · simp [updV, e, h, show ¬ j < i + 1 by omega]
section PGN
variable {κ : Kx} {l0 : Launch} {D0 : va_G} {cy0 : Nat → ClassId} {y y' : MethodName} {nL ce sl n' index k : Nat} {cc b' : ByteArray} {rm rm' : Room} {ret ret' : Option FieldType} {G : GG} {lv : LV} {pc : Nat} {st rest As : List Value} {a : Nat} {post : Option Value → GG → Prop}
theorem g_callVN {ci : Nat} {fs : List Value} {q : vw_C} (C : g_OK κ l0 D0 cy0 y nL cc rm ret) (hX : g_XX κ) (hm : g_mV y' b' n' ret' k) (hlink : Cond.methodLink y.cls index y' ∈ lw_T) (ha : G a = some (.inr (ci, fs))) (hc : vwCl[ci]? = some q) (hq : q.1 = y'.cls) (hM : CtrN l0 D0 cy0 y' b' n' ret' rm' (.ref a :: As) G post) (hn : As.length = k) (hr : g_room rm rm' n' ce sl) (hst : st = As.reverse ++ .ref a :: rest) (hcat : (rest.map fun v => v.category).sum ≤ 8) (hd : decode cc pc = .ok (.invokevirtual index, 3))
    (kk : ∀ r G', post r G' → PG κ nL (ce + rm'.cells) (sl + rm'.slots) G' lv (pc + 3) (r.toList ++ rest)) : PG κ nL ce sl G lv pc st := by
  obtain ⟨p, l, e, R, s, m, args, below, meth, c, D, cy, A, H0, Q⟩ := κ
  obtain ⟨⟨rfl, rfl, rfl⟩, h0, hb, hml, hown, hT, hK, hA, rfl, -⟩ := C
  obtain ⟨m1, m2, m3, m4, m5, m6⟩ := hm
  intro H locs ls hw hl
  have hAG : ∀ q, g_A G H.size q → A q := fun q hq => by
    rcases hq with ⟨e, he⟩ | hq
    · exact (hw.1 q e he).2
    · exact hA q (Nat.le_trans hw.2.1 hq)
  refine g_fin hA hw (va_runV (C := y'.cls) (As := As) (b := a) ⟨h0, hb, hml, hown, hT⟩ (hM H.size) ⟨g_callB hT m1 m2 m3 m4 hlink hr.1, hT _ m5, hT _ m6⟩ ⟨g_blindX l D cy G H.size _, ?_, fun U hU hW => ⟨rfl, by rw [hU], fun a e h => by rw [hU]; exact (hw.1 a e h).1, g_K.moved hW.alike hK, g_XF.moved hW (fun q h1 h2 => by rw [hU]; exact hw.2.2.1 q h1 h2) hAG hX⟩⟩ rfl hn hl.1 hst (lv_room hcat) hd hr.2) (fun r G' hp H1 locs1 hw1 => kk r G' hp H1 locs1 ls hw1 hl)
  have h9 := va_recv hK.1 (g_sP hw ha) hc (q0 := 0) rfl
  rw [hq] at h9
  exact h9
theorem g_callSN (C : g_OK κ l0 D0 cy0 y nL cc rm ret) (hX : g_XX κ) (hm : g_mS y' b' n' ret' k) (hlink : Cond.methodLink y.cls index y' ∈ lw_T) (hM : CtrN l0 D0 cy0 y' b' n' ret' rm' As G post) (hn : As.length = k) (hr : g_room rm rm' n' ce sl) (hst : st = As.reverse ++ rest) (hcat : (rest.map fun v => v.category).sum ≤ 8) (hd : decode cc pc = .ok (.invokestatic index, 3))
    (kk : ∀ r G', post r G' → PG κ nL (ce + rm'.cells) (sl + rm'.slots) G' lv (pc + 3) (r.toList ++ rest)) : PG κ nL ce sl G lv pc st := by
  obtain ⟨p, l, e, R, s, m, args, below, meth, c, D, cy, A, H0, Q⟩ := κ
  obtain ⟨⟨rfl, rfl, rfl⟩, h0, hb, hml, hown, hT, hK, hA, rfl, -⟩ := C
  obtain ⟨m1, m2, m3, m4, m5⟩ := hm
  intro H locs ls hw hl
  have hAG : ∀ q, g_A G H.size q → A q := fun q hq => by
    rcases hq with ⟨e, he⟩ | hq
    · exact (hw.1 q e he).2
    · exact hA q (Nat.le_trans hw.2.1 hq)
  exact g_fin hA hw (va_runS (As := As) ⟨h0, hb, hml, hown, hT⟩ (hM H.size) ⟨g_callB hT m1 m2 m3 m4 hlink hr.1, hT _ m5⟩ ⟨g_blindX l D cy G H.size _, fun U hU hW => ⟨rfl, by rw [hU], fun a e h => by rw [hU]; exact (hw.1 a e h).1, g_K.moved hW.alike hK, g_XF.moved hW (fun q h1 h2 => by rw [hU]; exact hw.2.2.1 q h1 h2) hAG hX⟩⟩ rfl hn hl.1 hst (lv_room hcat) hd hr.2) (fun r G' hp H1 locs1 hw1 => kk r G' hp H1 locs1 ls hw1 hl)
/-- a nest mate's own constructor -/
theorem g_callIM {host : String} (C : g_OK κ l0 D0 cy0 y nL cc rm ret) (hX : g_XX κ) (hm : g_mI y' b' n' k) (hlink : ∀ U, g_NG U → va_Nw (.methodLinkNest y.cls index y' host) U) (hM : Ctr l0 D0 cy0 y' b' n' none rm' (.ref a :: As) G post) (hn : As.length = k) (hr : g_room rm rm' n' ce sl) (hst : st = As.reverse ++ .ref a :: rest) (hcat : (rest.map fun v => v.category).sum ≤ 8) (hd : decode cc pc = .ok (.invokespecial index, 3))
    (kk : ∀ r G', post r G' → PG κ nL (ce + rm'.cells) (sl + rm'.slots) G' lv (pc + 3) (r.toList ++ rest)) : PG κ nL ce sl G lv pc st := by
  obtain ⟨p, l, e, R, s, m, args, below, meth, c, D, cy, A, H0, Q⟩ := κ
  obtain ⟨⟨rfl, rfl, rfl⟩, h0, hb, hml, hown, hT, hK, hA, rfl, -⟩ := C
  obtain ⟨m1, m2, m3, m4, m5, m6⟩ := hm
  have hN : g_NG s := hX.2.1
  intro H locs ls hw hl
  exact g_fin hA hw (va_runIN (As := As) (b := a) ⟨h0, hb, hml, hown, hT⟩ (hM H.size) ⟨⟨⟨rfl, rfl, hr.1.1, hr.1.2, pay_in hT (g_wsU m1), List.mem_cons_self⟩, hT _ m1, hT _ m2, m3, fun sig h => by rw [h] at m4; exact (Option.some.inj m4).symm, va_Nw.use rfl (hlink s hN)⟩, m6, hT _ m5⟩ ⟨g_blind D cy G H.size _, fun U hU hW => ⟨rfl, by rw [hU], fun a e h => by rw [hU]; exact (hw.1 a e h).1, g_K.moved hW.alike hK⟩⟩ rfl hn hl.1 hst (lv_room hcat) hd hr.2) (fun r G' hp H1 locs1 hw1 => kk r G' hp H1 locs1 ls hw1 hl)
/-- the script's ints -/
theorem g_sald {b L j : Nat} {xs : Nat → Int32} {i : Int32} (C : g_OK κ l0 D0 cy0 y nL cc rm ret) (hS : g_SC κ b L xs) (hi : i = nI j) (hj : j < L) (hL : L < 100000) (hd : decode cc pc = .ok (.iaload, 1)) (kk : PG κ nL ce sl G lv (pc + 1) (.int (xs j) :: rest)) : PG κ nL ce sl G lv pc (.int i :: .ref b :: rest) := by
  obtain ⟨p, l, e, R, s, m, args, below, meth, c, D, cy, A, H0, Q⟩ := κ
  obtain ⟨-, h0, hb, hml, hown, hT, hK, hA, rfl, -⟩ := C
  obtain ⟨⟨scr, s1, s2, s3, s4, s5⟩, s6, s7⟩ := hS
  intro H locs ls hw hl
  have ei : i.toNatClampNeg = j := by rw [hi]; exact nI_clamp (by omega)
  refine W.iald h0 hb (by rw [hw.2.2.1 b s6 s7]; exact s1) s2 s3 (by rw [s4, hi]; exact vp_in_nI hj (by omega)) (by rw [ei]; exact s5 j hj) rfl rfl hd (kk H locs ls hw hl)
theorem g_salen {b L : Nat} {xs : Nat → Int32} (C : g_OK κ l0 D0 cy0 y nL cc rm ret) (hS : g_SC κ b L xs) (hd : decode cc pc = .ok (.arraylength, 1)) (kk : PG κ nL ce sl G lv (pc + 1) (.int (nI L) :: rest)) : PG κ nL ce sl G lv pc (.ref b :: rest) := by
  obtain ⟨p, l, e, R, s, m, args, below, meth, c, D, cy, A, H0, Q⟩ := κ
  obtain ⟨-, h0, hb, hml, hown, hT, hK, hA, rfl, -⟩ := C
  obtain ⟨⟨scr, s1, s2, s3, s4, s5⟩, s6, s7⟩ := hS
  intro H locs ls hw hl
  exact W.alen h0 hb (by rw [hw.2.2.1 b s6 s7]; exact s1) s2 (by rw [s4]; rfl) rfl rfl hd (kk H locs ls hw hl)
theorem g_ldc {v : Int32} (C : g_OK κ l0 D0 cy0 y nL cc rm ret) (hw0 : Cond.constant y.cls index v ∈ lw_T) (hd : decode cc pc = .ok (.ldc index, 2)) (k : PG κ nL ce sl G lv (pc + 2) (.int v :: rest)) : PG κ nL ce sl G lv pc rest := by
  obtain ⟨p, l, e, R, s, m, args, below, meth, c, D, cy, A, H0, Q⟩ := κ
  obtain ⟨-, h0, hb, hml, hown, hT, -⟩ := C
  exact fun H locs ls hw hl => lv_ldc h0 hb hown (hT _ hw0) hd (k H locs ls hw hl)
theorem g_mmin {x y1 : Int32} (C : g_OK κ l0 D0 cy0 y nL cc rm ret) (h1 : Cond.methodLink y.cls index Lib.Math.min.name ∈ lw_T) (h2 : Cond.static Lib.Math.min.name ∈ lw_T) (h3 : Cond.initialized "java/lang/Math" ∈ lw_T) (h4 : Cond.code Lib.Math.min.name Lib.Math.min.code 2 (some .int) ∈ lw_T) (hf : 1 ≤ rm.frames) (hlo : (rest.map fun v => v.category).sum + 13 ≤ rm.locals) (hc : ce ≤ rm.cells) (hs : sl ≤ rm.slots) (hd : decode cc pc = .ok (.invokestatic index, 3)) (k : PG κ nL ce sl G lv (pc + 3) (.int (if y1 < x then y1 else x) :: rest)) : PG κ nL ce sl G lv pc (.int y1 :: .int x :: rest) := by
  obtain ⟨p, l, e, R, s, m, args, below, meth, c, D, cy, A, H0, Q⟩ := κ
  obtain ⟨⟨rfl, rfl, rfl⟩, h0, hb, hml, hown, hT, hK, hA, rfl, -⟩ := C
  exact fun H locs ls hw hl => va_mmin h0 hb (hml.trans hl.1.symm) hown (hT _ h1) (hT _ h2) (hT _ h3) (hT _ h4) hf hlo hc hs hd (k H locs ls hw hl)
/-- an element of a row of int arrays that is full -/
theorem g_aaldS {n j : Nat} {r : Nat → Nat} {i : Int32} (C : g_OK κ l0 D0 cy0 y nL cc rm ret) (ha : G a = some (oA (cy0 5) n r n)) (hi : i = nI j) (hj : j < n) (hn : n < 1000) (hd : decode cc pc = .ok (.aaload, 1)) (kk : PG κ nL ce sl G lv (pc + 1) (.ref (r j) :: rest)) : PG κ nL ce sl G lv pc (.int i :: .ref a :: rest) :=
  g_aaldI C ha hi hj hn (if_pos hj) hd kk
theorem g_alenI {n m : Nat} {r : Nat → Nat} (C : g_OK κ l0 D0 cy0 y nL cc rm ret) (ha : G a = some (oA (cy0 5) n r m)) (hd : decode cc pc = .ok (.arraylength, 1)) (k : PG κ nL ce sl G lv (pc + 1) (.int (nI n) :: rest)) : PG κ nL ce sl G lv pc (.ref a :: rest) :=
  g_alen (t0 := 5) C ha rfl (vp_cell_q ..) hd k
/-- new int[n][k] -/
theorem g_mnew {N K : Nat} {i j : Int32} (C : g_OK κ l0 D0 cy0 y nL cc rm ret) (hcl : Cond.classLink y.cls index "[[I" ∈ lw_T) (hac : Cond.arrayClass .int ∈ lw_T) (hi : i = nI N) (hj : j = nI K) (hN : N ≤ 100) (hK1 : K ≤ 100) (hcells : ce + (1 + N) ≤ rm.cells) (hslots : sl + (N + N * K) ≤ rm.slots) (hd : decode cc pc = .ok (.multianewarray index 2, 4))
    (kk : ∀ (q : Nat) (r : Nat → Nat) (G' : GG), (∀ a e, G a = some e → G' a = some e) → G q = none → (∀ i, i < N → G (r i) = none) → (∀ i j, i < N → j < N → r i = r j → i = j) → G' q = some (oA (cy0 5) N r N) → (∀ i, i < N → G' (r i) = some (.inl (cy0 0, K, .inl (fun _ => 0)))) → PG κ nL (ce + 1 + N) (sl + N + N * K) G' lv (pc + 4) (.ref q :: rest)) : PG κ nL ce sl G lv pc (.int j :: .int i :: rest) := by
  obtain ⟨p, l, e, R, s, m, args, below, meth, c, D, cy, A, H0, Q⟩ := κ
  obtain ⟨⟨-, rfl, rfl⟩, h0, hb, hml, hown, hT, hK, hA, rfl, -⟩ := C
  have ei : i.toNatClampNeg = N := by rw [hi]; exact nI_clamp (by omega)
  have ej : j.toNatClampNeg = K := by rw [hj]; exact nI_clamp (by omega)
  intro H locs ls hw hl
  have e1 : "[" ++ (FieldType.array .int).toString = "[[I" := by decide +kernel
  have e2 : (FieldType.array .int).toString = "[" ++ FieldType.int.toString := by decide +kernel
  have hover : (Cond.arrayOver (.array .int)).before args s = true := hK.2.2.2.2.2.1
  have r0 : s.vm.findClass ("[" ++ FieldType.int.toString) = some (cy 0) := (hK.1.2 0 _ rfl).2
  have r5 : s.vm.findClass ("[" ++ (FieldType.array .int).toString) = some (cy 5) := (hK.1.2 5 _ rfl).2
  intro T hT9 Xs
  obtain ⟨vm₁, cA, comp, -, fA, fC, hO, -, X', step⟩ := Xs.multianewarray2F (ty := .int) h0 hown (by rw [e1]; exact hT _ hcl) hover (hT _ hac) (g := F0 m pc ls (.int j :: .int i :: rest)) rfl (by rw [hb]; exact hd) rfl (by rw [hi]; exact nI_ge0 (by omega)) (by rw [hj]; exact nI_ge0 (by omega)) (by rw [ei]; omega) (by rw [ej]; exact Nat.le_trans (Nat.mul_le_mul_right _ hK1) (by decide)) (by rw [ej]; omega) rfl rfl (by rw [ei]; exact hcells) (by rw [ei, ej]; exact hslots)
  rw [ei, ej] at X' step
  rw [e2] at fC
  cases Option.some.inj (r0.symm.trans fC)
  cases Option.some.inj (r5.symm.trans fA)
  generalize hF : Jvm.Free.Multi.fill (T.setVm vm₁) (cy 5) (cy 0) N K (defaultValue .int) N = F at X' step
  have hTh : (T.setVm vm₁).heap = H := hT9
  obtain ⟨f1, f2, -, -⟩ := Jvm.Free.Multi.fill_facts (T.setVm vm₁) (cy 5) (cy 0) N K (defaultValue .int) N
  rw [hF, hTh] at f1 f2
  have hold : ∀ x : Nat, x < H.size → F.heap[x]? = H[x]? := fun x hx => by
    have := Jvm.Free.Multi.fill_old (T.setVm vm₁) (cy 5) (cy 0) N K (defaultValue .int) (a := x) (by rw [hTh]; exact hx) N
    rw [hF, hTh] at this
    exact this
  have hz : Jvm.Free.Multi.innerC (cy 0) K (defaultValue .int) = vp_cell (cy 0) (K, .inl (fun _ => 0)) := by
    show _ = arrV (cy 0) K (fun _ => .int 0)
    rw [← arrV_new]
    rfl
  have hrow : ∀ k9 : Nat, k9 < N → F.heap[H.size + 1 + k9]? = some (vp_cell (cy 0) (K, .inl (fun _ => 0))) := fun k9 hk9 => by
    have := Jvm.Free.Multi.fill_inner (T.setVm vm₁) (cy 5) (cy 0) N K (defaultValue .int) N k9 hk9
    rw [hF, hTh, hz] at this
    exact this
  have hout : Jvm.Free.Multi.outerC (cy 5) N H.size N = vp_cell (cy 5) (N, .inr (.inr (.inr (.inr (fun i => if i < N then some (H.size + 1 + i) else none))))) := by
    rw [vp_cell_q]
    exact mo_outer (cy 5) N H.size N
  rw [hout] at f2
  have hnone : ∀ q, H.size ≤ q → G q = none := fun q hq => by
    cases h : G q with
    | none => rfl
    | some e' => exact absurd (hw.1 _ e' h).1.lt (Nat.not_lt.mpr hq)
  have hG' : ∀ a e9, (if a = H.size then some (oA (cy 5) N (fun i => H.size + 1 + i) N) else if H.size < a ∧ a < H.size + 1 + N then some (.inl (cy 0, K, .inl (fun _ => 0))) else G a : Option va_E) = some e9 → va_at D vwCl (a, e9) F.heap ∧ A a := by
    intro a e9 h9
    by_cases h1 : a = H.size
    · subst h1
      rw [if_pos rfl] at h9
      cases h9
      exact ⟨f2, hA _ hw.2.1⟩
    · rw [if_neg h1] at h9
      by_cases h2 : H.size < a ∧ a < H.size + 1 + N
      · rw [if_pos h2] at h9
        cases h9
        obtain ⟨d, rfl⟩ : ∃ d, a = H.size + 1 + d := ⟨a - (H.size + 1), by omega⟩
        exact ⟨hrow d (by omega), hA _ (by have := hw.2.1; omega)⟩
      · rw [if_neg h2] at h9
        have h3 := hw.1 a e9 h9
        exact ⟨h3.1.kept (hold a h3.1.lt), h3.2⟩
  obtain ⟨t, a1, b1⟩ := kk H.size (fun i => H.size + 1 + i) (fun a => if a = H.size then some (oA (cy 5) N (fun i => H.size + 1 + i) N) else if H.size < a ∧ a < H.size + 1 + N then some (.inl (cy 0, K, .inl (fun _ => 0))) else G a)
    (fun a e9 h9 => by
      have h3 := (hw.1 a e9 h9).1.lt
      show (if a = H.size then _ else _) = _
      rw [if_neg (by omega), if_neg (by omega)]; exact h9)
    (hnone _ (Nat.le_refl _)) (fun i _ => hnone _ (show H.size ≤ H.size + 1 + i by omega)) (fun i j _ _ h => by have h9 : H.size + 1 + i = H.size + 1 + j := h; omega) (if_pos rfl)
    (fun i hi => by
      show (if H.size + 1 + i = H.size then _ else _) = _
      rw [if_neg (by omega), if_pos ⟨by omega, by omega⟩])
    F.heap locs ls ⟨hG', by rw [f1]; have := hw.2.1; omega, fun x h1 h2 => (hold x (Nat.lt_of_lt_of_le h1 hw.2.1)).trans (hw.2.2.1 x h1 h2), hw.2.2.2⟩ hl F rfl X'
  refine ⟨t, step t ?_, b1⟩
  have e9 : T.heap.size = H.size := by rw [hT9]
  rw [e9]
  exact a1
end PGN

