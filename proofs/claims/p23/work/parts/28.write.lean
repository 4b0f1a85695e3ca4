section PGU
variable {κ : Kx} {l0 : Launch} {D0 : va_G} {cy0 : Nat → ClassId} {y : MethodName} {nL ce sl index : Nat} {cc : ByteArray} {rm : Room} {ret : Option FieldType} {G G2 G3 : GG} {lv : LV} {pc : Nat} {rest : List Value} {x s : Nat} {b : Int32} {nt nf nc nn : Nat} {T E Cu N : Rw} {i j : Nat}
theorem g_wrig {mid wid wt sg : Int32} (C : g_OK κ l0 D0 cy0 y nL cc rm ret) (hX : g_XX κ) (h : LX cy0 x b nt nf nc nn T E Cu N G2 G3 G) (hok : okR mid wid wt sg) (hn : nt < 6) (hlink : Cond.methodLink y.cls index yX4_rig ∈ lw_T) (hr : g_room rm kX4_rig 6 ce sl) (hcat : (rest.map fun v => v.category).sum ≤ 8) (hd : decode cc pc = .ok (.invokevirtual index, 3)) (kk : ∀ G', LX cy0 x b (nt + 1) nf nc nn (s_add T nt (rowT mid wid wt sg b)) E Cu N G2 G3 G' → PG κ nL (ce + kX4_rig.cells) (sl + kX4_rig.slots) G' lv (pc + 3) (.int (nI nt) :: rest)) : PG κ nL ce sl G lv pc (.int sg :: .int wt :: .int wid :: .int mid :: .ref x :: rest) := by
  obtain ⟨G1, ad, KT, KF, KC, hR, hW⟩ := h
  have hb := hR.2.2.2
  refine g_callVN C hX mV_X4_rig hlink (hW.1.1 x _ hR.1.1) rfl rfl (CtrN.frame (CtrX.no (c_X4_rig l0 D0 cy0 hR mid wid wt sg) (fun E9 G9 h9 => ?_)) hW.1.1) rfl hr rfl hcat hd ?_
  · obtain ⟨-, ⟨-, h9⟩ | ⟨-, -, h9⟩⟩ := h9; exact h9 hok; exact h9 hn
  · rintro r G' ⟨G1', ⟨v, rfl, -, -, rfl, ad', hR'⟩, hf⟩
    exact kk G' ⟨G1', ad', _, KF, KC, hR', hW.c1 hf⟩
theorem g_wweigh {p0 : Int32} (C : g_OK κ l0 D0 cy0 y nL cc rm ret) (hX : g_XX κ) (h : LX cy0 x b nt nf nc nn T E Cu N G2 G3 G) (hi : i < nt) (hp : 0 ≤ p0 ∧ p0 ≤ 10) (h5 : ¬ T i 5 = 0) (hlink : Cond.methodLink y.cls index yX4_weigh ∈ lw_T) (hr : g_room rm kX4_weigh 5 ce sl) (hcat : (rest.map fun v => v.category).sum ≤ 8) (hd : decode cc pc = .ok (.invokevirtual index, 3)) (kk : ∀ G', LX cy0 x b nt nf nc nn (s_set (s_set T i 2 p0) i 6 b) E Cu N G2 G3 G' → PG κ nL (ce + kX4_weigh.cells) (sl + kX4_weigh.slots) G' lv (pc + 3) (.int (T i 2) :: rest)) : PG κ nL ce sl G lv pc (.int p0 :: .int (nI i) :: .ref x :: rest) := by
  obtain ⟨G1, ad, KT, KF, KC, hR, hW⟩ := h
  have hb := hR.2.2.2
  refine g_callVN C hX mV_X4_weigh hlink (hW.1.1 x _ hR.1.1) rfl rfl (CtrN.frame (CtrX.no (c_X4_weigh l0 D0 cy0 hR (nI i) p0) (fun E9 G9 h9 => ?_)) hW.1.1) rfl hr rfl hcat hd ?_
  · obtain ⟨-, ⟨-, h9⟩ | ⟨-, -, h9⟩ | ⟨-, i', hi', ht', -, h9⟩⟩ := h9
    · exact h9 i hi rfl
    · exact h9 hp
    · have e9 : i' = i := (nI_eq (by omega) (by omega)).mp ht'.symm
      subst e9
      exact h5 h9
  · rintro r G' ⟨G1', ⟨v, rfl, i', hi', ht', -, -, rfl, hR'⟩, hf⟩
    have e9 : i' = i := (nI_eq (by omega) (by omega)).mp ht'.symm
    subst e9
    exact kk G' ⟨G1', ad, KT, KF, KC, hR', hW.c1 hf⟩
theorem g_wmend (C : g_OK κ l0 D0 cy0 y nL cc rm ret) (hX : g_XX κ) (h : LX cy0 x b nt nf nc nn T E Cu N G2 G3 G) (hi : i < nt) (hlink : Cond.methodLink y.cls index yX4_mend ∈ lw_T) (hr : g_room rm kX4_mend 4 ce sl) (hcat : (rest.map fun v => v.category).sum ≤ 8) (hd : decode cc pc = .ok (.invokevirtual index, 3)) (kk : ∀ G', LX cy0 x b nt nf nc nn (s_set (s_set T i 4 0) i 5 1) E Cu N G2 G3 G' → PG κ nL (ce + kX4_mend.cells) (sl + kX4_mend.slots) G' lv (pc + 3) (.int (T i 4) :: rest)) : PG κ nL ce sl G lv pc (.int (nI i) :: .ref x :: rest) := by
  obtain ⟨G1, ad, KT, KF, KC, hR, hW⟩ := h
  have hb := hR.2.2.2
  refine g_callVN C hX mV_X4_mend hlink (hW.1.1 x _ hR.1.1) rfl rfl (CtrN.frame (CtrX.no (c_X4_mend l0 D0 cy0 hR (nI i)) (fun E9 G9 h9 => ?_)) hW.1.1) rfl hr rfl hcat hd ?_
  · exact h9.2.2 i hi rfl
  · rintro r G' ⟨G1', ⟨v, rfl, i', hi', ht', rfl, hR'⟩, hf⟩
    have e9 : i' = i := (nI_eq (by omega) (by omega)).mp ht'.symm
    subst e9
    exact kk G' ⟨G1', ad, KT, KF, KC, hR', hW.c1 hf⟩
theorem g_wjoin (C : g_OK κ l0 D0 cy0 y nL cc rm ret) (hX : g_XX κ) (h : LX cy0 x b nt nf nc nn T E Cu N G2 G3 G) (hn : nf < 8) (hlink : Cond.methodLink y.cls index yX4_join ∈ lw_T) (hr : g_room rm kX4_join 2 ce sl) (hcat : (rest.map fun v => v.category).sum ≤ 8) (hd : decode cc pc = .ok (.invokevirtual index, 3)) (kk : ∀ G', LX cy0 x b nt (nf + 1) nc nn T (s_add E nf rowF) Cu N G2 G3 G' → PG κ nL (ce + kX4_join.cells) (sl + kX4_join.slots) G' lv (pc + 3) (.int (nI nf) :: rest)) : PG κ nL ce sl G lv pc (.ref x :: rest) := by
  obtain ⟨G1, ad, KT, KF, KC, hR, hW⟩ := h
  have hb := hR.2.2.2
  refine g_callVN C hX mV_X4_join hlink (hW.1.1 x _ hR.1.1) rfl rfl (CtrN.frame (CtrX.no (c_X4_join l0 D0 cy0 hR) (fun E9 G9 h9 => ?_)) hW.1.1) rfl hr rfl hcat hd ?_
  · exact h9.2.2 hn
  · rintro r G' ⟨G1', ⟨v, rfl, -, rfl, ad', hR'⟩, hf⟩
    exact kk G' ⟨G1', ad', KT, _, KC, hR', hW.c1 hf⟩
theorem g_wspread {p0 p1 : Int32} (C : g_OK κ l0 D0 cy0 y nL cc rm ret) (hX : g_XX κ) (h : LX cy0 x b nt nf nc nn T E Cu N G2 G3 G) (hok : okN p0 p1) (hn : nn < 3) (hlink : Cond.methodLink y.cls index yX4_spread ∈ lw_T) (hr : g_room rm kX4_spread 4 ce sl) (hcat : (rest.map fun v => v.category).sum ≤ 8) (hd : decode cc pc = .ok (.invokevirtual index, 3)) (kk : ∀ G', LX cy0 x b nt nf nc (nn + 1) T E Cu (s_add N nn (rowN p0 p1)) G2 G3 G' → PG κ nL (ce + kX4_spread.cells) (sl + kX4_spread.slots) G' lv (pc + 3) (.int (nI (nn + 1)) :: rest)) : PG κ nL ce sl G lv pc (.int p1 :: .int p0 :: .ref x :: rest) := by
  obtain ⟨G1, ad, KT, KF, KC, hR, hW⟩ := h
  have hb := hR.2.2.2
  refine g_callVN C hX mV_X4_spread hlink (hW.1.1 x _ hR.1.1) rfl rfl (CtrN.frame (CtrX.no (c_X4_spread l0 D0 cy0 hR p0 p1) (fun E9 G9 h9 => ?_)) hW.1.1) rfl hr rfl hcat hd ?_
  · obtain ⟨-, ⟨-, h9⟩ | ⟨-, -, h9⟩⟩ := h9; exact h9 hok; exact h9 hn
  · rintro r G' ⟨G1', ⟨v, rfl, -, -, rfl, ad', hR'⟩, hf⟩
    exact kk G' ⟨G1', ad', KT, KF, KC, hR', hW.c1 hf⟩
theorem g_wcue {bt r tm : Int32} (C : g_OK κ l0 D0 cy0 y nL cc rm ret) (hX : g_XX κ) (h : LX cy0 x b nt nf nc nn T E Cu N G2 G3 G) (hi : i < nf) (hok : okC bt r tm) (h1 : ¬ bt < b) (h2 : ¬ bt < 0) (hn : nc < 20) (hlink : Cond.methodLink y.cls index yX4_cue ∈ lw_T) (hr : g_room rm kX4_cue 6 ce sl) (hcat : (rest.map fun v => v.category).sum ≤ 8) (hd : decode cc pc = .ok (.invokevirtual index, 3)) (kk : ∀ G', LX cy0 x b nt nf (nc + 1) nn T E (s_add Cu nc (rowC bt (nI i) r tm)) N G2 G3 G' → PG κ nL (ce + kX4_cue.cells) (sl + kX4_cue.slots) G' lv (pc + 3) (.int (nI nc) :: rest)) : PG κ nL ce sl G lv pc (.int tm :: .int r :: .int (nI i) :: .int bt :: .ref x :: rest) := by
  obtain ⟨G1, ad, KT, KF, KC, hR, hW⟩ := h
  have hb := hR.2.2.2
  refine g_callVN C hX mV_X4_cue hlink (hW.1.1 x _ hR.1.1) rfl rfl (CtrN.frame (CtrX.no (c_X4_cue l0 D0 cy0 hR bt (nI i) r tm) (fun E9 G9 h9 => ?_)) hW.1.1) rfl hr rfl hcat hd ?_
  · obtain ⟨-, ⟨-, h9⟩ | ⟨-, -, h9⟩ | ⟨-, -, -, h9 | h9 | h9⟩⟩ := h9
    · exact h9 i hi rfl
    · exact h9 hok
    · exact h1 h9
    · exact h2 h9
    · exact h9 hn
  · rintro r G' ⟨G1', ⟨v, rfl, -, -, -, -, rfl, ad', hR'⟩, hf⟩
    exact kk G' ⟨G1', ad', KT, KF, _, hR', hW.c1 hf⟩
theorem g_wmount (C : g_OK κ l0 D0 cy0 y nL cc rm ret) (hX : g_XX κ) (h : LX cy0 x b nt nf nc nn T E Cu N G2 G3 G) (hi : i < nf) (hj : j < nt) (h0 : E i 0 = 0 ∨ E i 0 = 3) (h5 : ¬ T j 5 = 0) (h2 : nI (s_hangE E nf (nI j)) < 2) (hlink : Cond.methodLink y.cls index yX4_mount ∈ lw_T) (hr : g_room rm kX4_mount 6 ce sl) (hcat : (rest.map fun v => v.category).sum ≤ 8) (hd : decode cc pc = .ok (.invokevirtual index, 3)) (kk : ∀ G', LX cy0 x b nt nf nc nn T (x_st E i 1 (nI j)) Cu N G2 G3 G' → PG κ nL (ce + kX4_mount.cells) (sl + kX4_mount.slots) G' lv (pc + 3) (.int (nI (s_hangE E nf (nI j)) + 1) :: rest)) : PG κ nL ce sl G lv pc (.int (nI j) :: .int (nI i) :: .ref x :: rest) := by
  obtain ⟨G1, ad, KT, KF, KC, hR, hW⟩ := h
  have hb := hR.2.2.2
  refine g_callVN C hX mV_X4_mount hlink (hW.1.1 x _ hR.1.1) rfl rfl (CtrN.frame (CtrX.no (c_X4_mount l0 D0 cy0 hR (nI i) (nI j)) (fun E9 G9 h9 => ?_)) hW.1.1) rfl hr rfl hcat hd ?_
  · obtain ⟨-, ⟨-, h9 | h9⟩ | ⟨-, i', j', hi', ht', hj', ht2, h9⟩⟩ := h9
    · exact h9 i hi rfl
    · exact h9 j hj rfl
    · have e9 : i' = i := (nI_eq (by omega) (by omega)).mp ht'.symm
      have e8 : j' = j := (nI_eq (by omega) (by omega)).mp ht2.symm
      subst e9
      subst e8
      exact h9 ⟨h0, h5, h2⟩
  · rintro r G' ⟨G1', ⟨v, rfl, i', j', hi', ht', hj', ht2, -, rfl, hR'⟩, hf⟩
    have e9 : i' = i := (nI_eq (by omega) (by omega)).mp ht'.symm
    subst e9
    have e8 : j' = j := (nI_eq (by omega) (by omega)).mp ht2.symm
    subst e8
    exact kk G' ⟨G1', ad, KT, KF, KC, hR', hW.c1 hf⟩
/-- Sim's state of a flyer, in the law's world -/
theorem g_wstate {rt : Nat → Nat} {rd : Nat → Nat → Nat} {bs : Int32} {S F Cs : Rw} {a1 a2 a3 a4 : Int32} (C : g_OK κ l0 D0 cy0 y nL cc rm ret) (h : LX cy0 x b nt nf nc nn T E Cu N G2 G3 G) (hs : RS cy0 s rt rd bs nt nf nc nn S F Cs N G2) (hi : i < nf) (hlink : Cond.methodLink y.cls index yX5_state ∈ lw_T) (hr : g_room rm kX5_state 6 ce sl) (hcat : (rest.map fun v => v.category).sum ≤ 8) (hd : decode cc pc = .ok (.invokevirtual index, 3)) (kk : ∀ G' G2', LX cy0 x b nt nf nc nn T E Cu N G2' G3 G' → RS cy0 s rt rd bs nt nf nc nn S (s_row F i a1 a2 a3 a4) Cs N G2' → PG κ nL (ce + kX5_state.cells) (sl + kX5_state.slots) G' lv (pc + 3) rest) : PG κ nL ce sl G lv pc (.int a4 :: .int a3 :: .int a2 :: .int a1 :: .ref (rd 1 i) :: .ref s :: rest) := by
  obtain ⟨G1, ad, KT, KF, KC, hR, hW⟩ := h
  refine g_callV C mV_X5_state hlink (hW.1.2.1 s _ hs.1.1) rfl rfl (Ctr.frame (c_X5_state l0 D0 cy0 hs i hi a1 a2 a3 a4) hW.1.2.1) rfl hr rfl hcat hd ?_
  rintro r G' ⟨G2', ⟨rfl, hs'⟩, hf⟩
  exact kk G' G2' ⟨G1, ad, KT, KF, KC, hR, hW.c2 hf⟩ hs'
/-- Sim's beat, in the law's world -/
theorem g_wgo {rt : Nat → Nat} {rd : Nat → Nat → Nat} {bs : Int32} {S F Cs : Rw} (C : g_OK κ l0 D0 cy0 y nL cc rm ret) (h : LX cy0 x b nt nf nc nn T E Cu N G2 G3 G) (hs : RS cy0 s rt rd bs nt nf nc nn S F Cs N G2) (hwF : y_wF nt nf F) (hwC : y_wC nf nc Cs) (hwS : y_wS nt S) (hlink : Cond.methodLink y.cls index yX5_go ∈ lw_T) (hr : g_room rm kX5_go 9 ce sl) (hcat : (rest.map fun v => v.category).sum ≤ 8) (hd : decode cc pc = .ok (.invokevirtual index, 3)) (kk : ∀ v G' G2', LX cy0 x b nt nf nc nn T E Cu N G2' G3 G' → RS cy0 s rt rd (bs + 1) nt nf nc nn (y_beat N nn nt nf nc bs S F Cs).1 (y_beat N nn nt nf nc bs S F Cs).2.1 (y_beat N nn nt nf nc bs S F Cs).2.2 N G2' → PG κ nL (ce + kX5_go.cells) (sl + kX5_go.slots) G' lv (pc + 3) (.int v :: rest)) : PG κ nL ce sl G lv pc (.ref s :: rest) := by
  obtain ⟨G1, ad, KT, KF, KC, hR, hW⟩ := h
  refine g_callV C mV_X5_go hlink (hW.1.2.1 s _ hs.1.1) rfl rfl (Ctr.frame (c_X5_go l0 D0 cy0 hs hwF hwC hwS) hW.1.2.1) rfl hr rfl hcat hd ?_
  rintro r G' ⟨G2', ⟨v, rfl, hs'⟩, hf⟩
  exact kk v G' G2' ⟨G1, ad, KT, KF, KC, hR, hW.c2 hf⟩ hs'
/-- a row more for Sim: the world behind the putfield -/
theorem LX.more {cy : Nat → ClassId} {q t : Nat} {e0 e1 e2 e3 : va_E} (h : LX cy x b nt nf nc nn T E Cu N G2 G3 G) (hq : G3 q = some e1) (ht : G t = none) (hs : G2 s = some e0) : LX cy x b nt nf nc nn T E Cu N (g_up (g_up (g_up G2 q e1) t e2) s e3) nG (g_up (g_up G t e2) s e3) := by
  obtain ⟨G1, ad, KT, KF, KC, hR, ⟨⟨s1, s2, s3⟩, d12, d13, d23⟩⟩ := h
  have q1 : G1 q = none := d13.oth hq
  have t1 : G1 t = none := s1.none ht
  have c1 : G1 s = none := d12.oth hs
  refine ⟨G1, ad, KT, KF, KC, hR, ⟨⟨(s1.up t1).up c1, ?_, fun a e ha => by cases ha⟩, ((d12.up q1).up t1).up c1, fun a e ha => rfl, fun a e ha => rfl⟩⟩
  refine sG.upup (sG.upup (fun a e ha => ?_))
  by_cases hz : a = q
  · subst hz; rw [g_up_self] at ha; cases ha; exact s3 a _ hq
  · rw [g_up_ne hz] at ha; exact s2 a e ha
theorem LX.n2 {cy : Nat → ClassId} {q : Nat} {e1 : va_E} (h : LX cy x b nt nf nc nn T E Cu N G2 G3 G) (hq : G3 q = some e1) : G2 q = none := by
  obtain ⟨G1, ad, KT, KF, KC, hR, ⟨⟨s1, s2, s3⟩, d12, d13, d23⟩⟩ := h
  exact d23.oth hq
theorem LX.t2 {cy : Nat → ClassId} {q t : Nat} {e1 : va_E} (h : LX cy x b nt nf nc nn T E Cu N G2 G3 G) (hq : G3 q = some e1) (ht : G t = none) : g_up G2 q e1 t = none := by
  obtain ⟨G1, ad, KT, KF, KC, hR, ⟨⟨s1, s2, s3⟩, d12, d13, d23⟩⟩ := h
  have hne : t ≠ q := fun z => by subst z; rw [s3 t e1 hq] at ht; cases ht
  rw [g_up_ne hne]
  exact s2.none ht
end PGU
/-- between two turns of the law -/
def LA (cy : Nat → ClassId) (x s bn : Nat) (G : GG) : Prop := ∃ (G2 : GG) (rt : Nat → Nat) (rd : Nat → Nat → Nat) (nt nf nc nn : Nat) (T E Cu N : Rw), LX cy x (nI bn) nt nf nc nn T E Cu N G2 nG G ∧ RS cy s rt rd (nI bn) nt nf nc nn (zT (nI bn) T) (zF (nI bn) E) Cu N G2 ∧ vI bn nt nf nc T E Cu
