section PGQ
variable {κ : Kx} {l0 : Launch} {D0 : va_G} {cy0 : Nat → ClassId} {y : MethodName} {nL ce sl index : Nat} {cc : ByteArray} {rm : Room} {ret : Option FieldType} {G G2 G3 : GG} {lv : LV} {pc : Nat} {rest : List Value} {x s : Nat} {b : Int32} {nt nf nc nn : Nat} {T E Cu N S F C Cs : Rw} {rt : Nat → Nat} {rd : Nat → Nat → Nat} {t w : Int32} {i : Nat}
theorem LX.rs {cy : Nat → ClassId} (h : LX cy x b nt nf nc nn T E Cu N G2 G3 G) {bs : Int32} {nt' nf' nc' nn' : Nat} {N' : Rw} (hs : RS cy s rt rd bs nt' nf' nc' nn' S F C N' G2) : RS cy s rt rd bs nt' nf' nc' nn' S F C N' G := by
  obtain ⟨G1, ad, KT, KF, KC, hR, hW⟩ := h
  exact hs.up hW.1.2.1
theorem LX.g3 {cy : Nat → ClassId} {a : Nat} {e : va_E} (h : LX cy x b nt nf nc nn T E Cu N G2 G3 G) (ha : G3 a = some e) : G a = some e := by
  obtain ⟨G1, ad, KT, KF, KC, hR, hW⟩ := h
  exact hW.1.2.2 a e ha
theorem LX.g2 {cy : Nat → ClassId} {a : Nat} {e : va_E} (h : LX cy x b nt nf nc nn T E Cu N G2 G3 G) (ha : G2 a = some e) : G a = some e := by
  obtain ⟨G1, ad, KT, KF, KC, hR, hW⟩ := h
  exact hW.1.2.1 a e ha
theorem LX.p3 {cy : Nat → ClassId} {q : Nat} {e0 e : va_E} (h : LX cy x b nt nf nc nn T E Cu N G2 G3 G) (ha : G3 q = some e0) : LX cy x b nt nf nc nn T E Cu N G2 (g_up G3 q e) (g_up G q e) := by
  obtain ⟨G1, ad, KT, KF, KC, hR, hW⟩ := h
  exact ⟨G1, ad, KT, KF, KC, hR, hW.p3 ha⟩
theorem LX.n3 {cy : Nat → ClassId} {q : Nat} {e : va_E} (h : LX cy x b nt nf nc nn T E Cu N G2 G3 G) (ha : G q = none) : LX cy x b nt nf nc nn T E Cu N G2 (g_up G3 q e) (g_up G q e) := by
  obtain ⟨G1, ad, KT, KF, KC, hR, hW⟩ := h
  exact ⟨G1, ad, KT, KF, KC, hR, hW.n3 ha⟩
theorem LX.g3n {cy : Nat → ClassId} {q : Nat} (h : LX cy x b nt nf nc nn T E Cu N G2 G3 G) (ha : G q = none) : G3 q = none := by
  obtain ⟨G1, ad, KT, KF, KC, hR, hW⟩ := h
  exact hW.1.2.2.none ha
theorem LX.grow {cy : Nat → ClassId} {G' : GG} (h : LX cy x b nt nf nc nn T E Cu N G2 G3 G) (ha : sG G G') : LX cy x b nt nf nc nn T E Cu N G2 (gG G G3 G') G' := by
  obtain ⟨G1, ad, KT, KF, KC, hR, hW⟩ := h
  exact ⟨G1, ad, KT, KF, KC, hR, hW.g3 ha⟩
theorem LX.s3 {cy : Nat → ClassId} (h : LX cy x b nt nf nc nn T E Cu N G2 G3 G) : sG G3 G := by
  obtain ⟨G1, ad, KT, KF, KC, hR, hW⟩ := h
  exact hW.1.2.2
theorem LX.p2 {cy : Nat → ClassId} {q : Nat} {e0 e : va_E} (h : LX cy x b nt nf nc nn T E Cu N G2 G3 G) (ha : G2 q = some e0) : LX cy x b nt nf nc nn T E Cu N (g_up G2 q e) G3 (g_up G q e) := by
  obtain ⟨G1, ad, KT, KF, KC, hR, hW⟩ := h
  exact ⟨G1, ad, KT, KF, KC, hR, hW.p2 ha⟩
theorem LX.x3 {cy : Nat → ClassId} (h : LX cy x b nt nf nc nn T E Cu N G2 G3 G) : LX cy x b nt nf nc nn T E Cu N G2 nG G := by
  obtain ⟨G1, ad, KT, KF, KC, hR, hW⟩ := h
  exact ⟨G1, ad, KT, KF, KC, hR, hW.x3⟩
theorem LX.bd {cy : Nat → ClassId} (h : LX cy x b nt nf nc nn T E Cu N G2 G3 G) : nt ≤ 6 ∧ nf ≤ 8 ∧ nc ≤ 20 ∧ nn ≤ 3 := by
  obtain ⟨G1, ad, KT, KF, KC, hR, hW⟩ := h
  exact hR.2.2.2
theorem g_rT (C : g_OK κ l0 D0 cy0 y nL cc rm ret) (hX : g_XX κ) (h : LX cy0 x b nt nf nc nn T E Cu N G2 G3 G) (hwok : s_wok T nt) (ht : t = nI i) (hi : i < nt) (hw : 0 ≤ w ∧ w ≤ 7) (hlink : Cond.methodLink y.cls index yX4_trapeze ∈ lw_T) (hr : g_room rm kX4_trapeze 4 ce sl) (hcat : (rest.map fun v => v.category).sum ≤ 8) (hd : decode cc pc = .ok (.invokevirtual index, 3)) (kk : ∀ G', LX cy0 x b nt nf nc nn T E Cu N G2 G3 G' → PG κ nL (ce + kX4_trapeze.cells) (sl + kX4_trapeze.slots) G' lv (pc + 3) (.int (s_toldX T E nf b i w) :: rest)) : PG κ nL ce sl G lv pc (.int w :: .int t :: .ref x :: rest) := by
  obtain ⟨G1, ad, KT, KF, KC, hR, hW⟩ := h
  refine g_callVN C hX mV_X4_trapeze hlink (hW.1.1 x _ hR.1.1) rfl rfl (CtrN.frame (CtrX.no (c_X4_trapeze l0 D0 cy0 hR hwok t w) (fun E9 G9 h9 => by obtain ⟨-, -, h9 | h9⟩ := h9; exact h9 i hi ht; exact h9 hw)) hW.1.1) rfl hr rfl hcat hd ?_
  rintro r G' ⟨G1', ⟨v, rfl, i', hi', ht', hw', rfl, hR'⟩, hf⟩
  have hb := hR.2.2.2
  have e9 : i' = i := (nI_eq (by omega) (by omega)).mp (ht'.symm.trans ht)
  subst e9
  exact kk G' ⟨G1', ad, KT, KF, KC, hR', hW.c1 hf⟩
theorem g_rF (C : g_OK κ l0 D0 cy0 y nL cc rm ret) (hX : g_XX κ) (h : LX cy0 x b nt nf nc nn T E Cu N G2 G3 G) (ht : t = nI i) (hi : i < nf) (hw : 0 ≤ w ∧ w ≤ 4) (hlink : Cond.methodLink y.cls index yX4_flyer ∈ lw_T) (hr : g_room rm kX4_flyer 4 ce sl) (hcat : (rest.map fun v => v.category).sum ≤ 8) (hd : decode cc pc = .ok (.invokevirtual index, 3)) (kk : ∀ G', LX cy0 x b nt nf nc nn T E Cu N G2 G3 G' → PG κ nL (ce + kX4_flyer.cells) (sl + kX4_flyer.slots) G' lv (pc + 3) (.int (s_toldFX E b i w) :: rest)) : PG κ nL ce sl G lv pc (.int w :: .int t :: .ref x :: rest) := by
  obtain ⟨G1, ad, KT, KF, KC, hR, hW⟩ := h
  refine g_callVN C hX mV_X4_flyer hlink (hW.1.1 x _ hR.1.1) rfl rfl (CtrN.frame (CtrX.no (c_X4_flyer l0 D0 cy0 hR t w) (fun E9 G9 h9 => by obtain ⟨-, -, h9 | h9⟩ := h9; exact h9 i hi ht; exact h9 hw)) hW.1.1) rfl hr rfl hcat hd ?_
  rintro r G' ⟨G1', ⟨v, rfl, i', hi', ht', hw', rfl, hR'⟩, hf⟩
  have hb := hR.2.2.2
  have e9 : i' = i := (nI_eq (by omega) (by omega)).mp (ht'.symm.trans ht)
  subst e9
  exact kk G' ⟨G1', ad, KT, KF, KC, hR', hW.c1 hf⟩
theorem g_rC (C : g_OK κ l0 D0 cy0 y nL cc rm ret) (hX : g_XX κ) (h : LX cy0 x b nt nf nc nn T E Cu N G2 G3 G) (ht : t = nI i) (hi : i < nc) (hw : 0 ≤ w ∧ w ≤ 4) (hlink : Cond.methodLink y.cls index yX4_called ∈ lw_T) (hr : g_room rm kX4_called 4 ce sl) (hcat : (rest.map fun v => v.category).sum ≤ 8) (hd : decode cc pc = .ok (.invokevirtual index, 3)) (kk : ∀ G', LX cy0 x b nt nf nc nn T E Cu N G2 G3 G' → PG κ nL (ce + kX4_called.cells) (sl + kX4_called.slots) G' lv (pc + 3) (.int (s_toldC Cu i w) :: rest)) : PG κ nL ce sl G lv pc (.int w :: .int t :: .ref x :: rest) := by
  obtain ⟨G1, ad, KT, KF, KC, hR, hW⟩ := h
  refine g_callVN C hX mV_X4_called hlink (hW.1.1 x _ hR.1.1) rfl rfl (CtrN.frame (CtrX.no (c_X4_called l0 D0 cy0 hR t w) (fun E9 G9 h9 => by obtain ⟨-, -, h9 | h9⟩ := h9; exact h9 i hi ht; exact h9 hw)) hW.1.1) rfl hr rfl hcat hd ?_
  rintro r G' ⟨G1', ⟨v, rfl, i', hi', ht', hw', rfl, hR'⟩, hf⟩
  have hb := hR.2.2.2
  have e9 : i' = i := (nI_eq (by omega) (by omega)).mp (ht'.symm.trans ht)
  subst e9
  exact kk G' ⟨G1', ad, KT, KF, KC, hR', hW.c1 hf⟩
theorem g_rK (C : g_OK κ l0 D0 cy0 y nL cc rm ret) (hX : g_XX κ) (h : LX cy0 x b nt nf nc nn T E Cu N G2 G3 G) (hw : 0 ≤ w ∧ w ≤ 8) (hlink : Cond.methodLink y.cls index yX4_count ∈ lw_T) (hr : g_room rm kX4_count 2 ce sl) (hcat : (rest.map fun v => v.category).sum ≤ 8) (hd : decode cc pc = .ok (.invokevirtual index, 3)) (kk : ∀ G', LX cy0 x b nt nf nc nn T E Cu N G2 G3 G' → PG κ nL (ce + kX4_count.cells) (sl + kX4_count.slots) G' lv (pc + 3) (.int (s_countX b nt nf nc T E Cu w) :: rest)) : PG κ nL ce sl G lv pc (.int w :: .ref x :: rest) := by
  obtain ⟨G1, ad, KT, KF, KC, hR, hW⟩ := h
  refine g_callVN C hX mV_X4_count hlink (hW.1.1 x _ hR.1.1) rfl rfl (CtrN.frame (CtrX.no (c_X4_count l0 D0 cy0 hR w) (fun E9 G9 h9 => h9.2.2 hw)) hW.1.1) rfl hr rfl hcat hd ?_
  rintro r G' ⟨G1', ⟨v, rfl, hw', rfl, hR'⟩, hf⟩
  exact kk G' ⟨G1', ad, KT, KF, KC, hR', hW.c1 hf⟩
theorem g_rP (C : g_OK κ l0 D0 cy0 y nL cc rm ret) (hX : g_XX κ) (h : LX cy0 x b nt nf nc nn T E Cu N G2 G3 G) (hwok : s_wok T nt) (ht : t = nI i) (hi : i < nt) (hw : 0 ≤ w ∧ w ≤ 500) (hlink : Cond.methodLink y.cls index yX4_place ∈ lw_T) (hr : g_room rm kX4_place 4 ce sl) (hcat : (rest.map fun v => v.category).sum ≤ 8) (hd : decode cc pc = .ok (.invokevirtual index, 3)) (kk : ∀ G', LX cy0 x b nt nf nc nn T E Cu N G2 G3 G' → PG κ nL (ce + kX4_place.cells) (sl + kX4_place.slots) G' lv (pc + 3) (.int (s_at T i (b + w)) :: rest)) : PG κ nL ce sl G lv pc (.int w :: .int t :: .ref x :: rest) := by
  obtain ⟨G1, ad, KT, KF, KC, hR, hW⟩ := h
  refine g_callVN C hX mV_X4_place hlink (hW.1.1 x _ hR.1.1) rfl rfl (CtrN.frame (CtrX.no (c_X4_place l0 D0 cy0 hR hwok t w) (fun E9 G9 h9 => by obtain ⟨-, ⟨-, h9⟩ | ⟨-, -, h9⟩⟩ := h9; exact h9 i hi ht; exact h9 hw)) hW.1.1) rfl hr rfl hcat hd ?_
  rintro r G' ⟨G1', ⟨v, rfl, i', hi', ht', hw', rfl, hR'⟩, hf⟩
  have hb := hR.2.2.2
  have e9 : i' = i := (nI_eq (by omega) (by omega)).mp (ht'.symm.trans ht)
  subst e9
  exact kk G' ⟨G1', ad, KT, KF, KC, hR', hW.c1 hf⟩
theorem near_self (a : Int32) : s_near a a = true := by
  unfold s_near
  rw [Int32.sub_self]
  decide
theorem meet_self {T : Rw} {i : Nat} {b : Int32} : s_meet T i i b = 0 := meet_y (k := 0) (by decide) (near_self _) (fun u hu => absurd hu (Nat.not_lt_zero u))
theorem g_rM (C : g_OK κ l0 D0 cy0 y nL cc rm ret) (hX : g_XX κ) (h : LX cy0 x b nt nf nc nn T E Cu N G2 G3 G) (hwok : s_wok T nt) (ht : t = nI i) (hi : i < nt) (hlink : Cond.methodLink y.cls index yX4_meets ∈ lw_T) (hr : g_room rm kX4_meets 6 ce sl) (hcat : (rest.map fun v => v.category).sum ≤ 8) (hd : decode cc pc = .ok (.invokevirtual index, 3)) (kk : ∀ G', LX cy0 x b nt nf nc nn T E Cu N G2 G3 G' → PG κ nL (ce + kX4_meets.cells) (sl + kX4_meets.slots) G' lv (pc + 3) (.int (if T i 5 = 0 then -1 else 0) :: rest)) : PG κ nL ce sl G lv pc (.int t :: .int t :: .ref x :: rest) := by
  obtain ⟨G1, ad, KT, KF, KC, hR, hW⟩ := h
  refine g_callVN C hX mV_X4_meets hlink (hW.1.1 x _ hR.1.1) rfl rfl (CtrN.frame (CtrX.no (c_X4_meets l0 D0 cy0 hR hwok t t) (fun E9 G9 h9 => by obtain ⟨-, -, h9 | h9⟩ := h9; exact h9 i hi ht; exact h9 i hi ht)) hW.1.1) rfl hr rfl hcat hd ?_
  rintro r G' ⟨G1', ⟨v, rfl, i', j', hi', ht', hj', ht2, hv, hR'⟩, hf⟩
  have hb := hR.2.2.2
  have e9 : i' = i := (nI_eq (by omega) (by omega)).mp (ht'.symm.trans ht)
  have e8 : j' = i := (nI_eq (by omega) (by omega)).mp (ht2.symm.trans ht)
  subst e9
  subst e8
  have hv' : v = if T j' 5 = 0 then -1 else 0 := by
    rcases hv with ⟨h1, h2⟩ | ⟨h1, -, h2⟩
    · rw [if_pos (h1.elim id id), h2]
    · rw [if_neg h1, h2, meet_self]
  subst hv'
  exact kk G' ⟨G1', ad, KT, KF, KC, hR', hW.c1 hf⟩
theorem beats_1 {S : Xb} : x_beats N nn nt nf nc S 1 = x_beat N nn nt nf nc S := rfl
theorem g_rY (C : g_OK κ l0 D0 cy0 y nL cc rm ret) (hX : g_XX κ) (h : LX cy0 x b nt nf nc nn T E Cu N G2 G3 G) (hwok : s_wok T nt) (hb5 : ∀ t, t < nt → T t 5 = 0 ∨ T t 5 = 1) (hw : 4 ≤ w ∧ w ≤ 8) (hlink : Cond.methodLink y.cls index yX4_foresee ∈ lw_T) (hr : g_room rm kX4_foresee 5 ce sl) (hcat : (rest.map fun v => v.category).sum ≤ 8) (hd : decode cc pc = .ok (.invokevirtual index, 3)) (kk : ∀ G', LX cy0 x b nt nf nc nn T E Cu N G2 G3 G' → PG κ nL (ce + kX4_foresee.cells) (sl + kX4_foresee.slots) G' lv (pc + 3) (.int (s_countX (x_beat N nn nt nf nc (b, T, E, Cu, 0)).1 nt nf nc (x_beat N nn nt nf nc (b, T, E, Cu, 0)).2.1 (x_beat N nn nt nf nc (b, T, E, Cu, 0)).2.2.1 (x_beat N nn nt nf nc (b, T, E, Cu, 0)).2.2.2.1 w) :: rest)) : PG κ nL ce sl G lv pc (.int w :: .int 1 :: .ref x :: rest) := by
  obtain ⟨G1, ad, KT, KF, KC, hR, hW⟩ := h
  refine g_callVN C hX mV_X4_foresee hlink (hW.1.1 x _ hR.1.1) rfl rfl (CtrN.frame (CtrX.no (c_X4_foresee l0 D0 cy0 hR hwok hb5 1 w) (fun E9 G9 h9 => by obtain ⟨-, ⟨-, h9⟩ | ⟨-, -, h9⟩⟩ := h9; exact h9 (by decide); exact h9 hw)) hW.1.1) rfl hr rfl hcat hd ?_
  rintro r G' ⟨G1', ⟨v, rfl, k, -, -, hk, hk1, hv, KT', KF', KC', hR'⟩, hf⟩
  have e9 : k = 1 := (nI_eq (a := k) (b := 1) (by omega) (by decide)).mp hk1.symm
  subst e9
  rw [beats_1] at hv
  subst hv
  exact kk G' ⟨G1', ad, KT', KF', KC', hR', hW.c1 hf⟩
theorem g_rG (C : g_OK κ l0 D0 cy0 y nL cc rm ret) (hX : g_XX κ) (h : LX cy0 x b nt nf nc nn T E Cu N G2 G3 G) (hwok : s_wok T nt) (hlink : Cond.methodLink y.cls index yX4_go ∈ lw_T) (hr : g_room rm kX4_go 2 ce sl) (hcat : (rest.map fun v => v.category).sum ≤ 8) (hd : decode cc pc = .ok (.invokevirtual index, 3)) (kk : ∀ G', LX cy0 x (x_beat N nn nt nf nc (b, T, E, Cu, 0)).1 nt nf nc nn (x_beat N nn nt nf nc (b, T, E, Cu, 0)).2.1 (x_beat N nn nt nf nc (b, T, E, Cu, 0)).2.2.1 (x_beat N nn nt nf nc (b, T, E, Cu, 0)).2.2.2.1 N G2 G3 G' → PG κ nL (ce + kX4_go.cells) (sl + kX4_go.slots) G' lv (pc + 3) (.int (x_beat N nn nt nf nc (b, T, E, Cu, 0)).2.2.2.2 :: rest)) : PG κ nL ce sl G lv pc (.int 1 :: .ref x :: rest) := by
  obtain ⟨G1, ad, KT, KF, KC, hR, hW⟩ := h
  refine g_callVN C hX mV_X4_go hlink (hW.1.1 x _ hR.1.1) rfl rfl (CtrN.frame (CtrX.no (c_X4_go l0 D0 cy0 hR hwok 1) (fun E9 G9 h9 => h9.2.2 (by decide))) hW.1.1) rfl hr rfl hcat hd ?_
  rintro r G' ⟨G1', ⟨v, rfl, k, -, hk, hk1, hv, hR'⟩, hf⟩
  have e9 : k = 1 := (nI_eq (a := k) (b := 1) (by omega) (by decide)).mp hk1.symm
  subst e9
  rw [beats_1] at hv hR'
  subst hv
  exact kk G' ⟨G1', ad, KT, KF, KC, hR', hW.c1 hf⟩
theorem g_rE (C : g_OK κ l0 D0 cy0 y nL cc rm ret) (h : LX cy0 x b nt nf nc nn T E Cu N G2 G3 G) (hlink : Cond.methodLink y.cls index yX4_mean ∈ lw_T) (hr : g_room rm kX4_mean 6 ce sl) (hcat : (rest.map fun v => v.category).sum ≤ 8) (hd : decode cc pc = .ok (.invokevirtual index, 3)) (kk : ∀ G', LX cy0 x b nt nf nc nn T E Cu N G2 G3 G' → PG κ nL (ce + kX4_mean.cells) (sl + kX4_mean.slots) G' lv (pc + 3) (.double (s_mean E nf) :: rest)) : PG κ nL ce sl G lv pc (.ref x :: rest) := by
  obtain ⟨G1, ad, KT, KF, KC, hR, hW⟩ := h
  refine g_callV C mV_X4_mean hlink (hW.1.1 x _ hR.1.1) rfl rfl (Ctr.frame (c_X4_mean l0 D0 cy0 hR) hW.1.1) rfl hr rfl hcat hd ?_
  rintro r G' ⟨G1', ⟨v, rfl, rfl, hR'⟩, hf⟩
  exact kk G' ⟨G1', ad, KT, KF, KC, hR', hW.c1 hf⟩
theorem g_rH (C : g_OK κ l0 D0 cy0 y nL cc rm ret) (h : LX cy0 x b nt nf nc nn T E Cu N G2 G3 G) (hs : RS cy0 s rt rd b nt nf nc nn S F Cs N G2) (hlink : Cond.methodLink y.cls index yX5_hang ∈ lw_T) (hr : g_room rm kX5_hang 7 ce sl) (hcat : (rest.map fun v => v.category).sum ≤ 8) (hd : decode cc pc = .ok (.invokevirtual index, 3)) (kk : ∀ G', LX cy0 x b nt nf nc nn T E Cu N G2 G3 G' → PG κ nL (ce + kX5_hang.cells) (sl + kX5_hang.slots) G' lv (pc + 3) (.int (nI (s_hangE F nf t)) :: rest)) : PG κ nL ce sl G lv pc (.int t :: .ref s :: rest) := by
  obtain ⟨G1, ad, KT, KF, KC, hR, hW⟩ := h
  refine g_callV C mV_X5_hang hlink (hW.1.2.1 s _ hs.1.1) rfl rfl (Ctr.frame (c_X5_hang l0 D0 cy0 hs t) hW.1.2.1) rfl hr rfl hcat hd ?_
  rintro r G' ⟨G2', ⟨v, rfl, rfl, rfl⟩, hf⟩
  exact kk G' ⟨G1, ad, KT, KF, KC, hR, hW.c2 hf⟩
theorem g_rI (C : g_OK κ l0 D0 cy0 y nL cc rm ret) (h : LX cy0 x b nt nf nc nn T E Cu N G2 G3 G) (hs : RS cy0 s rt rd b nt nf nc nn S F Cs N G2) (hlink : Cond.methodLink y.cls index yX5_in ∈ lw_T) (hr : g_room rm kX5_in 7 ce sl) (hcat : (rest.map fun v => v.category).sum ≤ 8) (hd : decode cc pc = .ok (.invokevirtual index, 3)) (kk : ∀ G', LX cy0 x b nt nf nc nn T E Cu N G2 G3 G' → PG κ nL (ce + kX5_in.cells) (sl + kX5_in.slots) G' lv (pc + 3) (.int (nI (cnt (fun k => decide (F k 0 = t)) nf)) :: rest)) : PG κ nL ce sl G lv pc (.int t :: .ref s :: rest) := by
  obtain ⟨G1, ad, KT, KF, KC, hR, hW⟩ := h
  refine g_callV C mV_X5_in hlink (hW.1.2.1 s _ hs.1.1) rfl rfl (Ctr.frame (c_X5_in l0 D0 cy0 hs t) hW.1.2.1) rfl hr rfl hcat hd ?_
  rintro r G' ⟨G2', ⟨v, rfl, rfl, rfl⟩, hf⟩
  exact kk G' ⟨G1, ad, KT, KF, KC, hR, hW.c2 hf⟩
theorem g_rO (C : g_OK κ l0 D0 cy0 y nL cc rm ret) (h : LX cy0 x b nt nf nc nn T E Cu N G2 G3 G) (hs : RS cy0 s rt rd b nt nf nc nn S F Cs N G2) (hlink : Cond.methodLink y.cls index yX5_open ∈ lw_T) (hr : g_room rm kX5_open 6 ce sl) (hcat : (rest.map fun v => v.category).sum ≤ 8) (hd : decode cc pc = .ok (.invokevirtual index, 3)) (kk : ∀ G', LX cy0 x b nt nf nc nn T E Cu N G2 G3 G' → PG κ nL (ce + kX5_open.cells) (sl + kX5_open.slots) G' lv (pc + 3) (.int (nI (cnt (fun k => decide (Cs k 4 = 0)) nc)) :: rest)) : PG κ nL ce sl G lv pc (.ref s :: rest) := by
  obtain ⟨G1, ad, KT, KF, KC, hR, hW⟩ := h
  refine g_callV C mV_X5_open hlink (hW.1.2.1 s _ hs.1.1) rfl rfl (Ctr.frame (c_X5_open l0 D0 cy0 hs) hW.1.2.1) rfl hr rfl hcat hd ?_
  rintro r G' ⟨G2', ⟨v, rfl, rfl, rfl⟩, hf⟩
  exact kk G' ⟨G1, ad, KT, KF, KC, hR, hW.c2 hf⟩
theorem g_rL (C : g_OK κ l0 D0 cy0 y nL cc rm ret) (h : LX cy0 x b nt nf nc nn T E Cu N G2 G3 G) (hs : RS cy0 s rt rd b nt nf nc nn S F Cs N G2) (hi : i < nt) (hS : y_wS nt S) (hlink : Cond.methodLink y.cls index yX5_place ∈ lw_T) (hr : g_room rm kX5_place 6 ce sl) (hcat : (rest.map fun v => v.category).sum ≤ 8) (hd : decode cc pc = .ok (.invokestatic index, 3)) (kk : ∀ G', LX cy0 x b nt nf nc nn T E Cu N G2 G3 G' → PG κ nL (ce + kX5_place.cells) (sl + kX5_place.slots) G' lv (pc + 3) (.int (y_pl S i) :: rest)) : PG κ nL ce sl G lv pc (.int (S i 6) :: .ref (rd 0 i) :: rest) := by
  obtain ⟨G1, ad, KT, KF, KC, hR, hW⟩ := h
  obtain ⟨⟨w9, hw9, hf9⟩, d9, hd9, hs9⟩ := hS i hi
  refine g_callS C mS_X5_place hlink (Ctr.frame (c_X5_place l0 D0 cy0 G2 (rd 0 i) (S i) (hs.2.1.1 i hi) w9 d9 hw9 (S i 0) (S i 1) (S i 2) rfl rfl rfl hf9 (S i 6) hs9 hd9) hW.1.2.1) rfl hr rfl hcat hd ?_
  rintro r G' ⟨G2', ⟨v, rfl, rfl, rfl⟩, hf⟩
  exact kk G' ⟨G1, ad, KT, KF, KC, hR, hW.c2 hf⟩
end PGQ
