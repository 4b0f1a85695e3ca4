section RXW
variable {cy : Nat → ClassId} {x : Nat} {ad : Nat → Nat → Nat} {b : Int32} {nt nf nc nn : Nat} {T E Cu N KT KF KC : Rw} {G : GG} {t : Nat}
theorem RXT_weigh {p0 : Int32} (h : RX cy x ad b nt nf nc nn T E Cu N KT KF KC G) (ht : t < nt) : RX cy x ad b nt nf nc nn (s_set (s_set T t 2 p0) t 6 b) E Cu N KT KF KC (g_up G (ad 1 t) (.inr (3, [.int (T t 0), .int (T t 1), .int (T t 3), .int p0, .int b, .int (T t 4), .int (T t 5), .int (KT t 0), .int (KT t 1)]))) := by
  have := RX.setT (T' := s_set (s_set T t 2 p0) t 6 b) (KT' := KT) h ht (fun j hj hne => by simp [oT, s_set, hne])
  have e : oT (s_set (s_set T t 2 p0) t 6 b) KT t = .inr (3, [.int (T t 0), .int (T t 1), .int (T t 3), .int p0, .int b, .int (T t 4), .int (T t 5), .int (KT t 0), .int (KT t 1)]) := by simp [oT, s_set]
  rw [e] at this; exact this
theorem RXT_mend (h : RX cy x ad b nt nf nc nn T E Cu N KT KF KC G) (ht : t < nt) : RX cy x ad b nt nf nc nn (s_set (s_set T t 4 0) t 5 1) E Cu N KT KF KC (g_up G (ad 1 t) (.inr (3, [.int (T t 0), .int (T t 1), .int (T t 3), .int (T t 2), .int (T t 6), .int 0, .int 1, .int (KT t 0), .int (KT t 1)]))) := by
  have := RX.setT (T' := s_set (s_set T t 4 0) t 5 1) (KT' := KT) h ht (fun j hj hne => by simp [oT, s_set, hne])
  have e : oT (s_set (s_set T t 4 0) t 5 1) KT t = .inr (3, [.int (T t 0), .int (T t 1), .int (T t 3), .int (T t 2), .int (T t 6), .int 0, .int 1, .int (KT t 0), .int (KT t 1)]) := by simp [oT, s_set]
  rw [e] at this; exact this
end RXW
theorem in_200 {n : Int32} (h : 1 ≤ n ∧ n ≤ 200) : ∃ k, k ≤ 200 ∧ n = nI k := by
  obtain ⟨h1, h2⟩ := h
  have e1 : (1 : Int32).toInt = 1 := by decide
  have e2 : (200 : Int32).toInt = 200 := by decide
  rw [Int32.le_iff_toInt_le, e1] at h1
  rw [Int32.le_iff_toInt_le, e2] at h2
  obtain ⟨j, hj, rfl⟩ := nI_of (x := n) (by rw [Int32.lt_iff_toInt_lt, Int32.toInt_zero]; omega)
  rw [nI_toInt hj] at h2
  exact ⟨j, by omega, rfl⟩
/-- the first beat at which two places are near -/
def s_meet (T : Rw) (i j : Nat) (b : Int32) : Int32 :=
  match fst (fun k => s_near (s_at T i (b + nI k)) (s_at T j (b + nI k))) 201 with
  | some k => nI k
  | none => -1
def s_fl (T : Rw) (j : Nat) (b fr : Int32) (k : Nat) : Option Nat := fst (fun r => s_near (fr + (nI r - 20)) (s_at T j (b + nI (k + 1)))) 41
def s_pick (n : Nat) (g : Nat → Option Nat) (c : Nat → Nat → Int32) : Int32 :=
  match fst (fun k => (g k).isSome) n with
  | some k => (match g k with
    | some r => c k r
    | none => -1)
  | none => -1
theorem pick_y {n k r : Nat} {g : Nat → Option Nat} {c : Nat → Nat → Int32} (hk : k < n) (e : g k = some r) (hs : ∀ u, u < k → g u = none) : s_pick n g c = c k r := by
  unfold s_pick
  rw [fst_some (t := k) hk (by simp only [e]; rfl) (fun u hu => by simp only [hs u hu]; rfl)]
  simp only [e]
theorem pick_n {n : Nat} {g : Nat → Option Nat} {c : Nat → Nat → Int32} (hs : ∀ u, u < n → g u = none) : s_pick n g c = -1 := by
  unfold s_pick
  rw [fst_none (fun u hu => by simp only [hs u hu]; rfl)]
def s_flight (T : Rw) (j : Nat) (b fr : Int32) : Int32 := s_pick 6 (s_fl T j b fr) (fun k r => 100 * nI (k + 1) + (nI r - 20) + 20)
def s_ad (T : Rw) (i j : Nat) (b : Int32) (k : Nat) : Option Nat := fst (fun w => s_near (s_pl (T i 0) (T i 1) (nI w) (nI k)) (s_at T j (b + nI k))) 11
def s_advise (T : Rw) (i j : Nat) (b : Int32) : Int32 := s_pick 201 (s_ad T i j b) (fun _ w => nI w)
theorem fst_n_in {p : Nat → Bool} {n : Nat} (h : fst p n = none) : ∀ t, t < n → p t = false := by
  intro t ht
  cases hp : p t with
  | false => rfl
  | true =>
    exfalso
    have hx : ∀ m, t < m → fst p m ≠ none := by
      intro m
      induction m with
      | zero => intro h; omega
      | succ m ihm =>
        intro hm
        simp only [fst]
        by_cases hlt : t < m
        · cases hf : fst p m with
          | none => exact absurd hf (ihm hlt)
          | some v => simp
        · have : t = m := by omega
          subst this
          cases hf : fst p t with
          | none => simp [hp]
          | some v => simp
    exact hx n ht h
theorem meet_y {T : Rw} {i j k : Nat} {b : Int32} (hk : k < 201) (hp : s_near (s_at T i (b + nI k)) (s_at T j (b + nI k)) = true) (hs : ∀ u, u < k → s_near (s_at T i (b + nI u)) (s_at T j (b + nI u)) = false) : s_meet T i j b = nI k := by
  unfold s_meet; rw [fst_some hk hp hs]
theorem meet_n {T : Rw} {i j : Nat} {b : Int32} (hs : ∀ u, u < 201 → s_near (s_at T i (b + nI u)) (s_at T j (b + nI u)) = false) : s_meet T i j b = -1 := by
  unfold s_meet; rw [fst_none hs]
theorem no_f2 {p : Nat → Bool} {k : Nat} (hs : ∀ t, t < k → p t = false) (hp : p k = false) : ∀ t, t < k + 1 → p t = false := fun t h1 => by
  by_cases h : t = k
  · subst h; exact hp
  · exact hs t (by omega)
theorem fl_y {T : Rw} {j k r : Nat} {b fr : Int32} (hk : k < 6) (hr : r < 41) (hp : s_near (fr + (nI r - 20)) (s_at T j (b + nI (k + 1))) = true) (hs2 : ∀ u, u < r → s_near (fr + (nI u - 20)) (s_at T j (b + nI (k + 1))) = false) (hs : ∀ u, u < k → s_fl T j b fr u = none) : s_flight T j b fr = 100 * nI (k + 1) + (nI r - 20) + 20 :=
  pick_y (c := fun k r => 100 * nI (k + 1) + (nI r - 20) + 20) hk (show s_fl T j b fr k = some r from by unfold s_fl; exact fst_some hr hp hs2) hs
theorem fl_n {T : Rw} {j : Nat} {b fr : Int32} (hs : ∀ u, u < 6 → s_fl T j b fr u = none) : s_flight T j b fr = -1 := pick_n hs
theorem fl_0 {T : Rw} {j k : Nat} {b fr : Int32} (hs2 : ∀ u, u < 41 → s_near (fr + (nI u - 20)) (s_at T j (b + nI (k + 1))) = false) : s_fl T j b fr k = none := by unfold s_fl; exact fst_none hs2
theorem ad_y {T : Rw} {i j k w : Nat} {b : Int32} (hk : k < 201) (hw : w < 11) (hp : s_near (s_pl (T i 0) (T i 1) (nI w) (nI k)) (s_at T j (b + nI k)) = true) (hs2 : ∀ u, u < w → s_near (s_pl (T i 0) (T i 1) (nI u) (nI k)) (s_at T j (b + nI k)) = false) (hs : ∀ u, u < k → s_ad T i j b u = none) : s_advise T i j b = nI w :=
  pick_y (c := fun _ w => nI w) hk (show s_ad T i j b k = some w from by unfold s_ad; exact fst_some hw hp hs2) hs
theorem ad_n {T : Rw} {i j : Nat} {b : Int32} (hs : ∀ u, u < 201 → s_ad T i j b u = none) : s_advise T i j b = -1 := pick_n hs
theorem ad_0 {T : Rw} {i j k : Nat} {b : Int32} (hs2 : ∀ u, u < 11 → s_near (s_pl (T i 0) (T i 1) (nI u) (nI k)) (s_at T j (b + nI k)) = false) : s_ad T i j b k = none := by unfold s_ad; exact fst_none hs2
theorem nonex {f : Nat → Option Nat} {k : Nat} (hs : ∀ t, t < k → f t = none) (hp : f k = none) : ∀ t, t < k + 1 → f t = none := fun t h1 => by
  by_cases h : t = k
  · subst h; exact hp
  · exact hs t (by omega)
theorem sub_s {r : Nat} {x : Int32} (h : x = nI r - 20) : x + 1 = nI (r + 1) - 20 := by
  rw [h, ← nI_1]; simp only [Int32.sub_eq_add_neg]; rw [Int32.add_assoc, Int32.add_comm (-20) 1, ← Int32.add_assoc]
theorem sub_0 : (-20 : Int32) = nI 0 - 20 := by decide
theorem sub_T {r : Nat} (hr : r < 1000) : (nI r - 20).toInt = (r : Int) - 20 := by
  have := pk_sub_toInt (a := r) (b := 20) (by omega) (by omega)
  exact this
theorem sub_gt {r : Nat} {x : Int32} (h : x = nI r - 20) (hr : r < 1000) (hc : (20 : Int32) < x) : 40 < r := by
  rw [h, Int32.lt_iff_toInt_lt, sub_T hr] at hc
  have e : (20 : Int32).toInt = 20 := by decide
  omega
theorem sub_ngt {r : Nat} {x : Int32} (h : x = nI r - 20) (hr : r < 1000) (hc : ¬ (20 : Int32) < x) : r < 41 := by
  rw [h, Int32.lt_iff_toInt_lt, sub_T hr] at hc
  have e : (20 : Int32).toInt = 20 := by decide
  omega
/-! what beats leave as it is -/
theorem xw_T {N : Rw} {nn nf t : Nat} {b : Int32} {TE : Rw × Rw} {i k : Nat} (h4 : k ≠ 4) (h5 : k ≠ 5) : (x_wear N nn nf b t TE).1 i k = TE.1 i k := by
  have hw : ∀ (T E : Rw), x_wr T E nf t i k = T i k := fun T E => by simp [x_wr, s_set, h4, h5]
  unfold x_wear
  split
  · split <;> exact hw _ _
  · rfl
theorem xws_T {N : Rw} {nn nf : Nat} {b : Int32} {TE : Rw × Rw} {i k : Nat} (h4 : k ≠ 4) (h5 : k ≠ 5) (n : Nat) : (its (x_wear N nn nf b) TE n).1 i k = TE.1 i k := by
  induction n with
  | zero => rfl
  | succ n ih => exact (xw_T h4 h5).trans ih
theorem xb_T {N : Rw} {nn nt nf nc : Nat} {S : Xb} {i k : Nat} (h4 : k ≠ 4) (h5 : k ≠ 5) (n : Nat) : (x_beats N nn nt nf nc S n).2.1 i k = S.2.1 i k := by
  induction n with
  | zero => rfl
  | succ n ih => exact (xws_T (TE := (_, _)) h4 h5 nt).trans ih
theorem xc_C {T : Rw} {nt nf c : Nat} {b : Int32} {EC : Rw × Rw} {i k : Nat} (h4 : k ≠ 4) : (x_cue T nt nf b c EC).2 i k = EC.2 i k := by
  unfold x_cue
  split
  · split <;> simp [s_set, h4]
  · rfl
theorem xcs_C {T : Rw} {nt nf : Nat} {b : Int32} {EC : Rw × Rw} {i k : Nat} (h4 : k ≠ 4) (n : Nat) : (its (x_cue T nt nf b) EC n).2 i k = EC.2 i k := by
  induction n with
  | zero => rfl
  | succ n ih => exact (xc_C h4).trans ih
theorem xb_C {N : Rw} {nn nt nf nc : Nat} {S : Xb} {i k : Nat} (h4 : k ≠ 4) (n : Nat) : (x_beats N nn nt nf nc S n).2.2.2.1 i k = S.2.2.2.1 i k := by
  induction n with
  | zero => rfl
  | succ n ih => exact (xcs_C (EC := (_, _)) h4 nc).trans ih
theorem fore_ext {cy : Nat → ClassId} {x : Nat} {ad : Nat → Nat → Nat} {b : Int32} {nt nf nc nn : Nat} {T E Cu N T1 E1 C1 KT KF KC : Rw} {G : GG} (hT : ∀ i k, k ≠ 4 → k ≠ 5 → T1 i k = T i k) (hC : ∀ i k, k ≠ 4 → C1 i k = Cu i k)
    (h : RX cy x ad b nt nf nc nn (mixR (tT T1 (mixR (kT T) KT nt)) T1 nt) (mixR (mixR E KF nf) E1 nf) (mixR (tC C1 (mixR (kC Cu) KC nc)) C1 nc) N (mixR (kT T) KT nt) (mixR E KF nf) (mixR (kC Cu) KC nc) G) : RX cy x ad b nt nf nc nn T E Cu N (mixR (kT T) KT nt) (mixR E KF nf) (mixR (kC Cu) KC nc) G := by
  refine h.ext (fun i hi => ?_) (fun i hi => ?_) (fun i hi => ?_)
  · simp [oT, mixR, hi, tT, kT, hT]
  · simp [oF, mixR, hi]
  · simp [oC, mixR, hi, tC, kC, hC]
theorem dn_fin {a : UInt64} (h : FP.Core.DFin a) : FP.Core.dIsNaN a = false := by
  rw [FP.Core.fin_bits] at h
  rw [← Bool.not_eq_true, FP.Core.isNaN_bits]
  omega
theorem dn_ok {a c : Int32} (hc : c ≠ 0) : vf_n64 (FP.ddiv (FP.i2d a) (FP.i2d c)) := by
  have h1 : FP.Core.dIsNaN (FP.Core.ddiv (FP.Core.i2d a) (FP.Core.i2d c)) = false := FP.Core.ddiv_out (dn_fin (FP.Core.i2d_fin a)) (FP.Core.i2d_fin c) (by rw [FP.Core.zero_bits2]; exact FP.Core.i2d_ne_zero hc)
  rw [← Bool.not_eq_true, FP.Core.isNaN_bits] at h1
  show FP.Core.ddiv (FP.Core.i2d a) (FP.Core.i2d c) &&& 0x7fffffffffffffff ≤ 0x7ff0000000000000
  rw [UInt64.le_iff_toNat_le, UInt64.toNat_and]
  have e1 : (0x7fffffffffffffff : UInt64).toNat = 2 ^ 63 - 1 := by decide
  have e2 : (0x7ff0000000000000 : UInt64).toNat = 9218868437227405312 := by decide
  rw [e1, e2, Nat.and_two_pow_sub_one_eq_mod]
  omega
def s_mean (F : Rw) (nf : Nat) : UInt64 := if nf = 0 then FP.dconst0 else FP.ddiv (FP.i2d (s_caught F nf)) (FP.i2d (nI nf))

set_option maxHeartbeats 4000000 in
set_option maxRecDepth 100000 in
theorem c_X4_weigh (l : Launch) (D : va_G) (cy : Nat → ClassId) {G : GG} {x : Nat} {ad : Nat → Nat → Nat} {b : Int32} {nt nf nc nn : Nat} {T E Cu N KT KF KC : Rw} (h : RX cy x ad b nt nf nc nn T E Cu N KT KF KC G) (t p0 : Int32) : CtrX l D cy yX4_weigh prog_1_method_3_code 5 (some .int) kX4_weigh [.ref x, .int t, .int p0] G (pI (fun v G' => ∃ i, i < nt ∧ t = nI i ∧ (0 ≤ p0 ∧ p0 ≤ 10) ∧ ¬ T i 5 = 0 ∧ v = T i 2 ∧ RX cy x ad b nt nf nc nn (s_set (s_set T i 2 p0) i 6 b) E Cu N KT KF KC G')) (fun e G' => RX cy x ad b nt nf nc nn T E Cu N KT KF KC G' ∧ ((e = "java/lang/IndexOutOfBoundsException" ∧ (∀ i, i < nt → t ≠ nI i)) ∨ (e = "java/lang/IllegalArgumentException" ∧ (∃ i, i < nt ∧ t = nI i) ∧ ¬ (0 ≤ p0 ∧ p0 ≤ 10)) ∨ (e = "java/lang/IllegalStateException" ∧ ∃ i, i < nt ∧ t = nI i ∧ (0 ≤ p0 ∧ p0 ≤ 10) ∧ T i 5 = 0))) := by
  refine CtrX.mk (by decide +kernel) (Nat.le_of_ble_eq_true rfl) ?_
  intro κ C R
  refine g_pc (pc' := 0) rfl ?_
  refine g_seg [(0, .aload_n 0, 1), (1, .iload_n 1, 1)] 2 [(0, .ref x), (1, .int t), (2, .int p0)] [.int t, .ref x] C (by decide +kernel) rfl ?_
  refine g_callV (pc := 2) C mV_X4_trapezeNumbered q82 (h.1.1) rfl rfl (c_X4_trapezeNumbered l D cy h t) rfl ⟨⟨Nat.le_of_ble_eq_true rfl, Nat.le_of_ble_eq_true rfl⟩, Nat.le_of_ble_eq_true rfl, Nat.le_of_ble_eq_true rfl⟩ rfl (Nat.le_of_ble_eq_true rfl) (by decide +kernel) ?_
  refine g_kA (fun v3 G2 hp1 => ?_)
  obtain ⟨rfl, hp1⟩ := hp1
  rcases hp1 with ⟨i4, hi5, hn6, rfl⟩ | ⟨hn6, rfl⟩
  · refine g_seg [(5, .astore_n 3, 1), (6, .aload_n 3, 1)] 7 [(3, .ref (ad 1 i4)), (0, .ref x), (1, .int t), (2, .int p0)] [.ref (ad 1 i4)] C (by decide +kernel) rfl ?_
    refine g_ifnonnull (pc := 7) (off := 13) 20 C (by decide +kernel) (by decide) ?_
    refine g_seg [(20, .iload_n 2, 1), (21, .iconst 0, 1), (22, .bipush 10, 2)] 24 [(3, .ref (ad 1 i4)), (0, .ref x), (1, .int t), (2, .int p0)] [.int 10, .int 0, .int p0] C (by decide +kernel) rfl ?_
    refine g_callS (pc := 24) C mS_X4_isWithin q86 (c_X4_isWithin l D cy G2 p0 0 10) rfl ⟨⟨Nat.le_of_ble_eq_true rfl, Nat.le_of_ble_eq_true rfl⟩, Nat.le_of_ble_eq_true rfl, Nat.le_of_ble_eq_true rfl⟩ rfl (Nat.le_of_ble_eq_true rfl) (by decide +kernel) ?_
    refine g_kI (fun v9 G8 hp7 => ?_)
    obtain ⟨rfl, hp7⟩ := hp7
    rcases hp7 with ⟨rfl, h10⟩ | ⟨rfl, h10⟩
    · refine g_if_ne (pc := 27) (off := 13) 40 C (by decide +kernel) (by decide) (fun _ => ?_) (fun c9 => absurd c9 (by decide))
      refine g_seg [(40, .aload_n 3, 1)] 41 [(3, .ref (ad 1 i4)), (0, .ref x), (1, .int t), (2, .int p0)] [.ref (ad 1 i4)] C (by decide +kernel) rfl ?_
      refine g_getf (pc := 41) (k := 6) (v := .int (T i4 5)) C fl_X4_70 (h.2.1.1 i4 hi5) rfl (by decide +kernel) ?_
      refine g_if_ne (pc := 44) (off := 13) 57 C (by decide +kernel) (by decide) (fun c11 => ?_) (fun c11 => ?_)
      · refine g_seg [(57, .aload_n 3, 1)] 58 [(3, .ref (ad 1 i4)), (0, .ref x), (1, .int t), (2, .int p0)] [.ref (ad 1 i4)] C (by decide +kernel) rfl ?_
        refine g_getf (pc := 58) (k := 3) (v := .int (T i4 2)) C fl_X4_76 (h.2.1.1 i4 hi5) rfl (by decide +kernel) ?_
        refine g_seg [(61, .istore 4, 2), (63, .aload_n 3, 1), (64, .iload_n 2, 1), (65, .aload_n 0, 1)] 66 [(4, .int (T i4 2)), (3, .ref (ad 1 i4)), (0, .ref x), (1, .int t), (2, .int p0)] [.ref x, .int p0, .ref (ad 1 i4)] C (by decide +kernel) rfl ?_
        refine g_getf (pc := 66) (k := 8) (v := .int b) C fl_X4_53 (h.1.1) rfl (by decide +kernel) ?_
        refine g_callV (pc := 69) C mV_X3_setWeight q477 (h.2.1.1 i4 hi5) rfl rfl (c_X3_setWeight l D cy G8 (ad 1 i4) (T i4 0) (T i4 1) (T i4 3) (T i4 2) (T i4 6) (T i4 4) (T i4 5) (KT i4 0) (KT i4 1) p0 b (h.2.1.1 i4 hi5)) rfl ⟨⟨Nat.le_of_ble_eq_true rfl, Nat.le_of_ble_eq_true rfl⟩, Nat.le_of_ble_eq_true rfl, Nat.le_of_ble_eq_true rfl⟩ rfl (Nat.le_of_ble_eq_true rfl) (by decide +kernel) ?_
        refine g_kV (fun G12 hG13 => ?_)
        have h14 : RX cy x ad b nt nf nc nn (s_set (s_set T i4 2 p0) i4 6 b) E Cu N KT KF KC G12 := by rw [hG13]; exact RXT_weigh h hi5
        refine g_seg [(72, .iload 4, 2)] 74 [(4, .int (T i4 2)), (3, .ref (ad 1 i4)), (0, .ref x), (1, .int t), (2, .int p0)] [.int (T i4 2)] C (by decide +kernel) rfl ?_
        exact g_iretX (pc := 74) C R (⟨_, rfl, i4, hi5, hn6, h10, c11, rfl, h14⟩) (Nat.le_of_ble_eq_true rfl) (Nat.le_of_ble_eq_true rfl) (by decide +kernel)
      · exact g_throw (pc := 47) (is := 74) (text := "the trapeze is broken") C R rfl ex_ISE (by decide +kernel) (⟨h, Or.inr (Or.inr (⟨rfl, i4, hi5, hn6, h10, c11⟩))⟩) (Nat.le_of_ble_eq_true rfl) (Nat.le_of_ble_eq_true rfl) (Nat.le_of_ble_eq_true rfl) (Nat.le_of_ble_eq_true rfl) (by decide +kernel) (by decide +kernel) (by decide +kernel) (by decide +kernel) (by decide +kernel)
    · refine g_if_ne (pc := 27) (off := 13) 40 C (by decide +kernel) (by decide) (fun c9 => absurd (by decide) c9) (fun _ => ?_)
      exact g_throw (pc := 30) (is := 68) (text := "weight is not 0 to 10") C R rfl ex_IAE (by decide +kernel) (⟨h, Or.inr (Or.inl ⟨rfl, ⟨i4, hi5, hn6⟩, h10⟩)⟩) (Nat.le_of_ble_eq_true rfl) (Nat.le_of_ble_eq_true rfl) (Nat.le_of_ble_eq_true rfl) (Nat.le_of_ble_eq_true rfl) (by decide +kernel) (by decide +kernel) (by decide +kernel) (by decide +kernel) (by decide +kernel)
  · refine g_seg [(5, .astore_n 3, 1), (6, .aload_n 3, 1)] 7 [(3, .null), (0, .ref x), (1, .int t), (2, .int p0)] [.null] C (by decide +kernel) rfl ?_
    refine g_ifnonnullN (pc := 7) (off := 13) C (by decide +kernel) ?_
    exact g_throw (pc := 10) (is := 65) (text := "no such trapeze") C R rfl ex_IOE (by decide +kernel) (⟨h, Or.inl ⟨rfl, hn6⟩⟩) (Nat.le_of_ble_eq_true rfl) (Nat.le_of_ble_eq_true rfl) (Nat.le_of_ble_eq_true rfl) (Nat.le_of_ble_eq_true rfl) (by decide +kernel) (by decide +kernel) (by decide +kernel) (by decide +kernel) (by decide +kernel)
set_option maxHeartbeats 4000000 in
set_option maxRecDepth 100000 in
theorem c_X4_mend (l : Launch) (D : va_G) (cy : Nat → ClassId) {G : GG} {x : Nat} {ad : Nat → Nat → Nat} {b : Int32} {nt nf nc nn : Nat} {T E Cu N KT KF KC : Rw} (h : RX cy x ad b nt nf nc nn T E Cu N KT KF KC G) (t : Int32) : CtrX l D cy yX4_mend prog_1_method_4_code 4 (some .int) kX4_mend [.ref x, .int t] G (pI (fun v G' => ∃ i, i < nt ∧ t = nI i ∧ v = T i 4 ∧ RX cy x ad b nt nf nc nn (s_set (s_set T i 4 0) i 5 1) E Cu N KT KF KC G')) (fun e G' => RX cy x ad b nt nf nc nn T E Cu N KT KF KC G' ∧ ((e = "java/lang/IndexOutOfBoundsException" ∧ (∀ i, i < nt → t ≠ nI i)))) := by
  refine CtrX.mk (by decide +kernel) (Nat.le_of_ble_eq_true rfl) ?_
  intro κ C R
  refine g_pc (pc' := 0) rfl ?_
  refine g_seg [(0, .aload_n 0, 1), (1, .iload_n 1, 1)] 2 [(0, .ref x), (1, .int t)] [.int t, .ref x] C (by decide +kernel) rfl ?_
  refine g_callV (pc := 2) C mV_X4_trapezeNumbered q82 (h.1.1) rfl rfl (c_X4_trapezeNumbered l D cy h t) rfl ⟨⟨Nat.le_of_ble_eq_true rfl, Nat.le_of_ble_eq_true rfl⟩, Nat.le_of_ble_eq_true rfl, Nat.le_of_ble_eq_true rfl⟩ rfl (Nat.le_of_ble_eq_true rfl) (by decide +kernel) ?_
  refine g_kA (fun v3 G2 hp1 => ?_)
  obtain ⟨rfl, hp1⟩ := hp1
  rcases hp1 with ⟨i4, hi5, hn6, rfl⟩ | ⟨hn6, rfl⟩
  · refine g_seg [(5, .astore_n 2, 1), (6, .aload_n 2, 1)] 7 [(2, .ref (ad 1 i4)), (0, .ref x), (1, .int t)] [.ref (ad 1 i4)] C (by decide +kernel) rfl ?_
    refine g_ifnonnull (pc := 7) (off := 13) 20 C (by decide +kernel) (by decide) ?_
    refine g_seg [(20, .aload_n 2, 1)] 21 [(2, .ref (ad 1 i4)), (0, .ref x), (1, .int t)] [.ref (ad 1 i4)] C (by decide +kernel) rfl ?_
    refine g_getf (pc := 21) (k := 5) (v := .int (T i4 4)) C fl_X4_83 (h.2.1.1 i4 hi5) rfl (by decide +kernel) ?_
    refine g_seg [(24, .istore_n 3, 1), (25, .aload_n 2, 1)] 26 [(3, .int (T i4 4)), (2, .ref (ad 1 i4)), (0, .ref x), (1, .int t)] [.ref (ad 1 i4)] C (by decide +kernel) rfl ?_
    refine g_callV (pc := 26) C mV_X3_renewRope q485 (h.2.1.1 i4 hi5) rfl rfl (c_X3_renewRope l D cy G2 (ad 1 i4) (T i4 0) (T i4 1) (T i4 3) (T i4 2) (T i4 6) (T i4 4) (T i4 5) (KT i4 0) (KT i4 1)  (h.2.1.1 i4 hi5)) rfl ⟨⟨Nat.le_of_ble_eq_true rfl, Nat.le_of_ble_eq_true rfl⟩, Nat.le_of_ble_eq_true rfl, Nat.le_of_ble_eq_true rfl⟩ rfl (Nat.le_of_ble_eq_true rfl) (by decide +kernel) ?_
    refine g_kV (fun G7 hG8 => ?_)
    have h9 : RX cy x ad b nt nf nc nn (s_set (s_set T i4 4 0) i4 5 1) E Cu N KT KF KC G7 := by rw [hG8]; exact RXT_mend h hi5
    refine g_seg [(29, .iload_n 3, 1)] 30 [(3, .int (T i4 4)), (2, .ref (ad 1 i4)), (0, .ref x), (1, .int t)] [.int (T i4 4)] C (by decide +kernel) rfl ?_
    exact g_iretX (pc := 30) C R (⟨_, rfl, i4, hi5, hn6, rfl, h9⟩) (Nat.le_of_ble_eq_true rfl) (Nat.le_of_ble_eq_true rfl) (by decide +kernel)
  · refine g_seg [(5, .astore_n 2, 1), (6, .aload_n 2, 1)] 7 [(2, .null), (0, .ref x), (1, .int t)] [.null] C (by decide +kernel) rfl ?_
    refine g_ifnonnullN (pc := 7) (off := 13) C (by decide +kernel) ?_
    exact g_throw (pc := 10) (is := 65) (text := "no such trapeze") C R rfl ex_IOE (by decide +kernel) (⟨h, rfl, hn6⟩) (Nat.le_of_ble_eq_true rfl) (Nat.le_of_ble_eq_true rfl) (Nat.le_of_ble_eq_true rfl) (Nat.le_of_ble_eq_true rfl) (by decide +kernel) (by decide +kernel) (by decide +kernel) (by decide +kernel) (by decide +kernel)
set_option maxHeartbeats 4000000 in
set_option maxRecDepth 100000 in
theorem c_X4_mount (l : Launch) (D : va_G) (cy : Nat → ClassId) {G : GG} {x : Nat} {ad : Nat → Nat → Nat} {b : Int32} {nt nf nc nn : Nat} {T E Cu N KT KF KC : Rw} (h : RX cy x ad b nt nf nc nn T E Cu N KT KF KC G) (f t : Int32) : CtrX l D cy yX4_mount prog_1_method_7_code 6 (some .int) kX4_mount [.ref x, .int f, .int t] G (pI (fun v G' => ∃ i j, i < nf ∧ f = nI i ∧ j < nt ∧ t = nI j ∧ ((E i 0 = 0 ∨ E i 0 = 3) ∧ ¬ T j 5 = 0 ∧ nI (s_hangE E nf t) < 2) ∧ v = nI (s_hangE E nf t) + 1 ∧ RX cy x ad b nt nf nc nn T (x_st E i 1 t) Cu N KT KF KC G')) (fun e G' => RX cy x ad b nt nf nc nn T E Cu N KT KF KC G' ∧ ((e = "java/lang/IndexOutOfBoundsException" ∧ ((∀ i, i < nf → f ≠ nI i) ∨ (∀ i, i < nt → t ≠ nI i))) ∨ (e = "java/lang/IllegalStateException" ∧ ∃ i j, i < nf ∧ f = nI i ∧ j < nt ∧ t = nI j ∧ ¬ ((E i 0 = 0 ∨ E i 0 = 3) ∧ ¬ T j 5 = 0 ∧ nI (s_hangE E nf t) < 2)))) := by
  refine CtrX.mk (by decide +kernel) (Nat.le_of_ble_eq_true rfl) ?_
  intro κ C R
  refine g_pc (pc' := 0) rfl ?_
  refine g_seg [(0, .aload_n 0, 1), (1, .iload_n 1, 1)] 2 [(0, .ref x), (1, .int f), (2, .int t)] [.int f, .ref x] C (by decide +kernel) rfl ?_
  refine g_callV (pc := 2) C mV_X4_flyerNumbered q187 (h.1.1) rfl rfl (c_X4_flyerNumbered l D cy h f) rfl ⟨⟨Nat.le_of_ble_eq_true rfl, Nat.le_of_ble_eq_true rfl⟩, Nat.le_of_ble_eq_true rfl, Nat.le_of_ble_eq_true rfl⟩ rfl (Nat.le_of_ble_eq_true rfl) (by decide +kernel) ?_
  refine g_kA (fun v3 G2 hp1 => ?_)
  obtain ⟨rfl, hp1⟩ := hp1
  rcases hp1 with ⟨i4, hi5, hn6, rfl⟩ | ⟨hn6, rfl⟩
  · refine g_seg [(5, .astore_n 3, 1), (6, .aload_n 0, 1), (7, .iload_n 2, 1)] 8 [(3, .ref (ad 2 i4)), (0, .ref x), (1, .int f), (2, .int t)] [.int t, .ref x] C (by decide +kernel) rfl ?_
    refine g_callV (pc := 8) C mV_X4_trapezeNumbered q82 (h.1.1) rfl rfl (c_X4_trapezeNumbered l D cy h t) rfl ⟨⟨Nat.le_of_ble_eq_true rfl, Nat.le_of_ble_eq_true rfl⟩, Nat.le_of_ble_eq_true rfl, Nat.le_of_ble_eq_true rfl⟩ rfl (Nat.le_of_ble_eq_true rfl) (by decide +kernel) ?_
    refine g_kA (fun v9 G8 hp7 => ?_)
    obtain ⟨rfl, hp7⟩ := hp7
    rcases hp7 with ⟨i10, hi11, hn12, rfl⟩ | ⟨hn12, rfl⟩
    · refine g_seg [(11, .astore 4, 2), (13, .aload_n 3, 1)] 14 [(4, .ref (ad 1 i10)), (3, .ref (ad 2 i4)), (0, .ref x), (1, .int f), (2, .int t)] [.ref (ad 2 i4)] C (by decide +kernel) rfl ?_
      refine g_ifnull (pc := 14) (off := 8) C (by decide +kernel) ?_
      refine g_seg [(17, .aload 4, 2)] 19 [(4, .ref (ad 1 i10)), (3, .ref (ad 2 i4)), (0, .ref x), (1, .int f), (2, .int t)] [.ref (ad 1 i10)] C (by decide +kernel) rfl ?_
      refine g_ifnonnull (pc := 19) (off := 13) 32 C (by decide +kernel) (by decide) ?_
      refine g_seg [(32, .aload_n 0, 1), (33, .iload_n 2, 1)] 34 [(4, .ref (ad 1 i10)), (3, .ref (ad 2 i4)), (0, .ref x), (1, .int f), (2, .int t)] [.int t, .ref x] C (by decide +kernel) rfl ?_
      refine g_callV (pc := 34) C mV_X4_hangersOf q175 (h.1.1) rfl rfl (c_X4_hangersOf l D cy h t) rfl ⟨⟨Nat.le_of_ble_eq_true rfl, Nat.le_of_ble_eq_true rfl⟩, Nat.le_of_ble_eq_true rfl, Nat.le_of_ble_eq_true rfl⟩ rfl (Nat.le_of_ble_eq_true rfl) (by decide +kernel) ?_
      refine g_kI (fun v15 G14 hp13 => ?_)
      obtain ⟨rfl, rfl⟩ := hp13
      refine g_seg [(37, .istore 5, 2), (39, .aload_n 3, 1)] 40 [(5, .int (nI (s_hangE E nf t))), (4, .ref (ad 1 i10)), (3, .ref (ad 2 i4)), (0, .ref x), (1, .int f), (2, .int t)] [.ref (ad 2 i4)] C (by decide +kernel) rfl ?_
      refine g_callV (pc := 40) C mV_X1_canMount q542 (h.2.1.2.1 i4 hi5) rfl rfl (c_X1_canMount l D cy G14 (ad 2 i4) (E i4 0) (E i4 1) (E i4 2) (E i4 3) (E i4 4) (KF i4 0) (KF i4 1) (KF i4 2) (KF i4 3) (KF i4 4)  (h.2.1.2.1 i4 hi5)) rfl ⟨⟨Nat.le_of_ble_eq_true rfl, Nat.le_of_ble_eq_true rfl⟩, Nat.le_of_ble_eq_true rfl, Nat.le_of_ble_eq_true rfl⟩ rfl (Nat.le_of_ble_eq_true rfl) (by decide +kernel) ?_
      refine g_kI (fun v18 G17 hp16 => ?_)
      obtain ⟨rfl, hp16⟩ := hp16
      rcases hp16 with ⟨rfl, h19⟩ | ⟨rfl, h19⟩
      · refine g_if_eq (pc := 43) (off := 17) 60 C (by decide +kernel) (by decide) (fun c9 => absurd c9 (by decide)) (fun _ => ?_)
        refine g_seg [(46, .aload 4, 2)] 48 [(5, .int (nI (s_hangE E nf t))), (4, .ref (ad 1 i10)), (3, .ref (ad 2 i4)), (0, .ref x), (1, .int f), (2, .int t)] [.ref (ad 1 i10)] C (by decide +kernel) rfl ?_
        refine g_getf (pc := 48) (k := 6) (v := .int (T i10 5)) C fl_X4_70 (h.2.1.1 i10 hi11) rfl (by decide +kernel) ?_
        refine g_if_eq (pc := 51) (off := 9) 60 C (by decide +kernel) (by decide) (fun c20 => ?_) (fun c20 => ?_)
        · exact g_throw (pc := 60) (is := 118) (text := "the flyer can't mount, or the trapeze is broken or full") C R rfl ex_ISE (by decide +kernel) (⟨h, Or.inr (⟨rfl, i4, i10, hi5, hn6, hi11, hn12, fun h9 => h9.2.1 c20⟩)⟩) (Nat.le_of_ble_eq_true rfl) (Nat.le_of_ble_eq_true rfl) (Nat.le_of_ble_eq_true rfl) (Nat.le_of_ble_eq_true rfl) (by decide +kernel) (by decide +kernel) (by decide +kernel) (by decide +kernel) (by decide +kernel)
        · refine g_seg [(54, .iload 5, 2), (56, .iconst 2, 1)] 57 [(5, .int (nI (s_hangE E nf t))), (4, .ref (ad 1 i10)), (3, .ref (ad 2 i4)), (0, .ref x), (1, .int f), (2, .int t)] [.int 2, .int (nI (s_hangE E nf t))] C (by decide +kernel) rfl ?_
          refine g_icmp_lt (pc := 57) (off := 13) 70 C (by decide +kernel) (by decide) (fun c21 => ?_) (fun c21 => ?_)
          · refine g_seg [(70, .aload_n 3, 1), (71, .iload_n 2, 1)] 72 [(5, .int (nI (s_hangE E nf t))), (4, .ref (ad 1 i10)), (3, .ref (ad 2 i4)), (0, .ref x), (1, .int f), (2, .int t)] [.int t, .ref (ad 2 i4)] C (by decide +kernel) rfl ?_
            refine g_callV (pc := 72) C mV_X1_hangFrom q290 (h.2.1.2.1 i4 hi5) rfl rfl (c_X1_hangFrom l D cy G17 (ad 2 i4) (E i4 0) (E i4 1) (E i4 2) (E i4 3) (E i4 4) (KF i4 0) (KF i4 1) (KF i4 2) (KF i4 3) (KF i4 4) t (h.2.1.2.1 i4 hi5)) rfl ⟨⟨Nat.le_of_ble_eq_true rfl, Nat.le_of_ble_eq_true rfl⟩, Nat.le_of_ble_eq_true rfl, Nat.le_of_ble_eq_true rfl⟩ rfl (Nat.le_of_ble_eq_true rfl) (by decide +kernel) ?_
            refine g_kV (fun G22 hG23 => ?_)
            have h24 : RX cy x ad b nt nf nc nn T (x_st E i4 1 t) Cu N KT KF KC G22 := by rw [hG23]; exact RXF_st h hi5
            refine g_seg [(75, .iload 5, 2), (77, .iconst 1, 1), (78, .iadd, 1)] 79 [(5, .int (nI (s_hangE E nf t))), (4, .ref (ad 1 i10)), (3, .ref (ad 2 i4)), (0, .ref x), (1, .int f), (2, .int t)] [.int ((nI (s_hangE E nf t)) + 1)] C (by decide +kernel) rfl ?_
            exact g_iretX (pc := 79) C R (⟨_, rfl, i4, i10, hi5, hn6, hi11, hn12, ⟨h19, c20, c21⟩, rfl, h24⟩) (Nat.le_of_ble_eq_true rfl) (Nat.le_of_ble_eq_true rfl) (by decide +kernel)
          · exact g_throw (pc := 60) (is := 118) (text := "the flyer can't mount, or the trapeze is broken or full") C R rfl ex_ISE (by decide +kernel) (⟨h, Or.inr (⟨rfl, i4, i10, hi5, hn6, hi11, hn12, fun h9 => c21 h9.2.2⟩)⟩) (Nat.le_of_ble_eq_true rfl) (Nat.le_of_ble_eq_true rfl) (Nat.le_of_ble_eq_true rfl) (Nat.le_of_ble_eq_true rfl) (by decide +kernel) (by decide +kernel) (by decide +kernel) (by decide +kernel) (by decide +kernel)
      · refine g_if_eq (pc := 43) (off := 17) 60 C (by decide +kernel) (by decide) (fun _ => ?_) (fun c9 => absurd (by decide) c9)
        exact g_throw (pc := 60) (is := 118) (text := "the flyer can't mount, or the trapeze is broken or full") C R rfl ex_ISE (by decide +kernel) (⟨h, Or.inr (⟨rfl, i4, i10, hi5, hn6, hi11, hn12, fun h9 => h19 h9.1⟩)⟩) (Nat.le_of_ble_eq_true rfl) (Nat.le_of_ble_eq_true rfl) (Nat.le_of_ble_eq_true rfl) (Nat.le_of_ble_eq_true rfl) (by decide +kernel) (by decide +kernel) (by decide +kernel) (by decide +kernel) (by decide +kernel)
    · refine g_seg [(11, .astore 4, 2), (13, .aload_n 3, 1)] 14 [(4, .null), (3, .ref (ad 2 i4)), (0, .ref x), (1, .int f), (2, .int t)] [.ref (ad 2 i4)] C (by decide +kernel) rfl ?_
      refine g_ifnull (pc := 14) (off := 8) C (by decide +kernel) ?_
      refine g_seg [(17, .aload 4, 2)] 19 [(4, .null), (3, .ref (ad 2 i4)), (0, .ref x), (1, .int f), (2, .int t)] [.null] C (by decide +kernel) rfl ?_
      refine g_ifnonnullN (pc := 19) (off := 13) C (by decide +kernel) ?_
      exact g_throw (pc := 22) (is := 108) (text := "no such flyer or trapeze") C R rfl ex_IOE (by decide +kernel) (⟨h, Or.inl ⟨rfl, Or.inr hn12⟩⟩) (Nat.le_of_ble_eq_true rfl) (Nat.le_of_ble_eq_true rfl) (Nat.le_of_ble_eq_true rfl) (Nat.le_of_ble_eq_true rfl) (by decide +kernel) (by decide +kernel) (by decide +kernel) (by decide +kernel) (by decide +kernel)
  · refine g_seg [(5, .astore_n 3, 1), (6, .aload_n 0, 1), (7, .iload_n 2, 1)] 8 [(3, .null), (0, .ref x), (1, .int f), (2, .int t)] [.int t, .ref x] C (by decide +kernel) rfl ?_
    refine g_callV (pc := 8) C mV_X4_trapezeNumbered q82 (h.1.1) rfl rfl (c_X4_trapezeNumbered l D cy h t) rfl ⟨⟨Nat.le_of_ble_eq_true rfl, Nat.le_of_ble_eq_true rfl⟩, Nat.le_of_ble_eq_true rfl, Nat.le_of_ble_eq_true rfl⟩ rfl (Nat.le_of_ble_eq_true rfl) (by decide +kernel) ?_
    refine g_kA (fun v27 G26 hp25 => ?_)
    obtain ⟨rfl, hp25⟩ := hp25
    rcases hp25 with ⟨i28, hi29, hn30, rfl⟩ | ⟨hn30, rfl⟩
    · refine g_seg [(11, .astore 4, 2), (13, .aload_n 3, 1)] 14 [(4, .ref (ad 1 i28)), (3, .null), (0, .ref x), (1, .int f), (2, .int t)] [.null] C (by decide +kernel) rfl ?_
      refine g_ifnullN (pc := 14) (off := 8) 22 C (by decide +kernel) (by decide) ?_
      exact g_throw (pc := 22) (is := 108) (text := "no such flyer or trapeze") C R rfl ex_IOE (by decide +kernel) (⟨h, Or.inl ⟨rfl, Or.inl hn6⟩⟩) (Nat.le_of_ble_eq_true rfl) (Nat.le_of_ble_eq_true rfl) (Nat.le_of_ble_eq_true rfl) (Nat.le_of_ble_eq_true rfl) (by decide +kernel) (by decide +kernel) (by decide +kernel) (by decide +kernel) (by decide +kernel)
    · refine g_seg [(11, .astore 4, 2), (13, .aload_n 3, 1)] 14 [(4, .null), (3, .null), (0, .ref x), (1, .int f), (2, .int t)] [.null] C (by decide +kernel) rfl ?_
      refine g_ifnullN (pc := 14) (off := 8) 22 C (by decide +kernel) (by decide) ?_
      exact g_throw (pc := 22) (is := 108) (text := "no such flyer or trapeze") C R rfl ex_IOE (by decide +kernel) (⟨h, Or.inl ⟨rfl, Or.inl hn6⟩⟩) (Nat.le_of_ble_eq_true rfl) (Nat.le_of_ble_eq_true rfl) (Nat.le_of_ble_eq_true rfl) (Nat.le_of_ble_eq_true rfl) (by decide +kernel) (by decide +kernel) (by decide +kernel) (by decide +kernel) (by decide +kernel)
set_option maxHeartbeats 4000000 in
set_option maxRecDepth 100000 in
theorem c_X4_trapeze (l : Launch) (D : va_G) (cy : Nat → ClassId) {G : GG} {x : Nat} {ad : Nat → Nat → Nat} {b : Int32} {nt nf nc nn : Nat} {T E Cu N KT KF KC : Rw} (h : RX cy x ad b nt nf nc nn T E Cu N KT KF KC G) (hwok : s_wok T nt) (t w : Int32) : CtrX l D cy yX4_trapeze prog_1_method_9_code 4 (some .int) kX4_trapeze [.ref x, .int t, .int w] G (pI (fun v G' => ∃ i, i < nt ∧ t = nI i ∧ (0 ≤ w ∧ w ≤ 7) ∧ v = s_toldX T E nf b i w ∧ RX cy x ad b nt nf nc nn T E Cu N KT KF KC G')) (fun e G' => RX cy x ad b nt nf nc nn T E Cu N KT KF KC G' ∧ ((e = "java/lang/IndexOutOfBoundsException" ∧ ((∀ i, i < nt → t ≠ nI i) ∨ ¬ (0 ≤ w ∧ w ≤ 7))))) := by
  refine CtrX.mk (by decide +kernel) (Nat.le_of_ble_eq_true rfl) ?_
  intro κ C R
  refine g_pc (pc' := 0) rfl ?_
  refine g_seg [(0, .aload_n 0, 1), (1, .iload_n 1, 1)] 2 [(0, .ref x), (1, .int t), (2, .int w)] [.int t, .ref x] C (by decide +kernel) rfl ?_
  refine g_callV (pc := 2) C mV_X4_trapezeNumbered q82 (h.1.1) rfl rfl (c_X4_trapezeNumbered l D cy h t) rfl ⟨⟨Nat.le_of_ble_eq_true rfl, Nat.le_of_ble_eq_true rfl⟩, Nat.le_of_ble_eq_true rfl, Nat.le_of_ble_eq_true rfl⟩ rfl (Nat.le_of_ble_eq_true rfl) (by decide +kernel) ?_
  refine g_kA (fun v3 G2 hp1 => ?_)
  obtain ⟨rfl, hp1⟩ := hp1
  rcases hp1 with ⟨i4, hi5, hn6, rfl⟩ | ⟨hn6, rfl⟩
  · refine g_seg [(5, .astore_n 3, 1), (6, .aload_n 3, 1)] 7 [(3, .ref (ad 1 i4)), (0, .ref x), (1, .int t), (2, .int w)] [.ref (ad 1 i4)] C (by decide +kernel) rfl ?_
    refine g_ifnull (pc := 7) (off := 13) C (by decide +kernel) ?_
    refine g_seg [(10, .iload_n 2, 1), (11, .iconst 0, 1), (12, .bipush 7, 2)] 14 [(3, .ref (ad 1 i4)), (0, .ref x), (1, .int t), (2, .int w)] [.int 7, .int 0, .int w] C (by decide +kernel) rfl ?_
    refine g_callS (pc := 14) C mS_X4_isWithin q86 (c_X4_isWithin l D cy G2 w 0 7) rfl ⟨⟨Nat.le_of_ble_eq_true rfl, Nat.le_of_ble_eq_true rfl⟩, Nat.le_of_ble_eq_true rfl, Nat.le_of_ble_eq_true rfl⟩ rfl (Nat.le_of_ble_eq_true rfl) (by decide +kernel) ?_
    refine g_kI (fun v9 G8 hp7 => ?_)
    obtain ⟨rfl, hp7⟩ := hp7
    rcases hp7 with ⟨rfl, h10⟩ | ⟨rfl, h10⟩
    · refine g_if_ne (pc := 17) (off := 13) 30 C (by decide +kernel) (by decide) (fun _ => ?_) (fun c9 => absurd c9 (by decide))
      refine g_seg [(30, .aload_n 0, 1), (31, .aload_n 3, 1), (32, .iload_n 1, 1), (33, .iload_n 2, 1)] 34 [(3, .ref (ad 1 i4)), (0, .ref x), (1, .int t), (2, .int w)] [.int w, .int t, .ref (ad 1 i4), .ref x] C (by decide +kernel) rfl ?_
      refine g_callV (pc := 34) C mV_X4_ofTrapeze q157 (h.1.1) rfl rfl (c_X4_ofTrapeze l D cy h i4 hi5 hwok t w hn6) rfl ⟨⟨Nat.le_of_ble_eq_true rfl, Nat.le_of_ble_eq_true rfl⟩, Nat.le_of_ble_eq_true rfl, Nat.le_of_ble_eq_true rfl⟩ rfl (Nat.le_of_ble_eq_true rfl) (by decide +kernel) ?_
      refine g_kI (fun v13 G12 hp11 => ?_)
      obtain ⟨rfl, rfl⟩ := hp11
      exact g_iretX (pc := 37) C R (⟨_, rfl, i4, hi5, hn6, h10, rfl, h⟩) (Nat.le_of_ble_eq_true rfl) (Nat.le_of_ble_eq_true rfl) (by decide +kernel)
    · refine g_if_ne (pc := 17) (off := 13) 30 C (by decide +kernel) (by decide) (fun c9 => absurd (by decide) c9) (fun _ => ?_)
      exact g_throw (pc := 20) (is := 136) (text := "no such trapeze, or what is not 0 to 7") C R rfl ex_IOE (by decide +kernel) (⟨h, rfl, Or.inr h10⟩) (Nat.le_of_ble_eq_true rfl) (Nat.le_of_ble_eq_true rfl) (Nat.le_of_ble_eq_true rfl) (Nat.le_of_ble_eq_true rfl) (by decide +kernel) (by decide +kernel) (by decide +kernel) (by decide +kernel) (by decide +kernel)
  · refine g_seg [(5, .astore_n 3, 1), (6, .aload_n 3, 1)] 7 [(3, .null), (0, .ref x), (1, .int t), (2, .int w)] [.null] C (by decide +kernel) rfl ?_
    refine g_ifnullN (pc := 7) (off := 13) 20 C (by decide +kernel) (by decide) ?_
    exact g_throw (pc := 20) (is := 136) (text := "no such trapeze, or what is not 0 to 7") C R rfl ex_IOE (by decide +kernel) (⟨h, rfl, Or.inl hn6⟩) (Nat.le_of_ble_eq_true rfl) (Nat.le_of_ble_eq_true rfl) (Nat.le_of_ble_eq_true rfl) (Nat.le_of_ble_eq_true rfl) (by decide +kernel) (by decide +kernel) (by decide +kernel) (by decide +kernel) (by decide +kernel)
set_option maxHeartbeats 4000000 in
set_option maxRecDepth 100000 in
theorem c_X4_flyer (l : Launch) (D : va_G) (cy : Nat → ClassId) {G : GG} {x : Nat} {ad : Nat → Nat → Nat} {b : Int32} {nt nf nc nn : Nat} {T E Cu N KT KF KC : Rw} (h : RX cy x ad b nt nf nc nn T E Cu N KT KF KC G) (t w : Int32) : CtrX l D cy yX4_flyer prog_1_method_10_code 4 (some .int) kX4_flyer [.ref x, .int t, .int w] G (pI (fun v G' => ∃ i, i < nf ∧ t = nI i ∧ (0 ≤ w ∧ w ≤ 4) ∧ v = s_toldFX E b i w ∧ RX cy x ad b nt nf nc nn T E Cu N KT KF KC G')) (fun e G' => RX cy x ad b nt nf nc nn T E Cu N KT KF KC G' ∧ ((e = "java/lang/IndexOutOfBoundsException" ∧ ((∀ i, i < nf → t ≠ nI i) ∨ ¬ (0 ≤ w ∧ w ≤ 4))))) := by
  refine CtrX.mk (by decide +kernel) (Nat.le_of_ble_eq_true rfl) ?_
  intro κ C R
  refine g_pc (pc' := 0) rfl ?_
  refine g_seg [(0, .aload_n 0, 1), (1, .iload_n 1, 1)] 2 [(0, .ref x), (1, .int t), (2, .int w)] [.int t, .ref x] C (by decide +kernel) rfl ?_
  refine g_callV (pc := 2) C mV_X4_flyerNumbered q187 (h.1.1) rfl rfl (c_X4_flyerNumbered l D cy h t) rfl ⟨⟨Nat.le_of_ble_eq_true rfl, Nat.le_of_ble_eq_true rfl⟩, Nat.le_of_ble_eq_true rfl, Nat.le_of_ble_eq_true rfl⟩ rfl (Nat.le_of_ble_eq_true rfl) (by decide +kernel) ?_
  refine g_kA (fun v3 G2 hp1 => ?_)
  obtain ⟨rfl, hp1⟩ := hp1
  rcases hp1 with ⟨i4, hi5, hn6, rfl⟩ | ⟨hn6, rfl⟩
  · refine g_seg [(5, .astore_n 3, 1), (6, .aload_n 3, 1)] 7 [(3, .ref (ad 2 i4)), (0, .ref x), (1, .int t), (2, .int w)] [.ref (ad 2 i4)] C (by decide +kernel) rfl ?_
    refine g_ifnull (pc := 7) (off := 12) C (by decide +kernel) ?_
    refine g_seg [(10, .iload_n 2, 1), (11, .iconst 0, 1), (12, .iconst 4, 1)] 13 [(3, .ref (ad 2 i4)), (0, .ref x), (1, .int t), (2, .int w)] [.int 4, .int 0, .int w] C (by decide +kernel) rfl ?_
    refine g_callS (pc := 13) C mS_X4_isWithin q86 (c_X4_isWithin l D cy G2 w 0 4) rfl ⟨⟨Nat.le_of_ble_eq_true rfl, Nat.le_of_ble_eq_true rfl⟩, Nat.le_of_ble_eq_true rfl, Nat.le_of_ble_eq_true rfl⟩ rfl (Nat.le_of_ble_eq_true rfl) (by decide +kernel) ?_
    refine g_kI (fun v9 G8 hp7 => ?_)
    obtain ⟨rfl, hp7⟩ := hp7
    rcases hp7 with ⟨rfl, h10⟩ | ⟨rfl, h10⟩
    · refine g_if_ne (pc := 16) (off := 13) 29 C (by decide +kernel) (by decide) (fun _ => ?_) (fun c9 => absurd c9 (by decide))
      refine g_seg [(29, .aload_n 0, 1), (30, .aload_n 3, 1), (31, .iload_n 2, 1)] 32 [(3, .ref (ad 2 i4)), (0, .ref x), (1, .int t), (2, .int w)] [.int w, .ref (ad 2 i4), .ref x] C (by decide +kernel) rfl ?_
      refine g_callV (pc := 32) C mV_X4_ofFlyer q192 (h.1.1) rfl rfl (c_X4_ofFlyer l D cy h i4 hi5 w) rfl ⟨⟨Nat.le_of_ble_eq_true rfl, Nat.le_of_ble_eq_true rfl⟩, Nat.le_of_ble_eq_true rfl, Nat.le_of_ble_eq_true rfl⟩ rfl (Nat.le_of_ble_eq_true rfl) (by decide +kernel) ?_
      refine g_kI (fun v13 G12 hp11 => ?_)
      obtain ⟨rfl, rfl⟩ := hp11
      exact g_iretX (pc := 35) C R (⟨_, rfl, i4, hi5, hn6, h10, rfl, h⟩) (Nat.le_of_ble_eq_true rfl) (Nat.le_of_ble_eq_true rfl) (by decide +kernel)
    · refine g_if_ne (pc := 16) (off := 13) 29 C (by decide +kernel) (by decide) (fun c9 => absurd (by decide) c9) (fun _ => ?_)
      exact g_throw (pc := 19) (is := 142) (text := "no such flyer, or what is not 0 to 4") C R rfl ex_IOE (by decide +kernel) (⟨h, rfl, Or.inr h10⟩) (Nat.le_of_ble_eq_true rfl) (Nat.le_of_ble_eq_true rfl) (Nat.le_of_ble_eq_true rfl) (Nat.le_of_ble_eq_true rfl) (by decide +kernel) (by decide +kernel) (by decide +kernel) (by decide +kernel) (by decide +kernel)
  · refine g_seg [(5, .astore_n 3, 1), (6, .aload_n 3, 1)] 7 [(3, .null), (0, .ref x), (1, .int t), (2, .int w)] [.null] C (by decide +kernel) rfl ?_
    refine g_ifnullN (pc := 7) (off := 12) 19 C (by decide +kernel) (by decide) ?_
    exact g_throw (pc := 19) (is := 142) (text := "no such flyer, or what is not 0 to 4") C R rfl ex_IOE (by decide +kernel) (⟨h, rfl, Or.inl hn6⟩) (Nat.le_of_ble_eq_true rfl) (Nat.le_of_ble_eq_true rfl) (Nat.le_of_ble_eq_true rfl) (Nat.le_of_ble_eq_true rfl) (by decide +kernel) (by decide +kernel) (by decide +kernel) (by decide +kernel) (by decide +kernel)
set_option maxHeartbeats 4000000 in
set_option maxRecDepth 100000 in
theorem c_X4_called (l : Launch) (D : va_G) (cy : Nat → ClassId) {G : GG} {x : Nat} {ad : Nat → Nat → Nat} {b : Int32} {nt nf nc nn : Nat} {T E Cu N KT KF KC : Rw} (h : RX cy x ad b nt nf nc nn T E Cu N KT KF KC G) (t w : Int32) : CtrX l D cy yX4_called prog_1_method_11_code 4 (some .int) kX4_called [.ref x, .int t, .int w] G (pI (fun v G' => ∃ i, i < nc ∧ t = nI i ∧ (0 ≤ w ∧ w ≤ 4) ∧ v = s_toldC Cu i w ∧ RX cy x ad b nt nf nc nn T E Cu N KT KF KC G')) (fun e G' => RX cy x ad b nt nf nc nn T E Cu N KT KF KC G' ∧ ((e = "java/lang/IndexOutOfBoundsException" ∧ ((∀ i, i < nc → t ≠ nI i) ∨ ¬ (0 ≤ w ∧ w ≤ 4))))) := by
  refine CtrX.mk (by decide +kernel) (Nat.le_of_ble_eq_true rfl) ?_
  intro κ C R
  refine g_pc (pc' := 0) rfl ?_
  refine g_seg [(0, .iload_n 1, 1), (1, .iconst 0, 1), (2, .aload_n 0, 1)] 3 [(0, .ref x), (1, .int t), (2, .int w)] [.ref x, .int 0, .int t] C (by decide +kernel) rfl ?_
  refine g_getf (pc := 3) (k := 2) (v := .ref (ad 0 2)) C fl_X4_23 (h.1.1) rfl (by decide +kernel) ?_
  refine g_alenA (pc := 6) (len := 20) (t0 := 3) C (h.1.2.2.2.1) rfl (by decide +kernel) ?_
  refine g_seg [(7, .iconst 1, 1), (8, .isub, 1)] 9 [(0, .ref x), (1, .int t), (2, .int w)] [.int ((nI 20) - 1), .int 0, .int t] C (by decide +kernel) rfl ?_
  refine g_callS (pc := 9) C mS_X4_isWithin q86 (c_X4_isWithin l D cy G t 0 ((nI 20) - 1)) rfl ⟨⟨Nat.le_of_ble_eq_true rfl, Nat.le_of_ble_eq_true rfl⟩, Nat.le_of_ble_eq_true rfl, Nat.le_of_ble_eq_true rfl⟩ rfl (Nat.le_of_ble_eq_true rfl) (by decide +kernel) ?_
  refine g_kI (fun v3 G2 hp1 => ?_)
  obtain ⟨rfl, hp1⟩ := hp1
  rcases hp1 with ⟨rfl, h4⟩ | ⟨rfl, h4⟩
  · refine g_if_eq (pc := 12) (off := 12) 24 C (by decide +kernel) (by decide) (fun c9 => absurd c9 (by decide)) (fun _ => ?_)
    refine g_seg [(15, .aload_n 0, 1)] 16 [(0, .ref x), (1, .int t), (2, .int w)] [.ref x] C (by decide +kernel) rfl ?_
    refine g_getf (pc := 16) (k := 2) (v := .ref (ad 0 2)) C fl_X4_23 (h.1.1) rfl (by decide +kernel) ?_
    refine g_seg [(19, .iload_n 1, 1)] 20 [(0, .ref x), (1, .int t), (2, .int w)] [.int t, .ref (ad 0 2)] C (by decide +kernel) rfl ?_
    obtain ⟨j, hj, hn⟩ := in_ix (by decide) (by decide) h4
    refine g_aaldA (pc := 20) (len := 20) (t0 := 3) (j := j) C (h.1.2.2.2.1) rfl (hn) (hj) (by decide) (by decide +kernel) (fun hi5 => ?_) (fun hi5 => ?_)
    · refine g_seg [(21, .goto 4, 3), (25, .astore_n 3, 1), (26, .aload_n 3, 1)] 27 [(3, .ref (ad 3 j)), (0, .ref x), (1, .int t), (2, .int w)] [.ref (ad 3 j)] C (by decide +kernel) rfl ?_
      refine g_ifnull (pc := 27) (off := 12) C (by decide +kernel) ?_
      refine g_seg [(30, .iload_n 2, 1), (31, .iconst 0, 1), (32, .iconst 4, 1)] 33 [(3, .ref (ad 3 j)), (0, .ref x), (1, .int t), (2, .int w)] [.int 4, .int 0, .int w] C (by decide +kernel) rfl ?_
      refine g_callS (pc := 33) C mS_X4_isWithin q86 (c_X4_isWithin l D cy G2 w 0 4) rfl ⟨⟨Nat.le_of_ble_eq_true rfl, Nat.le_of_ble_eq_true rfl⟩, Nat.le_of_ble_eq_true rfl, Nat.le_of_ble_eq_true rfl⟩ rfl (Nat.le_of_ble_eq_true rfl) (by decide +kernel) ?_
      refine g_kI (fun v8 G7 hp6 => ?_)
      obtain ⟨rfl, hp6⟩ := hp6
      rcases hp6 with ⟨rfl, h9⟩ | ⟨rfl, h9⟩
      · refine g_if_ne (pc := 36) (off := 13) 49 C (by decide +kernel) (by decide) (fun _ => ?_) (fun c9 => absurd c9 (by decide))
        refine g_seg [(49, .aload_n 3, 1), (50, .iload_n 2, 1)] 51 [(3, .ref (ad 3 j)), (0, .ref x), (1, .int t), (2, .int w)] [.int w, .ref (ad 3 j)] C (by decide +kernel) rfl ?_
        refine g_callS (pc := 51) C mS_X4_ofCue q201 (c_X4_ofCue l D cy h j hi5 w) rfl ⟨⟨Nat.le_of_ble_eq_true rfl, Nat.le_of_ble_eq_true rfl⟩, Nat.le_of_ble_eq_true rfl, Nat.le_of_ble_eq_true rfl⟩ rfl (Nat.le_of_ble_eq_true rfl) (by decide +kernel) ?_
        refine g_kI (fun v12 G11 hp10 => ?_)
        obtain ⟨rfl, rfl⟩ := hp10
        exact g_iretX (pc := 54) C R (⟨_, rfl, j, hi5, hn, h9, rfl, h⟩) (Nat.le_of_ble_eq_true rfl) (Nat.le_of_ble_eq_true rfl) (by decide +kernel)
      · refine g_if_ne (pc := 36) (off := 13) 49 C (by decide +kernel) (by decide) (fun c9 => absurd (by decide) c9) (fun _ => ?_)
        exact g_throw (pc := 39) (is := 148) (text := "no such cue, or what is not 0 to 4") C R rfl ex_IOE (by decide +kernel) (⟨h, rfl, Or.inr h9⟩) (Nat.le_of_ble_eq_true rfl) (Nat.le_of_ble_eq_true rfl) (Nat.le_of_ble_eq_true rfl) (Nat.le_of_ble_eq_true rfl) (by decide +kernel) (by decide +kernel) (by decide +kernel) (by decide +kernel) (by decide +kernel)
    · refine g_seg [(21, .goto 4, 3), (25, .astore_n 3, 1), (26, .aload_n 3, 1)] 27 [(3, .null), (0, .ref x), (1, .int t), (2, .int w)] [.null] C (by decide +kernel) rfl ?_
      refine g_ifnullN (pc := 27) (off := 12) 39 C (by decide +kernel) (by decide) ?_
      exact g_throw (pc := 39) (is := 148) (text := "no such cue, or what is not 0 to 4") C R rfl ex_IOE (by decide +kernel) (⟨h, rfl, Or.inl (nix2 hn (by omega) hi5 (by have := h.2.2.2.2.2.1; omega))⟩) (Nat.le_of_ble_eq_true rfl) (Nat.le_of_ble_eq_true rfl) (Nat.le_of_ble_eq_true rfl) (Nat.le_of_ble_eq_true rfl) (by decide +kernel) (by decide +kernel) (by decide +kernel) (by decide +kernel) (by decide +kernel)
  · refine g_if_eq (pc := 12) (off := 12) 24 C (by decide +kernel) (by decide) (fun _ => ?_) (fun c9 => absurd (by decide) c9)
    refine g_seg [(24, .aconst_null, 1), (25, .astore_n 3, 1), (26, .aload_n 3, 1)] 27 [(3, .null), (0, .ref x), (1, .int t), (2, .int w)] [.null] C (by decide +kernel) rfl ?_
    refine g_ifnullN (pc := 27) (off := 12) 39 C (by decide +kernel) (by decide) ?_
    exact g_throw (pc := 39) (is := 148) (text := "no such cue, or what is not 0 to 4") C R rfl ex_IOE (by decide +kernel) (⟨h, rfl, Or.inl (fun i hi => in_nix (by decide) (by decide) h4 i (by have := h.2.2.2.2.2.1; omega))⟩) (Nat.le_of_ble_eq_true rfl) (Nat.le_of_ble_eq_true rfl) (Nat.le_of_ble_eq_true rfl) (Nat.le_of_ble_eq_true rfl) (by decide +kernel) (by decide +kernel) (by decide +kernel) (by decide +kernel) (by decide +kernel)
set_option maxHeartbeats 4000000 in
set_option maxRecDepth 100000 in
theorem c_X4_count (l : Launch) (D : va_G) (cy : Nat → ClassId) {G : GG} {x : Nat} {ad : Nat → Nat → Nat} {b : Int32} {nt nf nc nn : Nat} {T E Cu N KT KF KC : Rw} (h : RX cy x ad b nt nf nc nn T E Cu N KT KF KC G) (w : Int32) : CtrX l D cy yX4_count prog_1_method_12_code 2 (some .int) kX4_count [.ref x, .int w] G (pI (fun v G' => (0 ≤ w ∧ w ≤ 8) ∧ v = s_countX b nt nf nc T E Cu w ∧ RX cy x ad b nt nf nc nn T E Cu N KT KF KC G')) (fun e G' => RX cy x ad b nt nf nc nn T E Cu N KT KF KC G' ∧ ((e = "java/lang/IndexOutOfBoundsException" ∧ ¬ (0 ≤ w ∧ w ≤ 8)))) := by
  refine CtrX.mk (by decide +kernel) (Nat.le_of_ble_eq_true rfl) ?_
  intro κ C R
  refine g_pc (pc' := 0) rfl ?_
  refine g_seg [(0, .iload_n 1, 1), (1, .iconst 0, 1), (2, .bipush 8, 2)] 4 [(0, .ref x), (1, .int w)] [.int 8, .int 0, .int w] C (by decide +kernel) rfl ?_
  refine g_callS (pc := 4) C mS_X4_isWithin q86 (c_X4_isWithin l D cy G w 0 8) rfl ⟨⟨Nat.le_of_ble_eq_true rfl, Nat.le_of_ble_eq_true rfl⟩, Nat.le_of_ble_eq_true rfl, Nat.le_of_ble_eq_true rfl⟩ rfl (Nat.le_of_ble_eq_true rfl) (by decide +kernel) ?_
  refine g_kI (fun v3 G2 hp1 => ?_)
  obtain ⟨rfl, hp1⟩ := hp1
  rcases hp1 with ⟨rfl, h4⟩ | ⟨rfl, h4⟩
  · refine g_if_ne (pc := 7) (off := 13) 20 C (by decide +kernel) (by decide) (fun _ => ?_) (fun c9 => absurd c9 (by decide))
    refine g_seg [(20, .aload_n 0, 1), (21, .iload_n 1, 1)] 22 [(0, .ref x), (1, .int w)] [.int w, .ref x] C (by decide +kernel) rfl ?_
    refine g_callV (pc := 22) C mV_X4_tally q209 (h.1.1) rfl rfl (c_X4_tally l D cy h w) rfl ⟨⟨Nat.le_of_ble_eq_true rfl, Nat.le_of_ble_eq_true rfl⟩, Nat.le_of_ble_eq_true rfl, Nat.le_of_ble_eq_true rfl⟩ rfl (Nat.le_of_ble_eq_true rfl) (by decide +kernel) ?_
    refine g_kI (fun v7 G6 hp5 => ?_)
    obtain ⟨rfl, rfl⟩ := hp5
    exact g_iretX (pc := 25) C R (⟨_, rfl, h4, rfl, h⟩) (Nat.le_of_ble_eq_true rfl) (Nat.le_of_ble_eq_true rfl) (by decide +kernel)
  · refine g_if_ne (pc := 7) (off := 13) 20 C (by decide +kernel) (by decide) (fun c9 => absurd (by decide) c9) (fun _ => ?_)
    exact g_throw (pc := 10) (is := 154) (text := "what is not 0 to 8") C R rfl ex_IOE (by decide +kernel) (⟨h, rfl, h4⟩) (Nat.le_of_ble_eq_true rfl) (Nat.le_of_ble_eq_true rfl) (Nat.le_of_ble_eq_true rfl) (Nat.le_of_ble_eq_true rfl) (by decide +kernel) (by decide +kernel) (by decide +kernel) (by decide +kernel) (by decide +kernel)
set_option maxHeartbeats 4000000 in
set_option maxRecDepth 100000 in
theorem c_X4_place (l : Launch) (D : va_G) (cy : Nat → ClassId) {G : GG} {x : Nat} {ad : Nat → Nat → Nat} {b : Int32} {nt nf nc nn : Nat} {T E Cu N KT KF KC : Rw} (h : RX cy x ad b nt nf nc nn T E Cu N KT KF KC G) (hwok : s_wok T nt) (t n : Int32) : CtrX l D cy yX4_place prog_1_method_13_code 4 (some .int) kX4_place [.ref x, .int t, .int n] G (pI (fun v G' => ∃ i, i < nt ∧ t = nI i ∧ (0 ≤ n ∧ n ≤ 500) ∧ v = s_at T i (b + n) ∧ RX cy x ad b nt nf nc nn T E Cu N KT KF KC G')) (fun e G' => RX cy x ad b nt nf nc nn T E Cu N KT KF KC G' ∧ ((e = "java/lang/IndexOutOfBoundsException" ∧ (∀ i, i < nt → t ≠ nI i)) ∨ (e = "java/lang/IllegalArgumentException" ∧ (∃ i, i < nt ∧ t = nI i) ∧ ¬ (0 ≤ n ∧ n ≤ 500)))) := by
  refine CtrX.mk (by decide +kernel) (Nat.le_of_ble_eq_true rfl) ?_
  intro κ C R
  refine g_pc (pc' := 0) rfl ?_
  refine g_seg [(0, .aload_n 0, 1), (1, .iload_n 1, 1)] 2 [(0, .ref x), (1, .int t), (2, .int n)] [.int t, .ref x] C (by decide +kernel) rfl ?_
  refine g_callV (pc := 2) C mV_X4_trapezeNumbered q82 (h.1.1) rfl rfl (c_X4_trapezeNumbered l D cy h t) rfl ⟨⟨Nat.le_of_ble_eq_true rfl, Nat.le_of_ble_eq_true rfl⟩, Nat.le_of_ble_eq_true rfl, Nat.le_of_ble_eq_true rfl⟩ rfl (Nat.le_of_ble_eq_true rfl) (by decide +kernel) ?_
  refine g_kA (fun v3 G2 hp1 => ?_)
  obtain ⟨rfl, hp1⟩ := hp1
  rcases hp1 with ⟨i4, hi5, hn6, rfl⟩ | ⟨hn6, rfl⟩
  · refine g_seg [(5, .astore_n 3, 1), (6, .aload_n 3, 1)] 7 [(3, .ref (ad 1 i4)), (0, .ref x), (1, .int t), (2, .int n)] [.ref (ad 1 i4)] C (by decide +kernel) rfl ?_
    refine g_ifnonnull (pc := 7) (off := 13) 20 C (by decide +kernel) (by decide) ?_
    refine g_seg [(20, .iload_n 2, 1), (21, .iconst 0, 1), (22, .sipush 500, 3)] 25 [(3, .ref (ad 1 i4)), (0, .ref x), (1, .int t), (2, .int n)] [.int 500, .int 0, .int n] C (by decide +kernel) rfl ?_
    refine g_callS (pc := 25) C mS_X4_isWithin q86 (c_X4_isWithin l D cy G2 n 0 500) rfl ⟨⟨Nat.le_of_ble_eq_true rfl, Nat.le_of_ble_eq_true rfl⟩, Nat.le_of_ble_eq_true rfl, Nat.le_of_ble_eq_true rfl⟩ rfl (Nat.le_of_ble_eq_true rfl) (by decide +kernel) ?_
    refine g_kI (fun v9 G8 hp7 => ?_)
    obtain ⟨rfl, hp7⟩ := hp7
    rcases hp7 with ⟨rfl, h10⟩ | ⟨rfl, h10⟩
    · refine g_if_ne (pc := 28) (off := 13) 41 C (by decide +kernel) (by decide) (fun _ => ?_) (fun c9 => absurd c9 (by decide))
      refine g_seg [(41, .aload_n 3, 1), (42, .aload_n 0, 1)] 43 [(3, .ref (ad 1 i4)), (0, .ref x), (1, .int t), (2, .int n)] [.ref x, .ref (ad 1 i4)] C (by decide +kernel) rfl ?_
      refine g_getf (pc := 43) (k := 8) (v := .int b) C fl_X4_53 (h.1.1) rfl (by decide +kernel) ?_
      refine g_seg [(46, .iload_n 2, 1), (47, .iadd, 1)] 48 [(3, .ref (ad 1 i4)), (0, .ref x), (1, .int t), (2, .int n)] [.int (b + n), .ref (ad 1 i4)] C (by decide +kernel) rfl ?_
      refine g_callV (pc := 48) C mV_X3_placeIn q161 (h.2.1.1 i4 hi5) rfl rfl (c_X3_placeIn l D cy G8 (ad 1 i4) (T i4 0) (T i4 1) (T i4 3) (T i4 2) (T i4 6) (T i4 4) (T i4 5) (KT i4 0) (KT i4 1) (h.2.1.1 i4 hi5) (b + n) (hwok i4 hi5)) rfl ⟨⟨Nat.le_of_ble_eq_true rfl, Nat.le_of_ble_eq_true rfl⟩, Nat.le_of_ble_eq_true rfl, Nat.le_of_ble_eq_true rfl⟩ rfl (Nat.le_of_ble_eq_true rfl) (by decide +kernel) ?_
      refine g_kI (fun v13 G12 hp11 => ?_)
      obtain ⟨rfl, rfl⟩ := hp11
      exact g_iretX (pc := 51) C R (⟨_, rfl, i4, hi5, hn6, h10, rfl, h⟩) (Nat.le_of_ble_eq_true rfl) (Nat.le_of_ble_eq_true rfl) (by decide +kernel)
    · refine g_if_ne (pc := 28) (off := 13) 41 C (by decide +kernel) (by decide) (fun c9 => absurd (by decide) c9) (fun _ => ?_)
      exact g_throw (pc := 31) (is := 159) (text := "beats is not 0 to 500") C R rfl ex_IAE (by decide +kernel) (⟨h, Or.inr (⟨rfl, ⟨i4, hi5, hn6⟩, h10⟩)⟩) (Nat.le_of_ble_eq_true rfl) (Nat.le_of_ble_eq_true rfl) (Nat.le_of_ble_eq_true rfl) (Nat.le_of_ble_eq_true rfl) (by decide +kernel) (by decide +kernel) (by decide +kernel) (by decide +kernel) (by decide +kernel)
  · refine g_seg [(5, .astore_n 3, 1), (6, .aload_n 3, 1)] 7 [(3, .null), (0, .ref x), (1, .int t), (2, .int n)] [.null] C (by decide +kernel) rfl ?_
    refine g_ifnonnullN (pc := 7) (off := 13) C (by decide +kernel) ?_
    exact g_throw (pc := 10) (is := 65) (text := "no such trapeze") C R rfl ex_IOE (by decide +kernel) (⟨h, Or.inl ⟨rfl, hn6⟩⟩) (Nat.le_of_ble_eq_true rfl) (Nat.le_of_ble_eq_true rfl) (Nat.le_of_ble_eq_true rfl) (Nat.le_of_ble_eq_true rfl) (by decide +kernel) (by decide +kernel) (by decide +kernel) (by decide +kernel) (by decide +kernel)

set_option maxHeartbeats 4000000 in
set_option maxRecDepth 100000 in
theorem c_X4_go (l : Launch) (D : va_G) (cy : Nat → ClassId) {G : GG} {x : Nat} {ad : Nat → Nat → Nat} {b : Int32} {nt nf nc nn : Nat} {T E Cu N KT KF KC : Rw} (h : RX cy x ad b nt nf nc nn T E Cu N KT KF KC G) (hwok : s_wok T nt) (n : Int32) : CtrX l D cy yX4_go prog_1_method_15_code 2 (some .int) kX4_go [.ref x, .int n] G (pI (fun v G' => ∃ k, (1 ≤ n ∧ n ≤ 200) ∧ k ≤ 200 ∧ n = nI k ∧ v = (x_beats N nn nt nf nc (b, T, E, Cu, 0) k).2.2.2.2 ∧ RX cy x ad (x_beats N nn nt nf nc (b, T, E, Cu, 0) k).1 nt nf nc nn (x_beats N nn nt nf nc (b, T, E, Cu, 0) k).2.1 (x_beats N nn nt nf nc (b, T, E, Cu, 0) k).2.2.1 (x_beats N nn nt nf nc (b, T, E, Cu, 0) k).2.2.2.1 N KT KF KC G')) (fun e G' => RX cy x ad b nt nf nc nn T E Cu N KT KF KC G' ∧ ((e = "java/lang/IllegalArgumentException" ∧ ¬ (1 ≤ n ∧ n ≤ 200)))) := by
  refine CtrX.mk (by decide +kernel) (Nat.le_of_ble_eq_true rfl) ?_
  intro κ C R
  refine g_pc (pc' := 0) rfl ?_
  refine g_seg [(0, .iload_n 1, 1), (1, .iconst 1, 1), (2, .sipush 200, 3)] 5 [(0, .ref x), (1, .int n)] [.int 200, .int 1, .int n] C (by decide +kernel) rfl ?_
  refine g_callS (pc := 5) C mS_X4_isWithin q86 (c_X4_isWithin l D cy G n 1 200) rfl ⟨⟨Nat.le_of_ble_eq_true rfl, Nat.le_of_ble_eq_true rfl⟩, Nat.le_of_ble_eq_true rfl, Nat.le_of_ble_eq_true rfl⟩ rfl (Nat.le_of_ble_eq_true rfl) (by decide +kernel) ?_
  refine g_kI (fun v3 G2 hp1 => ?_)
  obtain ⟨rfl, hp1⟩ := hp1
  rcases hp1 with ⟨rfl, h4⟩ | ⟨rfl, h4⟩
  · refine g_if_ne (pc := 8) (off := 13) 21 C (by decide +kernel) (by decide) (fun _ => ?_) (fun c9 => absurd c9 (by decide))
    refine g_seg [(21, .aload_n 0, 1), (22, .iload_n 1, 1)] 23 [(0, .ref x), (1, .int n)] [.int n, .ref x] C (by decide +kernel) rfl ?_
    obtain ⟨kb, hkb, hnb⟩ := in_200 h4
    refine g_callV (pc := 23) C mV_X4_passBeats q251 (h.1.1) rfl rfl (c_X4_passBeats l D cy h hwok kb n hnb hkb) rfl ⟨⟨Nat.le_of_ble_eq_true rfl, Nat.le_of_ble_eq_true rfl⟩, Nat.le_of_ble_eq_true rfl, Nat.le_of_ble_eq_true rfl⟩ rfl (Nat.le_of_ble_eq_true rfl) (by decide +kernel) ?_
    refine g_kI (fun v7 G5 hp6 => ?_)
    obtain ⟨rfl, h8⟩ := hp6
    exact g_iretX (pc := 26) C R (⟨_, rfl, kb, h4, hkb, hnb, rfl, h8⟩) (Nat.le_of_ble_eq_true rfl) (Nat.le_of_ble_eq_true rfl) (by decide +kernel)
  · refine g_if_ne (pc := 8) (off := 13) 21 C (by decide +kernel) (by decide) (fun c9 => absurd (by decide) c9) (fun _ => ?_)
    exact g_throw (pc := 11) (is := 168) (text := "beats is not 1 to 200") C R rfl ex_IAE (by decide +kernel) (⟨h, rfl, h4⟩) (Nat.le_of_ble_eq_true rfl) (Nat.le_of_ble_eq_true rfl) (Nat.le_of_ble_eq_true rfl) (Nat.le_of_ble_eq_true rfl) (by decide +kernel) (by decide +kernel) (by decide +kernel) (by decide +kernel) (by decide +kernel)
set_option maxHeartbeats 4000000 in
set_option maxRecDepth 100000 in
theorem c_X4_foresee (l : Launch) (D : va_G) (cy : Nat → ClassId) {G : GG} {x : Nat} {ad : Nat → Nat → Nat} {b : Int32} {nt nf nc nn : Nat} {T E Cu N KT KF KC : Rw} (h : RX cy x ad b nt nf nc nn T E Cu N KT KF KC G) (hwok : s_wok T nt) (hb5 : ∀ t, t < nt → T t 5 = 0 ∨ T t 5 = 1) (n w : Int32) : CtrX l D cy yX4_foresee prog_1_method_19_code 5 (some .int) kX4_foresee [.ref x, .int n, .int w] G (pI (fun v G' => ∃ k, (1 ≤ n ∧ n ≤ 200) ∧ (4 ≤ w ∧ w ≤ 8) ∧ k ≤ 200 ∧ n = nI k ∧ v = s_countX (x_beats N nn nt nf nc (b, T, E, Cu, 0) k).1 nt nf nc (x_beats N nn nt nf nc (b, T, E, Cu, 0) k).2.1 (x_beats N nn nt nf nc (b, T, E, Cu, 0) k).2.2.1 (x_beats N nn nt nf nc (b, T, E, Cu, 0) k).2.2.2.1 w ∧ ∃ KT' KF' KC', RX cy x ad b nt nf nc nn T E Cu N KT' KF' KC' G')) (fun e G' => RX cy x ad b nt nf nc nn T E Cu N KT KF KC G' ∧ ((e = "java/lang/IllegalArgumentException" ∧ ¬ (1 ≤ n ∧ n ≤ 200)) ∨ (e = "java/lang/IndexOutOfBoundsException" ∧ (1 ≤ n ∧ n ≤ 200) ∧ ¬ (4 ≤ w ∧ w ≤ 8)))) := by
  refine CtrX.mk (by decide +kernel) (Nat.le_of_ble_eq_true rfl) ?_
  intro κ C R
  refine g_pc (pc' := 0) rfl ?_
  refine g_seg [(0, .iload_n 1, 1), (1, .iconst 1, 1), (2, .sipush 200, 3)] 5 [(0, .ref x), (1, .int n), (2, .int w)] [.int 200, .int 1, .int n] C (by decide +kernel) rfl ?_
  refine g_callS (pc := 5) C mS_X4_isWithin q86 (c_X4_isWithin l D cy G n 1 200) rfl ⟨⟨Nat.le_of_ble_eq_true rfl, Nat.le_of_ble_eq_true rfl⟩, Nat.le_of_ble_eq_true rfl, Nat.le_of_ble_eq_true rfl⟩ rfl (Nat.le_of_ble_eq_true rfl) (by decide +kernel) ?_
  refine g_kI (fun v3 G2 hp1 => ?_)
  obtain ⟨rfl, hp1⟩ := hp1
  rcases hp1 with ⟨rfl, h4⟩ | ⟨rfl, h4⟩
  · refine g_if_ne (pc := 8) (off := 13) 21 C (by decide +kernel) (by decide) (fun _ => ?_) (fun c9 => absurd c9 (by decide))
    refine g_seg [(21, .iload_n 2, 1), (22, .iconst 4, 1), (23, .bipush 8, 2)] 25 [(0, .ref x), (1, .int n), (2, .int w)] [.int 8, .int 4, .int w] C (by decide +kernel) rfl ?_
    refine g_callS (pc := 25) C mS_X4_isWithin q86 (c_X4_isWithin l D cy G2 w 4 8) rfl ⟨⟨Nat.le_of_ble_eq_true rfl, Nat.le_of_ble_eq_true rfl⟩, Nat.le_of_ble_eq_true rfl, Nat.le_of_ble_eq_true rfl⟩ rfl (Nat.le_of_ble_eq_true rfl) (by decide +kernel) ?_
    refine g_kI (fun v7 G6 hp5 => ?_)
    obtain ⟨rfl, hp5⟩ := hp5
    rcases hp5 with ⟨rfl, h8⟩ | ⟨rfl, h8⟩
    · refine g_if_ne (pc := 28) (off := 13) 41 C (by decide +kernel) (by decide) (fun _ => ?_) (fun c9 => absurd c9 (by decide))
      refine g_seg [(41, .aload_n 0, 1)] 42 [(0, .ref x), (1, .int n), (2, .int w)] [.ref x] C (by decide +kernel) rfl ?_
      refine g_getf (pc := 42) (k := 8) (v := .int b) C fl_X4_53 (h.1.1) rfl (by decide +kernel) ?_
      refine g_seg [(45, .istore_n 3, 1), (46, .aload_n 0, 1)] 47 [(3, .int b), (0, .ref x), (1, .int n), (2, .int w)] [.ref x] C (by decide +kernel) rfl ?_
      refine g_callV (pc := 47) C mV_X4_keepAct q319 (h.1.1) rfl rfl (c_X4_keepAct l D cy h hb5) rfl ⟨⟨Nat.le_of_ble_eq_true rfl, Nat.le_of_ble_eq_true rfl⟩, Nat.le_of_ble_eq_true rfl, Nat.le_of_ble_eq_true rfl⟩ rfl (Nat.le_of_ble_eq_true rfl) (by decide +kernel) ?_
      refine g_kV (fun G9 h10 => ?_)
      refine g_seg [(50, .aload_n 0, 1), (51, .iload_n 1, 1)] 52 [(3, .int b), (0, .ref x), (1, .int n), (2, .int w)] [.int n, .ref x] C (by decide +kernel) rfl ?_
      obtain ⟨kb, hkb, hnb⟩ := in_200 h4
      refine g_callV (pc := 52) C mV_X4_passBeats q251 (h10.1.1) rfl rfl (c_X4_passBeats l D cy h10 hwok kb n hnb hkb) rfl ⟨⟨Nat.le_of_ble_eq_true rfl, Nat.le_of_ble_eq_true rfl⟩, Nat.le_of_ble_eq_true rfl, Nat.le_of_ble_eq_true rfl⟩ rfl (Nat.le_of_ble_eq_true rfl) (by decide +kernel) ?_
      refine g_kI (fun v13 G11 hp12 => ?_)
      obtain ⟨rfl, h14⟩ := hp12
      refine g_seg [(55, .pop, 1), (56, .aload_n 0, 1), (57, .iload_n 2, 1)] 58 [(3, .int b), (0, .ref x), (1, .int n), (2, .int w)] [.int w, .ref x] C (by decide +kernel) rfl ?_
      refine g_callV (pc := 58) C mV_X4_tally q209 (h14.1.1) rfl rfl (c_X4_tally l D cy h14 w) rfl ⟨⟨Nat.le_of_ble_eq_true rfl, Nat.le_of_ble_eq_true rfl⟩, Nat.le_of_ble_eq_true rfl, Nat.le_of_ble_eq_true rfl⟩ rfl (Nat.le_of_ble_eq_true rfl) (by decide +kernel) ?_
      refine g_kI (fun v17 G16 hp15 => ?_)
      obtain ⟨rfl, rfl⟩ := hp15
      refine g_seg [(61, .istore 4, 2), (63, .aload_n 0, 1)] 64 [(4, .int (s_countX ((x_beats N nn nt nf nc (b, T, E, Cu, 0) kb).1) nt nf nc ((x_beats N nn nt nf nc (b, T, E, Cu, 0) kb).2.1) ((x_beats N nn nt nf nc (b, T, E, Cu, 0) kb).2.2.1) ((x_beats N nn nt nf nc (b, T, E, Cu, 0) kb).2.2.2.1) w)), (3, .int b), (0, .ref x), (1, .int n), (2, .int w)] [.ref x] C (by decide +kernel) rfl ?_
      refine g_callV (pc := 64) C mV_X4_takeActBack q335 (h14.1.1) rfl rfl (c_X4_takeActBack l D cy h14 (fun t ht => by rw [mix_in ht]; exact hb5 t ht)) rfl ⟨⟨Nat.le_of_ble_eq_true rfl, Nat.le_of_ble_eq_true rfl⟩, Nat.le_of_ble_eq_true rfl, Nat.le_of_ble_eq_true rfl⟩ rfl (Nat.le_of_ble_eq_true rfl) (by decide +kernel) ?_
      refine g_kV (fun G18 h19 => ?_)
      refine g_seg [(67, .aload_n 0, 1), (68, .iload_n 3, 1)] 69 [(4, .int (s_countX ((x_beats N nn nt nf nc (b, T, E, Cu, 0) kb).1) nt nf nc ((x_beats N nn nt nf nc (b, T, E, Cu, 0) kb).2.1) ((x_beats N nn nt nf nc (b, T, E, Cu, 0) kb).2.2.1) ((x_beats N nn nt nf nc (b, T, E, Cu, 0) kb).2.2.2.1) w)), (3, .int b), (0, .ref x), (1, .int n), (2, .int w)] [.int b, .ref x] C (by decide +kernel) rfl ?_
      refine g_putf (pc := 69) (k := 8) (v := .int b) (ty := .int) C fl_X4_53 fp_X4_8 (h19.1.1) (rfl) (by first | rfl | decide) (Nat.le_of_ble_eq_true rfl) (by decide +kernel) ?_
      refine g_abs (P := fun G9 => RX cy x ad b nt nf nc nn (mixR (tT ((x_beats N nn nt nf nc (b, T, E, Cu, 0) kb).2.1) (mixR (kT T) KT nt)) ((x_beats N nn nt nf nc (b, T, E, Cu, 0) kb).2.1) nt) (mixR (mixR E KF nf) ((x_beats N nn nt nf nc (b, T, E, Cu, 0) kb).2.2.1) nf) (mixR (tC ((x_beats N nn nt nf nc (b, T, E, Cu, 0) kb).2.2.2.1) (mixR (kC Cu) KC nc)) ((x_beats N nn nt nf nc (b, T, E, Cu, 0) kb).2.2.2.1) nc) N (mixR (kT T) KT nt) (mixR E KF nf) (mixR (kC Cu) KC nc) G9) (RX.setB h19) (fun G20 h21 => ?_)
      refine g_seg [(72, .iload 4, 2)] 74 [(4, .int (s_countX ((x_beats N nn nt nf nc (b, T, E, Cu, 0) kb).1) nt nf nc ((x_beats N nn nt nf nc (b, T, E, Cu, 0) kb).2.1) ((x_beats N nn nt nf nc (b, T, E, Cu, 0) kb).2.2.1) ((x_beats N nn nt nf nc (b, T, E, Cu, 0) kb).2.2.2.1) w)), (3, .int b), (0, .ref x), (1, .int n), (2, .int w)] [.int (s_countX ((x_beats N nn nt nf nc (b, T, E, Cu, 0) kb).1) nt nf nc ((x_beats N nn nt nf nc (b, T, E, Cu, 0) kb).2.1) ((x_beats N nn nt nf nc (b, T, E, Cu, 0) kb).2.2.1) ((x_beats N nn nt nf nc (b, T, E, Cu, 0) kb).2.2.2.1) w)] C (by decide +kernel) rfl ?_
      exact g_iretX (pc := 74) C R (⟨_, rfl, kb, h4, h8, hkb, hnb, rfl, _, _, _, fore_ext (fun i k h4 h5 => xb_T h4 h5 kb) (fun i k h4 => xb_C h4 kb) h21⟩) (Nat.le_of_ble_eq_true rfl) (Nat.le_of_ble_eq_true rfl) (by decide +kernel)
    · refine g_if_ne (pc := 28) (off := 13) 41 C (by decide +kernel) (by decide) (fun c9 => absurd (by decide) c9) (fun _ => ?_)
      exact g_throw (pc := 31) (is := 186) (text := "what is not 4 to 8") C R rfl ex_IOE (by decide +kernel) (⟨h, Or.inr (⟨rfl, h4, h8⟩)⟩) (Nat.le_of_ble_eq_true rfl) (Nat.le_of_ble_eq_true rfl) (Nat.le_of_ble_eq_true rfl) (Nat.le_of_ble_eq_true rfl) (by decide +kernel) (by decide +kernel) (by decide +kernel) (by decide +kernel) (by decide +kernel)
  · refine g_if_ne (pc := 8) (off := 13) 21 C (by decide +kernel) (by decide) (fun c9 => absurd (by decide) c9) (fun _ => ?_)
    exact g_throw (pc := 11) (is := 168) (text := "beats is not 1 to 200") C R rfl ex_IAE (by decide +kernel) (⟨h, Or.inl ⟨rfl, h4⟩⟩) (Nat.le_of_ble_eq_true rfl) (Nat.le_of_ble_eq_true rfl) (Nat.le_of_ble_eq_true rfl) (Nat.le_of_ble_eq_true rfl) (by decide +kernel) (by decide +kernel) (by decide +kernel) (by decide +kernel) (by decide +kernel)
