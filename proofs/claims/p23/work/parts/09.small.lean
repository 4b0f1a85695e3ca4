/-! pure facts for the class's reads -/
theorem s_hmax {wt : Int32} (h : ∃ w, w ≤ 10 ∧ wt = nI w) : (if 2 < 2 + wt then 2 + wt else 2) = 2 + wt := by
  obtain ⟨w, hw, rfl⟩ := h
  have : ∀ w : Fin 11, (if (2 : Int32) < 2 + nI w.val then 2 + nI w.val else 2) = 2 + nI w.val := by decide
  exact this ⟨w, by omega⟩
theorem s_hne {wt : Int32} (h : ∃ w, w ≤ 10 ∧ wt = nI w) : ¬ 2 + wt = 0 := by
  obtain ⟨w, hw, rfl⟩ := h
  have : ∀ w : Fin 11, ¬ (2 : Int32) + nI w.val = 0 := by decide
  exact this ⟨w, by omega⟩
theorem s_hne2 {wt : Int32} (h : ∃ w, w ≤ 10 ∧ wt = nI w) : ¬ 2 * (2 + wt) = 0 := by
  obtain ⟨w, hw, rfl⟩ := h
  have : ∀ w : Fin 11, ¬ (2 : Int32) * (2 + nI w.val) = 0 := by decide
  exact this ⟨w, by omega⟩
theorem i_sub1 {k : Nat} (hk : 0 < k) (hk2 : k < 1000) : (nI k - 1).toInt = (k : Int) - 1 := by
  obtain ⟨j, rfl⟩ : ∃ j, k = j + 1 := ⟨k - 1, by omega⟩
  rw [nI_pred, nI_toInt (by omega)]; omega
theorem in_ix {n : Int32} {k : Nat} (hk : 0 < k) (hk2 : k < 1000) (h : 0 ≤ n ∧ n ≤ nI k - 1) : ∃ j, j < k ∧ n = nI j := by
  obtain ⟨h1, h2⟩ := h
  obtain ⟨j, hj, rfl⟩ := nI_of (x := n) (Int32.not_lt.mpr h1)
  rw [Int32.le_iff_toInt_le, i_sub1 hk hk2, nI_toInt hj] at h2
  exact ⟨j, by omega, rfl⟩
theorem in_nix {n : Int32} {k : Nat} (hk : 0 < k) (hk2 : k < 1000) (h : ¬ (0 ≤ n ∧ n ≤ nI k - 1)) : ∀ j, j < k → n ≠ nI j := by
  intro j hj e
  subst e
  refine h ⟨nI_pos' (by omega), ?_⟩
  rw [Int32.le_iff_toInt_le, i_sub1 hk hk2, nI_toInt (by omega)]; omega

set_option maxHeartbeats 4000000 in
set_option maxRecDepth 100000 in
theorem c_X4_isWithin (l : Launch) (D : va_G) (cy : Nat → ClassId) (G : GG) (n lo hi : Int32) : Ctr l D cy yX4_isWithin prog_1_method_22_code 3 (some .boolean) kX4_isWithin [.int n, .int lo, .int hi] G (pI (fun v G' => G' = G ∧ ((v = 1 ∧ (lo ≤ n ∧ n ≤ hi)) ∨ (v = 0 ∧ ¬ (lo ≤ n ∧ n ≤ hi))))) := by
  refine Ctr.mk (by decide +kernel) (Nat.le_of_ble_eq_true rfl) ?_
  intro κ C R
  refine g_pc (pc' := 0) rfl ?_
  refine g_seg [(0, .iload_n 0, 1), (1, .iload_n 1, 1)] 2 [(0, .int n), (1, .int lo), (2, .int hi)] [.int lo, .int n] C (by decide +kernel) rfl ?_
  refine g_icmp_lt (pc := 2) (off := 12) 14 C (by decide +kernel) (by decide) (fun c1 => ?_) (fun c1 => ?_)
  · refine g_seg [(14, .iconst 0, 1)] 15 [(0, .int n), (1, .int lo), (2, .int hi)] [.int 0] C (by decide +kernel) rfl ?_
    exact g_zret (pc := 15) C R (by first | rfl | decide) (⟨_, rfl, rfl, Or.inr ⟨rfl, fun h9 => by first | exact absurd h9.1 (Int32.not_le.mpr (by assumption)) | exact absurd h9.2 (Int32.not_le.mpr (by assumption))⟩⟩) (Nat.le_of_ble_eq_true rfl) (Nat.le_of_ble_eq_true rfl) (by decide +kernel)
  · refine g_seg [(5, .iload_n 0, 1), (6, .iload_n 2, 1)] 7 [(0, .int n), (1, .int lo), (2, .int hi)] [.int hi, .int n] C (by decide +kernel) rfl ?_
    refine g_icmp_gt (pc := 7) (off := 7) 14 C (by decide +kernel) (by decide) (fun c2 => ?_) (fun c2 => ?_)
    · refine g_seg [(14, .iconst 0, 1)] 15 [(0, .int n), (1, .int lo), (2, .int hi)] [.int 0] C (by decide +kernel) rfl ?_
      exact g_zret (pc := 15) C R (by first | rfl | decide) (⟨_, rfl, rfl, Or.inr ⟨rfl, fun h9 => by first | exact absurd h9.1 (Int32.not_le.mpr (by assumption)) | exact absurd h9.2 (Int32.not_le.mpr (by assumption))⟩⟩) (Nat.le_of_ble_eq_true rfl) (Nat.le_of_ble_eq_true rfl) (by decide +kernel)
    · refine g_seg [(10, .iconst 1, 1), (11, .goto 4, 3)] 15 [(0, .int n), (1, .int lo), (2, .int hi)] [.int 1] C (by decide +kernel) rfl ?_
      exact g_zret (pc := 15) C R (by first | rfl | decide) (⟨_, rfl, rfl, Or.inl ⟨rfl, Int32.not_lt.mp (by assumption), Int32.not_lt.mp (by assumption)⟩⟩) (Nat.le_of_ble_eq_true rfl) (Nat.le_of_ble_eq_true rfl) (by decide +kernel)
set_option maxHeartbeats 4000000 in
set_option maxRecDepth 100000 in
theorem c_X4_isNear (l : Launch) (D : va_G) (cy : Nat → ClassId) (G : GG) (p0 p1 : Int32) : Ctr l D cy yX4_isNear prog_1_method_23_code 2 (some .boolean) kX4_isNear [.int p0, .int p1] G (pI (fun v G' => G' = G ∧ ((v = 1 ∧ s_near p0 p1 = true) ∨ (v = 0 ∧ s_near p0 p1 = false)))) := by
  refine Ctr.mk (by decide +kernel) (Nat.le_of_ble_eq_true rfl) ?_
  intro κ C R
  refine g_pc (pc' := 0) rfl ?_
  refine g_seg [(0, .iload_n 0, 1), (1, .iload_n 1, 1), (2, .isub, 1), (3, .iconst 2, 1)] 4 [(0, .int p0), (1, .int p1)] [.int 2, .int (p0 - p1)] C (by decide +kernel) rfl ?_
  refine g_icmp_gt (pc := 4) (off := 14) 18 C (by decide +kernel) (by decide) (fun c1 => ?_) (fun c1 => ?_)
  · refine g_seg [(18, .iconst 0, 1)] 19 [(0, .int p0), (1, .int p1)] [.int 0] C (by decide +kernel) rfl ?_
    exact g_zret (pc := 19) C R (by first | rfl | decide) (⟨_, rfl, rfl, Or.inr ⟨rfl, by simp only [s_near, Bool.and_eq_false_iff, decide_eq_false_iff_not]; first | exact Or.inl (Int32.not_le.mpr (by assumption)) | exact Or.inr (Int32.not_le.mpr (by assumption))⟩⟩) (Nat.le_of_ble_eq_true rfl) (Nat.le_of_ble_eq_true rfl) (by decide +kernel)
  · refine g_seg [(7, .iload_n 1, 1), (8, .iload_n 0, 1), (9, .isub, 1), (10, .iconst 2, 1)] 11 [(0, .int p0), (1, .int p1)] [.int 2, .int (p1 - p0)] C (by decide +kernel) rfl ?_
    refine g_icmp_gt (pc := 11) (off := 7) 18 C (by decide +kernel) (by decide) (fun c2 => ?_) (fun c2 => ?_)
    · refine g_seg [(18, .iconst 0, 1)] 19 [(0, .int p0), (1, .int p1)] [.int 0] C (by decide +kernel) rfl ?_
      exact g_zret (pc := 19) C R (by first | rfl | decide) (⟨_, rfl, rfl, Or.inr ⟨rfl, by simp only [s_near, Bool.and_eq_false_iff, decide_eq_false_iff_not]; first | exact Or.inl (Int32.not_le.mpr (by assumption)) | exact Or.inr (Int32.not_le.mpr (by assumption))⟩⟩) (Nat.le_of_ble_eq_true rfl) (Nat.le_of_ble_eq_true rfl) (by decide +kernel)
    · refine g_seg [(14, .iconst 1, 1), (15, .goto 4, 3)] 19 [(0, .int p0), (1, .int p1)] [.int 1] C (by decide +kernel) rfl ?_
      exact g_zret (pc := 19) C R (by first | rfl | decide) (⟨_, rfl, rfl, Or.inl ⟨rfl, by simp only [s_near, Bool.and_eq_true, decide_eq_true_eq]; exact ⟨Int32.not_lt.mp (by assumption), Int32.not_lt.mp (by assumption)⟩⟩⟩) (Nat.le_of_ble_eq_true rfl) (Nat.le_of_ble_eq_true rfl) (by decide +kernel)
set_option maxHeartbeats 4000000 in
set_option maxRecDepth 100000 in
theorem c_X3_halfSwing (l : Launch) (D : va_G) (cy : Nat → ClassId) (G : GG) (wt : Int32) (hw : ∃ w, w ≤ 10 ∧ wt = nI w) : Ctr l D cy yX3_halfSwing prog_5_method_8_code 1 (some .int) kX3_halfSwing [.int wt] G (pI (fun v G' => G' = G ∧ v = 2 + wt)) := by
  refine Ctr.mk (by decide +kernel) (Nat.le_of_ble_eq_true rfl) ?_
  intro κ C R
  refine g_pc (pc' := 0) rfl ?_
  refine g_seg [(0, .iconst 2, 1), (1, .iconst 2, 1), (2, .iload_n 0, 1), (3, .iadd, 1)] 4 [(0, .int wt)] [.int (2 + wt), .int 2] C (by decide +kernel) rfl ?_
  refine g_mmax (pc := 4) C q172 q173 q31 q174 (Nat.le_of_ble_eq_true rfl) (Nat.le_of_ble_eq_true rfl) (Nat.le_of_ble_eq_true rfl) (Nat.le_of_ble_eq_true rfl) (by decide +kernel) ?_
  exact g_iret (pc := 7) C R (⟨_, rfl, rfl, s_hmax hw⟩) (Nat.le_of_ble_eq_true rfl) (Nat.le_of_ble_eq_true rfl) (by decide +kernel)
set_option maxHeartbeats 4000000 in
set_option maxRecDepth 100000 in
theorem c_X3_placeSinceLeftEnd (l : Launch) (D : va_G) (cy : Nat → ClassId) (G : GG) (a : Nat) (m wd sg wt lb wo wh kw kh : Int32) (ha : G a = some (.inr (3, [.int m, .int wd, .int sg, .int wt, .int lb, .int wo, .int wh, .int kw, .int kh]))) (p0 p1 : Int32) (hw : ∃ w, w ≤ 10 ∧ p1 = nI w) : Ctr l D cy yX3_placeSinceLeftEnd prog_5_method_7_code 5 (some .int) kX3_placeSinceLeftEnd [.ref a, .int p0, .int p1] G (pI (fun v G' => G' = G ∧ v = s_pl m wd p1 p0)) := by
  refine Ctr.mk (by decide +kernel) (Nat.le_of_ble_eq_true rfl) ?_
  intro κ C R
  refine g_pc (pc' := 0) rfl ?_
  refine g_seg [(0, .iload_n 2, 1)] 1 [(0, .ref a), (1, .int p0), (2, .int p1)] [.int p1] C (by decide +kernel) rfl ?_
  refine g_callS (pc := 1) C mS_X3_halfSwing q169 (c_X3_halfSwing l D cy G p1 (by first | exact hw | assumption)) rfl ⟨⟨Nat.le_of_ble_eq_true rfl, Nat.le_of_ble_eq_true rfl⟩, Nat.le_of_ble_eq_true rfl, Nat.le_of_ble_eq_true rfl⟩ rfl (Nat.le_of_ble_eq_true rfl) (by decide +kernel) ?_
  refine g_kI (fun v3 G2 hp1 => ?_)
  obtain ⟨rfl, rfl⟩ := hp1
  refine g_seg [(4, .istore_n 3, 1), (5, .iload_n 1, 1), (6, .iconst 2, 1), (7, .iload_n 3, 1), (8, .imul, 1)] 9 [(3, .int (2 + p1)), (0, .ref a), (1, .int p0), (2, .int p1)] [.int (2 * (2 + p1)), .int p0] C (by decide +kernel) rfl ?_
  refine g_irem (pc := 9) C (by decide +kernel) (s_hne2 hw) ?_
  refine g_seg [(10, .istore 4, 2), (12, .iload 4, 2), (14, .iload_n 3, 1)] 15 [(4, .int (p0 - p0 / (2 * (2 + p1)) * (2 * (2 + p1)))), (3, .int (2 + p1)), (0, .ref a), (1, .int p0), (2, .int p1)] [.int (2 + p1), .int (p0 - p0 / (2 * (2 + p1)) * (2 * (2 + p1)))] C (by decide +kernel) rfl ?_
  refine g_icmp_gt (pc := 15) (off := 27) 42 C (by decide +kernel) (by decide) (fun c4 => ?_) (fun c4 => ?_)
  · refine g_seg [(42, .aload_n 0, 1)] 43 [(4, .int (p0 - p0 / (2 * (2 + p1)) * (2 * (2 + p1)))), (3, .int (2 + p1)), (0, .ref a), (1, .int p0), (2, .int p1)] [.ref a] C (by decide +kernel) rfl ?_
    refine g_getf (pc := 43) (k := 0) (v := .int m) C fl_X3_7 (ha) rfl (by decide +kernel) ?_
    refine g_seg [(46, .aload_n 0, 1)] 47 [(4, .int (p0 - p0 / (2 * (2 + p1)) * (2 * (2 + p1)))), (3, .int (2 + p1)), (0, .ref a), (1, .int p0), (2, .int p1)] [.ref a, .int m] C (by decide +kernel) rfl ?_
    refine g_getf (pc := 47) (k := 1) (v := .int wd) C fl_X3_13 (ha) rfl (by decide +kernel) ?_
    refine g_seg [(50, .iadd, 1), (51, .iconst 2, 1), (52, .aload_n 0, 1)] 53 [(4, .int (p0 - p0 / (2 * (2 + p1)) * (2 * (2 + p1)))), (3, .int (2 + p1)), (0, .ref a), (1, .int p0), (2, .int p1)] [.ref a, .int 2, .int (m + wd)] C (by decide +kernel) rfl ?_
    refine g_getf (pc := 53) (k := 1) (v := .int wd) C fl_X3_13 (ha) rfl (by decide +kernel) ?_
    refine g_seg [(56, .imul, 1), (57, .iload 4, 2), (59, .iload_n 3, 1), (60, .isub, 1), (61, .imul, 1), (62, .iload_n 3, 1)] 63 [(4, .int (p0 - p0 / (2 * (2 + p1)) * (2 * (2 + p1)))), (3, .int (2 + p1)), (0, .ref a), (1, .int p0), (2, .int p1)] [.int (2 + p1), .int ((2 * wd) * ((p0 - p0 / (2 * (2 + p1)) * (2 * (2 + p1))) - (2 + p1))), .int (m + wd)] C (by decide +kernel) rfl ?_
    refine g_idiv (pc := 63) C (by decide +kernel) (s_hne hw) ?_
    refine g_seg [(64, .isub, 1)] 65 [(4, .int (p0 - p0 / (2 * (2 + p1)) * (2 * (2 + p1)))), (3, .int (2 + p1)), (0, .ref a), (1, .int p0), (2, .int p1)] [.int ((m + wd) - (((2 * wd) * ((p0 - p0 / (2 * (2 + p1)) * (2 * (2 + p1))) - (2 + p1))) / (2 + p1)))] C (by decide +kernel) rfl ?_
    exact g_iret (pc := 65) C R (⟨_, rfl, rfl, by unfold s_pl s_p; first | rw [if_pos (Int32.not_lt.mp (by assumption))] | rw [if_neg (Int32.not_le.mpr (by assumption))]⟩) (Nat.le_of_ble_eq_true rfl) (Nat.le_of_ble_eq_true rfl) (by decide +kernel)
  · refine g_seg [(18, .aload_n 0, 1)] 19 [(4, .int (p0 - p0 / (2 * (2 + p1)) * (2 * (2 + p1)))), (3, .int (2 + p1)), (0, .ref a), (1, .int p0), (2, .int p1)] [.ref a] C (by decide +kernel) rfl ?_
    refine g_getf (pc := 19) (k := 0) (v := .int m) C fl_X3_7 (ha) rfl (by decide +kernel) ?_
    refine g_seg [(22, .aload_n 0, 1)] 23 [(4, .int (p0 - p0 / (2 * (2 + p1)) * (2 * (2 + p1)))), (3, .int (2 + p1)), (0, .ref a), (1, .int p0), (2, .int p1)] [.ref a, .int m] C (by decide +kernel) rfl ?_
    refine g_getf (pc := 23) (k := 1) (v := .int wd) C fl_X3_13 (ha) rfl (by decide +kernel) ?_
    refine g_seg [(26, .isub, 1), (27, .iconst 2, 1), (28, .aload_n 0, 1)] 29 [(4, .int (p0 - p0 / (2 * (2 + p1)) * (2 * (2 + p1)))), (3, .int (2 + p1)), (0, .ref a), (1, .int p0), (2, .int p1)] [.ref a, .int 2, .int (m - wd)] C (by decide +kernel) rfl ?_
    refine g_getf (pc := 29) (k := 1) (v := .int wd) C fl_X3_13 (ha) rfl (by decide +kernel) ?_
    refine g_seg [(32, .imul, 1), (33, .iload 4, 2), (35, .imul, 1), (36, .iload_n 3, 1)] 37 [(4, .int (p0 - p0 / (2 * (2 + p1)) * (2 * (2 + p1)))), (3, .int (2 + p1)), (0, .ref a), (1, .int p0), (2, .int p1)] [.int (2 + p1), .int ((2 * wd) * (p0 - p0 / (2 * (2 + p1)) * (2 * (2 + p1)))), .int (m - wd)] C (by decide +kernel) rfl ?_
    refine g_idiv (pc := 37) C (by decide +kernel) (s_hne hw) ?_
    refine g_seg [(38, .iadd, 1), (39, .goto 26, 3)] 65 [(4, .int (p0 - p0 / (2 * (2 + p1)) * (2 * (2 + p1)))), (3, .int (2 + p1)), (0, .ref a), (1, .int p0), (2, .int p1)] [.int ((m - wd) + (((2 * wd) * (p0 - p0 / (2 * (2 + p1)) * (2 * (2 + p1)))) / (2 + p1)))] C (by decide +kernel) rfl ?_
    exact g_iret (pc := 65) C R (⟨_, rfl, rfl, by unfold s_pl s_p; first | rw [if_pos (Int32.not_lt.mp (by assumption))] | rw [if_neg (Int32.not_le.mpr (by assumption))]⟩) (Nat.le_of_ble_eq_true rfl) (Nat.le_of_ble_eq_true rfl) (by decide +kernel)
set_option maxHeartbeats 4000000 in
set_option maxRecDepth 100000 in
theorem c_X3_placeIn (l : Launch) (D : va_G) (cy : Nat → ClassId) (G : GG) (a : Nat) (m wd sg wt lb wo wh kw kh : Int32) (ha : G a = some (.inr (3, [.int m, .int wd, .int sg, .int wt, .int lb, .int wo, .int wh, .int kw, .int kh]))) (p0 : Int32) (hw : ∃ w, w ≤ 10 ∧ wt = nI w) : Ctr l D cy yX3_placeIn prog_5_method_5_code 2 (some .int) kX3_placeIn [.ref a, .int p0] G (pI (fun v G' => G' = G ∧ v = s_pl m wd wt (p0 - lb))) := by
  refine Ctr.mk (by decide +kernel) (Nat.le_of_ble_eq_true rfl) ?_
  intro κ C R
  refine g_pc (pc' := 0) rfl ?_
  refine g_seg [(0, .aload_n 0, 1), (1, .iload_n 1, 1), (2, .aload_n 0, 1)] 3 [(0, .ref a), (1, .int p0)] [.ref a, .int p0, .ref a] C (by decide +kernel) rfl ?_
  refine g_getf (pc := 3) (k := 4) (v := .int lb) C fl_X3_22 (ha) rfl (by decide +kernel) ?_
  refine g_seg [(6, .isub, 1), (7, .aload_n 0, 1)] 8 [(0, .ref a), (1, .int p0)] [.ref a, .int (p0 - lb), .ref a] C (by decide +kernel) rfl ?_
  refine g_getf (pc := 8) (k := 3) (v := .int wt) C fl_X3_16 (ha) rfl (by decide +kernel) ?_
  refine g_callV (pc := 11) C mV_X3_placeSinceLeftEnd q165 (ha) rfl rfl (c_X3_placeSinceLeftEnd l D cy G a m wd sg wt lb wo wh kw kh ha (p0 - lb) wt hw) rfl ⟨⟨Nat.le_of_ble_eq_true rfl, Nat.le_of_ble_eq_true rfl⟩, Nat.le_of_ble_eq_true rfl, Nat.le_of_ble_eq_true rfl⟩ rfl (Nat.le_of_ble_eq_true rfl) (by decide +kernel) ?_
  refine g_kI (fun v3 G2 hp1 => ?_)
  obtain ⟨rfl, rfl⟩ := hp1
  exact g_iret (pc := 14) C R (⟨_, rfl, rfl, rfl⟩) (Nat.le_of_ble_eq_true rfl) (Nat.le_of_ble_eq_true rfl) (by decide +kernel)
set_option maxHeartbeats 4000000 in
set_option maxRecDepth 100000 in
theorem c_X3_isAtLeftEndIn (l : Launch) (D : va_G) (cy : Nat → ClassId) (G : GG) (a : Nat) (m wd sg wt lb wo wh kw kh : Int32) (ha : G a = some (.inr (3, [.int m, .int wd, .int sg, .int wt, .int lb, .int wo, .int wh, .int kw, .int kh]))) (p0 : Int32) (hw : ∃ w, w ≤ 10 ∧ wt = nI w) : Ctr l D cy yX3_isAtLeftEndIn prog_5_method_6_code 2 (some .boolean) kX3_isAtLeftEndIn [.ref a, .int p0] G (pI (fun v G' => G' = G ∧ ((v = 1 ∧ s_p wt (p0 - lb) = 0) ∨ (v = 0 ∧ ¬ s_p wt (p0 - lb) = 0)))) := by
  refine Ctr.mk (by decide +kernel) (Nat.le_of_ble_eq_true rfl) ?_
  intro κ C R
  refine g_pc (pc' := 0) rfl ?_
  refine g_seg [(0, .iload_n 1, 1), (1, .aload_n 0, 1)] 2 [(0, .ref a), (1, .int p0)] [.ref a, .int p0] C (by decide +kernel) rfl ?_
  refine g_getf (pc := 2) (k := 4) (v := .int lb) C fl_X3_22 (ha) rfl (by decide +kernel) ?_
  refine g_seg [(5, .isub, 1), (6, .iconst 2, 1), (7, .aload_n 0, 1)] 8 [(0, .ref a), (1, .int p0)] [.ref a, .int 2, .int (p0 - lb)] C (by decide +kernel) rfl ?_
  refine g_getf (pc := 8) (k := 3) (v := .int wt) C fl_X3_16 (ha) rfl (by decide +kernel) ?_
  refine g_callS (pc := 11) C mS_X3_halfSwing q169 (c_X3_halfSwing l D cy G wt (by first | exact hw | assumption)) rfl ⟨⟨Nat.le_of_ble_eq_true rfl, Nat.le_of_ble_eq_true rfl⟩, Nat.le_of_ble_eq_true rfl, Nat.le_of_ble_eq_true rfl⟩ rfl (Nat.le_of_ble_eq_true rfl) (by decide +kernel) ?_
  refine g_kI (fun v3 G2 hp1 => ?_)
  obtain ⟨rfl, rfl⟩ := hp1
  refine g_seg [(14, .imul, 1)] 15 [(0, .ref a), (1, .int p0)] [.int (2 * (2 + wt)), .int (p0 - lb)] C (by decide +kernel) rfl ?_
  refine g_irem (pc := 15) C (by decide +kernel) (s_hne2 hw) ?_
  refine g_if_ne (pc := 16) (off := 7) 23 C (by decide +kernel) (by decide) (fun c4 => ?_) (fun c4 => ?_)
  · refine g_seg [(23, .iconst 0, 1)] 24 [(0, .ref a), (1, .int p0)] [.int 0] C (by decide +kernel) rfl ?_
    exact g_zret (pc := 24) C R (by first | rfl | decide) (⟨_, rfl, rfl, Or.inr ⟨rfl, by assumption⟩⟩) (Nat.le_of_ble_eq_true rfl) (Nat.le_of_ble_eq_true rfl) (by decide +kernel)
  · refine g_seg [(19, .iconst 1, 1), (20, .goto 4, 3)] 24 [(0, .ref a), (1, .int p0)] [.int 1] C (by decide +kernel) rfl ?_
    exact g_zret (pc := 24) C R (by first | rfl | decide) (⟨_, rfl, rfl, Or.inl ⟨rfl, by assumption⟩⟩) (Nat.le_of_ble_eq_true rfl) (Nat.le_of_ble_eq_true rfl) (by decide +kernel)
