set_option maxHeartbeats 4000000 in
set_option maxRecDepth 100000 in
theorem c_X5_thrown (l : Launch) (D : va_G) (cy : Nat → ClassId) {G : GG} {m : Nat} {am : Nat → Nat} {th b : Int32} {nt nf nc nn : Nat} {T F Cu N : Rw} (h : RM cy m am th b nt nf nc nn T F Cu N G) : Ctr l D cy yX5_thrown prog_7_method_2_code 1 (some .int) kX5_thrown [.ref m] G (pI (fun v G' => G' = G ∧ v = th)) := by
  refine Ctr.mk (by decide +kernel) (Nat.le_of_ble_eq_true rfl) ?_
  intro κ C R
  have hbd := h.2.2
  refine g_pc (pc' := 0) rfl ?_
  refine g_seg [(0, .aload_n 0, 1)] 1 [(0, .ref m)] [.ref m] C (by decide +kernel) rfl ?_
  refine g_getf (pc := 1) (k := 0) (v := .int th) C fl_X5_25 (h.1.1) rfl (by decide +kernel) ?_
  exact g_iret (pc := 4) C R (⟨_, rfl, rfl, rfl⟩) (Nat.le_of_ble_eq_true rfl) (Nat.le_of_ble_eq_true rfl) (by decide +kernel)
set_option maxHeartbeats 4000000 in
set_option maxRecDepth 100000 in
theorem c_X5_fail (l : Launch) (D : va_G) (cy : Nat → ClassId) {G : GG} {m : Nat} {am : Nat → Nat} {th b : Int32} {nt nf nc nn : Nat} {T F Cu N : Rw} (h : RM cy m am th b nt nf nc nn T F Cu N G) (n : Int32) : Ctr l D cy yX5_fail prog_7_method_3_code 2 (some .int) kX5_fail [.ref m, .int n] G (pI (fun v G' => v = 0 ∧ RM cy m am n b nt nf nc nn T F Cu N G')) := by
  refine Ctr.mk (by decide +kernel) (Nat.le_of_ble_eq_true rfl) ?_
  intro κ C R
  have hbd := h.2.2
  refine g_pc (pc' := 0) rfl ?_
  refine g_seg [(0, .aload_n 0, 1), (1, .iload_n 1, 1)] 2 [(0, .ref m), (1, .int n)] [.int n, .ref m] C (by decide +kernel) rfl ?_
  refine g_putf (pc := 2) (k := 0) (v := .int n) (ty := .int) C fl_X5_25 fp_X5_0 (h.1.1) (rfl) (by first | rfl | decide) (Nat.le_of_ble_eq_true rfl) (by decide +kernel) ?_
  refine g_abs (P := fun G9 => RM cy m am n b nt nf nc nn T F Cu N G9) (RM.obj h h.2.2) (fun G1 h2 => ?_)
  refine g_seg [(5, .iconst 0, 1)] 6 [(0, .ref m), (1, .int n)] [.int 0] C (by decide +kernel) rfl ?_
  exact g_iret (pc := 6) C R (⟨_, rfl, rfl, h2⟩) (Nat.le_of_ble_eq_true rfl) (Nat.le_of_ble_eq_true rfl) (by decide +kernel)
set_option maxHeartbeats 4000000 in
set_option maxRecDepth 100000 in
theorem c_X5_isIn (l : Launch) (D : va_G) (cy : Nat → ClassId) (G : GG) (n lo hi : Int32) : Ctr l D cy yX5_isIn prog_7_method_4_code 3 (some .boolean) kX5_isIn [.int n, .int lo, .int hi] G (pI (fun v G' => G' = G ∧ ((v = 1 ∧ (lo ≤ n ∧ n ≤ hi)) ∨ (v = 0 ∧ ¬ (lo ≤ n ∧ n ≤ hi))))) := by
  refine Ctr.mk (by decide +kernel) (Nat.le_of_ble_eq_true rfl) ?_
  intro κ C R
  refine g_pc (pc' := 0) rfl ?_
  refine g_seg [(0, .iload_n 0, 1), (1, .iload_n 1, 1)] 2 [(0, .int n), (1, .int lo), (2, .int hi)] [.int lo, .int n] C (by decide +kernel) rfl ?_
  refine g_icmp_lt (pc := 2) (off := 12) 14 C (by decide +kernel) (by decide) (fun c1 => ?_) (fun c1 => ?_)
  · refine g_seg [(14, .iconst 0, 1)] 15 [(0, .int n), (1, .int lo), (2, .int hi)] [.int 0] C (by decide +kernel) rfl ?_
    exact g_zret (pc := 15) C R (by first | rfl | decide) (⟨_, rfl, rfl, Or.inr ⟨rfl, fun h9 => by first | exact absurd h9.1 (Int32.not_le.mpr (by assumption)) | exact absurd h9.2 (Int32.not_le.mpr (by assumption))⟩⟩) (Nat.le_of_ble_eq_true rfl) (Nat.le_of_ble_eq_true rfl) (by decide +kernel)
  · refine g_seg [(5, .iload_n 0, 1), (6, .iload_n 2, 1)] 7 [(0, .int n), (1, .int lo), (2, .int hi)] [.int hi, .int n] C (by decide +kernel) rfl ?_
    refine g_icmp_gt (pc := 7) (off := 7) 14 C (by decide +kernel) (by decide) (fun c2 => ?_) (fun c2 => ?_)
    · refine g_seg [(14, .iconst 0, 1)] 15 [(0, .int n), (1, .int lo), (2, .int hi)] [.int 0] C (by decide +kernel) rfl ?_
      exact g_zret (pc := 15) C R (by first | rfl | decide) (⟨_, rfl, rfl, Or.inr ⟨rfl, fun h9 => by first | exact absurd h9.1 (Int32.not_le.mpr (by assumption)) | exact absurd h9.2 (Int32.not_le.mpr (by assumption))⟩⟩) (Nat.le_of_ble_eq_true rfl) (Nat.le_of_ble_eq_true rfl) (by decide +kernel)
    · refine g_seg [(10, .iconst 1, 1), (11, .goto 4, 3)] 15 [(0, .int n), (1, .int lo), (2, .int hi)] [.int 1] C (by decide +kernel) rfl ?_
      exact g_zret (pc := 15) C R (by first | rfl | decide) (⟨_, rfl, rfl, Or.inl ⟨rfl, Int32.not_lt.mp (by assumption), Int32.not_lt.mp (by assumption)⟩⟩) (Nat.le_of_ble_eq_true rfl) (Nat.le_of_ble_eq_true rfl) (by decide +kernel)
set_option maxHeartbeats 4000000 in
set_option maxRecDepth 100000 in
theorem c_X5_isNear (l : Launch) (D : va_G) (cy : Nat → ClassId) (G : GG) (p0 p1 : Int32) : Ctr l D cy yX5_isNear prog_7_method_35_code 2 (some .boolean) kX5_isNear [.int p0, .int p1] G (pI (fun v G' => G' = G ∧ ((v = 1 ∧ s_near p0 p1 = true) ∨ (v = 0 ∧ s_near p0 p1 = false)))) := by
  refine Ctr.mk (by decide +kernel) (Nat.le_of_ble_eq_true rfl) ?_
  intro κ C R
  refine g_pc (pc' := 0) rfl ?_
  refine g_seg [(0, .iload_n 0, 1), (1, .iload_n 1, 1), (2, .isub, 1)] 3 [(0, .int p0), (1, .int p1)] [.int (p0 - p1)] C (by decide +kernel) rfl ?_
  refine g_mabs (pc := 3) C q849 q850 q61 q851 (Nat.le_of_ble_eq_true rfl) (Nat.le_of_ble_eq_true rfl) (Nat.le_of_ble_eq_true rfl) (Nat.le_of_ble_eq_true rfl) (by decide +kernel) ?_
  refine g_seg [(6, .iconst 2, 1)] 7 [(0, .int p0), (1, .int p1)] [.int 2, .int (if 0 ≤ (p0 - p1) then (p0 - p1) else 0 - (p0 - p1))] C (by decide +kernel) rfl ?_
  refine g_icmp_gt (pc := 7) (off := 7) 14 C (by decide +kernel) (by decide) (fun c1 => ?_) (fun c1 => ?_)
  · refine g_seg [(14, .iconst 0, 1)] 15 [(0, .int p0), (1, .int p1)] [.int 0] C (by decide +kernel) rfl ?_
    exact g_zret (pc := 15) C R (by first | rfl | decide) (⟨_, rfl, rfl, Or.inr ⟨rfl, Bool.eq_false_iff.mpr (fun h9 => absurd (near_abs.mpr h9) (Int32.not_le.mpr c1))⟩⟩) (Nat.le_of_ble_eq_true rfl) (Nat.le_of_ble_eq_true rfl) (by decide +kernel)
  · refine g_seg [(10, .iconst 1, 1), (11, .goto 4, 3)] 15 [(0, .int p0), (1, .int p1)] [.int 1] C (by decide +kernel) rfl ?_
    exact g_zret (pc := 15) C R (by first | rfl | decide) (⟨_, rfl, rfl, Or.inl ⟨rfl, near_abs.mp (Int32.not_lt.mp c1)⟩⟩) (Nat.le_of_ble_eq_true rfl) (Nat.le_of_ble_eq_true rfl) (by decide +kernel)
set_option maxHeartbeats 4000000 in
set_option maxRecDepth 100000 in
theorem c_X5_isTrapeze (l : Launch) (D : va_G) (cy : Nat → ClassId) {G : GG} {m : Nat} {am : Nat → Nat} {th b : Int32} {nt nf nc nn : Nat} {T F Cu N : Rw} (h : RM cy m am th b nt nf nc nn T F Cu N G) (n : Int32) : Ctr l D cy yX5_isTrapeze prog_7_method_5_code 2 (some .boolean) kX5_isTrapeze [.ref m, .int n] G (pI (fun v G' => G' = G ∧ ((v = 1 ∧ ∃ i, i < nt ∧ n = nI i) ∨ (v = 0 ∧ ∀ i, i < nt → n ≠ nI i)))) := by
  refine Ctr.mk (by decide +kernel) (Nat.le_of_ble_eq_true rfl) ?_
  intro κ C R
  have hbd := h.2.2
  refine g_pc (pc' := 0) rfl ?_
  refine g_seg [(0, .iload_n 1, 1), (1, .iconst 0, 1), (2, .aload_n 0, 1)] 3 [(0, .ref m), (1, .int n)] [.ref m, .int 0, .int n] C (by decide +kernel) rfl ?_
  refine g_getf (pc := 3) (k := 1) (v := .int (nI nt)) C fl_X5_29 (h.1.1) rfl (by decide +kernel) ?_
  refine g_seg [(6, .iconst 1, 1), (7, .isub, 1)] 8 [(0, .ref m), (1, .int n)] [.int ((nI nt) - 1), .int 0, .int n] C (by decide +kernel) rfl ?_
  refine g_callS (pc := 8) C mS_X5_isIn q705 (c_X5_isIn l D cy G n 0 ((nI nt) - 1)) rfl ⟨⟨Nat.le_of_ble_eq_true rfl, Nat.le_of_ble_eq_true rfl⟩, Nat.le_of_ble_eq_true rfl, Nat.le_of_ble_eq_true rfl⟩ rfl (Nat.le_of_ble_eq_true rfl) (by decide +kernel) ?_
  refine g_kI (fun v3 G2 hp1 => ?_)
  obtain ⟨rfl, hp1⟩ := hp1
  rcases hp1 with ⟨rfl, h4⟩ | ⟨rfl, h4⟩
  · exact g_zret (pc := 11) C R (by first | rfl | decide) (⟨_, rfl, rfl, Or.inl ⟨rfl, in_ix0 (by omega) h4⟩⟩) (Nat.le_of_ble_eq_true rfl) (Nat.le_of_ble_eq_true rfl) (by decide +kernel)
  · exact g_zret (pc := 11) C R (by first | rfl | decide) (⟨_, rfl, rfl, Or.inr ⟨rfl, in_nix0 (by omega) h4⟩⟩) (Nat.le_of_ble_eq_true rfl) (Nat.le_of_ble_eq_true rfl) (by decide +kernel)
set_option maxHeartbeats 4000000 in
set_option maxRecDepth 100000 in
theorem c_X5_isFlyer (l : Launch) (D : va_G) (cy : Nat → ClassId) {G : GG} {m : Nat} {am : Nat → Nat} {th b : Int32} {nt nf nc nn : Nat} {T F Cu N : Rw} (h : RM cy m am th b nt nf nc nn T F Cu N G) (n : Int32) : Ctr l D cy yX5_isFlyer prog_7_method_6_code 2 (some .boolean) kX5_isFlyer [.ref m, .int n] G (pI (fun v G' => G' = G ∧ ((v = 1 ∧ ∃ i, i < nf ∧ n = nI i) ∨ (v = 0 ∧ ∀ i, i < nf → n ≠ nI i)))) := by
  refine Ctr.mk (by decide +kernel) (Nat.le_of_ble_eq_true rfl) ?_
  intro κ C R
  have hbd := h.2.2
  refine g_pc (pc' := 0) rfl ?_
  refine g_seg [(0, .iload_n 1, 1), (1, .iconst 0, 1), (2, .aload_n 0, 1)] 3 [(0, .ref m), (1, .int n)] [.ref m, .int 0, .int n] C (by decide +kernel) rfl ?_
  refine g_getf (pc := 3) (k := 2) (v := .int (nI nf)) C fl_X5_36 (h.1.1) rfl (by decide +kernel) ?_
  refine g_seg [(6, .iconst 1, 1), (7, .isub, 1)] 8 [(0, .ref m), (1, .int n)] [.int ((nI nf) - 1), .int 0, .int n] C (by decide +kernel) rfl ?_
  refine g_callS (pc := 8) C mS_X5_isIn q705 (c_X5_isIn l D cy G n 0 ((nI nf) - 1)) rfl ⟨⟨Nat.le_of_ble_eq_true rfl, Nat.le_of_ble_eq_true rfl⟩, Nat.le_of_ble_eq_true rfl, Nat.le_of_ble_eq_true rfl⟩ rfl (Nat.le_of_ble_eq_true rfl) (by decide +kernel) ?_
  refine g_kI (fun v3 G2 hp1 => ?_)
  obtain ⟨rfl, hp1⟩ := hp1
  rcases hp1 with ⟨rfl, h4⟩ | ⟨rfl, h4⟩
  · exact g_zret (pc := 11) C R (by first | rfl | decide) (⟨_, rfl, rfl, Or.inl ⟨rfl, in_ix0 (by omega) h4⟩⟩) (Nat.le_of_ble_eq_true rfl) (Nat.le_of_ble_eq_true rfl) (by decide +kernel)
  · exact g_zret (pc := 11) C R (by first | rfl | decide) (⟨_, rfl, rfl, Or.inr ⟨rfl, in_nix0 (by omega) h4⟩⟩) (Nat.le_of_ble_eq_true rfl) (Nat.le_of_ble_eq_true rfl) (by decide +kernel)
set_option maxHeartbeats 4000000 in
set_option maxRecDepth 100000 in
theorem c_X5_ri (l : Launch) (D : va_G) (cy : Nat → ClassId) {G : GG} {m : Nat} {am : Nat → Nat} {th b : Int32} {nt nf nc nn : Nat} {T F Cu N : Rw} (h : RM cy m am th b nt nf nc nn T F Cu N G) (i k : Nat) (hi : i < 6) (hk : k < 7) (t w : Int32) (ht : t = nI i) (hw : w = nI k) : Ctr l D cy yX5_ri prog_7_method_7_code 3 (some .int) kX5_ri [.ref m, .int t, .int w] G (pI (fun v G' => G' = G ∧ v = T i k)) := by
  refine Ctr.mk (by decide +kernel) (Nat.le_of_ble_eq_true rfl) ?_
  intro κ C R
  have hbd := h.2.2
  refine g_pc (pc' := 0) rfl ?_
  refine g_seg [(0, .aload_n 0, 1)] 1 [(0, .ref m), (1, .int t), (2, .int w)] [.ref m] C (by decide +kernel) rfl ?_
  refine g_getf (pc := 1) (k := 5) (v := .ref (am 0)) C fl_X5_9 (h.1.1) rfl (by decide +kernel) ?_
  refine g_seg [(4, .bipush 7, 2), (6, .iload_n 1, 1), (7, .imul, 1), (8, .iload_n 2, 1), (9, .iadd, 1)] 10 [(0, .ref m), (1, .int t), (2, .int w)] [.int ((7 * t) + w), .ref (am 0)] C (by decide +kernel) rfl ?_
  refine g_ialdM (pc := 10) (n := 42) (7 * i + k) (T i k) C (h.1.2.1) (by rw [ht, hw]; exact ixM 7 i k) (by omega) (by decide) (fA_at (by omega)) (by decide +kernel) ?_
  exact g_iret (pc := 11) C R (⟨_, rfl, rfl, rfl⟩) (Nat.le_of_ble_eq_true rfl) (Nat.le_of_ble_eq_true rfl) (by decide +kernel)
set_option maxHeartbeats 4000000 in
set_option maxRecDepth 100000 in
theorem c_X5_pe (l : Launch) (D : va_G) (cy : Nat → ClassId) {G : GG} {m : Nat} {am : Nat → Nat} {th b : Int32} {nt nf nc nn : Nat} {T F Cu N : Rw} (h : RM cy m am th b nt nf nc nn T F Cu N G) (i k : Nat) (hi : i < 8) (hk : k < 5) (t w : Int32) (ht : t = nI i) (hw : w = nI k) : Ctr l D cy yX5_pe prog_7_method_9_code 3 (some .int) kX5_pe [.ref m, .int t, .int w] G (pI (fun v G' => G' = G ∧ v = F i k)) := by
  refine Ctr.mk (by decide +kernel) (Nat.le_of_ble_eq_true rfl) ?_
  intro κ C R
  have hbd := h.2.2
  refine g_pc (pc' := 0) rfl ?_
  refine g_seg [(0, .aload_n 0, 1)] 1 [(0, .ref m), (1, .int t), (2, .int w)] [.ref m] C (by decide +kernel) rfl ?_
  refine g_getf (pc := 1) (k := 6) (v := .ref (am 1)) C fl_X5_13 (h.1.1) rfl (by decide +kernel) ?_
  refine g_seg [(4, .iconst 5, 1), (5, .iload_n 1, 1), (6, .imul, 1), (7, .iload_n 2, 1), (8, .iadd, 1)] 9 [(0, .ref m), (1, .int t), (2, .int w)] [.int ((5 * t) + w), .ref (am 1)] C (by decide +kernel) rfl ?_
  refine g_ialdM (pc := 9) (n := 40) (5 * i + k) (F i k) C (h.1.2.2.1) (by rw [ht, hw]; exact ixM 5 i k) (by omega) (by decide) (fA_at (by omega)) (by decide +kernel) ?_
  exact g_iret (pc := 10) C R (⟨_, rfl, rfl, rfl⟩) (Nat.le_of_ble_eq_true rfl) (Nat.le_of_ble_eq_true rfl) (by decide +kernel)
set_option maxHeartbeats 4000000 in
set_option maxRecDepth 100000 in
theorem c_X5_setRig (l : Launch) (D : va_G) (cy : Nat → ClassId) {G : GG} {m : Nat} {am : Nat → Nat} {th b : Int32} {nt nf nc nn : Nat} {T F Cu N : Rw} (h : RM cy m am th b nt nf nc nn T F Cu N G) (i k : Nat) (hi : i < 6) (hk : k < 7) (t w v0 : Int32) (ht : t = nI i) (hw : w = nI k) : Ctr l D cy yX5_setRig prog_7_method_8_code 4 none kX5_setRig [.ref m, .int t, .int w, .int v0] G (pV (fun G' => RM cy m am th b nt nf nc nn (s_set T i k v0) F Cu N G')) := by
  refine Ctr.mk (by decide +kernel) (Nat.le_of_ble_eq_true rfl) ?_
  intro κ C R
  have hbd := h.2.2
  refine g_pc (pc' := 0) rfl ?_
  refine g_seg [(0, .aload_n 0, 1)] 1 [(0, .ref m), (1, .int t), (2, .int w), (3, .int v0)] [.ref m] C (by decide +kernel) rfl ?_
  refine g_getf (pc := 1) (k := 5) (v := .ref (am 0)) C fl_X5_9 (h.1.1) rfl (by decide +kernel) ?_
  refine g_seg [(4, .bipush 7, 2), (6, .iload_n 1, 1), (7, .imul, 1), (8, .iload_n 2, 1), (9, .iadd, 1), (10, .iload_n 3, 1)] 11 [(0, .ref m), (1, .int t), (2, .int w), (3, .int v0)] [.int v0, .int ((7 * t) + w), .ref (am 0)] C (by decide +kernel) rfl ?_
  refine g_iastM (pc := 11) (n := 42) (7 * i + k) (fA 7 (s_set T i k v0)) C (h.1.2.1) (by rw [ht, hw]; exact ixM 7 i k) (by omega) (by decide) (upd_fA (by omega)) (by decide +kernel) ?_
  refine g_abs (P := fun G9 => RM cy m am th b nt nf nc nn (s_set T i k v0) F Cu N G9) (RM.a0 h) (fun G1 h2 => ?_)
  exact g_vret (pc := 12) C R (⟨rfl, h2⟩) (Nat.le_of_ble_eq_true rfl) (Nat.le_of_ble_eq_true rfl) (by decide +kernel)
set_option maxHeartbeats 4000000 in
set_option maxRecDepth 100000 in
theorem c_X5_set (l : Launch) (D : va_G) (cy : Nat → ClassId) {G : GG} {m : Nat} {am : Nat → Nat} {th b : Int32} {nt nf nc nn : Nat} {T F Cu N : Rw} (h : RM cy m am th b nt nf nc nn T F Cu N G) (i : Nat) (hi : i < 8) (t a0 a1 a2 a3 : Int32) (ht : t = nI i) : Ctr l D cy yX5_set prog_7_method_10_code 6 none kX5_set [.ref m, .int t, .int a0, .int a1, .int a2, .int a3] G (pV (fun G' => RM cy m am th b nt nf nc nn T (s_row F i a0 a1 a2 a3) Cu N G')) := by
  refine Ctr.mk (by decide +kernel) (Nat.le_of_ble_eq_true rfl) ?_
  intro κ C R
  have hbd := h.2.2
  refine g_pc (pc' := 0) rfl ?_
  refine g_seg [(0, .aload_n 0, 1)] 1 [(0, .ref m), (1, .int t), (2, .int a0), (3, .int a1), (4, .int a2), (5, .int a3)] [.ref m] C (by decide +kernel) rfl ?_
  refine g_getf (pc := 1) (k := 6) (v := .ref (am 1)) C fl_X5_13 (h.1.1) rfl (by decide +kernel) ?_
  refine g_seg [(4, .iconst 5, 1), (5, .iload_n 1, 1), (6, .imul, 1), (7, .iconst 0, 1), (8, .iadd, 1), (9, .iload_n 2, 1)] 10 [(0, .ref m), (1, .int t), (2, .int a0), (3, .int a1), (4, .int a2), (5, .int a3)] [.int a0, .int ((5 * t) + 0), .ref (am 1)] C (by decide +kernel) rfl ?_
  refine g_iastM (pc := 10) (n := 40) (5 * i + 0) (fA 5 (s_set F i 0 a0)) C (h.1.2.2.1) (by rw [ht]; exact ixM 5 i 0) (by omega) (by decide) (upd_fA (by omega)) (by decide +kernel) ?_
  refine g_abs (P := fun G9 => RM cy m am th b nt nf nc nn T (s_set F i 0 a0) Cu N G9) (RM.a1 h) (fun G1 h2 => ?_)
  refine g_seg [(11, .aload_n 0, 1)] 12 [(0, .ref m), (1, .int t), (2, .int a0), (3, .int a1), (4, .int a2), (5, .int a3)] [.ref m] C (by decide +kernel) rfl ?_
  refine g_getf (pc := 12) (k := 6) (v := .ref (am 1)) C fl_X5_13 (h2.1.1) rfl (by decide +kernel) ?_
  refine g_seg [(15, .iconst 5, 1), (16, .iload_n 1, 1), (17, .imul, 1), (18, .iconst 1, 1), (19, .iadd, 1), (20, .iload_n 3, 1)] 21 [(0, .ref m), (1, .int t), (2, .int a0), (3, .int a1), (4, .int a2), (5, .int a3)] [.int a1, .int ((5 * t) + 1), .ref (am 1)] C (by decide +kernel) rfl ?_
  refine g_iastM (pc := 21) (n := 40) (5 * i + 1) (fA 5 (s_set (s_set F i 0 a0) i 1 a1)) C (h2.1.2.2.1) (by rw [ht]; exact ixM 5 i 1) (by omega) (by decide) (upd_fA (by omega)) (by decide +kernel) ?_
  refine g_abs (P := fun G9 => RM cy m am th b nt nf nc nn T (s_set (s_set F i 0 a0) i 1 a1) Cu N G9) (RM.a1 h2) (fun G3 h4 => ?_)
  refine g_seg [(22, .aload_n 0, 1)] 23 [(0, .ref m), (1, .int t), (2, .int a0), (3, .int a1), (4, .int a2), (5, .int a3)] [.ref m] C (by decide +kernel) rfl ?_
  refine g_getf (pc := 23) (k := 6) (v := .ref (am 1)) C fl_X5_13 (h4.1.1) rfl (by decide +kernel) ?_
  refine g_seg [(26, .iconst 5, 1), (27, .iload_n 1, 1), (28, .imul, 1), (29, .iconst 2, 1), (30, .iadd, 1), (31, .iload 4, 2)] 33 [(0, .ref m), (1, .int t), (2, .int a0), (3, .int a1), (4, .int a2), (5, .int a3)] [.int a2, .int ((5 * t) + 2), .ref (am 1)] C (by decide +kernel) rfl ?_
  refine g_iastM (pc := 33) (n := 40) (5 * i + 2) (fA 5 (s_set (s_set (s_set F i 0 a0) i 1 a1) i 2 a2)) C (h4.1.2.2.1) (by rw [ht]; exact ixM 5 i 2) (by omega) (by decide) (upd_fA (by omega)) (by decide +kernel) ?_
  refine g_abs (P := fun G9 => RM cy m am th b nt nf nc nn T (s_set (s_set (s_set F i 0 a0) i 1 a1) i 2 a2) Cu N G9) (RM.a1 h4) (fun G5 h6 => ?_)
  refine g_seg [(34, .aload_n 0, 1)] 35 [(0, .ref m), (1, .int t), (2, .int a0), (3, .int a1), (4, .int a2), (5, .int a3)] [.ref m] C (by decide +kernel) rfl ?_
  refine g_getf (pc := 35) (k := 6) (v := .ref (am 1)) C fl_X5_13 (h6.1.1) rfl (by decide +kernel) ?_
  refine g_seg [(38, .iconst 5, 1), (39, .iload_n 1, 1), (40, .imul, 1), (41, .iconst 3, 1), (42, .iadd, 1), (43, .iload 5, 2)] 45 [(0, .ref m), (1, .int t), (2, .int a0), (3, .int a1), (4, .int a2), (5, .int a3)] [.int a3, .int ((5 * t) + 3), .ref (am 1)] C (by decide +kernel) rfl ?_
  refine g_iastM (pc := 45) (n := 40) (5 * i + 3) (fA 5 (s_set (s_set (s_set (s_set F i 0 a0) i 1 a1) i 2 a2) i 3 a3)) C (h6.1.2.2.1) (by rw [ht]; exact ixM 5 i 3) (by omega) (by decide) (upd_fA (by omega)) (by decide +kernel) ?_
  refine g_abs (P := fun G9 => RM cy m am th b nt nf nc nn T (s_set (s_set (s_set (s_set F i 0 a0) i 1 a1) i 2 a2) i 3 a3) Cu N G9) (RM.a1 h6) (fun G7 h8 => ?_)
  exact g_vret (pc := 46) C R (⟨rfl, by rw [← row_4]; exact h8⟩) (Nat.le_of_ble_eq_true rfl) (Nat.le_of_ble_eq_true rfl) (by decide +kernel)
set_option maxHeartbeats 4000000 in
set_option maxRecDepth 100000 in
theorem c_X5_hanging (l : Launch) (D : va_G) (cy : Nat → ClassId) {G : GG} {m : Nat} {am : Nat → Nat} {th b : Int32} {nt nf nc nn : Nat} {T F Cu N : Rw} (h : RM cy m am th b nt nf nc nn T F Cu N G) (n : Int32) : Ctr l D cy yX5_hanging prog_7_method_16_code 4 (some .int) kX5_hanging [.ref m, .int n] G (pI (fun v G' => G' = G ∧ v = nI (cnt (fun k => decide (F k 1 = n)) nf))) := by
  refine Ctr.mk (by decide +kernel) (Nat.le_of_ble_eq_true rfl) ?_
  intro κ C R
  have hbd := h.2.2
  refine g_pc (pc' := 0) rfl ?_
  refine g_seg [(0, .iconst 0, 1), (1, .istore_n 2, 1), (2, .iconst 0, 1), (3, .istore_n 3, 1)] 4 [(3, .int 0), (2, .int 0), (0, .ref m), (1, .int n)] [] C (by decide +kernel) rfl ?_
  refine g_subp [2, 3, 1, 0] (lv' := [(0, .ref m), (1, .int n), (2, .int 0), (3, .int 0)]) rfl ?_
  have lp1 : ∀ (n0 k : Nat) (s xk : Int32), nf + 1 ≤ k + n0 → k ≤ nf → xk = nI k → s = nI (cnt (fun k => decide (F k 1 = n)) k) → PG κ 4 0 0 G [(0, .ref m), (1, .int n), (2, .int s), (3, .int xk)] 4 [] := by
    intro n0
    induction n0 with
    | zero => intro k s xk h1 h2; intros; exact absurd h1 (by omega)
    | succ n0 ih =>
      intro k s xk hm hk hx hs
      refine g_seg [(4, .iload_n 3, 1), (5, .aload_n 0, 1)] 6 [(0, .ref m), (1, .int n), (2, .int s), (3, .int xk)] [.ref m, .int xk] C (by decide +kernel) rfl ?_
      refine g_getf (pc := 6) (k := 2) (v := .int (nI nf)) C fl_X5_36 (h.1.1) rfl (by decide +kernel) ?_
      refine g_icmp_ge (pc := 9) (off := 27) 36 C (by decide +kernel) (by decide) (fun c2 => ?_) (fun c2 => ?_)
      · have hk8 : k = nf := by have := lp_ge hx (by omega) (by omega) c2; omega
        refine g_seg [(36, .iload_n 2, 1)] 37 [(0, .ref m), (1, .int n), (2, .int s), (3, .int xk)] [.int s] C (by decide +kernel) rfl ?_
        exact g_iret (pc := 37) C R (⟨_, rfl, rfl, by rw [hs, hk8]⟩) (Nat.le_of_ble_eq_true rfl) (Nat.le_of_ble_eq_true rfl) (by decide +kernel)
      · have hk8 : k < nf := lp_lt hx (by omega) (by omega) c2
        refine g_seg [(12, .iload_n 2, 1), (13, .aload_n 0, 1), (14, .iload_n 3, 1), (15, .iconst 1, 1)] 16 [(0, .ref m), (1, .int n), (2, .int s), (3, .int xk)] [.int 1, .int xk, .ref m, .int s] C (by decide +kernel) rfl ?_
        refine g_callV (pc := 16) C mV_X5_pe q755 (h.1.1) rfl rfl (c_X5_pe l D cy h k 1 (by omega) (by omega) xk 1 (hx) (rfl)) rfl ⟨⟨Nat.le_of_ble_eq_true rfl, Nat.le_of_ble_eq_true rfl⟩, Nat.le_of_ble_eq_true rfl, Nat.le_of_ble_eq_true rfl⟩ rfl (Nat.le_of_ble_eq_true rfl) (by decide +kernel) ?_
        refine g_kI (fun v5 G4 hp3 => ?_)
        obtain ⟨rfl, rfl⟩ := hp3
        refine g_seg [(19, .iload_n 1, 1)] 20 [(0, .ref m), (1, .int n), (2, .int s), (3, .int xk)] [.int n, .int (F k 1), .int s] C (by decide +kernel) rfl ?_
        refine g_icmp_ne (pc := 20) (off := 7) 27 C (by decide +kernel) (by decide) (fun c6 => ?_) (fun c6 => ?_)
        · refine g_seg [(27, .iconst 0, 1), (28, .iadd, 1), (29, .istore_n 2, 1), (30, .iinc 3 1, 3), (33, .goto (-29), 3)] 4 [(3, .int (xk + 1)), (2, .int (s + 0)), (0, .ref m), (1, .int n)] [] C (by decide +kernel) rfl ?_
          refine g_subp [2, 3, 1, 0] (lv' := [(0, .ref m), (1, .int n), (2, .int (s + 0)), (3, .int (xk + 1))]) rfl ?_
          exact ih (k + 1) (s + 0) (xk + 1) (by omega) (by omega) (lp_s hx) (cntU_n hs (decide_eq_false c6))
        · refine g_seg [(23, .iconst 1, 1), (24, .goto 4, 3), (28, .iadd, 1), (29, .istore_n 2, 1), (30, .iinc 3 1, 3), (33, .goto (-29), 3)] 4 [(3, .int (xk + 1)), (2, .int (s + 1)), (0, .ref m), (1, .int n)] [] C (by decide +kernel) rfl ?_
          refine g_subp [2, 3, 1, 0] (lv' := [(0, .ref m), (1, .int n), (2, .int (s + 1)), (3, .int (xk + 1))]) rfl ?_
          exact ih (k + 1) (s + 1) (xk + 1) (by omega) (by omega) (lp_s hx) (cntU_y hs (decide_eq_true c6))
  exact lp1 (nf + 1) 0 0 0 (by omega) (by omega) (nI_0.symm) (rfl)
set_option maxHeartbeats 4000000 in
set_option maxRecDepth 100000 in
theorem c_X5_inState (l : Launch) (D : va_G) (cy : Nat → ClassId) {G : GG} {m : Nat} {am : Nat → Nat} {th b : Int32} {nt nf nc nn : Nat} {T F Cu N : Rw} (h : RM cy m am th b nt nf nc nn T F Cu N G) (n : Int32) : Ctr l D cy yX5_inState prog_7_method_27_code 4 (some .int) kX5_inState [.ref m, .int n] G (pI (fun v G' => G' = G ∧ v = nI (cnt (fun k => decide (F k 0 = n)) nf))) := by
  refine Ctr.mk (by decide +kernel) (Nat.le_of_ble_eq_true rfl) ?_
  intro κ C R
  have hbd := h.2.2
  refine g_pc (pc' := 0) rfl ?_
  refine g_seg [(0, .iconst 0, 1), (1, .istore_n 2, 1), (2, .iconst 0, 1), (3, .istore_n 3, 1)] 4 [(3, .int 0), (2, .int 0), (0, .ref m), (1, .int n)] [] C (by decide +kernel) rfl ?_
  refine g_subp [2, 3, 1, 0] (lv' := [(0, .ref m), (1, .int n), (2, .int 0), (3, .int 0)]) rfl ?_
  have lp1 : ∀ (n0 k : Nat) (s xk : Int32), nf + 1 ≤ k + n0 → k ≤ nf → xk = nI k → s = nI (cnt (fun k => decide (F k 0 = n)) k) → PG κ 4 0 0 G [(0, .ref m), (1, .int n), (2, .int s), (3, .int xk)] 4 [] := by
    intro n0
    induction n0 with
    | zero => intro k s xk h1 h2; intros; exact absurd h1 (by omega)
    | succ n0 ih =>
      intro k s xk hm hk hx hs
      refine g_seg [(4, .iload_n 3, 1), (5, .aload_n 0, 1)] 6 [(0, .ref m), (1, .int n), (2, .int s), (3, .int xk)] [.ref m, .int xk] C (by decide +kernel) rfl ?_
      refine g_getf (pc := 6) (k := 2) (v := .int (nI nf)) C fl_X5_36 (h.1.1) rfl (by decide +kernel) ?_
      refine g_icmp_ge (pc := 9) (off := 27) 36 C (by decide +kernel) (by decide) (fun c2 => ?_) (fun c2 => ?_)
      · have hk8 : k = nf := by have := lp_ge hx (by omega) (by omega) c2; omega
        refine g_seg [(36, .iload_n 2, 1)] 37 [(0, .ref m), (1, .int n), (2, .int s), (3, .int xk)] [.int s] C (by decide +kernel) rfl ?_
        exact g_iret (pc := 37) C R (⟨_, rfl, rfl, by rw [hs, hk8]⟩) (Nat.le_of_ble_eq_true rfl) (Nat.le_of_ble_eq_true rfl) (by decide +kernel)
      · have hk8 : k < nf := lp_lt hx (by omega) (by omega) c2
        refine g_seg [(12, .iload_n 2, 1), (13, .aload_n 0, 1), (14, .iload_n 3, 1), (15, .iconst 0, 1)] 16 [(0, .ref m), (1, .int n), (2, .int s), (3, .int xk)] [.int 0, .int xk, .ref m, .int s] C (by decide +kernel) rfl ?_
        refine g_callV (pc := 16) C mV_X5_pe q755 (h.1.1) rfl rfl (c_X5_pe l D cy h k 0 (by omega) (by omega) xk 0 (hx) (rfl)) rfl ⟨⟨Nat.le_of_ble_eq_true rfl, Nat.le_of_ble_eq_true rfl⟩, Nat.le_of_ble_eq_true rfl, Nat.le_of_ble_eq_true rfl⟩ rfl (Nat.le_of_ble_eq_true rfl) (by decide +kernel) ?_
        refine g_kI (fun v5 G4 hp3 => ?_)
        obtain ⟨rfl, rfl⟩ := hp3
        refine g_seg [(19, .iload_n 1, 1)] 20 [(0, .ref m), (1, .int n), (2, .int s), (3, .int xk)] [.int n, .int (F k 0), .int s] C (by decide +kernel) rfl ?_
        refine g_icmp_ne (pc := 20) (off := 7) 27 C (by decide +kernel) (by decide) (fun c6 => ?_) (fun c6 => ?_)
        · refine g_seg [(27, .iconst 0, 1), (28, .iadd, 1), (29, .istore_n 2, 1), (30, .iinc 3 1, 3), (33, .goto (-29), 3)] 4 [(3, .int (xk + 1)), (2, .int (s + 0)), (0, .ref m), (1, .int n)] [] C (by decide +kernel) rfl ?_
          refine g_subp [2, 3, 1, 0] (lv' := [(0, .ref m), (1, .int n), (2, .int (s + 0)), (3, .int (xk + 1))]) rfl ?_
          exact ih (k + 1) (s + 0) (xk + 1) (by omega) (by omega) (lp_s hx) (cntU_n hs (decide_eq_false c6))
        · refine g_seg [(23, .iconst 1, 1), (24, .goto 4, 3), (28, .iadd, 1), (29, .istore_n 2, 1), (30, .iinc 3 1, 3), (33, .goto (-29), 3)] 4 [(3, .int (xk + 1)), (2, .int (s + 1)), (0, .ref m), (1, .int n)] [] C (by decide +kernel) rfl ?_
          refine g_subp [2, 3, 1, 0] (lv' := [(0, .ref m), (1, .int n), (2, .int (s + 1)), (3, .int (xk + 1))]) rfl ?_
          exact ih (k + 1) (s + 1) (xk + 1) (by omega) (by omega) (lp_s hx) (cntU_y hs (decide_eq_true c6))
  exact lp1 (nf + 1) 0 0 0 (by omega) (by omega) (nI_0.symm) (rfl)
set_option maxHeartbeats 4000000 in
set_option maxRecDepth 100000 in
theorem c_X5_isFree (l : Launch) (D : va_G) (cy : Nat → ClassId) {G : GG} {m : Nat} {am : Nat → Nat} {th b : Int32} {nt nf nc nn : Nat} {T F Cu N : Rw} (h : RM cy m am th b nt nf nc nn T F Cu N G) (i : Nat) (hi : i < 6) (t : Int32) (ht : t = nI i) : Ctr l D cy yX5_isFree prog_7_method_17_code 2 (some .boolean) kX5_isFree [.ref m, .int t] G (pI (fun v G' => G' = G ∧ ((v = 1 ∧ (T i 5 = 1 ∧ nI (s_hang F nf t) < 2)) ∨ (v = 0 ∧ ¬ (T i 5 = 1 ∧ nI (s_hang F nf t) < 2))))) := by
  refine Ctr.mk (by decide +kernel) (Nat.le_of_ble_eq_true rfl) ?_
  intro κ C R
  have hbd := h.2.2
  refine g_pc (pc' := 0) rfl ?_
  refine g_seg [(0, .aload_n 0, 1), (1, .iload_n 1, 1), (2, .iconst 5, 1)] 3 [(0, .ref m), (1, .int t)] [.int 5, .int t, .ref m] C (by decide +kernel) rfl ?_
  refine g_callV (pc := 3) C mV_X5_ri q723 (h.1.1) rfl rfl (c_X5_ri l D cy h i 5 (by omega) (by omega) t 5 (ht) (rfl)) rfl ⟨⟨Nat.le_of_ble_eq_true rfl, Nat.le_of_ble_eq_true rfl⟩, Nat.le_of_ble_eq_true rfl, Nat.le_of_ble_eq_true rfl⟩ rfl (Nat.le_of_ble_eq_true rfl) (by decide +kernel) ?_
  refine g_kI (fun v3 G2 hp1 => ?_)
  obtain ⟨rfl, rfl⟩ := hp1
  refine g_seg [(6, .iconst 1, 1)] 7 [(0, .ref m), (1, .int t)] [.int 1, .int (T i 5)] C (by decide +kernel) rfl ?_
  refine g_icmp_ne (pc := 7) (off := 16) 23 C (by decide +kernel) (by decide) (fun c4 => ?_) (fun c4 => ?_)
  · refine g_seg [(23, .iconst 0, 1)] 24 [(0, .ref m), (1, .int t)] [.int 0] C (by decide +kernel) rfl ?_
    exact g_zret (pc := 24) C R (by first | rfl | decide) (⟨_, rfl, rfl, Or.inr ⟨rfl, fun h9 => c4 h9.1⟩⟩) (Nat.le_of_ble_eq_true rfl) (Nat.le_of_ble_eq_true rfl) (by decide +kernel)
  · refine g_seg [(10, .aload_n 0, 1), (11, .iload_n 1, 1)] 12 [(0, .ref m), (1, .int t)] [.int t, .ref m] C (by decide +kernel) rfl ?_
    refine g_callV (pc := 12) C mV_X5_hanging q763 (h.1.1) rfl rfl (c_X5_hanging l D cy h t) rfl ⟨⟨Nat.le_of_ble_eq_true rfl, Nat.le_of_ble_eq_true rfl⟩, Nat.le_of_ble_eq_true rfl, Nat.le_of_ble_eq_true rfl⟩ rfl (Nat.le_of_ble_eq_true rfl) (by decide +kernel) ?_
    refine g_kI (fun v7 G6 hp5 => ?_)
    obtain ⟨rfl, rfl⟩ := hp5
    refine g_seg [(15, .iconst 2, 1)] 16 [(0, .ref m), (1, .int t)] [.int 2, .int (nI (s_hang F nf t))] C (by decide +kernel) rfl ?_
    refine g_icmp_ge (pc := 16) (off := 7) 23 C (by decide +kernel) (by decide) (fun c8 => ?_) (fun c8 => ?_)
    · refine g_seg [(23, .iconst 0, 1)] 24 [(0, .ref m), (1, .int t)] [.int 0] C (by decide +kernel) rfl ?_
      exact g_zret (pc := 24) C R (by first | rfl | decide) (⟨_, rfl, rfl, Or.inr ⟨rfl, fun h9 => absurd h9.2 (Int32.not_lt.mpr c8)⟩⟩) (Nat.le_of_ble_eq_true rfl) (Nat.le_of_ble_eq_true rfl) (by decide +kernel)
    · refine g_seg [(19, .iconst 1, 1), (20, .goto 4, 3)] 24 [(0, .ref m), (1, .int t)] [.int 1] C (by decide +kernel) rfl ?_
      exact g_zret (pc := 24) C R (by first | rfl | decide) (⟨_, rfl, rfl, Or.inl ⟨rfl, c4, Int32.not_le.mp c8⟩⟩) (Nat.le_of_ble_eq_true rfl) (Nat.le_of_ble_eq_true rfl) (by decide +kernel)
set_option maxHeartbeats 4000000 in
set_option maxRecDepth 100000 in
theorem c_X5_swung (l : Launch) (D : va_G) (cy : Nat → ClassId) (G : GG) (mid wid wt d : Int32) (hw : ∃ w, w ≤ 10 ∧ wt = nI w) : Ctr l D cy yX5_swung prog_7_method_20_code 6 (some .int) kX5_swung [.int mid, .int wid, .int wt, .int d] G (pI (fun v G' => G' = G ∧ v = s_pl mid wid wt d)) := by
  refine Ctr.mk (by decide +kernel) (Nat.le_of_ble_eq_true rfl) ?_
  intro κ C R
  refine g_pc (pc' := 0) rfl ?_
  refine g_seg [(0, .iconst 2, 1), (1, .iload_n 2, 1), (2, .iadd, 1), (3, .istore 4, 2), (5, .iload_n 3, 1), (6, .iconst 2, 1), (7, .iload 4, 2), (9, .imul, 1)] 10 [(4, .int (2 + wt)), (0, .int mid), (1, .int wid), (2, .int wt), (3, .int d)] [.int (2 * (2 + wt)), .int d] C (by decide +kernel) rfl ?_
  refine g_irem (pc := 10) C (by decide +kernel) (s_hne2 hw) ?_
  refine g_seg [(11, .istore 5, 2), (13, .iload 5, 2), (15, .iload 4, 2)] 17 [(5, .int (d - d / (2 * (2 + wt)) * (2 * (2 + wt)))), (4, .int (2 + wt)), (0, .int mid), (1, .int wid), (2, .int wt), (3, .int d)] [.int (2 + wt), .int (d - d / (2 * (2 + wt)) * (2 * (2 + wt)))] C (by decide +kernel) rfl ?_
  refine g_icmp_gt (pc := 17) (off := 19) 36 C (by decide +kernel) (by decide) (fun c1 => ?_) (fun c1 => ?_)
  · refine g_seg [(36, .iload_n 0, 1), (37, .iload_n 1, 1), (38, .iadd, 1), (39, .iconst 2, 1), (40, .iload_n 1, 1), (41, .imul, 1), (42, .iload 5, 2), (44, .iload 4, 2), (46, .isub, 1), (47, .imul, 1), (48, .iload 4, 2)] 50 [(5, .int (d - d / (2 * (2 + wt)) * (2 * (2 + wt)))), (4, .int (2 + wt)), (0, .int mid), (1, .int wid), (2, .int wt), (3, .int d)] [.int (2 + wt), .int ((2 * wid) * ((d - d / (2 * (2 + wt)) * (2 * (2 + wt))) - (2 + wt))), .int (mid + wid)] C (by decide +kernel) rfl ?_
    refine g_idiv (pc := 50) C (by decide +kernel) (s_hne hw) ?_
    refine g_seg [(51, .isub, 1)] 52 [(5, .int (d - d / (2 * (2 + wt)) * (2 * (2 + wt)))), (4, .int (2 + wt)), (0, .int mid), (1, .int wid), (2, .int wt), (3, .int d)] [.int ((mid + wid) - (((2 * wid) * ((d - d / (2 * (2 + wt)) * (2 * (2 + wt))) - (2 + wt))) / (2 + wt)))] C (by decide +kernel) rfl ?_
    exact g_iret (pc := 52) C R (⟨_, rfl, rfl, by unfold s_pl s_p; first | rw [if_pos (Int32.not_lt.mp (by assumption))] | rw [if_neg (Int32.not_le.mpr (by assumption))]⟩) (Nat.le_of_ble_eq_true rfl) (Nat.le_of_ble_eq_true rfl) (by decide +kernel)
  · refine g_seg [(20, .iload_n 0, 1), (21, .iload_n 1, 1), (22, .isub, 1), (23, .iconst 2, 1), (24, .iload_n 1, 1), (25, .imul, 1), (26, .iload 5, 2), (28, .imul, 1), (29, .iload 4, 2)] 31 [(5, .int (d - d / (2 * (2 + wt)) * (2 * (2 + wt)))), (4, .int (2 + wt)), (0, .int mid), (1, .int wid), (2, .int wt), (3, .int d)] [.int (2 + wt), .int ((2 * wid) * (d - d / (2 * (2 + wt)) * (2 * (2 + wt)))), .int (mid - wid)] C (by decide +kernel) rfl ?_
    refine g_idiv (pc := 31) C (by decide +kernel) (s_hne hw) ?_
    refine g_seg [(32, .iadd, 1), (33, .goto 19, 3)] 52 [(5, .int (d - d / (2 * (2 + wt)) * (2 * (2 + wt)))), (4, .int (2 + wt)), (0, .int mid), (1, .int wid), (2, .int wt), (3, .int d)] [.int ((mid - wid) + (((2 * wid) * (d - d / (2 * (2 + wt)) * (2 * (2 + wt)))) / (2 + wt)))] C (by decide +kernel) rfl ?_
    exact g_iret (pc := 52) C R (⟨_, rfl, rfl, by unfold s_pl s_p; first | rw [if_pos (Int32.not_lt.mp (by assumption))] | rw [if_neg (Int32.not_le.mpr (by assumption))]⟩) (Nat.le_of_ble_eq_true rfl) (Nat.le_of_ble_eq_true rfl) (by decide +kernel)
set_option maxHeartbeats 4000000 in
set_option maxRecDepth 100000 in
theorem c_X5_placeOf (l : Launch) (D : va_G) (cy : Nat → ClassId) {G : GG} {m : Nat} {am : Nat → Nat} {th b : Int32} {nt nf nc nn : Nat} {T F Cu N : Rw} (h : RM cy m am th b nt nf nc nn T F Cu N G) (i : Nat) (hi : i < 6) (t d : Int32) (ht : t = nI i) (hw : ∃ w, w ≤ 10 ∧ T i 2 = nI w) : Ctr l D cy yX5_placeOf prog_7_method_21_code 3 (some .int) kX5_placeOf [.ref m, .int t, .int d] G (pI (fun v G' => G' = G ∧ v = s_at T i (b + d))) := by
  refine Ctr.mk (by decide +kernel) (Nat.le_of_ble_eq_true rfl) ?_
  intro κ C R
  have hbd := h.2.2
  refine g_pc (pc' := 0) rfl ?_
  refine g_seg [(0, .aload_n 0, 1), (1, .iload_n 1, 1), (2, .iconst 0, 1)] 3 [(0, .ref m), (1, .int t), (2, .int d)] [.int 0, .int t, .ref m] C (by decide +kernel) rfl ?_
  refine g_callV (pc := 3) C mV_X5_ri q723 (h.1.1) rfl rfl (c_X5_ri l D cy h i 0 (by omega) (by omega) t 0 (ht) (rfl)) rfl ⟨⟨Nat.le_of_ble_eq_true rfl, Nat.le_of_ble_eq_true rfl⟩, Nat.le_of_ble_eq_true rfl, Nat.le_of_ble_eq_true rfl⟩ rfl (Nat.le_of_ble_eq_true rfl) (by decide +kernel) ?_
  refine g_kI (fun v3 G2 hp1 => ?_)
  obtain ⟨rfl, rfl⟩ := hp1
  refine g_seg [(6, .aload_n 0, 1), (7, .iload_n 1, 1), (8, .iconst 1, 1)] 9 [(0, .ref m), (1, .int t), (2, .int d)] [.int 1, .int t, .ref m, .int (T i 0)] C (by decide +kernel) rfl ?_
  refine g_callV (pc := 9) C mV_X5_ri q723 (h.1.1) rfl rfl (c_X5_ri l D cy h i 1 (by omega) (by omega) t 1 (ht) (rfl)) rfl ⟨⟨Nat.le_of_ble_eq_true rfl, Nat.le_of_ble_eq_true rfl⟩, Nat.le_of_ble_eq_true rfl, Nat.le_of_ble_eq_true rfl⟩ rfl (Nat.le_of_ble_eq_true rfl) (by decide +kernel) ?_
  refine g_kI (fun v6 G5 hp4 => ?_)
  obtain ⟨rfl, rfl⟩ := hp4
  refine g_seg [(12, .aload_n 0, 1), (13, .iload_n 1, 1), (14, .iconst 2, 1)] 15 [(0, .ref m), (1, .int t), (2, .int d)] [.int 2, .int t, .ref m, .int (T i 1), .int (T i 0)] C (by decide +kernel) rfl ?_
  refine g_callV (pc := 15) C mV_X5_ri q723 (h.1.1) rfl rfl (c_X5_ri l D cy h i 2 (by omega) (by omega) t 2 (ht) (rfl)) rfl ⟨⟨Nat.le_of_ble_eq_true rfl, Nat.le_of_ble_eq_true rfl⟩, Nat.le_of_ble_eq_true rfl, Nat.le_of_ble_eq_true rfl⟩ rfl (Nat.le_of_ble_eq_true rfl) (by decide +kernel) ?_
  refine g_kI (fun v9 G8 hp7 => ?_)
  obtain ⟨rfl, rfl⟩ := hp7
  refine g_seg [(18, .aload_n 0, 1)] 19 [(0, .ref m), (1, .int t), (2, .int d)] [.ref m, .int (T i 2), .int (T i 1), .int (T i 0)] C (by decide +kernel) rfl ?_
  refine g_getf (pc := 19) (k := 9) (v := .ref (am 4)) C fl_X5_22 (h.1.1) rfl (by decide +kernel) ?_
  refine g_seg [(22, .iconst 0, 1)] 23 [(0, .ref m), (1, .int t), (2, .int d)] [.int 0, .ref (am 4), .int (T i 2), .int (T i 1), .int (T i 0)] C (by decide +kernel) rfl ?_
  refine g_ialdM (pc := 23) (n := 1) 0 b C (h.1.2.2.2.2.2) nI_0.symm (by decide) (by decide) rfl (by decide +kernel) ?_
  refine g_seg [(24, .iload_n 2, 1), (25, .iadd, 1), (26, .aload_n 0, 1), (27, .iload_n 1, 1), (28, .bipush 6, 2)] 30 [(0, .ref m), (1, .int t), (2, .int d)] [.int 6, .int t, .ref m, .int (b + d), .int (T i 2), .int (T i 1), .int (T i 0)] C (by decide +kernel) rfl ?_
  refine g_callV (pc := 30) C mV_X5_ri q723 (h.1.1) rfl rfl (c_X5_ri l D cy h i 6 (by omega) (by omega) t 6 (ht) (rfl)) rfl ⟨⟨Nat.le_of_ble_eq_true rfl, Nat.le_of_ble_eq_true rfl⟩, Nat.le_of_ble_eq_true rfl, Nat.le_of_ble_eq_true rfl⟩ rfl (Nat.le_of_ble_eq_true rfl) (by decide +kernel) ?_
  refine g_kI (fun v12 G11 hp10 => ?_)
  obtain ⟨rfl, rfl⟩ := hp10
  refine g_seg [(33, .isub, 1)] 34 [(0, .ref m), (1, .int t), (2, .int d)] [.int ((b + d) - (T i 6)), .int (T i 2), .int (T i 1), .int (T i 0)] C (by decide +kernel) rfl ?_
  refine g_callS (pc := 34) C mS_X5_swung q783 (c_X5_swung l D cy G11 (T i 0) (T i 1) (T i 2) ((b + d) - (T i 6)) (hw)) rfl ⟨⟨Nat.le_of_ble_eq_true rfl, Nat.le_of_ble_eq_true rfl⟩, Nat.le_of_ble_eq_true rfl, Nat.le_of_ble_eq_true rfl⟩ rfl (Nat.le_of_ble_eq_true rfl) (by decide +kernel) ?_
  refine g_kI (fun v15 G14 hp13 => ?_)
  obtain ⟨rfl, rfl⟩ := hp13
  exact g_iret (pc := 37) C R (⟨_, rfl, rfl, rfl⟩) (Nat.le_of_ble_eq_true rfl) (Nat.le_of_ble_eq_true rfl) (by decide +kernel)
