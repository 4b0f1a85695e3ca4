/-! the reference's public methods: pure words -/
theorem in_k {w : Int32} {k : Nat} {z : Int32} (hk2 : k + 1 < 1000) (hz : nI (k + 1) - 1 = z) (h : 0 ≤ w ∧ w ≤ z) : ∃ j, j < k + 1 ∧ w = nI j := in_ix (by omega) hk2 (by rw [hz]; exact h)
theorem nI_pr (n : Nat) : nI (n + 1) - 1 = nI n := nI_pred n
theorem fA_ext {w : Nat} {A B : Rw} (hw : 0 < w) (h : ∀ i k, k < w → A i k = B i k) : fA w A = fA w B := by
  funext j
  exact h _ _ (Nat.mod_lt _ hw)
section RME
variable {cy : Nat → ClassId} {m : Nat} {am : Nat → Nat} {th b : Int32} {nt nf nc nn : Nat} {T F C N T' F' C' N' : Rw} {G : GG}
theorem RM.ext (h : RM cy m am th b nt nf nc nn T F C N G) (h0 : fA 7 T = fA 7 T') (h1 : fA 5 F = fA 5 F') (h2 : fA 5 C = fA 5 C') (h3 : fA 2 N = fA 2 N') : RM cy m am th b nt nf nc nn T' F' C' N' G := by
  unfold RM at h ⊢
  rw [← h0, ← h1, ← h2, ← h3]
  exact h
end RME
theorem add_N {N : Rw} {n : Nat} {a c : Int32} : fA 2 (s_set (s_set N n 0 a) n 1 c) = fA 2 (s_add N n (rowN a c)) := by
  refine fA_ext (by decide) (fun i k hk => ?_)
  unfold s_set s_add rowN
  by_cases hi : i = n
  · subst hi
    rcases (show k = 0 ∨ k = 1 by omega) with rfl | rfl <;> simp
  · simp [hi]
theorem add_F {F : Rw} {n : Nat} : fA 5 (s_set (s_row F n 0 (-1) 0 (-1)) n 4 0) = fA 5 (s_add F n (fun k => if k = 1 ∨ k = 3 then -1 else 0)) := by
  refine fA_ext (by decide) (fun i k hk => ?_)
  unfold s_set s_add s_row
  by_cases hi : i = n
  · subst hi
    rcases (show k = 0 ∨ k = 1 ∨ k = 2 ∨ k = 3 ∨ k = 4 by omega) with rfl | rfl | rfl | rfl | rfl <;> simp
  · simp [hi]
def rowG : Nat → Int32 := fun k => if k = 1 ∨ k = 3 then -1 else 0
def m_digest (b : Int32) (nt nf nc nn : Nat) (T F C N : Rw) : Int64 :=
  s_dig (fA 2 N) (s_dig (fA 5 C) (its (fun t d => s_dig (fun w => m_toldF F b t w) d 5) (its (fun t d => s_dig (fun w => m_told T F nf b t w) d 8) (s_dig (fun w => m_count b nt nf nc T F C (nI w)) 1061 9) nt) nf) (5 * nc)) (2 * nn)
theorem mean_0M {F : Rw} {nf : Nat} (hn : nf ≤ 8) (h : nI nf = 0) : FP.dconst0 = s_mean F nf := mean_0 hn (by rw [h]; decide)
theorem mean_1M {F : Rw} {nf : Nat} (hn : nf ≤ 8) (h : ¬ nI nf = 0) : FP.ddiv (FP.i2d (s_caught F nf)) (FP.i2d (nI nf)) = s_mean F nf := by
  have : ¬ nf = 0 := fun e => h (by rw [e]; rfl)
  unfold s_mean; rw [if_neg this]

set_option maxHeartbeats 4000000 in
set_option maxRecDepth 100000 in
theorem c_X5_weigh (l : Launch) (D : va_G) (cy : Nat → ClassId) {G : GG} {m : Nat} {am : Nat → Nat} {th b : Int32} {nt nf nc nn : Nat} {T F Cu N : Rw} (h : RM cy m am th b nt nf nc nn T F Cu N G) (t p0 : Int32) : Ctr l D cy yX5_weigh prog_7_method_12_code 4 (some .int) kX5_weigh [.ref m, .int t, .int p0] G (pI (fun v G' => (∃ i, i < nt ∧ t = nI i ∧ (0 ≤ p0 ∧ p0 ≤ 10) ∧ ¬ T i 5 = 0 ∧ v = T i 2 ∧ RM cy m am 0 b nt nf nc nn (s_set (s_set T i 2 p0) i 6 b) F Cu N G') ∨ ((∀ i, i < nt → t ≠ nI i) ∧ RM cy m am 1 b nt nf nc nn T F Cu N G') ∨ ((∃ i, i < nt ∧ t = nI i) ∧ ¬ (0 ≤ p0 ∧ p0 ≤ 10) ∧ RM cy m am 2 b nt nf nc nn T F Cu N G') ∨ ((∃ i, i < nt ∧ t = nI i ∧ (0 ≤ p0 ∧ p0 ≤ 10) ∧ T i 5 = 0) ∧ RM cy m am 3 b nt nf nc nn T F Cu N G'))) := by
  refine Ctr.mk (by decide +kernel) (Nat.le_of_ble_eq_true rfl) ?_
  intro κ C R
  have hbd := h.2.2
  refine g_pc (pc' := 0) rfl ?_
  refine g_seg [(0, .aload_n 0, 1), (1, .iconst 0, 1)] 2 [(0, .ref m), (1, .int t), (2, .int p0)] [.int 0, .ref m] C (by decide +kernel) rfl ?_
  refine g_putf (pc := 2) (k := 0) (v := .int 0) (ty := .int) C fl_X5_25 fp_X5_0 (h.1.1) (rfl) (by first | rfl | decide) (Nat.le_of_ble_eq_true rfl) (by decide +kernel) ?_
  refine g_abs (P := fun G9 => RM cy m am 0 b nt nf nc nn T F Cu N G9) (RM.obj h h.2.2) (fun G1 h2 => ?_)
  refine g_seg [(5, .aload_n 0, 1), (6, .iload_n 1, 1)] 7 [(0, .ref m), (1, .int t), (2, .int p0)] [.int t, .ref m] C (by decide +kernel) rfl ?_
  refine g_callV (pc := 7) C mV_X5_isTrapeze q719 (h2.1.1) rfl rfl (c_X5_isTrapeze l D cy h2 t) rfl ⟨⟨Nat.le_of_ble_eq_true rfl, Nat.le_of_ble_eq_true rfl⟩, Nat.le_of_ble_eq_true rfl, Nat.le_of_ble_eq_true rfl⟩ rfl (Nat.le_of_ble_eq_true rfl) (by decide +kernel) ?_
  refine g_kI (fun v5 G4 hp3 => ?_)
  obtain ⟨rfl, hp3⟩ := hp3
  rcases hp3 with ⟨rfl, i6, hi7, hn8⟩ | ⟨rfl, hn8⟩
  · refine g_if_ne (pc := 10) (off := 9) 19 C (by decide +kernel) (by decide) (fun _ => ?_) (fun c9 => absurd c9 (by decide))
    refine g_seg [(19, .iload_n 2, 1), (20, .iconst 0, 1), (21, .bipush 10, 2)] 23 [(0, .ref m), (1, .int t), (2, .int p0)] [.int 10, .int 0, .int p0] C (by decide +kernel) rfl ?_
    refine g_callS (pc := 23) C mS_X5_isIn q705 (c_X5_isIn l D cy G4 p0 0 10) rfl ⟨⟨Nat.le_of_ble_eq_true rfl, Nat.le_of_ble_eq_true rfl⟩, Nat.le_of_ble_eq_true rfl, Nat.le_of_ble_eq_true rfl⟩ rfl (Nat.le_of_ble_eq_true rfl) (by decide +kernel) ?_
    refine g_kI (fun v11 G10 hp9 => ?_)
    obtain ⟨rfl, hp9⟩ := hp9
    rcases hp9 with ⟨rfl, h12⟩ | ⟨rfl, h12⟩
    · refine g_if_ne (pc := 26) (off := 9) 35 C (by decide +kernel) (by decide) (fun _ => ?_) (fun c9 => absurd c9 (by decide))
      refine g_seg [(35, .aload_n 0, 1), (36, .iload_n 1, 1), (37, .iconst 5, 1)] 38 [(0, .ref m), (1, .int t), (2, .int p0)] [.int 5, .int t, .ref m] C (by decide +kernel) rfl ?_
      refine g_callV (pc := 38) C mV_X5_ri q723 (h2.1.1) rfl rfl (c_X5_ri l D cy h2 i6 5 (by omega) (by omega) t 5 (hn8) (rfl)) rfl ⟨⟨Nat.le_of_ble_eq_true rfl, Nat.le_of_ble_eq_true rfl⟩, Nat.le_of_ble_eq_true rfl, Nat.le_of_ble_eq_true rfl⟩ rfl (Nat.le_of_ble_eq_true rfl) (by decide +kernel) ?_
      refine g_kI (fun v15 G14 hp13 => ?_)
      obtain ⟨rfl, rfl⟩ := hp13
      refine g_if_ne (pc := 41) (off := 9) 50 C (by decide +kernel) (by decide) (fun c16 => ?_) (fun c16 => ?_)
      · refine g_seg [(50, .aload_n 0, 1), (51, .iload_n 1, 1), (52, .iconst 2, 1)] 53 [(0, .ref m), (1, .int t), (2, .int p0)] [.int 2, .int t, .ref m] C (by decide +kernel) rfl ?_
        refine g_callV (pc := 53) C mV_X5_ri q723 (h2.1.1) rfl rfl (c_X5_ri l D cy h2 i6 2 (by omega) (by omega) t 2 (hn8) (rfl)) rfl ⟨⟨Nat.le_of_ble_eq_true rfl, Nat.le_of_ble_eq_true rfl⟩, Nat.le_of_ble_eq_true rfl, Nat.le_of_ble_eq_true rfl⟩ rfl (Nat.le_of_ble_eq_true rfl) (by decide +kernel) ?_
        refine g_kI (fun v19 G18 hp17 => ?_)
        obtain ⟨rfl, rfl⟩ := hp17
        refine g_seg [(56, .istore_n 3, 1), (57, .aload_n 0, 1), (58, .iload_n 1, 1), (59, .iconst 2, 1), (60, .iload_n 2, 1)] 61 [(3, .int (T i6 2)), (0, .ref m), (1, .int t), (2, .int p0)] [.int p0, .int 2, .int t, .ref m] C (by decide +kernel) rfl ?_
        refine g_callV (pc := 61) C mV_X5_setRig q727 (h2.1.1) rfl rfl (c_X5_setRig l D cy h2 i6 2 (by omega) (by omega) t 2 p0 (hn8) (rfl)) rfl ⟨⟨Nat.le_of_ble_eq_true rfl, Nat.le_of_ble_eq_true rfl⟩, Nat.le_of_ble_eq_true rfl, Nat.le_of_ble_eq_true rfl⟩ rfl (Nat.le_of_ble_eq_true rfl) (by decide +kernel) ?_
        refine g_kV (fun G20 h21 => ?_)
        refine g_seg [(64, .aload_n 0, 1), (65, .iload_n 1, 1), (66, .bipush 6, 2), (68, .aload_n 0, 1)] 69 [(3, .int (T i6 2)), (0, .ref m), (1, .int t), (2, .int p0)] [.ref m, .int 6, .int t, .ref m] C (by decide +kernel) rfl ?_
        refine g_getf (pc := 69) (k := 9) (v := .ref (am 4)) C fl_X5_22 (h21.1.1) rfl (by decide +kernel) ?_
        refine g_seg [(72, .iconst 0, 1)] 73 [(3, .int (T i6 2)), (0, .ref m), (1, .int t), (2, .int p0)] [.int 0, .ref (am 4), .int 6, .int t, .ref m] C (by decide +kernel) rfl ?_
        refine g_ialdM (pc := 73) (n := 1) 0 b C (h21.1.2.2.2.2.2) nI_0.symm (by decide) (by decide) rfl (by decide +kernel) ?_
        refine g_callV (pc := 74) C mV_X5_setRig q727 (h21.1.1) rfl rfl (c_X5_setRig l D cy h21 i6 6 (by omega) (by omega) t 6 b (hn8) (rfl)) rfl ⟨⟨Nat.le_of_ble_eq_true rfl, Nat.le_of_ble_eq_true rfl⟩, Nat.le_of_ble_eq_true rfl, Nat.le_of_ble_eq_true rfl⟩ rfl (Nat.le_of_ble_eq_true rfl) (by decide +kernel) ?_
        refine g_kV (fun G22 h23 => ?_)
        refine g_seg [(77, .iload_n 3, 1)] 78 [(3, .int (T i6 2)), (0, .ref m), (1, .int t), (2, .int p0)] [.int (T i6 2)] C (by decide +kernel) rfl ?_
        exact g_iret (pc := 78) C R (⟨_, rfl, Or.inl ⟨i6, hi7, hn8, h12, c16, rfl, h23⟩⟩) (Nat.le_of_ble_eq_true rfl) (Nat.le_of_ble_eq_true rfl) (by decide +kernel)
      · refine g_seg [(44, .aload_n 0, 1), (45, .iconst 3, 1)] 46 [(0, .ref m), (1, .int t), (2, .int p0)] [.int 3, .ref m] C (by decide +kernel) rfl ?_
        refine g_callV (pc := 46) C mV_X5_fail q708 (h2.1.1) rfl rfl (c_X5_fail l D cy h2 3) rfl ⟨⟨Nat.le_of_ble_eq_true rfl, Nat.le_of_ble_eq_true rfl⟩, Nat.le_of_ble_eq_true rfl, Nat.le_of_ble_eq_true rfl⟩ rfl (Nat.le_of_ble_eq_true rfl) (by decide +kernel) ?_
        refine g_kI (fun v26 G24 hp25 => ?_)
        obtain ⟨rfl, h27⟩ := hp25
        exact g_iret (pc := 49) C R (⟨_, rfl, Or.inr (Or.inr (Or.inr (⟨⟨i6, hi7, hn8, h12, c16⟩, h27⟩)))⟩) (Nat.le_of_ble_eq_true rfl) (Nat.le_of_ble_eq_true rfl) (by decide +kernel)
    · refine g_if_ne (pc := 26) (off := 9) 35 C (by decide +kernel) (by decide) (fun c9 => absurd (by decide) c9) (fun _ => ?_)
      refine g_seg [(29, .aload_n 0, 1), (30, .iconst 2, 1)] 31 [(0, .ref m), (1, .int t), (2, .int p0)] [.int 2, .ref m] C (by decide +kernel) rfl ?_
      refine g_callV (pc := 31) C mV_X5_fail q708 (h2.1.1) rfl rfl (c_X5_fail l D cy h2 2) rfl ⟨⟨Nat.le_of_ble_eq_true rfl, Nat.le_of_ble_eq_true rfl⟩, Nat.le_of_ble_eq_true rfl, Nat.le_of_ble_eq_true rfl⟩ rfl (Nat.le_of_ble_eq_true rfl) (by decide +kernel) ?_
      refine g_kI (fun v30 G28 hp29 => ?_)
      obtain ⟨rfl, h31⟩ := hp29
      exact g_iret (pc := 34) C R (⟨_, rfl, Or.inr (Or.inr (Or.inl ⟨⟨i6, hi7, hn8⟩, h12, h31⟩))⟩) (Nat.le_of_ble_eq_true rfl) (Nat.le_of_ble_eq_true rfl) (by decide +kernel)
  · refine g_if_ne (pc := 10) (off := 9) 19 C (by decide +kernel) (by decide) (fun c9 => absurd (by decide) c9) (fun _ => ?_)
    refine g_seg [(13, .aload_n 0, 1), (14, .iconst 1, 1)] 15 [(0, .ref m), (1, .int t), (2, .int p0)] [.int 1, .ref m] C (by decide +kernel) rfl ?_
    refine g_callV (pc := 15) C mV_X5_fail q708 (h2.1.1) rfl rfl (c_X5_fail l D cy h2 1) rfl ⟨⟨Nat.le_of_ble_eq_true rfl, Nat.le_of_ble_eq_true rfl⟩, Nat.le_of_ble_eq_true rfl, Nat.le_of_ble_eq_true rfl⟩ rfl (Nat.le_of_ble_eq_true rfl) (by decide +kernel) ?_
    refine g_kI (fun v34 G32 hp33 => ?_)
    obtain ⟨rfl, h35⟩ := hp33
    exact g_iret (pc := 18) C R (⟨_, rfl, Or.inr (Or.inl ⟨hn8, h35⟩)⟩) (Nat.le_of_ble_eq_true rfl) (Nat.le_of_ble_eq_true rfl) (by decide +kernel)
set_option maxHeartbeats 4000000 in
set_option maxRecDepth 100000 in
theorem c_X5_mend (l : Launch) (D : va_G) (cy : Nat → ClassId) {G : GG} {m : Nat} {am : Nat → Nat} {th b : Int32} {nt nf nc nn : Nat} {T F Cu N : Rw} (h : RM cy m am th b nt nf nc nn T F Cu N G) (t : Int32) : Ctr l D cy yX5_mend prog_7_method_13_code 3 (some .int) kX5_mend [.ref m, .int t] G (pI (fun v G' => (∃ i, i < nt ∧ t = nI i ∧ v = T i 4 ∧ RM cy m am 0 b nt nf nc nn (s_set (s_set T i 4 0) i 5 1) F Cu N G') ∨ ((∀ i, i < nt → t ≠ nI i) ∧ RM cy m am 1 b nt nf nc nn T F Cu N G'))) := by
  refine Ctr.mk (by decide +kernel) (Nat.le_of_ble_eq_true rfl) ?_
  intro κ C R
  have hbd := h.2.2
  refine g_pc (pc' := 0) rfl ?_
  refine g_seg [(0, .aload_n 0, 1), (1, .iconst 0, 1)] 2 [(0, .ref m), (1, .int t)] [.int 0, .ref m] C (by decide +kernel) rfl ?_
  refine g_putf (pc := 2) (k := 0) (v := .int 0) (ty := .int) C fl_X5_25 fp_X5_0 (h.1.1) (rfl) (by first | rfl | decide) (Nat.le_of_ble_eq_true rfl) (by decide +kernel) ?_
  refine g_abs (P := fun G9 => RM cy m am 0 b nt nf nc nn T F Cu N G9) (RM.obj h h.2.2) (fun G1 h2 => ?_)
  refine g_seg [(5, .aload_n 0, 1), (6, .iload_n 1, 1)] 7 [(0, .ref m), (1, .int t)] [.int t, .ref m] C (by decide +kernel) rfl ?_
  refine g_callV (pc := 7) C mV_X5_isTrapeze q719 (h2.1.1) rfl rfl (c_X5_isTrapeze l D cy h2 t) rfl ⟨⟨Nat.le_of_ble_eq_true rfl, Nat.le_of_ble_eq_true rfl⟩, Nat.le_of_ble_eq_true rfl, Nat.le_of_ble_eq_true rfl⟩ rfl (Nat.le_of_ble_eq_true rfl) (by decide +kernel) ?_
  refine g_kI (fun v5 G4 hp3 => ?_)
  obtain ⟨rfl, hp3⟩ := hp3
  rcases hp3 with ⟨rfl, i6, hi7, hn8⟩ | ⟨rfl, hn8⟩
  · refine g_if_ne (pc := 10) (off := 9) 19 C (by decide +kernel) (by decide) (fun _ => ?_) (fun c9 => absurd c9 (by decide))
    refine g_seg [(19, .aload_n 0, 1), (20, .iload_n 1, 1), (21, .iconst 4, 1)] 22 [(0, .ref m), (1, .int t)] [.int 4, .int t, .ref m] C (by decide +kernel) rfl ?_
    refine g_callV (pc := 22) C mV_X5_ri q723 (h2.1.1) rfl rfl (c_X5_ri l D cy h2 i6 4 (by omega) (by omega) t 4 (hn8) (rfl)) rfl ⟨⟨Nat.le_of_ble_eq_true rfl, Nat.le_of_ble_eq_true rfl⟩, Nat.le_of_ble_eq_true rfl, Nat.le_of_ble_eq_true rfl⟩ rfl (Nat.le_of_ble_eq_true rfl) (by decide +kernel) ?_
    refine g_kI (fun v11 G10 hp9 => ?_)
    obtain ⟨rfl, rfl⟩ := hp9
    refine g_seg [(25, .istore_n 2, 1), (26, .aload_n 0, 1), (27, .iload_n 1, 1), (28, .iconst 4, 1), (29, .iconst 0, 1)] 30 [(2, .int (T i6 4)), (0, .ref m), (1, .int t)] [.int 0, .int 4, .int t, .ref m] C (by decide +kernel) rfl ?_
    refine g_callV (pc := 30) C mV_X5_setRig q727 (h2.1.1) rfl rfl (c_X5_setRig l D cy h2 i6 4 (by omega) (by omega) t 4 0 (hn8) (rfl)) rfl ⟨⟨Nat.le_of_ble_eq_true rfl, Nat.le_of_ble_eq_true rfl⟩, Nat.le_of_ble_eq_true rfl, Nat.le_of_ble_eq_true rfl⟩ rfl (Nat.le_of_ble_eq_true rfl) (by decide +kernel) ?_
    refine g_kV (fun G12 h13 => ?_)
    refine g_seg [(33, .aload_n 0, 1), (34, .iload_n 1, 1), (35, .iconst 5, 1), (36, .iconst 1, 1)] 37 [(2, .int (T i6 4)), (0, .ref m), (1, .int t)] [.int 1, .int 5, .int t, .ref m] C (by decide +kernel) rfl ?_
    refine g_callV (pc := 37) C mV_X5_setRig q727 (h13.1.1) rfl rfl (c_X5_setRig l D cy h13 i6 5 (by omega) (by omega) t 5 1 (hn8) (rfl)) rfl ⟨⟨Nat.le_of_ble_eq_true rfl, Nat.le_of_ble_eq_true rfl⟩, Nat.le_of_ble_eq_true rfl, Nat.le_of_ble_eq_true rfl⟩ rfl (Nat.le_of_ble_eq_true rfl) (by decide +kernel) ?_
    refine g_kV (fun G14 h15 => ?_)
    refine g_seg [(40, .iload_n 2, 1)] 41 [(2, .int (T i6 4)), (0, .ref m), (1, .int t)] [.int (T i6 4)] C (by decide +kernel) rfl ?_
    exact g_iret (pc := 41) C R (⟨_, rfl, Or.inl ⟨i6, hi7, hn8, rfl, h15⟩⟩) (Nat.le_of_ble_eq_true rfl) (Nat.le_of_ble_eq_true rfl) (by decide +kernel)
  · refine g_if_ne (pc := 10) (off := 9) 19 C (by decide +kernel) (by decide) (fun c9 => absurd (by decide) c9) (fun _ => ?_)
    refine g_seg [(13, .aload_n 0, 1), (14, .iconst 1, 1)] 15 [(0, .ref m), (1, .int t)] [.int 1, .ref m] C (by decide +kernel) rfl ?_
    refine g_callV (pc := 15) C mV_X5_fail q708 (h2.1.1) rfl rfl (c_X5_fail l D cy h2 1) rfl ⟨⟨Nat.le_of_ble_eq_true rfl, Nat.le_of_ble_eq_true rfl⟩, Nat.le_of_ble_eq_true rfl, Nat.le_of_ble_eq_true rfl⟩ rfl (Nat.le_of_ble_eq_true rfl) (by decide +kernel) ?_
    refine g_kI (fun v18 G16 hp17 => ?_)
    obtain ⟨rfl, h19⟩ := hp17
    exact g_iret (pc := 18) C R (⟨_, rfl, Or.inr (⟨hn8, h19⟩)⟩) (Nat.le_of_ble_eq_true rfl) (Nat.le_of_ble_eq_true rfl) (by decide +kernel)
set_option maxHeartbeats 4000000 in
set_option maxRecDepth 100000 in
theorem c_X5_spread (l : Launch) (D : va_G) (cy : Nat → ClassId) {G : GG} {m : Nat} {am : Nat → Nat} {th b : Int32} {nt nf nc nn : Nat} {T F Cu N : Rw} (h : RM cy m am th b nt nf nc nn T F Cu N G) (p0 p1 : Int32) : Ctr l D cy yX5_spread prog_7_method_14_code 3 (some .int) kX5_spread [.ref m, .int p0, .int p1] G (pI (fun v G' => (okN p0 p1 ∧ nn < 3 ∧ v = nI (nn + 1) ∧ RM cy m am 0 b nt nf nc (nn + 1) T F Cu (s_add N nn (rowN p0 p1)) G') ∨ (¬ okN p0 p1 ∧ RM cy m am 1 b nt nf nc nn T F Cu N G') ∨ (okN p0 p1 ∧ ¬ nn < 3 ∧ RM cy m am 2 b nt nf nc nn T F Cu N G'))) := by
  refine Ctr.mk (by decide +kernel) (Nat.le_of_ble_eq_true rfl) ?_
  intro κ C R
  have hbd := h.2.2
  refine g_pc (pc' := 0) rfl ?_
  refine g_seg [(0, .aload_n 0, 1), (1, .iconst 0, 1)] 2 [(0, .ref m), (1, .int p0), (2, .int p1)] [.int 0, .ref m] C (by decide +kernel) rfl ?_
  refine g_putf (pc := 2) (k := 0) (v := .int 0) (ty := .int) C fl_X5_25 fp_X5_0 (h.1.1) (rfl) (by first | rfl | decide) (Nat.le_of_ble_eq_true rfl) (by decide +kernel) ?_
  refine g_abs (P := fun G9 => RM cy m am 0 b nt nf nc nn T F Cu N G9) (RM.obj h h.2.2) (fun G1 h2 => ?_)
  refine g_seg [(5, .iload_n 1, 1), (6, .bipush (-50), 2), (8, .sipush 150, 3)] 11 [(0, .ref m), (1, .int p0), (2, .int p1)] [.int 150, .int (-50), .int p0] C (by decide +kernel) rfl ?_
  refine g_callS (pc := 11) C mS_X5_isIn q705 (c_X5_isIn l D cy G1 p0 (-50) 150) rfl ⟨⟨Nat.le_of_ble_eq_true rfl, Nat.le_of_ble_eq_true rfl⟩, Nat.le_of_ble_eq_true rfl, Nat.le_of_ble_eq_true rfl⟩ rfl (Nat.le_of_ble_eq_true rfl) (by decide +kernel) ?_
  refine g_kI (fun v5 G4 hp3 => ?_)
  obtain ⟨rfl, hp3⟩ := hp3
  rcases hp3 with ⟨rfl, h6⟩ | ⟨rfl, h6⟩
  · refine g_if_eq (pc := 14) (off := 20) 34 C (by decide +kernel) (by decide) (fun c9 => absurd c9 (by decide)) (fun _ => ?_)
    refine g_seg [(17, .iload_n 2, 1), (18, .bipush (-50), 2), (20, .sipush 150, 3)] 23 [(0, .ref m), (1, .int p0), (2, .int p1)] [.int 150, .int (-50), .int p1] C (by decide +kernel) rfl ?_
    refine g_callS (pc := 23) C mS_X5_isIn q705 (c_X5_isIn l D cy G4 p1 (-50) 150) rfl ⟨⟨Nat.le_of_ble_eq_true rfl, Nat.le_of_ble_eq_true rfl⟩, Nat.le_of_ble_eq_true rfl, Nat.le_of_ble_eq_true rfl⟩ rfl (Nat.le_of_ble_eq_true rfl) (by decide +kernel) ?_
    refine g_kI (fun v9 G8 hp7 => ?_)
    obtain ⟨rfl, hp7⟩ := hp7
    rcases hp7 with ⟨rfl, h10⟩ | ⟨rfl, h10⟩
    · refine g_if_eq (pc := 26) (off := 8) 34 C (by decide +kernel) (by decide) (fun c9 => absurd c9 (by decide)) (fun _ => ?_)
      refine g_seg [(29, .iload_n 1, 1), (30, .iload_n 2, 1)] 31 [(0, .ref m), (1, .int p0), (2, .int p1)] [.int p1, .int p0] C (by decide +kernel) rfl ?_
      refine g_icmp_le (pc := 31) (off := 9) 40 C (by decide +kernel) (by decide) (fun c11 => ?_) (fun c11 => ?_)
      · refine g_seg [(40, .aload_n 0, 1)] 41 [(0, .ref m), (1, .int p0), (2, .int p1)] [.ref m] C (by decide +kernel) rfl ?_
        refine g_getf (pc := 41) (k := 4) (v := .int (nI nn)) C fl_X5_61 (h2.1.1) rfl (by decide +kernel) ?_
        refine g_seg [(44, .iconst 3, 1)] 45 [(0, .ref m), (1, .int p0), (2, .int p1)] [.int 3, .int (nI nn)] C (by decide +kernel) rfl ?_
        refine g_icmp_ne (pc := 45) (off := 9) 54 C (by decide +kernel) (by decide) (fun c12 => ?_) (fun c12 => ?_)
        · have hcap : nn < 3 := by have e9 : nn ≠ 3 := fun e9 => c12 (by rw [e9]; rfl); omega
          refine g_seg [(54, .aload_n 0, 1)] 55 [(0, .ref m), (1, .int p0), (2, .int p1)] [.ref m] C (by decide +kernel) rfl ?_
          refine g_getf (pc := 55) (k := 8) (v := .ref (am 3)) C fl_X5_19 (h2.1.1) rfl (by decide +kernel) ?_
          refine g_seg [(58, .iconst 2, 1), (59, .aload_n 0, 1)] 60 [(0, .ref m), (1, .int p0), (2, .int p1)] [.ref m, .int 2, .ref (am 3)] C (by decide +kernel) rfl ?_
          refine g_getf (pc := 60) (k := 4) (v := .int (nI nn)) C fl_X5_61 (h2.1.1) rfl (by decide +kernel) ?_
          refine g_seg [(63, .imul, 1), (64, .iload_n 1, 1)] 65 [(0, .ref m), (1, .int p0), (2, .int p1)] [.int p0, .int (2 * (nI nn)), .ref (am 3)] C (by decide +kernel) rfl ?_
          refine g_iastM (pc := 65) (n := 6) (2 * nn + 0) (fA 2 (s_set N nn 0 p0)) C (h2.1.2.2.2.2.1) (ixM0 2 nn) (by omega) (by decide) (upd_fA (by omega)) (by decide +kernel) ?_
          refine g_abs (P := fun G9 => RM cy m am 0 b nt nf nc nn T F Cu (s_set N nn 0 p0) G9) (RM.a3 h2) (fun G13 h14 => ?_)
          refine g_seg [(66, .aload_n 0, 1)] 67 [(0, .ref m), (1, .int p0), (2, .int p1)] [.ref m] C (by decide +kernel) rfl ?_
          refine g_getf (pc := 67) (k := 8) (v := .ref (am 3)) C fl_X5_19 (h14.1.1) rfl (by decide +kernel) ?_
          refine g_seg [(70, .iconst 2, 1), (71, .aload_n 0, 1)] 72 [(0, .ref m), (1, .int p0), (2, .int p1)] [.ref m, .int 2, .ref (am 3)] C (by decide +kernel) rfl ?_
          refine g_getf (pc := 72) (k := 4) (v := .int (nI nn)) C fl_X5_61 (h14.1.1) rfl (by decide +kernel) ?_
          refine g_seg [(75, .imul, 1), (76, .iconst 1, 1), (77, .iadd, 1), (78, .iload_n 2, 1)] 79 [(0, .ref m), (1, .int p0), (2, .int p1)] [.int p1, .int ((2 * (nI nn)) + 1), .ref (am 3)] C (by decide +kernel) rfl ?_
          refine g_iastM (pc := 79) (n := 6) (2 * nn + 1) (fA 2 (s_set (s_set N nn 0 p0) nn 1 p1)) C (h14.1.2.2.2.2.1) (ixM 2 nn 1) (by omega) (by decide) (upd_fA (by omega)) (by decide +kernel) ?_
          refine g_abs (P := fun G9 => RM cy m am 0 b nt nf nc nn T F Cu (s_set (s_set N nn 0 p0) nn 1 p1) G9) (RM.a3 h14) (fun G15 h16 => ?_)
          refine g_seg [(80, .aload_n 0, 1), (81, .dup, 1)] 82 [(0, .ref m), (1, .int p0), (2, .int p1)] [.ref m, .ref m] C (by decide +kernel) rfl ?_
          refine g_getf (pc := 82) (k := 4) (v := .int (nI nn)) C fl_X5_61 (h16.1.1) rfl (by decide +kernel) ?_
          refine g_seg [(85, .iconst 1, 1), (86, .iadd, 1)] 87 [(0, .ref m), (1, .int p0), (2, .int p1)] [.int ((nI nn) + 1), .ref m] C (by decide +kernel) rfl ?_
          refine g_putf (pc := 87) (k := 4) (v := .int ((nI nn) + 1)) (ty := .int) C fl_X5_61 fp_X5_4 (h16.1.1) (rfl) (by first | rfl | decide) (Nat.le_of_ble_eq_true rfl) (by decide +kernel) ?_
          refine g_abs (P := fun G9 => RM cy m am 0 b nt nf nc (nn + 1) T F Cu (s_set (s_set N nn 0 p0) nn 1 p1) G9) (by rw [nI_1]; exact RM.obj h16 (by omega)) (fun G17 h18 => ?_)
          refine g_seg [(90, .aload_n 0, 1)] 91 [(0, .ref m), (1, .int p0), (2, .int p1)] [.ref m] C (by decide +kernel) rfl ?_
          refine g_getf (pc := 91) (k := 4) (v := .int (nI (nn + 1))) C fl_X5_61 (h18.1.1) rfl (by decide +kernel) ?_
          exact g_iret (pc := 94) C R (⟨_, rfl, Or.inl ⟨⟨h6, h10, c11⟩, hcap, rfl, RM.ext h18 rfl rfl rfl add_N⟩⟩) (Nat.le_of_ble_eq_true rfl) (Nat.le_of_ble_eq_true rfl) (by decide +kernel)
        · have hcap : ¬ nn < 3 := by have e9 := (nI_eq (a := nn) (b := 3) (by omega) (by decide)).mp c12; omega
          refine g_seg [(48, .aload_n 0, 1), (49, .iconst 2, 1)] 50 [(0, .ref m), (1, .int p0), (2, .int p1)] [.int 2, .ref m] C (by decide +kernel) rfl ?_
          refine g_callV (pc := 50) C mV_X5_fail q708 (h2.1.1) rfl rfl (c_X5_fail l D cy h2 2) rfl ⟨⟨Nat.le_of_ble_eq_true rfl, Nat.le_of_ble_eq_true rfl⟩, Nat.le_of_ble_eq_true rfl, Nat.le_of_ble_eq_true rfl⟩ rfl (Nat.le_of_ble_eq_true rfl) (by decide +kernel) ?_
          refine g_kI (fun v21 G19 hp20 => ?_)
          obtain ⟨rfl, h22⟩ := hp20
          exact g_iret (pc := 53) C R (⟨_, rfl, Or.inr (Or.inr (⟨⟨h6, h10, c11⟩, hcap, h22⟩))⟩) (Nat.le_of_ble_eq_true rfl) (Nat.le_of_ble_eq_true rfl) (by decide +kernel)
      · refine g_seg [(34, .aload_n 0, 1), (35, .iconst 1, 1)] 36 [(0, .ref m), (1, .int p0), (2, .int p1)] [.int 1, .ref m] C (by decide +kernel) rfl ?_
        refine g_callV (pc := 36) C mV_X5_fail q708 (h2.1.1) rfl rfl (c_X5_fail l D cy h2 1) rfl ⟨⟨Nat.le_of_ble_eq_true rfl, Nat.le_of_ble_eq_true rfl⟩, Nat.le_of_ble_eq_true rfl, Nat.le_of_ble_eq_true rfl⟩ rfl (Nat.le_of_ble_eq_true rfl) (by decide +kernel) ?_
        refine g_kI (fun v25 G23 hp24 => ?_)
        obtain ⟨rfl, h26⟩ := hp24
        exact g_iret (pc := 39) C R (⟨_, rfl, Or.inr (Or.inl ⟨fun h9 => c11 h9.2.2, h26⟩)⟩) (Nat.le_of_ble_eq_true rfl) (Nat.le_of_ble_eq_true rfl) (by decide +kernel)
    · refine g_if_eq (pc := 26) (off := 8) 34 C (by decide +kernel) (by decide) (fun _ => ?_) (fun c9 => absurd (by decide) c9)
      refine g_seg [(34, .aload_n 0, 1), (35, .iconst 1, 1)] 36 [(0, .ref m), (1, .int p0), (2, .int p1)] [.int 1, .ref m] C (by decide +kernel) rfl ?_
      refine g_callV (pc := 36) C mV_X5_fail q708 (h2.1.1) rfl rfl (c_X5_fail l D cy h2 1) rfl ⟨⟨Nat.le_of_ble_eq_true rfl, Nat.le_of_ble_eq_true rfl⟩, Nat.le_of_ble_eq_true rfl, Nat.le_of_ble_eq_true rfl⟩ rfl (Nat.le_of_ble_eq_true rfl) (by decide +kernel) ?_
      refine g_kI (fun v29 G27 hp28 => ?_)
      obtain ⟨rfl, h30⟩ := hp28
      exact g_iret (pc := 39) C R (⟨_, rfl, Or.inr (Or.inl ⟨fun h9 => h10 h9.2.1, h30⟩)⟩) (Nat.le_of_ble_eq_true rfl) (Nat.le_of_ble_eq_true rfl) (by decide +kernel)
  · refine g_if_eq (pc := 14) (off := 20) 34 C (by decide +kernel) (by decide) (fun _ => ?_) (fun c9 => absurd (by decide) c9)
    refine g_seg [(34, .aload_n 0, 1), (35, .iconst 1, 1)] 36 [(0, .ref m), (1, .int p0), (2, .int p1)] [.int 1, .ref m] C (by decide +kernel) rfl ?_
    refine g_callV (pc := 36) C mV_X5_fail q708 (h2.1.1) rfl rfl (c_X5_fail l D cy h2 1) rfl ⟨⟨Nat.le_of_ble_eq_true rfl, Nat.le_of_ble_eq_true rfl⟩, Nat.le_of_ble_eq_true rfl, Nat.le_of_ble_eq_true rfl⟩ rfl (Nat.le_of_ble_eq_true rfl) (by decide +kernel) ?_
    refine g_kI (fun v33 G31 hp32 => ?_)
    obtain ⟨rfl, h34⟩ := hp32
    exact g_iret (pc := 39) C R (⟨_, rfl, Or.inr (Or.inl ⟨fun h9 => h6 h9.1, h34⟩)⟩) (Nat.le_of_ble_eq_true rfl) (Nat.le_of_ble_eq_true rfl) (by decide +kernel)
set_option maxHeartbeats 4000000 in
set_option maxRecDepth 100000 in
theorem c_X5_join (l : Launch) (D : va_G) (cy : Nat → ClassId) {G : GG} {m : Nat} {am : Nat → Nat} {th b : Int32} {nt nf nc nn : Nat} {T F Cu N : Rw} (h : RM cy m am th b nt nf nc nn T F Cu N G) : Ctr l D cy yX5_join prog_7_method_15_code 1 (some .int) kX5_join [.ref m] G (pI (fun v G' => (nf < 8 ∧ v = nI nf ∧ RM cy m am 0 b nt (nf + 1) nc nn T (s_add F nf rowG) Cu N G') ∨ (¬ nf < 8 ∧ RM cy m am 1 b nt nf nc nn T F Cu N G'))) := by
  refine Ctr.mk (by decide +kernel) (Nat.le_of_ble_eq_true rfl) ?_
  intro κ C R
  have hbd := h.2.2
  refine g_pc (pc' := 0) rfl ?_
  refine g_seg [(0, .aload_n 0, 1), (1, .iconst 0, 1)] 2 [(0, .ref m)] [.int 0, .ref m] C (by decide +kernel) rfl ?_
  refine g_putf (pc := 2) (k := 0) (v := .int 0) (ty := .int) C fl_X5_25 fp_X5_0 (h.1.1) (rfl) (by first | rfl | decide) (Nat.le_of_ble_eq_true rfl) (by decide +kernel) ?_
  refine g_abs (P := fun G9 => RM cy m am 0 b nt nf nc nn T F Cu N G9) (RM.obj h h.2.2) (fun G1 h2 => ?_)
  refine g_seg [(5, .aload_n 0, 1)] 6 [(0, .ref m)] [.ref m] C (by decide +kernel) rfl ?_
  refine g_getf (pc := 6) (k := 2) (v := .int (nI nf)) C fl_X5_36 (h2.1.1) rfl (by decide +kernel) ?_
  refine g_seg [(9, .bipush 8, 2)] 11 [(0, .ref m)] [.int 8, .int (nI nf)] C (by decide +kernel) rfl ?_
  refine g_icmp_ne (pc := 11) (off := 9) 20 C (by decide +kernel) (by decide) (fun c3 => ?_) (fun c3 => ?_)
  · have hcap : nf < 8 := by have e9 : nf ≠ 8 := fun e9 => c3 (by rw [e9]; rfl); omega
    refine g_seg [(20, .aload_n 0, 1), (21, .aload_n 0, 1)] 22 [(0, .ref m)] [.ref m, .ref m] C (by decide +kernel) rfl ?_
    refine g_getf (pc := 22) (k := 2) (v := .int (nI nf)) C fl_X5_36 (h2.1.1) rfl (by decide +kernel) ?_
    refine g_seg [(25, .iconst 0, 1), (26, .iconst (-1), 1), (27, .iconst 0, 1), (28, .iconst (-1), 1)] 29 [(0, .ref m)] [.int (-1), .int 0, .int (-1), .int 0, .int (nI nf), .ref m] C (by decide +kernel) rfl ?_
    refine g_callV (pc := 29) C mV_X5_set q743 (h2.1.1) rfl rfl (c_X5_set l D cy h2 nf (by omega) (nI nf) 0 (-1) 0 (-1) (rfl)) rfl ⟨⟨Nat.le_of_ble_eq_true rfl, Nat.le_of_ble_eq_true rfl⟩, Nat.le_of_ble_eq_true rfl, Nat.le_of_ble_eq_true rfl⟩ rfl (Nat.le_of_ble_eq_true rfl) (by decide +kernel) ?_
    refine g_kV (fun G4 h5 => ?_)
    refine g_seg [(32, .aload_n 0, 1)] 33 [(0, .ref m)] [.ref m] C (by decide +kernel) rfl ?_
    refine g_getf (pc := 33) (k := 6) (v := .ref (am 1)) C fl_X5_13 (h5.1.1) rfl (by decide +kernel) ?_
    refine g_seg [(36, .iconst 5, 1), (37, .aload_n 0, 1)] 38 [(0, .ref m)] [.ref m, .int 5, .ref (am 1)] C (by decide +kernel) rfl ?_
    refine g_getf (pc := 38) (k := 2) (v := .int (nI nf)) C fl_X5_36 (h5.1.1) rfl (by decide +kernel) ?_
    refine g_seg [(41, .imul, 1), (42, .iconst 4, 1), (43, .iadd, 1), (44, .iconst 0, 1)] 45 [(0, .ref m)] [.int 0, .int ((5 * (nI nf)) + 4), .ref (am 1)] C (by decide +kernel) rfl ?_
    refine g_iastM (pc := 45) (n := 40) (5 * nf + 4) (fA 5 (s_set (s_row F nf 0 (-1) 0 (-1)) nf 4 0)) C (h5.1.2.2.1) (ixM 5 nf 4) (by omega) (by decide) (upd_fA (by omega)) (by decide +kernel) ?_
    refine g_abs (P := fun G9 => RM cy m am 0 b nt nf nc nn T (s_set (s_row F nf 0 (-1) 0 (-1)) nf 4 0) Cu N G9) (RM.a1 h5) (fun G6 h7 => ?_)
    refine g_seg [(46, .aload_n 0, 1), (47, .dup, 1)] 48 [(0, .ref m)] [.ref m, .ref m] C (by decide +kernel) rfl ?_
    refine g_getf (pc := 48) (k := 2) (v := .int (nI nf)) C fl_X5_36 (h7.1.1) rfl (by decide +kernel) ?_
    refine g_seg [(51, .iconst 1, 1), (52, .iadd, 1)] 53 [(0, .ref m)] [.int ((nI nf) + 1), .ref m] C (by decide +kernel) rfl ?_
    refine g_putf (pc := 53) (k := 2) (v := .int ((nI nf) + 1)) (ty := .int) C fl_X5_36 fp_X5_2 (h7.1.1) (rfl) (by first | rfl | decide) (Nat.le_of_ble_eq_true rfl) (by decide +kernel) ?_
    refine g_abs (P := fun G9 => RM cy m am 0 b nt (nf + 1) nc nn T (s_set (s_row F nf 0 (-1) 0 (-1)) nf 4 0) Cu N G9) (by rw [nI_1]; exact RM.obj h7 (by omega)) (fun G8 h9 => ?_)
    refine g_seg [(56, .aload_n 0, 1)] 57 [(0, .ref m)] [.ref m] C (by decide +kernel) rfl ?_
    refine g_getf (pc := 57) (k := 2) (v := .int (nI (nf + 1))) C fl_X5_36 (h9.1.1) rfl (by decide +kernel) ?_
    refine g_seg [(60, .iconst 1, 1), (61, .isub, 1)] 62 [(0, .ref m)] [.int ((nI (nf + 1)) - 1)] C (by decide +kernel) rfl ?_
    exact g_iret (pc := 62) C R (⟨_, rfl, Or.inl ⟨hcap, nI_pr nf, RM.ext h9 rfl add_F rfl rfl⟩⟩) (Nat.le_of_ble_eq_true rfl) (Nat.le_of_ble_eq_true rfl) (by decide +kernel)
  · have hcap : ¬ nf < 8 := by have e9 := (nI_eq (a := nf) (b := 8) (by omega) (by decide)).mp c3; omega
    refine g_seg [(14, .aload_n 0, 1), (15, .iconst 1, 1)] 16 [(0, .ref m)] [.int 1, .ref m] C (by decide +kernel) rfl ?_
    refine g_callV (pc := 16) C mV_X5_fail q708 (h2.1.1) rfl rfl (c_X5_fail l D cy h2 1) rfl ⟨⟨Nat.le_of_ble_eq_true rfl, Nat.le_of_ble_eq_true rfl⟩, Nat.le_of_ble_eq_true rfl, Nat.le_of_ble_eq_true rfl⟩ rfl (Nat.le_of_ble_eq_true rfl) (by decide +kernel) ?_
    refine g_kI (fun v12 G10 hp11 => ?_)
    obtain ⟨rfl, h13⟩ := hp11
    exact g_iret (pc := 19) C R (⟨_, rfl, Or.inr (⟨hcap, h13⟩)⟩) (Nat.le_of_ble_eq_true rfl) (Nat.le_of_ble_eq_true rfl) (by decide +kernel)
set_option maxHeartbeats 4000000 in
set_option maxRecDepth 100000 in
theorem c_X5_mount (l : Launch) (D : va_G) (cy : Nat → ClassId) {G : GG} {m : Nat} {am : Nat → Nat} {th b : Int32} {nt nf nc nn : Nat} {T F Cu N : Rw} (h : RM cy m am th b nt nf nc nn T F Cu N G) (f t : Int32) : Ctr l D cy yX5_mount prog_7_method_18_code 3 (some .int) kX5_mount [.ref m, .int f, .int t] G (pI (fun v G' => (∃ i j, i < nf ∧ f = nI i ∧ j < nt ∧ t = nI j ∧ ((F i 0 = 0 ∨ F i 0 = 3) ∧ T j 5 = 1 ∧ nI (s_hang F nf t) < 2) ∧ v = nI (s_hang (s_row F i 1 t 0 (-1)) nf t) ∧ RM cy m am 0 b nt nf nc nn T (s_row F i 1 t 0 (-1)) Cu N G') ∨ (((∀ i, i < nf → f ≠ nI i) ∨ (∀ i, i < nt → t ≠ nI i)) ∧ RM cy m am 1 b nt nf nc nn T F Cu N G') ∨ ((∃ i j, i < nf ∧ f = nI i ∧ j < nt ∧ t = nI j ∧ ¬ ((F i 0 = 0 ∨ F i 0 = 3) ∧ T j 5 = 1 ∧ nI (s_hang F nf t) < 2)) ∧ RM cy m am 2 b nt nf nc nn T F Cu N G'))) := by
  refine Ctr.mk (by decide +kernel) (Nat.le_of_ble_eq_true rfl) ?_
  intro κ C R
  have hbd := h.2.2
  refine g_pc (pc' := 0) rfl ?_
  refine g_seg [(0, .aload_n 0, 1), (1, .iconst 0, 1)] 2 [(0, .ref m), (1, .int f), (2, .int t)] [.int 0, .ref m] C (by decide +kernel) rfl ?_
  refine g_putf (pc := 2) (k := 0) (v := .int 0) (ty := .int) C fl_X5_25 fp_X5_0 (h.1.1) (rfl) (by first | rfl | decide) (Nat.le_of_ble_eq_true rfl) (by decide +kernel) ?_
  refine g_abs (P := fun G9 => RM cy m am 0 b nt nf nc nn T F Cu N G9) (RM.obj h h.2.2) (fun G1 h2 => ?_)
  refine g_seg [(5, .aload_n 0, 1), (6, .iload_n 1, 1)] 7 [(0, .ref m), (1, .int f), (2, .int t)] [.int f, .ref m] C (by decide +kernel) rfl ?_
  refine g_callV (pc := 7) C mV_X5_isFlyer q751 (h2.1.1) rfl rfl (c_X5_isFlyer l D cy h2 f) rfl ⟨⟨Nat.le_of_ble_eq_true rfl, Nat.le_of_ble_eq_true rfl⟩, Nat.le_of_ble_eq_true rfl, Nat.le_of_ble_eq_true rfl⟩ rfl (Nat.le_of_ble_eq_true rfl) (by decide +kernel) ?_
  refine g_kI (fun v5 G4 hp3 => ?_)
  obtain ⟨rfl, hp3⟩ := hp3
  rcases hp3 with ⟨rfl, i6, hi7, hn8⟩ | ⟨rfl, hn8⟩
  · refine g_if_eq (pc := 10) (off := 11) 21 C (by decide +kernel) (by decide) (fun c9 => absurd c9 (by decide)) (fun _ => ?_)
    refine g_seg [(13, .aload_n 0, 1), (14, .iload_n 2, 1)] 15 [(0, .ref m), (1, .int f), (2, .int t)] [.int t, .ref m] C (by decide +kernel) rfl ?_
    refine g_callV (pc := 15) C mV_X5_isTrapeze q719 (h2.1.1) rfl rfl (c_X5_isTrapeze l D cy h2 t) rfl ⟨⟨Nat.le_of_ble_eq_true rfl, Nat.le_of_ble_eq_true rfl⟩, Nat.le_of_ble_eq_true rfl, Nat.le_of_ble_eq_true rfl⟩ rfl (Nat.le_of_ble_eq_true rfl) (by decide +kernel) ?_
    refine g_kI (fun v11 G10 hp9 => ?_)
    obtain ⟨rfl, hp9⟩ := hp9
    rcases hp9 with ⟨rfl, i12, hi13, hn14⟩ | ⟨rfl, hn14⟩
    · refine g_if_ne (pc := 18) (off := 9) 27 C (by decide +kernel) (by decide) (fun _ => ?_) (fun c9 => absurd c9 (by decide))
      refine g_seg [(27, .aload_n 0, 1), (28, .iload_n 1, 1), (29, .iconst 0, 1)] 30 [(0, .ref m), (1, .int f), (2, .int t)] [.int 0, .int f, .ref m] C (by decide +kernel) rfl ?_
      refine g_callV (pc := 30) C mV_X5_pe q755 (h2.1.1) rfl rfl (c_X5_pe l D cy h2 i6 0 (by omega) (by omega) f 0 (hn8) (rfl)) rfl ⟨⟨Nat.le_of_ble_eq_true rfl, Nat.le_of_ble_eq_true rfl⟩, Nat.le_of_ble_eq_true rfl, Nat.le_of_ble_eq_true rfl⟩ rfl (Nat.le_of_ble_eq_true rfl) (by decide +kernel) ?_
      refine g_kI (fun v17 G16 hp15 => ?_)
      obtain ⟨rfl, rfl⟩ := hp15
      refine g_if_eq (pc := 33) (off := 13) 46 C (by decide +kernel) (by decide) (fun c18 => ?_) (fun c18 => ?_)
      · refine g_seg [(46, .aload_n 0, 1), (47, .iload_n 2, 1)] 48 [(0, .ref m), (1, .int f), (2, .int t)] [.int t, .ref m] C (by decide +kernel) rfl ?_
        refine g_callV (pc := 48) C mV_X5_isFree q759 (h2.1.1) rfl rfl (c_X5_isFree l D cy h2 i12 (by omega) t (hn14)) rfl ⟨⟨Nat.le_of_ble_eq_true rfl, Nat.le_of_ble_eq_true rfl⟩, Nat.le_of_ble_eq_true rfl, Nat.le_of_ble_eq_true rfl⟩ rfl (Nat.le_of_ble_eq_true rfl) (by decide +kernel) ?_
        refine g_kI (fun v21 G20 hp19 => ?_)
        obtain ⟨rfl, hp19⟩ := hp19
        rcases hp19 with ⟨rfl, h22⟩ | ⟨rfl, h22⟩
        · refine g_if_ne (pc := 51) (off := 9) 60 C (by decide +kernel) (by decide) (fun _ => ?_) (fun c9 => absurd c9 (by decide))
          refine g_seg [(60, .aload_n 0, 1), (61, .iload_n 1, 1), (62, .iconst 1, 1), (63, .iload_n 2, 1), (64, .iconst 0, 1), (65, .iconst (-1), 1)] 66 [(0, .ref m), (1, .int f), (2, .int t)] [.int (-1), .int 0, .int t, .int 1, .int f, .ref m] C (by decide +kernel) rfl ?_
          refine g_callV (pc := 66) C mV_X5_set q743 (h2.1.1) rfl rfl (c_X5_set l D cy h2 i6 (by omega) f 1 t 0 (-1) (hn8)) rfl ⟨⟨Nat.le_of_ble_eq_true rfl, Nat.le_of_ble_eq_true rfl⟩, Nat.le_of_ble_eq_true rfl, Nat.le_of_ble_eq_true rfl⟩ rfl (Nat.le_of_ble_eq_true rfl) (by decide +kernel) ?_
          refine g_kV (fun G23 h24 => ?_)
          refine g_seg [(69, .aload_n 0, 1), (70, .iload_n 2, 1)] 71 [(0, .ref m), (1, .int f), (2, .int t)] [.int t, .ref m] C (by decide +kernel) rfl ?_
          refine g_callV (pc := 71) C mV_X5_hanging q763 (h24.1.1) rfl rfl (c_X5_hanging l D cy h24 t) rfl ⟨⟨Nat.le_of_ble_eq_true rfl, Nat.le_of_ble_eq_true rfl⟩, Nat.le_of_ble_eq_true rfl, Nat.le_of_ble_eq_true rfl⟩ rfl (Nat.le_of_ble_eq_true rfl) (by decide +kernel) ?_
          refine g_kI (fun v27 G26 hp25 => ?_)
          obtain ⟨rfl, rfl⟩ := hp25
          exact g_iret (pc := 74) C R (⟨_, rfl, Or.inl ⟨i6, i12, hi7, hn8, hi13, hn14, ⟨Or.inl c18, h22⟩, rfl, h24⟩⟩) (Nat.le_of_ble_eq_true rfl) (Nat.le_of_ble_eq_true rfl) (by decide +kernel)
        · refine g_if_ne (pc := 51) (off := 9) 60 C (by decide +kernel) (by decide) (fun c9 => absurd (by decide) c9) (fun _ => ?_)
          refine g_seg [(54, .aload_n 0, 1), (55, .iconst 2, 1)] 56 [(0, .ref m), (1, .int f), (2, .int t)] [.int 2, .ref m] C (by decide +kernel) rfl ?_
          refine g_callV (pc := 56) C mV_X5_fail q708 (h2.1.1) rfl rfl (c_X5_fail l D cy h2 2) rfl ⟨⟨Nat.le_of_ble_eq_true rfl, Nat.le_of_ble_eq_true rfl⟩, Nat.le_of_ble_eq_true rfl, Nat.le_of_ble_eq_true rfl⟩ rfl (Nat.le_of_ble_eq_true rfl) (by decide +kernel) ?_
          refine g_kI (fun v30 G28 hp29 => ?_)
          obtain ⟨rfl, h31⟩ := hp29
          exact g_iret (pc := 59) C R (⟨_, rfl, Or.inr (Or.inr (⟨⟨i6, i12, hi7, hn8, hi13, hn14, fun h9 => h22 h9.2⟩, h31⟩))⟩) (Nat.le_of_ble_eq_true rfl) (Nat.le_of_ble_eq_true rfl) (by decide +kernel)
      · refine g_seg [(36, .aload_n 0, 1), (37, .iload_n 1, 1), (38, .iconst 0, 1)] 39 [(0, .ref m), (1, .int f), (2, .int t)] [.int 0, .int f, .ref m] C (by decide +kernel) rfl ?_
        refine g_callV (pc := 39) C mV_X5_pe q755 (h2.1.1) rfl rfl (c_X5_pe l D cy h2 i6 0 (by omega) (by omega) f 0 (hn8) (rfl)) rfl ⟨⟨Nat.le_of_ble_eq_true rfl, Nat.le_of_ble_eq_true rfl⟩, Nat.le_of_ble_eq_true rfl, Nat.le_of_ble_eq_true rfl⟩ rfl (Nat.le_of_ble_eq_true rfl) (by decide +kernel) ?_
        refine g_kI (fun v34 G33 hp32 => ?_)
        obtain ⟨rfl, rfl⟩ := hp32
        refine g_seg [(42, .iconst 3, 1)] 43 [(0, .ref m), (1, .int f), (2, .int t)] [.int 3, .int (F i6 0)] C (by decide +kernel) rfl ?_
        refine g_icmp_ne (pc := 43) (off := 11) 54 C (by decide +kernel) (by decide) (fun c35 => ?_) (fun c35 => ?_)
        · refine g_seg [(54, .aload_n 0, 1), (55, .iconst 2, 1)] 56 [(0, .ref m), (1, .int f), (2, .int t)] [.int 2, .ref m] C (by decide +kernel) rfl ?_
          refine g_callV (pc := 56) C mV_X5_fail q708 (h2.1.1) rfl rfl (c_X5_fail l D cy h2 2) rfl ⟨⟨Nat.le_of_ble_eq_true rfl, Nat.le_of_ble_eq_true rfl⟩, Nat.le_of_ble_eq_true rfl, Nat.le_of_ble_eq_true rfl⟩ rfl (Nat.le_of_ble_eq_true rfl) (by decide +kernel) ?_
          refine g_kI (fun v38 G36 hp37 => ?_)
          obtain ⟨rfl, h39⟩ := hp37
          exact g_iret (pc := 59) C R (⟨_, rfl, Or.inr (Or.inr (⟨⟨i6, i12, hi7, hn8, hi13, hn14, fun h9 => h9.1.elim (fun q9 => c18 q9) (fun q9 => c35 q9)⟩, h39⟩))⟩) (Nat.le_of_ble_eq_true rfl) (Nat.le_of_ble_eq_true rfl) (by decide +kernel)
        · refine g_seg [(46, .aload_n 0, 1), (47, .iload_n 2, 1)] 48 [(0, .ref m), (1, .int f), (2, .int t)] [.int t, .ref m] C (by decide +kernel) rfl ?_
          refine g_callV (pc := 48) C mV_X5_isFree q759 (h2.1.1) rfl rfl (c_X5_isFree l D cy h2 i12 (by omega) t (hn14)) rfl ⟨⟨Nat.le_of_ble_eq_true rfl, Nat.le_of_ble_eq_true rfl⟩, Nat.le_of_ble_eq_true rfl, Nat.le_of_ble_eq_true rfl⟩ rfl (Nat.le_of_ble_eq_true rfl) (by decide +kernel) ?_
          refine g_kI (fun v42 G41 hp40 => ?_)
          obtain ⟨rfl, hp40⟩ := hp40
          rcases hp40 with ⟨rfl, h43⟩ | ⟨rfl, h43⟩
          · refine g_if_ne (pc := 51) (off := 9) 60 C (by decide +kernel) (by decide) (fun _ => ?_) (fun c9 => absurd c9 (by decide))
            refine g_seg [(60, .aload_n 0, 1), (61, .iload_n 1, 1), (62, .iconst 1, 1), (63, .iload_n 2, 1), (64, .iconst 0, 1), (65, .iconst (-1), 1)] 66 [(0, .ref m), (1, .int f), (2, .int t)] [.int (-1), .int 0, .int t, .int 1, .int f, .ref m] C (by decide +kernel) rfl ?_
            refine g_callV (pc := 66) C mV_X5_set q743 (h2.1.1) rfl rfl (c_X5_set l D cy h2 i6 (by omega) f 1 t 0 (-1) (hn8)) rfl ⟨⟨Nat.le_of_ble_eq_true rfl, Nat.le_of_ble_eq_true rfl⟩, Nat.le_of_ble_eq_true rfl, Nat.le_of_ble_eq_true rfl⟩ rfl (Nat.le_of_ble_eq_true rfl) (by decide +kernel) ?_
            refine g_kV (fun G44 h45 => ?_)
            refine g_seg [(69, .aload_n 0, 1), (70, .iload_n 2, 1)] 71 [(0, .ref m), (1, .int f), (2, .int t)] [.int t, .ref m] C (by decide +kernel) rfl ?_
            refine g_callV (pc := 71) C mV_X5_hanging q763 (h45.1.1) rfl rfl (c_X5_hanging l D cy h45 t) rfl ⟨⟨Nat.le_of_ble_eq_true rfl, Nat.le_of_ble_eq_true rfl⟩, Nat.le_of_ble_eq_true rfl, Nat.le_of_ble_eq_true rfl⟩ rfl (Nat.le_of_ble_eq_true rfl) (by decide +kernel) ?_
            refine g_kI (fun v48 G47 hp46 => ?_)
            obtain ⟨rfl, rfl⟩ := hp46
            exact g_iret (pc := 74) C R (⟨_, rfl, Or.inl ⟨i6, i12, hi7, hn8, hi13, hn14, ⟨Or.inr c35, h43⟩, rfl, h45⟩⟩) (Nat.le_of_ble_eq_true rfl) (Nat.le_of_ble_eq_true rfl) (by decide +kernel)
          · refine g_if_ne (pc := 51) (off := 9) 60 C (by decide +kernel) (by decide) (fun c9 => absurd (by decide) c9) (fun _ => ?_)
            refine g_seg [(54, .aload_n 0, 1), (55, .iconst 2, 1)] 56 [(0, .ref m), (1, .int f), (2, .int t)] [.int 2, .ref m] C (by decide +kernel) rfl ?_
            refine g_callV (pc := 56) C mV_X5_fail q708 (h2.1.1) rfl rfl (c_X5_fail l D cy h2 2) rfl ⟨⟨Nat.le_of_ble_eq_true rfl, Nat.le_of_ble_eq_true rfl⟩, Nat.le_of_ble_eq_true rfl, Nat.le_of_ble_eq_true rfl⟩ rfl (Nat.le_of_ble_eq_true rfl) (by decide +kernel) ?_
            refine g_kI (fun v51 G49 hp50 => ?_)
            obtain ⟨rfl, h52⟩ := hp50
            exact g_iret (pc := 59) C R (⟨_, rfl, Or.inr (Or.inr (⟨⟨i6, i12, hi7, hn8, hi13, hn14, fun h9 => h43 h9.2⟩, h52⟩))⟩) (Nat.le_of_ble_eq_true rfl) (Nat.le_of_ble_eq_true rfl) (by decide +kernel)
    · refine g_if_ne (pc := 18) (off := 9) 27 C (by decide +kernel) (by decide) (fun c9 => absurd (by decide) c9) (fun _ => ?_)
      refine g_seg [(21, .aload_n 0, 1), (22, .iconst 1, 1)] 23 [(0, .ref m), (1, .int f), (2, .int t)] [.int 1, .ref m] C (by decide +kernel) rfl ?_
      refine g_callV (pc := 23) C mV_X5_fail q708 (h2.1.1) rfl rfl (c_X5_fail l D cy h2 1) rfl ⟨⟨Nat.le_of_ble_eq_true rfl, Nat.le_of_ble_eq_true rfl⟩, Nat.le_of_ble_eq_true rfl, Nat.le_of_ble_eq_true rfl⟩ rfl (Nat.le_of_ble_eq_true rfl) (by decide +kernel) ?_
      refine g_kI (fun v55 G53 hp54 => ?_)
      obtain ⟨rfl, h56⟩ := hp54
      exact g_iret (pc := 26) C R (⟨_, rfl, Or.inr (Or.inl ⟨Or.inr hn14, h56⟩)⟩) (Nat.le_of_ble_eq_true rfl) (Nat.le_of_ble_eq_true rfl) (by decide +kernel)
  · refine g_if_eq (pc := 10) (off := 11) 21 C (by decide +kernel) (by decide) (fun _ => ?_) (fun c9 => absurd (by decide) c9)
    refine g_seg [(21, .aload_n 0, 1), (22, .iconst 1, 1)] 23 [(0, .ref m), (1, .int f), (2, .int t)] [.int 1, .ref m] C (by decide +kernel) rfl ?_
    refine g_callV (pc := 23) C mV_X5_fail q708 (h2.1.1) rfl rfl (c_X5_fail l D cy h2 1) rfl ⟨⟨Nat.le_of_ble_eq_true rfl, Nat.le_of_ble_eq_true rfl⟩, Nat.le_of_ble_eq_true rfl, Nat.le_of_ble_eq_true rfl⟩ rfl (Nat.le_of_ble_eq_true rfl) (by decide +kernel) ?_
    refine g_kI (fun v59 G57 hp58 => ?_)
    obtain ⟨rfl, h60⟩ := hp58
    exact g_iret (pc := 26) C R (⟨_, rfl, Or.inr (Or.inl ⟨Or.inl hn8, h60⟩)⟩) (Nat.le_of_ble_eq_true rfl) (Nat.le_of_ble_eq_true rfl) (by decide +kernel)
set_option maxHeartbeats 4000000 in
set_option maxRecDepth 100000 in
theorem c_X5_trapeze (l : Launch) (D : va_G) (cy : Nat → ClassId) {G : GG} {m : Nat} {am : Nat → Nat} {th b : Int32} {nt nf nc nn : Nat} {T F Cu N : Rw} (h : RM cy m am th b nt nf nc nn T F Cu N G) (hwok : s_wok T nt) (t w : Int32) : Ctr l D cy yX5_trapeze prog_7_method_23_code 3 (some .int) kX5_trapeze [.ref m, .int t, .int w] G (pI (fun v G' => (∃ i kk, i < nt ∧ t = nI i ∧ (0 ≤ w ∧ w ≤ 7) ∧ kk < 8 ∧ w = nI kk ∧ v = m_told T F nf b i kk ∧ RM cy m am 0 b nt nf nc nn T F Cu N G') ∨ (((∀ i, i < nt → t ≠ nI i) ∨ ¬ (0 ≤ w ∧ w ≤ 7)) ∧ RM cy m am 1 b nt nf nc nn T F Cu N G'))) := by
  refine Ctr.mk (by decide +kernel) (Nat.le_of_ble_eq_true rfl) ?_
  intro κ C R
  have hbd := h.2.2
  refine g_pc (pc' := 0) rfl ?_
  refine g_seg [(0, .aload_n 0, 1), (1, .iconst 0, 1)] 2 [(0, .ref m), (1, .int t), (2, .int w)] [.int 0, .ref m] C (by decide +kernel) rfl ?_
  refine g_putf (pc := 2) (k := 0) (v := .int 0) (ty := .int) C fl_X5_25 fp_X5_0 (h.1.1) (rfl) (by first | rfl | decide) (Nat.le_of_ble_eq_true rfl) (by decide +kernel) ?_
  refine g_abs (P := fun G9 => RM cy m am 0 b nt nf nc nn T F Cu N G9) (RM.obj h h.2.2) (fun G1 h2 => ?_)
  refine g_seg [(5, .aload_n 0, 1), (6, .iload_n 1, 1)] 7 [(0, .ref m), (1, .int t), (2, .int w)] [.int t, .ref m] C (by decide +kernel) rfl ?_
  refine g_callV (pc := 7) C mV_X5_isTrapeze q719 (h2.1.1) rfl rfl (c_X5_isTrapeze l D cy h2 t) rfl ⟨⟨Nat.le_of_ble_eq_true rfl, Nat.le_of_ble_eq_true rfl⟩, Nat.le_of_ble_eq_true rfl, Nat.le_of_ble_eq_true rfl⟩ rfl (Nat.le_of_ble_eq_true rfl) (by decide +kernel) ?_
  refine g_kI (fun v5 G4 hp3 => ?_)
  obtain ⟨rfl, hp3⟩ := hp3
  rcases hp3 with ⟨rfl, i6, hi7, hn8⟩ | ⟨rfl, hn8⟩
  · refine g_if_eq (pc := 10) (off := 22) 32 C (by decide +kernel) (by decide) (fun c9 => absurd c9 (by decide)) (fun _ => ?_)
    refine g_seg [(13, .iload_n 2, 1), (14, .iconst 0, 1), (15, .bipush 7, 2)] 17 [(0, .ref m), (1, .int t), (2, .int w)] [.int 7, .int 0, .int w] C (by decide +kernel) rfl ?_
    refine g_callS (pc := 17) C mS_X5_isIn q705 (c_X5_isIn l D cy G4 w 0 7) rfl ⟨⟨Nat.le_of_ble_eq_true rfl, Nat.le_of_ble_eq_true rfl⟩, Nat.le_of_ble_eq_true rfl, Nat.le_of_ble_eq_true rfl⟩ rfl (Nat.le_of_ble_eq_true rfl) (by decide +kernel) ?_
    refine g_kI (fun v11 G10 hp9 => ?_)
    obtain ⟨rfl, hp9⟩ := hp9
    rcases hp9 with ⟨rfl, h12⟩ | ⟨rfl, h12⟩
    · refine g_if_eq (pc := 20) (off := 12) 32 C (by decide +kernel) (by decide) (fun c9 => absurd c9 (by decide)) (fun _ => ?_)
      refine g_seg [(23, .aload_n 0, 1), (24, .iload_n 1, 1), (25, .iload_n 2, 1)] 26 [(0, .ref m), (1, .int t), (2, .int w)] [.int w, .int t, .ref m] C (by decide +kernel) rfl ?_
      obtain ⟨kk, hkk, hkn⟩ := in_k (k := 7) (by decide) (by decide) h12
      refine g_callV (pc := 26) C mV_X5_trapezeTold q775 (h2.1.1) rfl rfl (c_X5_trapezeTold l D cy h2 hwok i6 (by omega) kk (by omega) t w (hn8) (hkn)) rfl ⟨⟨Nat.le_of_ble_eq_true rfl, Nat.le_of_ble_eq_true rfl⟩, Nat.le_of_ble_eq_true rfl, Nat.le_of_ble_eq_true rfl⟩ rfl (Nat.le_of_ble_eq_true rfl) (by decide +kernel) ?_
      refine g_kI (fun v15 G14 hp13 => ?_)
      obtain ⟨rfl, rfl⟩ := hp13
      refine g_seg [(29, .goto 8, 3)] 37 [(0, .ref m), (1, .int t), (2, .int w)] [.int (m_told T F nf b i6 kk)] C (by decide +kernel) rfl ?_
      exact g_iret (pc := 37) C R (⟨_, rfl, Or.inl ⟨i6, kk, hi7, hn8, h12, hkk, hkn, rfl, h2⟩⟩) (Nat.le_of_ble_eq_true rfl) (Nat.le_of_ble_eq_true rfl) (by decide +kernel)
    · refine g_if_eq (pc := 20) (off := 12) 32 C (by decide +kernel) (by decide) (fun _ => ?_) (fun c9 => absurd (by decide) c9)
      refine g_seg [(32, .aload_n 0, 1), (33, .iconst 1, 1)] 34 [(0, .ref m), (1, .int t), (2, .int w)] [.int 1, .ref m] C (by decide +kernel) rfl ?_
      refine g_callV (pc := 34) C mV_X5_fail q708 (h2.1.1) rfl rfl (c_X5_fail l D cy h2 1) rfl ⟨⟨Nat.le_of_ble_eq_true rfl, Nat.le_of_ble_eq_true rfl⟩, Nat.le_of_ble_eq_true rfl, Nat.le_of_ble_eq_true rfl⟩ rfl (Nat.le_of_ble_eq_true rfl) (by decide +kernel) ?_
      refine g_kI (fun v18 G16 hp17 => ?_)
      obtain ⟨rfl, h19⟩ := hp17
      exact g_iret (pc := 37) C R (⟨_, rfl, Or.inr (⟨Or.inr h12, h19⟩)⟩) (Nat.le_of_ble_eq_true rfl) (Nat.le_of_ble_eq_true rfl) (by decide +kernel)
  · refine g_if_eq (pc := 10) (off := 22) 32 C (by decide +kernel) (by decide) (fun _ => ?_) (fun c9 => absurd (by decide) c9)
    refine g_seg [(32, .aload_n 0, 1), (33, .iconst 1, 1)] 34 [(0, .ref m), (1, .int t), (2, .int w)] [.int 1, .ref m] C (by decide +kernel) rfl ?_
    refine g_callV (pc := 34) C mV_X5_fail q708 (h2.1.1) rfl rfl (c_X5_fail l D cy h2 1) rfl ⟨⟨Nat.le_of_ble_eq_true rfl, Nat.le_of_ble_eq_true rfl⟩, Nat.le_of_ble_eq_true rfl, Nat.le_of_ble_eq_true rfl⟩ rfl (Nat.le_of_ble_eq_true rfl) (by decide +kernel) ?_
    refine g_kI (fun v22 G20 hp21 => ?_)
    obtain ⟨rfl, h23⟩ := hp21
    exact g_iret (pc := 37) C R (⟨_, rfl, Or.inr (⟨Or.inl hn8, h23⟩)⟩) (Nat.le_of_ble_eq_true rfl) (Nat.le_of_ble_eq_true rfl) (by decide +kernel)
set_option maxHeartbeats 4000000 in
set_option maxRecDepth 100000 in
theorem c_X5_flyer (l : Launch) (D : va_G) (cy : Nat → ClassId) {G : GG} {m : Nat} {am : Nat → Nat} {th b : Int32} {nt nf nc nn : Nat} {T F Cu N : Rw} (h : RM cy m am th b nt nf nc nn T F Cu N G) (t w : Int32) : Ctr l D cy yX5_flyer prog_7_method_25_code 3 (some .int) kX5_flyer [.ref m, .int t, .int w] G (pI (fun v G' => (∃ i kk, i < nf ∧ t = nI i ∧ (0 ≤ w ∧ w ≤ 4) ∧ kk < 5 ∧ w = nI kk ∧ v = m_toldF F b i kk ∧ RM cy m am 0 b nt nf nc nn T F Cu N G') ∨ (((∀ i, i < nf → t ≠ nI i) ∨ ¬ (0 ≤ w ∧ w ≤ 4)) ∧ RM cy m am 1 b nt nf nc nn T F Cu N G'))) := by
  refine Ctr.mk (by decide +kernel) (Nat.le_of_ble_eq_true rfl) ?_
  intro κ C R
  have hbd := h.2.2
  refine g_pc (pc' := 0) rfl ?_
  refine g_seg [(0, .aload_n 0, 1), (1, .iconst 0, 1)] 2 [(0, .ref m), (1, .int t), (2, .int w)] [.int 0, .ref m] C (by decide +kernel) rfl ?_
  refine g_putf (pc := 2) (k := 0) (v := .int 0) (ty := .int) C fl_X5_25 fp_X5_0 (h.1.1) (rfl) (by first | rfl | decide) (Nat.le_of_ble_eq_true rfl) (by decide +kernel) ?_
  refine g_abs (P := fun G9 => RM cy m am 0 b nt nf nc nn T F Cu N G9) (RM.obj h h.2.2) (fun G1 h2 => ?_)
  refine g_seg [(5, .aload_n 0, 1), (6, .iload_n 1, 1)] 7 [(0, .ref m), (1, .int t), (2, .int w)] [.int t, .ref m] C (by decide +kernel) rfl ?_
  refine g_callV (pc := 7) C mV_X5_isFlyer q751 (h2.1.1) rfl rfl (c_X5_isFlyer l D cy h2 t) rfl ⟨⟨Nat.le_of_ble_eq_true rfl, Nat.le_of_ble_eq_true rfl⟩, Nat.le_of_ble_eq_true rfl, Nat.le_of_ble_eq_true rfl⟩ rfl (Nat.le_of_ble_eq_true rfl) (by decide +kernel) ?_
  refine g_kI (fun v5 G4 hp3 => ?_)
  obtain ⟨rfl, hp3⟩ := hp3
  rcases hp3 with ⟨rfl, i6, hi7, hn8⟩ | ⟨rfl, hn8⟩
  · refine g_if_eq (pc := 10) (off := 21) 31 C (by decide +kernel) (by decide) (fun c9 => absurd c9 (by decide)) (fun _ => ?_)
    refine g_seg [(13, .iload_n 2, 1), (14, .iconst 0, 1), (15, .iconst 4, 1)] 16 [(0, .ref m), (1, .int t), (2, .int w)] [.int 4, .int 0, .int w] C (by decide +kernel) rfl ?_
    refine g_callS (pc := 16) C mS_X5_isIn q705 (c_X5_isIn l D cy G4 w 0 4) rfl ⟨⟨Nat.le_of_ble_eq_true rfl, Nat.le_of_ble_eq_true rfl⟩, Nat.le_of_ble_eq_true rfl, Nat.le_of_ble_eq_true rfl⟩ rfl (Nat.le_of_ble_eq_true rfl) (by decide +kernel) ?_
    refine g_kI (fun v11 G10 hp9 => ?_)
    obtain ⟨rfl, hp9⟩ := hp9
    rcases hp9 with ⟨rfl, h12⟩ | ⟨rfl, h12⟩
    · refine g_if_eq (pc := 19) (off := 12) 31 C (by decide +kernel) (by decide) (fun c9 => absurd c9 (by decide)) (fun _ => ?_)
      refine g_seg [(22, .aload_n 0, 1), (23, .iload_n 1, 1), (24, .iload_n 2, 1)] 25 [(0, .ref m), (1, .int t), (2, .int w)] [.int w, .int t, .ref m] C (by decide +kernel) rfl ?_
      obtain ⟨kk, hkk, hkn⟩ := in_k (k := 4) (by decide) (by decide) h12
      refine g_callV (pc := 25) C mV_X5_flyerTold q790 (h2.1.1) rfl rfl (c_X5_flyerTold l D cy h2 i6 (by omega) kk (by omega) t w (hn8) (hkn)) rfl ⟨⟨Nat.le_of_ble_eq_true rfl, Nat.le_of_ble_eq_true rfl⟩, Nat.le_of_ble_eq_true rfl, Nat.le_of_ble_eq_true rfl⟩ rfl (Nat.le_of_ble_eq_true rfl) (by decide +kernel) ?_
      refine g_kI (fun v15 G14 hp13 => ?_)
      obtain ⟨rfl, rfl⟩ := hp13
      refine g_seg [(28, .goto 8, 3)] 36 [(0, .ref m), (1, .int t), (2, .int w)] [.int (m_toldF F b i6 kk)] C (by decide +kernel) rfl ?_
      exact g_iret (pc := 36) C R (⟨_, rfl, Or.inl ⟨i6, kk, hi7, hn8, h12, hkk, hkn, rfl, h2⟩⟩) (Nat.le_of_ble_eq_true rfl) (Nat.le_of_ble_eq_true rfl) (by decide +kernel)
    · refine g_if_eq (pc := 19) (off := 12) 31 C (by decide +kernel) (by decide) (fun _ => ?_) (fun c9 => absurd (by decide) c9)
      refine g_seg [(31, .aload_n 0, 1), (32, .iconst 1, 1)] 33 [(0, .ref m), (1, .int t), (2, .int w)] [.int 1, .ref m] C (by decide +kernel) rfl ?_
      refine g_callV (pc := 33) C mV_X5_fail q708 (h2.1.1) rfl rfl (c_X5_fail l D cy h2 1) rfl ⟨⟨Nat.le_of_ble_eq_true rfl, Nat.le_of_ble_eq_true rfl⟩, Nat.le_of_ble_eq_true rfl, Nat.le_of_ble_eq_true rfl⟩ rfl (Nat.le_of_ble_eq_true rfl) (by decide +kernel) ?_
      refine g_kI (fun v18 G16 hp17 => ?_)
      obtain ⟨rfl, h19⟩ := hp17
      exact g_iret (pc := 36) C R (⟨_, rfl, Or.inr (⟨Or.inr h12, h19⟩)⟩) (Nat.le_of_ble_eq_true rfl) (Nat.le_of_ble_eq_true rfl) (by decide +kernel)
  · refine g_if_eq (pc := 10) (off := 21) 31 C (by decide +kernel) (by decide) (fun _ => ?_) (fun c9 => absurd (by decide) c9)
    refine g_seg [(31, .aload_n 0, 1), (32, .iconst 1, 1)] 33 [(0, .ref m), (1, .int t), (2, .int w)] [.int 1, .ref m] C (by decide +kernel) rfl ?_
    refine g_callV (pc := 33) C mV_X5_fail q708 (h2.1.1) rfl rfl (c_X5_fail l D cy h2 1) rfl ⟨⟨Nat.le_of_ble_eq_true rfl, Nat.le_of_ble_eq_true rfl⟩, Nat.le_of_ble_eq_true rfl, Nat.le_of_ble_eq_true rfl⟩ rfl (Nat.le_of_ble_eq_true rfl) (by decide +kernel) ?_
    refine g_kI (fun v22 G20 hp21 => ?_)
    obtain ⟨rfl, h23⟩ := hp21
    exact g_iret (pc := 36) C R (⟨_, rfl, Or.inr (⟨Or.inl hn8, h23⟩)⟩) (Nat.le_of_ble_eq_true rfl) (Nat.le_of_ble_eq_true rfl) (by decide +kernel)
set_option maxHeartbeats 4000000 in
set_option maxRecDepth 100000 in
theorem c_X5_called (l : Launch) (D : va_G) (cy : Nat → ClassId) {G : GG} {m : Nat} {am : Nat → Nat} {th b : Int32} {nt nf nc nn : Nat} {T F Cu N : Rw} (h : RM cy m am th b nt nf nc nn T F Cu N G) (t w : Int32) : Ctr l D cy yX5_called prog_7_method_26_code 3 (some .int) kX5_called [.ref m, .int t, .int w] G (pI (fun v G' => (∃ i kk, i < nc ∧ t = nI i ∧ (0 ≤ w ∧ w ≤ 4) ∧ kk < 5 ∧ w = nI kk ∧ v = Cu i kk ∧ RM cy m am 0 b nt nf nc nn T F Cu N G') ∨ (((∀ i, i < nc → t ≠ nI i) ∨ ¬ (0 ≤ w ∧ w ≤ 4)) ∧ RM cy m am 1 b nt nf nc nn T F Cu N G'))) := by
  refine Ctr.mk (by decide +kernel) (Nat.le_of_ble_eq_true rfl) ?_
  intro κ C R
  have hbd := h.2.2
  refine g_pc (pc' := 0) rfl ?_
  refine g_seg [(0, .aload_n 0, 1), (1, .iconst 0, 1)] 2 [(0, .ref m), (1, .int t), (2, .int w)] [.int 0, .ref m] C (by decide +kernel) rfl ?_
  refine g_putf (pc := 2) (k := 0) (v := .int 0) (ty := .int) C fl_X5_25 fp_X5_0 (h.1.1) (rfl) (by first | rfl | decide) (Nat.le_of_ble_eq_true rfl) (by decide +kernel) ?_
  refine g_abs (P := fun G9 => RM cy m am 0 b nt nf nc nn T F Cu N G9) (RM.obj h h.2.2) (fun G1 h2 => ?_)
  refine g_seg [(5, .iload_n 1, 1), (6, .iconst 0, 1), (7, .aload_n 0, 1)] 8 [(0, .ref m), (1, .int t), (2, .int w)] [.ref m, .int 0, .int t] C (by decide +kernel) rfl ?_
  refine g_getf (pc := 8) (k := 3) (v := .int (nI nc)) C fl_X5_80 (h2.1.1) rfl (by decide +kernel) ?_
  refine g_seg [(11, .iconst 1, 1), (12, .isub, 1)] 13 [(0, .ref m), (1, .int t), (2, .int w)] [.int ((nI nc) - 1), .int 0, .int t] C (by decide +kernel) rfl ?_
  refine g_callS (pc := 13) C mS_X5_isIn q705 (c_X5_isIn l D cy G1 t 0 ((nI nc) - 1)) rfl ⟨⟨Nat.le_of_ble_eq_true rfl, Nat.le_of_ble_eq_true rfl⟩, Nat.le_of_ble_eq_true rfl, Nat.le_of_ble_eq_true rfl⟩ rfl (Nat.le_of_ble_eq_true rfl) (by decide +kernel) ?_
  refine g_kI (fun v5 G4 hp3 => ?_)
  obtain ⟨rfl, hp3⟩ := hp3
  rcases hp3 with ⟨rfl, h6⟩ | ⟨rfl, h6⟩
  · refine g_if_eq (pc := 16) (off := 25) 41 C (by decide +kernel) (by decide) (fun c9 => absurd c9 (by decide)) (fun _ => ?_)
    refine g_seg [(19, .iload_n 2, 1), (20, .iconst 0, 1), (21, .iconst 4, 1)] 22 [(0, .ref m), (1, .int t), (2, .int w)] [.int 4, .int 0, .int w] C (by decide +kernel) rfl ?_
    refine g_callS (pc := 22) C mS_X5_isIn q705 (c_X5_isIn l D cy G4 w 0 4) rfl ⟨⟨Nat.le_of_ble_eq_true rfl, Nat.le_of_ble_eq_true rfl⟩, Nat.le_of_ble_eq_true rfl, Nat.le_of_ble_eq_true rfl⟩ rfl (Nat.le_of_ble_eq_true rfl) (by decide +kernel) ?_
    refine g_kI (fun v9 G8 hp7 => ?_)
    obtain ⟨rfl, hp7⟩ := hp7
    rcases hp7 with ⟨rfl, h10⟩ | ⟨rfl, h10⟩
    · refine g_if_eq (pc := 25) (off := 16) 41 C (by decide +kernel) (by decide) (fun c9 => absurd c9 (by decide)) (fun _ => ?_)
      refine g_seg [(28, .aload_n 0, 1)] 29 [(0, .ref m), (1, .int t), (2, .int w)] [.ref m] C (by decide +kernel) rfl ?_
      refine g_getf (pc := 29) (k := 7) (v := .ref (am 2)) C fl_X5_16 (h2.1.1) rfl (by decide +kernel) ?_
      refine g_seg [(32, .iconst 5, 1), (33, .iload_n 1, 1), (34, .imul, 1), (35, .iload_n 2, 1), (36, .iadd, 1)] 37 [(0, .ref m), (1, .int t), (2, .int w)] [.int ((5 * t) + w), .ref (am 2)] C (by decide +kernel) rfl ?_
      obtain ⟨i, hi, hn⟩ := in_ix0 (by omega) h6
      obtain ⟨kk, hkk, hkn⟩ := in_k (k := 4) (by decide) (by decide) h10
      refine g_ialdM (pc := 37) (n := 100) (5 * i + kk) (Cu i kk) C (h2.1.2.2.2.1) (by rw [hn, hkn]; exact ixM 5 i kk) (by omega) (by decide) (fA_at (by omega)) (by decide +kernel) ?_
      refine g_seg [(38, .goto 8, 3)] 46 [(0, .ref m), (1, .int t), (2, .int w)] [.int (Cu i kk)] C (by decide +kernel) rfl ?_
      exact g_iret (pc := 46) C R (⟨_, rfl, Or.inl ⟨i, kk, hi, hn, h10, hkk, hkn, rfl, h2⟩⟩) (Nat.le_of_ble_eq_true rfl) (Nat.le_of_ble_eq_true rfl) (by decide +kernel)
    · refine g_if_eq (pc := 25) (off := 16) 41 C (by decide +kernel) (by decide) (fun _ => ?_) (fun c9 => absurd (by decide) c9)
      refine g_seg [(41, .aload_n 0, 1), (42, .iconst 1, 1)] 43 [(0, .ref m), (1, .int t), (2, .int w)] [.int 1, .ref m] C (by decide +kernel) rfl ?_
      refine g_callV (pc := 43) C mV_X5_fail q708 (h2.1.1) rfl rfl (c_X5_fail l D cy h2 1) rfl ⟨⟨Nat.le_of_ble_eq_true rfl, Nat.le_of_ble_eq_true rfl⟩, Nat.le_of_ble_eq_true rfl, Nat.le_of_ble_eq_true rfl⟩ rfl (Nat.le_of_ble_eq_true rfl) (by decide +kernel) ?_
      refine g_kI (fun v13 G11 hp12 => ?_)
      obtain ⟨rfl, h14⟩ := hp12
      exact g_iret (pc := 46) C R (⟨_, rfl, Or.inr (⟨Or.inr h10, h14⟩)⟩) (Nat.le_of_ble_eq_true rfl) (Nat.le_of_ble_eq_true rfl) (by decide +kernel)
  · refine g_if_eq (pc := 16) (off := 25) 41 C (by decide +kernel) (by decide) (fun _ => ?_) (fun c9 => absurd (by decide) c9)
    refine g_seg [(41, .aload_n 0, 1), (42, .iconst 1, 1)] 43 [(0, .ref m), (1, .int t), (2, .int w)] [.int 1, .ref m] C (by decide +kernel) rfl ?_
    refine g_callV (pc := 43) C mV_X5_fail q708 (h2.1.1) rfl rfl (c_X5_fail l D cy h2 1) rfl ⟨⟨Nat.le_of_ble_eq_true rfl, Nat.le_of_ble_eq_true rfl⟩, Nat.le_of_ble_eq_true rfl, Nat.le_of_ble_eq_true rfl⟩ rfl (Nat.le_of_ble_eq_true rfl) (by decide +kernel) ?_
    refine g_kI (fun v17 G15 hp16 => ?_)
    obtain ⟨rfl, h18⟩ := hp16
    exact g_iret (pc := 46) C R (⟨_, rfl, Or.inr (⟨Or.inl (in_nix0 (by omega) h6), h18⟩)⟩) (Nat.le_of_ble_eq_true rfl) (Nat.le_of_ble_eq_true rfl) (by decide +kernel)
set_option maxHeartbeats 4000000 in
set_option maxRecDepth 100000 in
theorem c_X5_count (l : Launch) (D : va_G) (cy : Nat → ClassId) {G : GG} {m : Nat} {am : Nat → Nat} {th b : Int32} {nt nf nc nn : Nat} {T F Cu N : Rw} (h : RM cy m am th b nt nf nc nn T F Cu N G) (w : Int32) : Ctr l D cy yX5_count prog_7_method_29_code 2 (some .int) kX5_count [.ref m, .int w] G (pI (fun v G' => ((0 ≤ w ∧ w ≤ 8) ∧ v = m_count b nt nf nc T F Cu w ∧ RM cy m am 0 b nt nf nc nn T F Cu N G') ∨ (¬ (0 ≤ w ∧ w ≤ 8) ∧ RM cy m am 1 b nt nf nc nn T F Cu N G'))) := by
  refine Ctr.mk (by decide +kernel) (Nat.le_of_ble_eq_true rfl) ?_
  intro κ C R
  have hbd := h.2.2
  refine g_pc (pc' := 0) rfl ?_
  refine g_seg [(0, .aload_n 0, 1), (1, .iconst 0, 1)] 2 [(0, .ref m), (1, .int w)] [.int 0, .ref m] C (by decide +kernel) rfl ?_
  refine g_putf (pc := 2) (k := 0) (v := .int 0) (ty := .int) C fl_X5_25 fp_X5_0 (h.1.1) (rfl) (by first | rfl | decide) (Nat.le_of_ble_eq_true rfl) (by decide +kernel) ?_
  refine g_abs (P := fun G9 => RM cy m am 0 b nt nf nc nn T F Cu N G9) (RM.obj h h.2.2) (fun G1 h2 => ?_)
  refine g_seg [(5, .iload_n 1, 1), (6, .iconst 0, 1), (7, .bipush 8, 2)] 9 [(0, .ref m), (1, .int w)] [.int 8, .int 0, .int w] C (by decide +kernel) rfl ?_
  refine g_callS (pc := 9) C mS_X5_isIn q705 (c_X5_isIn l D cy G1 w 0 8) rfl ⟨⟨Nat.le_of_ble_eq_true rfl, Nat.le_of_ble_eq_true rfl⟩, Nat.le_of_ble_eq_true rfl, Nat.le_of_ble_eq_true rfl⟩ rfl (Nat.le_of_ble_eq_true rfl) (by decide +kernel) ?_
  refine g_kI (fun v5 G4 hp3 => ?_)
  obtain ⟨rfl, hp3⟩ := hp3
  rcases hp3 with ⟨rfl, h6⟩ | ⟨rfl, h6⟩
  · refine g_if_eq (pc := 12) (off := 11) 23 C (by decide +kernel) (by decide) (fun c9 => absurd c9 (by decide)) (fun _ => ?_)
    refine g_seg [(15, .aload_n 0, 1), (16, .iload_n 1, 1)] 17 [(0, .ref m), (1, .int w)] [.int w, .ref m] C (by decide +kernel) rfl ?_
    refine g_callV (pc := 17) C mV_X5_counted q802 (h2.1.1) rfl rfl (c_X5_counted l D cy h2 w) rfl ⟨⟨Nat.le_of_ble_eq_true rfl, Nat.le_of_ble_eq_true rfl⟩, Nat.le_of_ble_eq_true rfl, Nat.le_of_ble_eq_true rfl⟩ rfl (Nat.le_of_ble_eq_true rfl) (by decide +kernel) ?_
    refine g_kI (fun v9 G8 hp7 => ?_)
    obtain ⟨rfl, rfl⟩ := hp7
    refine g_seg [(20, .goto 8, 3)] 28 [(0, .ref m), (1, .int w)] [.int (m_count b nt nf nc T F Cu w)] C (by decide +kernel) rfl ?_
    exact g_iret (pc := 28) C R (⟨_, rfl, Or.inl ⟨h6, rfl, h2⟩⟩) (Nat.le_of_ble_eq_true rfl) (Nat.le_of_ble_eq_true rfl) (by decide +kernel)
  · refine g_if_eq (pc := 12) (off := 11) 23 C (by decide +kernel) (by decide) (fun _ => ?_) (fun c9 => absurd (by decide) c9)
    refine g_seg [(23, .aload_n 0, 1), (24, .iconst 1, 1)] 25 [(0, .ref m), (1, .int w)] [.int 1, .ref m] C (by decide +kernel) rfl ?_
    refine g_callV (pc := 25) C mV_X5_fail q708 (h2.1.1) rfl rfl (c_X5_fail l D cy h2 1) rfl ⟨⟨Nat.le_of_ble_eq_true rfl, Nat.le_of_ble_eq_true rfl⟩, Nat.le_of_ble_eq_true rfl, Nat.le_of_ble_eq_true rfl⟩ rfl (Nat.le_of_ble_eq_true rfl) (by decide +kernel) ?_
    refine g_kI (fun v12 G10 hp11 => ?_)
    obtain ⟨rfl, h13⟩ := hp11
    exact g_iret (pc := 28) C R (⟨_, rfl, Or.inr (⟨h6, h13⟩)⟩) (Nat.le_of_ble_eq_true rfl) (Nat.le_of_ble_eq_true rfl) (by decide +kernel)
set_option maxHeartbeats 4000000 in
set_option maxRecDepth 100000 in
theorem c_X5_place (l : Launch) (D : va_G) (cy : Nat → ClassId) {G : GG} {m : Nat} {am : Nat → Nat} {th b : Int32} {nt nf nc nn : Nat} {T F Cu N : Rw} (h : RM cy m am th b nt nf nc nn T F Cu N G) (hwok : s_wok T nt) (t n : Int32) : Ctr l D cy yX5_place prog_7_method_30_code 3 (some .int) kX5_place [.ref m, .int t, .int n] G (pI (fun v G' => (∃ i, i < nt ∧ t = nI i ∧ (0 ≤ n ∧ n ≤ 500) ∧ v = s_at T i (b + n) ∧ RM cy m am 0 b nt nf nc nn T F Cu N G') ∨ ((∀ i, i < nt → t ≠ nI i) ∧ RM cy m am 1 b nt nf nc nn T F Cu N G') ∨ ((∃ i, i < nt ∧ t = nI i) ∧ ¬ (0 ≤ n ∧ n ≤ 500) ∧ RM cy m am 2 b nt nf nc nn T F Cu N G'))) := by
  refine Ctr.mk (by decide +kernel) (Nat.le_of_ble_eq_true rfl) ?_
  intro κ C R
  have hbd := h.2.2
  refine g_pc (pc' := 0) rfl ?_
  refine g_seg [(0, .aload_n 0, 1), (1, .iconst 0, 1)] 2 [(0, .ref m), (1, .int t), (2, .int n)] [.int 0, .ref m] C (by decide +kernel) rfl ?_
  refine g_putf (pc := 2) (k := 0) (v := .int 0) (ty := .int) C fl_X5_25 fp_X5_0 (h.1.1) (rfl) (by first | rfl | decide) (Nat.le_of_ble_eq_true rfl) (by decide +kernel) ?_
  refine g_abs (P := fun G9 => RM cy m am 0 b nt nf nc nn T F Cu N G9) (RM.obj h h.2.2) (fun G1 h2 => ?_)
  refine g_seg [(5, .aload_n 0, 1), (6, .iload_n 1, 1)] 7 [(0, .ref m), (1, .int t), (2, .int n)] [.int t, .ref m] C (by decide +kernel) rfl ?_
  refine g_callV (pc := 7) C mV_X5_isTrapeze q719 (h2.1.1) rfl rfl (c_X5_isTrapeze l D cy h2 t) rfl ⟨⟨Nat.le_of_ble_eq_true rfl, Nat.le_of_ble_eq_true rfl⟩, Nat.le_of_ble_eq_true rfl, Nat.le_of_ble_eq_true rfl⟩ rfl (Nat.le_of_ble_eq_true rfl) (by decide +kernel) ?_
  refine g_kI (fun v5 G4 hp3 => ?_)
  obtain ⟨rfl, hp3⟩ := hp3
  rcases hp3 with ⟨rfl, i6, hi7, hn8⟩ | ⟨rfl, hn8⟩
  · refine g_if_ne (pc := 10) (off := 9) 19 C (by decide +kernel) (by decide) (fun _ => ?_) (fun c9 => absurd c9 (by decide))
    refine g_seg [(19, .iload_n 2, 1), (20, .iconst 0, 1), (21, .sipush 500, 3)] 24 [(0, .ref m), (1, .int t), (2, .int n)] [.int 500, .int 0, .int n] C (by decide +kernel) rfl ?_
    refine g_callS (pc := 24) C mS_X5_isIn q705 (c_X5_isIn l D cy G4 n 0 500) rfl ⟨⟨Nat.le_of_ble_eq_true rfl, Nat.le_of_ble_eq_true rfl⟩, Nat.le_of_ble_eq_true rfl, Nat.le_of_ble_eq_true rfl⟩ rfl (Nat.le_of_ble_eq_true rfl) (by decide +kernel) ?_
    refine g_kI (fun v11 G10 hp9 => ?_)
    obtain ⟨rfl, hp9⟩ := hp9
    rcases hp9 with ⟨rfl, h12⟩ | ⟨rfl, h12⟩
    · refine g_if_eq (pc := 27) (off := 12) 39 C (by decide +kernel) (by decide) (fun c9 => absurd c9 (by decide)) (fun _ => ?_)
      refine g_seg [(30, .aload_n 0, 1), (31, .iload_n 1, 1), (32, .iload_n 2, 1)] 33 [(0, .ref m), (1, .int t), (2, .int n)] [.int n, .int t, .ref m] C (by decide +kernel) rfl ?_
      refine g_callV (pc := 33) C mV_X5_placeOf q779 (h2.1.1) rfl rfl (c_X5_placeOf l D cy h2 i6 (by omega) t n (hn8) (hwok i6 (by omega))) rfl ⟨⟨Nat.le_of_ble_eq_true rfl, Nat.le_of_ble_eq_true rfl⟩, Nat.le_of_ble_eq_true rfl, Nat.le_of_ble_eq_true rfl⟩ rfl (Nat.le_of_ble_eq_true rfl) (by decide +kernel) ?_
      refine g_kI (fun v15 G14 hp13 => ?_)
      obtain ⟨rfl, rfl⟩ := hp13
      refine g_seg [(36, .goto 8, 3)] 44 [(0, .ref m), (1, .int t), (2, .int n)] [.int (s_at T i6 (b + n))] C (by decide +kernel) rfl ?_
      exact g_iret (pc := 44) C R (⟨_, rfl, Or.inl ⟨i6, hi7, hn8, h12, rfl, h2⟩⟩) (Nat.le_of_ble_eq_true rfl) (Nat.le_of_ble_eq_true rfl) (by decide +kernel)
    · refine g_if_eq (pc := 27) (off := 12) 39 C (by decide +kernel) (by decide) (fun _ => ?_) (fun c9 => absurd (by decide) c9)
      refine g_seg [(39, .aload_n 0, 1), (40, .iconst 2, 1)] 41 [(0, .ref m), (1, .int t), (2, .int n)] [.int 2, .ref m] C (by decide +kernel) rfl ?_
      refine g_callV (pc := 41) C mV_X5_fail q708 (h2.1.1) rfl rfl (c_X5_fail l D cy h2 2) rfl ⟨⟨Nat.le_of_ble_eq_true rfl, Nat.le_of_ble_eq_true rfl⟩, Nat.le_of_ble_eq_true rfl, Nat.le_of_ble_eq_true rfl⟩ rfl (Nat.le_of_ble_eq_true rfl) (by decide +kernel) ?_
      refine g_kI (fun v18 G16 hp17 => ?_)
      obtain ⟨rfl, h19⟩ := hp17
      exact g_iret (pc := 44) C R (⟨_, rfl, Or.inr (Or.inr (⟨⟨i6, hi7, hn8⟩, h12, h19⟩))⟩) (Nat.le_of_ble_eq_true rfl) (Nat.le_of_ble_eq_true rfl) (by decide +kernel)
  · refine g_if_ne (pc := 10) (off := 9) 19 C (by decide +kernel) (by decide) (fun c9 => absurd (by decide) c9) (fun _ => ?_)
    refine g_seg [(13, .aload_n 0, 1), (14, .iconst 1, 1)] 15 [(0, .ref m), (1, .int t), (2, .int n)] [.int 1, .ref m] C (by decide +kernel) rfl ?_
    refine g_callV (pc := 15) C mV_X5_fail q708 (h2.1.1) rfl rfl (c_X5_fail l D cy h2 1) rfl ⟨⟨Nat.le_of_ble_eq_true rfl, Nat.le_of_ble_eq_true rfl⟩, Nat.le_of_ble_eq_true rfl, Nat.le_of_ble_eq_true rfl⟩ rfl (Nat.le_of_ble_eq_true rfl) (by decide +kernel) ?_
    refine g_kI (fun v22 G20 hp21 => ?_)
    obtain ⟨rfl, h23⟩ := hp21
    exact g_iret (pc := 18) C R (⟨_, rfl, Or.inr (Or.inl ⟨hn8, h23⟩)⟩) (Nat.le_of_ble_eq_true rfl) (Nat.le_of_ble_eq_true rfl) (by decide +kernel)
set_option maxHeartbeats 4000000 in
set_option maxRecDepth 100000 in
theorem c_X5_netAt (l : Launch) (D : va_G) (cy : Nat → ClassId) {G : GG} {m : Nat} {am : Nat → Nat} {th b : Int32} {nt nf nc nn : Nat} {T F Cu N : Rw} (h : RM cy m am th b nt nf nc nn T F Cu N G) (p0 : Int32) : Ctr l D cy yX5_netAt prog_7_method_32_code 2 (some .boolean) kX5_netAt [.ref m, .int p0] G (pI (fun v G' => ((v = 1 ∧ s_net N nn p0 = true) ∨ (v = 0 ∧ s_net N nn p0 = false)) ∧ RM cy m am 0 b nt nf nc nn T F Cu N G')) := by
  refine Ctr.mk (by decide +kernel) (Nat.le_of_ble_eq_true rfl) ?_
  intro κ C R
  have hbd := h.2.2
  refine g_pc (pc' := 0) rfl ?_
  refine g_seg [(0, .aload_n 0, 1), (1, .iconst 0, 1)] 2 [(0, .ref m), (1, .int p0)] [.int 0, .ref m] C (by decide +kernel) rfl ?_
  refine g_putf (pc := 2) (k := 0) (v := .int 0) (ty := .int) C fl_X5_25 fp_X5_0 (h.1.1) (rfl) (by first | rfl | decide) (Nat.le_of_ble_eq_true rfl) (by decide +kernel) ?_
  refine g_abs (P := fun G9 => RM cy m am 0 b nt nf nc nn T F Cu N G9) (RM.obj h h.2.2) (fun G1 h2 => ?_)
  refine g_seg [(5, .aload_n 0, 1), (6, .iload_n 1, 1)] 7 [(0, .ref m), (1, .int p0)] [.int p0, .ref m] C (by decide +kernel) rfl ?_
  refine g_callV (pc := 7) C mV_X5_isNet q818 (h2.1.1) rfl rfl (c_X5_isNet l D cy h2 p0) rfl ⟨⟨Nat.le_of_ble_eq_true rfl, Nat.le_of_ble_eq_true rfl⟩, Nat.le_of_ble_eq_true rfl, Nat.le_of_ble_eq_true rfl⟩ rfl (Nat.le_of_ble_eq_true rfl) (by decide +kernel) ?_
  refine g_kI (fun v5 G4 hp3 => ?_)
  obtain ⟨rfl, hp3⟩ := hp3
  rcases hp3 with ⟨rfl, h6⟩ | ⟨rfl, h6⟩
  · exact g_zret (pc := 10) C R (by first | rfl | decide) (⟨_, rfl, Or.inl ⟨rfl, h6⟩, h2⟩) (Nat.le_of_ble_eq_true rfl) (Nat.le_of_ble_eq_true rfl) (by decide +kernel)
  · exact g_zret (pc := 10) C R (by first | rfl | decide) (⟨_, rfl, Or.inr ⟨rfl, h6⟩, h2⟩) (Nat.le_of_ble_eq_true rfl) (Nat.le_of_ble_eq_true rfl) (by decide +kernel)
set_option maxHeartbeats 4000000 in
set_option maxRecDepth 100000 in
theorem c_X5_go (l : Launch) (D : va_G) (cy : Nat → ClassId) {G : GG} {m : Nat} {am : Nat → Nat} {th b : Int32} {nt nf nc nn : Nat} {T F Cu N : Rw} (h : RM cy m am th b nt nf nc nn T F Cu N G) (hwS : m_wS nt nf nc (b, T, F, Cu)) (n : Int32) : Ctr l D cy yX5_go prog_7_method_41_code 3 (some .int) kX5_go [.ref m, .int n] G (pI (fun v G' => (∃ k, (1 ≤ n ∧ n ≤ 200) ∧ k ≤ 200 ∧ n = nI k ∧ v = s_caught (m_beats N nn nt nf nc (b, T, F, Cu) k).2.2.1 nf - s_caught F nf ∧ RM cy m am 0 (m_beats N nn nt nf nc (b, T, F, Cu) k).1 nt nf nc nn (m_beats N nn nt nf nc (b, T, F, Cu) k).2.1 (m_beats N nn nt nf nc (b, T, F, Cu) k).2.2.1 (m_beats N nn nt nf nc (b, T, F, Cu) k).2.2.2 N G') ∨ (¬ (1 ≤ n ∧ n ≤ 200) ∧ RM cy m am 1 b nt nf nc nn T F Cu N G'))) := by
  refine Ctr.mk (by decide +kernel) (Nat.le_of_ble_eq_true rfl) ?_
  intro κ C R
  have hbd := h.2.2
  refine g_pc (pc' := 0) rfl ?_
  refine g_seg [(0, .aload_n 0, 1), (1, .iconst 0, 1)] 2 [(0, .ref m), (1, .int n)] [.int 0, .ref m] C (by decide +kernel) rfl ?_
  refine g_putf (pc := 2) (k := 0) (v := .int 0) (ty := .int) C fl_X5_25 fp_X5_0 (h.1.1) (rfl) (by first | rfl | decide) (Nat.le_of_ble_eq_true rfl) (by decide +kernel) ?_
  refine g_abs (P := fun G9 => RM cy m am 0 b nt nf nc nn T F Cu N G9) (RM.obj h h.2.2) (fun G1 h2 => ?_)
  refine g_seg [(5, .iload_n 1, 1), (6, .iconst 1, 1), (7, .sipush 200, 3)] 10 [(0, .ref m), (1, .int n)] [.int 200, .int 1, .int n] C (by decide +kernel) rfl ?_
  refine g_callS (pc := 10) C mS_X5_isIn q705 (c_X5_isIn l D cy G1 n 1 200) rfl ⟨⟨Nat.le_of_ble_eq_true rfl, Nat.le_of_ble_eq_true rfl⟩, Nat.le_of_ble_eq_true rfl, Nat.le_of_ble_eq_true rfl⟩ rfl (Nat.le_of_ble_eq_true rfl) (by decide +kernel) ?_
  refine g_kI (fun v5 G4 hp3 => ?_)
  obtain ⟨rfl, hp3⟩ := hp3
  rcases hp3 with ⟨rfl, h6⟩ | ⟨rfl, h6⟩
  · refine g_if_ne (pc := 13) (off := 9) 22 C (by decide +kernel) (by decide) (fun _ => ?_) (fun c9 => absurd c9 (by decide))
    refine g_seg [(22, .aload_n 0, 1)] 23 [(0, .ref m), (1, .int n)] [.ref m] C (by decide +kernel) rfl ?_
    refine g_callV (pc := 23) C mV_X5_caught q826 (h2.1.1) rfl rfl (c_X5_caught l D cy h2) rfl ⟨⟨Nat.le_of_ble_eq_true rfl, Nat.le_of_ble_eq_true rfl⟩, Nat.le_of_ble_eq_true rfl, Nat.le_of_ble_eq_true rfl⟩ rfl (Nat.le_of_ble_eq_true rfl) (by decide +kernel) ?_
    refine g_kI (fun v9 G8 hp7 => ?_)
    obtain ⟨rfl, rfl⟩ := hp7
    refine g_seg [(26, .istore_n 2, 1), (27, .aload_n 0, 1), (28, .iload_n 1, 1)] 29 [(2, .int (s_caught F nf)), (0, .ref m), (1, .int n)] [.int n, .ref m] C (by decide +kernel) rfl ?_
    obtain ⟨kb, hkb, hnb⟩ := in_200 h6
    refine g_callV (pc := 29) C mV_X5_beatsOn q830 (h2.1.1) rfl rfl (c_X5_beatsOn l D cy h2 hwS kb (by omega) n hnb) rfl ⟨⟨Nat.le_of_ble_eq_true rfl, Nat.le_of_ble_eq_true rfl⟩, Nat.le_of_ble_eq_true rfl, Nat.le_of_ble_eq_true rfl⟩ rfl (Nat.le_of_ble_eq_true rfl) (by decide +kernel) ?_
    refine g_kV (fun G10 h11 => ?_)
    refine g_seg [(32, .aload_n 0, 1)] 33 [(2, .int (s_caught F nf)), (0, .ref m), (1, .int n)] [.ref m] C (by decide +kernel) rfl ?_
    refine g_callV (pc := 33) C mV_X5_caught q826 (h11.1.1) rfl rfl (c_X5_caught l D cy h11) rfl ⟨⟨Nat.le_of_ble_eq_true rfl, Nat.le_of_ble_eq_true rfl⟩, Nat.le_of_ble_eq_true rfl, Nat.le_of_ble_eq_true rfl⟩ rfl (Nat.le_of_ble_eq_true rfl) (by decide +kernel) ?_
    refine g_kI (fun v14 G13 hp12 => ?_)
    obtain ⟨rfl, rfl⟩ := hp12
    refine g_seg [(36, .iload_n 2, 1), (37, .isub, 1)] 38 [(2, .int (s_caught F nf)), (0, .ref m), (1, .int n)] [.int ((s_caught ((m_beats N nn nt nf nc (b, T, F, Cu) kb).2.2.1) nf) - (s_caught F nf))] C (by decide +kernel) rfl ?_
    exact g_iret (pc := 38) C R (⟨_, rfl, Or.inl ⟨kb, h6, hkb, hnb, rfl, h11⟩⟩) (Nat.le_of_ble_eq_true rfl) (Nat.le_of_ble_eq_true rfl) (by decide +kernel)
  · refine g_if_ne (pc := 13) (off := 9) 22 C (by decide +kernel) (by decide) (fun c9 => absurd (by decide) c9) (fun _ => ?_)
    refine g_seg [(16, .aload_n 0, 1), (17, .iconst 1, 1)] 18 [(0, .ref m), (1, .int n)] [.int 1, .ref m] C (by decide +kernel) rfl ?_
    refine g_callV (pc := 18) C mV_X5_fail q708 (h2.1.1) rfl rfl (c_X5_fail l D cy h2 1) rfl ⟨⟨Nat.le_of_ble_eq_true rfl, Nat.le_of_ble_eq_true rfl⟩, Nat.le_of_ble_eq_true rfl, Nat.le_of_ble_eq_true rfl⟩ rfl (Nat.le_of_ble_eq_true rfl) (by decide +kernel) ?_
    refine g_kI (fun v17 G15 hp16 => ?_)
    obtain ⟨rfl, h18⟩ := hp16
    exact g_iret (pc := 21) C R (⟨_, rfl, Or.inr (⟨h6, h18⟩)⟩) (Nat.le_of_ble_eq_true rfl) (Nat.le_of_ble_eq_true rfl) (by decide +kernel)
set_option maxHeartbeats 4000000 in
set_option maxRecDepth 100000 in
theorem c_X5_meets (l : Launch) (D : va_G) (cy : Nat → ClassId) {G : GG} {m : Nat} {am : Nat → Nat} {th b : Int32} {nt nf nc nn : Nat} {T F Cu N : Rw} (h : RM cy m am th b nt nf nc nn T F Cu N G) (hwok : s_wok T nt) (t1 t2 : Int32) : Ctr l D cy yX5_meets prog_7_method_42_code 4 (some .int) kX5_meets [.ref m, .int t1, .int t2] G (pI (fun v G' => (∃ i j, i < nt ∧ t1 = nI i ∧ j < nt ∧ t2 = nI j ∧ (((T i 5 = 0 ∨ T j 5 = 0) ∧ v = -1) ∨ (¬ T i 5 = 0 ∧ ¬ T j 5 = 0 ∧ v = s_meet T i j b)) ∧ RM cy m am 0 b nt nf nc nn T F Cu N G') ∨ (((∀ i, i < nt → t1 ≠ nI i) ∨ (∀ i, i < nt → t2 ≠ nI i)) ∧ RM cy m am 1 b nt nf nc nn T F Cu N G'))) := by
  refine Ctr.mk (by decide +kernel) (Nat.le_of_ble_eq_true rfl) ?_
  intro κ C R
  have hbd := h.2.2
  refine g_pc (pc' := 0) rfl ?_
  refine g_seg [(0, .aload_n 0, 1), (1, .iconst 0, 1)] 2 [(0, .ref m), (1, .int t1), (2, .int t2)] [.int 0, .ref m] C (by decide +kernel) rfl ?_
  refine g_putf (pc := 2) (k := 0) (v := .int 0) (ty := .int) C fl_X5_25 fp_X5_0 (h.1.1) (rfl) (by first | rfl | decide) (Nat.le_of_ble_eq_true rfl) (by decide +kernel) ?_
  refine g_abs (P := fun G9 => RM cy m am 0 b nt nf nc nn T F Cu N G9) (RM.obj h h.2.2) (fun G1 h2 => ?_)
  refine g_seg [(5, .aload_n 0, 1), (6, .iload_n 1, 1)] 7 [(0, .ref m), (1, .int t1), (2, .int t2)] [.int t1, .ref m] C (by decide +kernel) rfl ?_
  refine g_callV (pc := 7) C mV_X5_isTrapeze q719 (h2.1.1) rfl rfl (c_X5_isTrapeze l D cy h2 t1) rfl ⟨⟨Nat.le_of_ble_eq_true rfl, Nat.le_of_ble_eq_true rfl⟩, Nat.le_of_ble_eq_true rfl, Nat.le_of_ble_eq_true rfl⟩ rfl (Nat.le_of_ble_eq_true rfl) (by decide +kernel) ?_
  refine g_kI (fun v5 G4 hp3 => ?_)
  obtain ⟨rfl, hp3⟩ := hp3
  rcases hp3 with ⟨rfl, i6, hi7, hn8⟩ | ⟨rfl, hn8⟩
  · refine g_if_eq (pc := 10) (off := 11) 21 C (by decide +kernel) (by decide) (fun c9 => absurd c9 (by decide)) (fun _ => ?_)
    refine g_seg [(13, .aload_n 0, 1), (14, .iload_n 2, 1)] 15 [(0, .ref m), (1, .int t1), (2, .int t2)] [.int t2, .ref m] C (by decide +kernel) rfl ?_
    refine g_callV (pc := 15) C mV_X5_isTrapeze q719 (h2.1.1) rfl rfl (c_X5_isTrapeze l D cy h2 t2) rfl ⟨⟨Nat.le_of_ble_eq_true rfl, Nat.le_of_ble_eq_true rfl⟩, Nat.le_of_ble_eq_true rfl, Nat.le_of_ble_eq_true rfl⟩ rfl (Nat.le_of_ble_eq_true rfl) (by decide +kernel) ?_
    refine g_kI (fun v11 G10 hp9 => ?_)
    obtain ⟨rfl, hp9⟩ := hp9
    rcases hp9 with ⟨rfl, i12, hi13, hn14⟩ | ⟨rfl, hn14⟩
    · refine g_if_ne (pc := 18) (off := 9) 27 C (by decide +kernel) (by decide) (fun _ => ?_) (fun c9 => absurd c9 (by decide))
      refine g_seg [(27, .aload_n 0, 1), (28, .iload_n 1, 1), (29, .iconst 5, 1)] 30 [(0, .ref m), (1, .int t1), (2, .int t2)] [.int 5, .int t1, .ref m] C (by decide +kernel) rfl ?_
      refine g_callV (pc := 30) C mV_X5_ri q723 (h2.1.1) rfl rfl (c_X5_ri l D cy h2 i6 5 (by omega) (by omega) t1 5 (hn8) (rfl)) rfl ⟨⟨Nat.le_of_ble_eq_true rfl, Nat.le_of_ble_eq_true rfl⟩, Nat.le_of_ble_eq_true rfl, Nat.le_of_ble_eq_true rfl⟩ rfl (Nat.le_of_ble_eq_true rfl) (by decide +kernel) ?_
      refine g_kI (fun v17 G16 hp15 => ?_)
      obtain ⟨rfl, rfl⟩ := hp15
      refine g_if_eq (pc := 33) (off := 12) 45 C (by decide +kernel) (by decide) (fun c18 => ?_) (fun c18 => ?_)
      · refine g_seg [(45, .iconst (-1), 1)] 46 [(0, .ref m), (1, .int t1), (2, .int t2)] [.int (-1)] C (by decide +kernel) rfl ?_
        exact g_iret (pc := 46) C R (⟨_, rfl, Or.inl ⟨i6, i12, hi7, hn8, hi13, hn14, Or.inl ⟨Or.inl c18, rfl⟩, h2⟩⟩) (Nat.le_of_ble_eq_true rfl) (Nat.le_of_ble_eq_true rfl) (by decide +kernel)
      · refine g_seg [(36, .aload_n 0, 1), (37, .iload_n 2, 1), (38, .iconst 5, 1)] 39 [(0, .ref m), (1, .int t1), (2, .int t2)] [.int 5, .int t2, .ref m] C (by decide +kernel) rfl ?_
        refine g_callV (pc := 39) C mV_X5_ri q723 (h2.1.1) rfl rfl (c_X5_ri l D cy h2 i12 5 (by omega) (by omega) t2 5 (hn14) (rfl)) rfl ⟨⟨Nat.le_of_ble_eq_true rfl, Nat.le_of_ble_eq_true rfl⟩, Nat.le_of_ble_eq_true rfl, Nat.le_of_ble_eq_true rfl⟩ rfl (Nat.le_of_ble_eq_true rfl) (by decide +kernel) ?_
        refine g_kI (fun v21 G20 hp19 => ?_)
        obtain ⟨rfl, rfl⟩ := hp19
        refine g_if_ne (pc := 42) (off := 5) 47 C (by decide +kernel) (by decide) (fun c22 => ?_) (fun c22 => ?_)
        · refine g_seg [(47, .iconst 0, 1), (48, .istore_n 3, 1)] 49 [(3, .int 0), (0, .ref m), (1, .int t1), (2, .int t2)] [] C (by decide +kernel) rfl ?_
          refine g_subp [1, 2, 3, 0] (lv' := [(0, .ref m), (1, .int t1), (2, .int t2), (3, .int 0)]) rfl ?_
          have lp23 : ∀ (n0 k : Nat) (xk : Int32), 201 + 1 ≤ k + n0 → k ≤ 201 → xk = nI k → (∀ u, u < k → s_near (s_at T i6 (b + nI u)) (s_at T i12 (b + nI u)) = false) → PG κ 4 0 0 G20 [(0, .ref m), (1, .int t1), (2, .int t2), (3, .int xk)] 49 [] := by
            intro n0
            induction n0 with
            | zero => intro k xk h1 h2; intros; exact absurd h1 (by omega)
            | succ n0 ih =>
              intro k xk hm hk hx hs
              refine g_seg [(49, .iload_n 3, 1), (50, .sipush 200, 3)] 53 [(0, .ref m), (1, .int t1), (2, .int t2), (3, .int xk)] [.int 200, .int xk] C (by decide +kernel) rfl ?_
              refine g_icmp_gt (pc := 53) (off := 29) 82 C (by decide +kernel) (by decide) (fun c24 => ?_) (fun c24 => ?_)
              · have hk8 : k = 201 := by have := lp_gt hx (by omega) (n := 200) (by decide) c24; omega
                refine g_seg [(82, .iconst (-1), 1)] 83 [(0, .ref m), (1, .int t1), (2, .int t2), (3, .int xk)] [.int (-1)] C (by decide +kernel) rfl ?_
                exact g_iret (pc := 83) C R (⟨_, rfl, Or.inl ⟨i6, i12, hi7, hn8, hi13, hn14, Or.inr ⟨c18, c22, (meet_n (by rw [hk8] at hs; exact hs)).symm⟩, h2⟩⟩) (Nat.le_of_ble_eq_true rfl) (Nat.le_of_ble_eq_true rfl) (by decide +kernel)
              · have hk8 : k < 201 := by have := lp_ngt hx (by omega) (n := 200) (by decide) c24; omega
                refine g_seg [(56, .aload_n 0, 1), (57, .iload_n 1, 1), (58, .iload_n 3, 1)] 59 [(0, .ref m), (1, .int t1), (2, .int t2), (3, .int xk)] [.int xk, .int t1, .ref m] C (by decide +kernel) rfl ?_
                refine g_callV (pc := 59) C mV_X5_placeOf q779 (h2.1.1) rfl rfl (c_X5_placeOf l D cy h2 i6 (by omega) t1 xk (hn8) (hwok i6 (by omega))) rfl ⟨⟨Nat.le_of_ble_eq_true rfl, Nat.le_of_ble_eq_true rfl⟩, Nat.le_of_ble_eq_true rfl, Nat.le_of_ble_eq_true rfl⟩ rfl (Nat.le_of_ble_eq_true rfl) (by decide +kernel) ?_
                refine g_kI (fun v27 G26 hp25 => ?_)
                obtain ⟨rfl, rfl⟩ := hp25
                refine g_seg [(62, .aload_n 0, 1), (63, .iload_n 2, 1), (64, .iload_n 3, 1)] 65 [(0, .ref m), (1, .int t1), (2, .int t2), (3, .int xk)] [.int xk, .int t2, .ref m, .int (s_at T i6 (b + xk))] C (by decide +kernel) rfl ?_
                refine g_callV (pc := 65) C mV_X5_placeOf q779 (h2.1.1) rfl rfl (c_X5_placeOf l D cy h2 i12 (by omega) t2 xk (hn14) (hwok i12 (by omega))) rfl ⟨⟨Nat.le_of_ble_eq_true rfl, Nat.le_of_ble_eq_true rfl⟩, Nat.le_of_ble_eq_true rfl, Nat.le_of_ble_eq_true rfl⟩ rfl (Nat.le_of_ble_eq_true rfl) (by decide +kernel) ?_
                refine g_kI (fun v30 G29 hp28 => ?_)
                obtain ⟨rfl, rfl⟩ := hp28
                refine g_callS (pc := 68) C mS_X5_isNear q846 (c_X5_isNear l D cy G29 (s_at T i6 (b + xk)) (s_at T i12 (b + xk))) rfl ⟨⟨Nat.le_of_ble_eq_true rfl, Nat.le_of_ble_eq_true rfl⟩, Nat.le_of_ble_eq_true rfl, Nat.le_of_ble_eq_true rfl⟩ rfl (Nat.le_of_ble_eq_true rfl) (by decide +kernel) ?_
                refine g_kI (fun v33 G32 hp31 => ?_)
                obtain ⟨rfl, hp31⟩ := hp31
                rcases hp31 with ⟨rfl, h34⟩ | ⟨rfl, h34⟩
                · refine g_if_eq (pc := 71) (off := 5) 76 C (by decide +kernel) (by decide) (fun c9 => absurd c9 (by decide)) (fun _ => ?_)
                  refine g_seg [(74, .iload_n 3, 1)] 75 [(0, .ref m), (1, .int t1), (2, .int t2), (3, .int xk)] [.int xk] C (by decide +kernel) rfl ?_
                  exact g_iret (pc := 75) C R (⟨_, rfl, Or.inl ⟨i6, i12, hi7, hn8, hi13, hn14, Or.inr ⟨c18, c22, hx.trans (meet_y hk8 (by rw [← hx]; exact h34) hs).symm⟩, h2⟩⟩) (Nat.le_of_ble_eq_true rfl) (Nat.le_of_ble_eq_true rfl) (by decide +kernel)
                · refine g_if_eq (pc := 71) (off := 5) 76 C (by decide +kernel) (by decide) (fun _ => ?_) (fun c9 => absurd (by decide) c9)
                  refine g_seg [(76, .iinc 3 1, 3), (79, .goto (-30), 3)] 49 [(3, .int (xk + 1)), (0, .ref m), (1, .int t1), (2, .int t2)] [] C (by decide +kernel) rfl ?_
                  refine g_subp [1, 2, 3, 0] (lv' := [(0, .ref m), (1, .int t1), (2, .int t2), (3, .int (xk + 1))]) rfl ?_
                  exact ih (k + 1) (xk + 1) (by omega) (by omega) (lp_s hx) (no_f2 hs (by rw [← hx]; exact h34))
          exact lp23 (201 + 1) 0 0 (by omega) (by omega) (nI_0.symm) (fun u h1 => absurd h1 (by omega))
        · refine g_seg [(45, .iconst (-1), 1)] 46 [(0, .ref m), (1, .int t1), (2, .int t2)] [.int (-1)] C (by decide +kernel) rfl ?_
          exact g_iret (pc := 46) C R (⟨_, rfl, Or.inl ⟨i6, i12, hi7, hn8, hi13, hn14, Or.inl ⟨Or.inr c22, rfl⟩, h2⟩⟩) (Nat.le_of_ble_eq_true rfl) (Nat.le_of_ble_eq_true rfl) (by decide +kernel)
    · refine g_if_ne (pc := 18) (off := 9) 27 C (by decide +kernel) (by decide) (fun c9 => absurd (by decide) c9) (fun _ => ?_)
      refine g_seg [(21, .aload_n 0, 1), (22, .iconst 1, 1)] 23 [(0, .ref m), (1, .int t1), (2, .int t2)] [.int 1, .ref m] C (by decide +kernel) rfl ?_
      refine g_callV (pc := 23) C mV_X5_fail q708 (h2.1.1) rfl rfl (c_X5_fail l D cy h2 1) rfl ⟨⟨Nat.le_of_ble_eq_true rfl, Nat.le_of_ble_eq_true rfl⟩, Nat.le_of_ble_eq_true rfl, Nat.le_of_ble_eq_true rfl⟩ rfl (Nat.le_of_ble_eq_true rfl) (by decide +kernel) ?_
      refine g_kI (fun v37 G35 hp36 => ?_)
      obtain ⟨rfl, h38⟩ := hp36
      exact g_iret (pc := 26) C R (⟨_, rfl, Or.inr (⟨Or.inr hn14, h38⟩)⟩) (Nat.le_of_ble_eq_true rfl) (Nat.le_of_ble_eq_true rfl) (by decide +kernel)
  · refine g_if_eq (pc := 10) (off := 11) 21 C (by decide +kernel) (by decide) (fun _ => ?_) (fun c9 => absurd (by decide) c9)
    refine g_seg [(21, .aload_n 0, 1), (22, .iconst 1, 1)] 23 [(0, .ref m), (1, .int t1), (2, .int t2)] [.int 1, .ref m] C (by decide +kernel) rfl ?_
    refine g_callV (pc := 23) C mV_X5_fail q708 (h2.1.1) rfl rfl (c_X5_fail l D cy h2 1) rfl ⟨⟨Nat.le_of_ble_eq_true rfl, Nat.le_of_ble_eq_true rfl⟩, Nat.le_of_ble_eq_true rfl, Nat.le_of_ble_eq_true rfl⟩ rfl (Nat.le_of_ble_eq_true rfl) (by decide +kernel) ?_
    refine g_kI (fun v41 G39 hp40 => ?_)
    obtain ⟨rfl, h42⟩ := hp40
    exact g_iret (pc := 26) C R (⟨_, rfl, Or.inr (⟨Or.inl hn8, h42⟩)⟩) (Nat.le_of_ble_eq_true rfl) (Nat.le_of_ble_eq_true rfl) (by decide +kernel)
set_option maxHeartbeats 4000000 in
set_option maxRecDepth 100000 in
theorem c_X5_flight (l : Launch) (D : va_G) (cy : Nat → ClassId) {G : GG} {m : Nat} {am : Nat → Nat} {th b : Int32} {nt nf nc nn : Nat} {T F Cu N : Rw} (h : RM cy m am th b nt nf nc nn T F Cu N G) (hwok : s_wok T nt) (hwF : m_wF nt nf F) (t1 t2 : Int32) : Ctr l D cy yX5_flight prog_7_method_43_code 6 (some .int) kX5_flight [.ref m, .int t1, .int t2] G (pI (fun v G' => (∃ i j, i < nf ∧ t1 = nI i ∧ j < nt ∧ t2 = nI j ∧ ((¬ F i 0 = 1 ∧ v = -1) ∨ (F i 0 = 1 ∧ ∃ g, g < nt ∧ F i 1 = nI g ∧ v = s_flight T j b (s_at T g (b + 0)))) ∧ RM cy m am 0 b nt nf nc nn T F Cu N G') ∨ (((∀ i, i < nf → t1 ≠ nI i) ∨ (∀ i, i < nt → t2 ≠ nI i)) ∧ RM cy m am 1 b nt nf nc nn T F Cu N G'))) := by
  refine Ctr.mk (by decide +kernel) (Nat.le_of_ble_eq_true rfl) ?_
  intro κ C R
  have hbd := h.2.2
  refine g_pc (pc' := 0) rfl ?_
  refine g_seg [(0, .aload_n 0, 1), (1, .iconst 0, 1)] 2 [(0, .ref m), (1, .int t1), (2, .int t2)] [.int 0, .ref m] C (by decide +kernel) rfl ?_
  refine g_putf (pc := 2) (k := 0) (v := .int 0) (ty := .int) C fl_X5_25 fp_X5_0 (h.1.1) (rfl) (by first | rfl | decide) (Nat.le_of_ble_eq_true rfl) (by decide +kernel) ?_
  refine g_abs (P := fun G9 => RM cy m am 0 b nt nf nc nn T F Cu N G9) (RM.obj h h.2.2) (fun G1 h2 => ?_)
  refine g_seg [(5, .aload_n 0, 1), (6, .iload_n 1, 1)] 7 [(0, .ref m), (1, .int t1), (2, .int t2)] [.int t1, .ref m] C (by decide +kernel) rfl ?_
  refine g_callV (pc := 7) C mV_X5_isFlyer q751 (h2.1.1) rfl rfl (c_X5_isFlyer l D cy h2 t1) rfl ⟨⟨Nat.le_of_ble_eq_true rfl, Nat.le_of_ble_eq_true rfl⟩, Nat.le_of_ble_eq_true rfl, Nat.le_of_ble_eq_true rfl⟩ rfl (Nat.le_of_ble_eq_true rfl) (by decide +kernel) ?_
  refine g_kI (fun v5 G4 hp3 => ?_)
  obtain ⟨rfl, hp3⟩ := hp3
  rcases hp3 with ⟨rfl, i6, hi7, hn8⟩ | ⟨rfl, hn8⟩
  · refine g_if_eq (pc := 10) (off := 11) 21 C (by decide +kernel) (by decide) (fun c9 => absurd c9 (by decide)) (fun _ => ?_)
    refine g_seg [(13, .aload_n 0, 1), (14, .iload_n 2, 1)] 15 [(0, .ref m), (1, .int t1), (2, .int t2)] [.int t2, .ref m] C (by decide +kernel) rfl ?_
    refine g_callV (pc := 15) C mV_X5_isTrapeze q719 (h2.1.1) rfl rfl (c_X5_isTrapeze l D cy h2 t2) rfl ⟨⟨Nat.le_of_ble_eq_true rfl, Nat.le_of_ble_eq_true rfl⟩, Nat.le_of_ble_eq_true rfl, Nat.le_of_ble_eq_true rfl⟩ rfl (Nat.le_of_ble_eq_true rfl) (by decide +kernel) ?_
    refine g_kI (fun v11 G10 hp9 => ?_)
    obtain ⟨rfl, hp9⟩ := hp9
    rcases hp9 with ⟨rfl, i12, hi13, hn14⟩ | ⟨rfl, hn14⟩
    · refine g_if_ne (pc := 18) (off := 9) 27 C (by decide +kernel) (by decide) (fun _ => ?_) (fun c9 => absurd c9 (by decide))
      refine g_seg [(27, .aload_n 0, 1), (28, .iload_n 1, 1), (29, .iconst 0, 1)] 30 [(0, .ref m), (1, .int t1), (2, .int t2)] [.int 0, .int t1, .ref m] C (by decide +kernel) rfl ?_
      refine g_callV (pc := 30) C mV_X5_pe q755 (h2.1.1) rfl rfl (c_X5_pe l D cy h2 i6 0 (by omega) (by omega) t1 0 (hn8) (rfl)) rfl ⟨⟨Nat.le_of_ble_eq_true rfl, Nat.le_of_ble_eq_true rfl⟩, Nat.le_of_ble_eq_true rfl, Nat.le_of_ble_eq_true rfl⟩ rfl (Nat.le_of_ble_eq_true rfl) (by decide +kernel) ?_
      refine g_kI (fun v17 G16 hp15 => ?_)
      obtain ⟨rfl, rfl⟩ := hp15
      refine g_seg [(33, .iconst 1, 1)] 34 [(0, .ref m), (1, .int t1), (2, .int t2)] [.int 1, .int (F i6 0)] C (by decide +kernel) rfl ?_
      refine g_icmp_eq (pc := 34) (off := 5) 39 C (by decide +kernel) (by decide) (fun c18 => ?_) (fun c18 => ?_)
      · obtain ⟨g, hg, he⟩ := hwF i6 hi7 c18
        refine g_seg [(39, .aload_n 0, 1), (40, .aload_n 0, 1), (41, .iload_n 1, 1), (42, .iconst 1, 1)] 43 [(0, .ref m), (1, .int t1), (2, .int t2)] [.int 1, .int t1, .ref m, .ref m] C (by decide +kernel) rfl ?_
        refine g_callV (pc := 43) C mV_X5_pe q755 (h2.1.1) rfl rfl (c_X5_pe l D cy h2 i6 1 (by omega) (by omega) t1 1 (hn8) (rfl)) rfl ⟨⟨Nat.le_of_ble_eq_true rfl, Nat.le_of_ble_eq_true rfl⟩, Nat.le_of_ble_eq_true rfl, Nat.le_of_ble_eq_true rfl⟩ rfl (Nat.le_of_ble_eq_true rfl) (by decide +kernel) ?_
        refine g_kI (fun v21 G20 hp19 => ?_)
        obtain ⟨rfl, rfl⟩ := hp19
        refine g_seg [(46, .iconst 0, 1)] 47 [(0, .ref m), (1, .int t1), (2, .int t2)] [.int 0, .int (F i6 1), .ref m] C (by decide +kernel) rfl ?_
        refine g_callV (pc := 47) C mV_X5_placeOf q779 (h2.1.1) rfl rfl (c_X5_placeOf l D cy h2 g (by omega) (F i6 1) 0 (he) (hwok g (by omega))) rfl ⟨⟨Nat.le_of_ble_eq_true rfl, Nat.le_of_ble_eq_true rfl⟩, Nat.le_of_ble_eq_true rfl, Nat.le_of_ble_eq_true rfl⟩ rfl (Nat.le_of_ble_eq_true rfl) (by decide +kernel) ?_
        refine g_kI (fun v24 G23 hp22 => ?_)
        obtain ⟨rfl, rfl⟩ := hp22
        refine g_seg [(50, .istore_n 3, 1), (51, .iconst 1, 1), (52, .istore 4, 2)] 54 [(4, .int 1), (3, .int (s_at T g (b + 0))), (0, .ref m), (1, .int t1), (2, .int t2)] [] C (by decide +kernel) rfl ?_
        refine g_subp [2, 4, 1, 0] (lv' := [(0, .ref m), (2, .int t2), (3, .int (s_at T g (b + 0))), (4, .int 1)]) rfl ?_
        have lp25 : ∀ (n0 k : Nat) (xk : Int32), 6 + 1 ≤ k + n0 → k ≤ 6 → xk = nI (k + 1) → (∀ u, u < k → s_fl T i12 b (s_at T g (b + 0)) u = none) → PG κ 6 0 0 G23 [(0, .ref m), (2, .int t2), (3, .int (s_at T g (b + 0))), (4, .int xk)] 54 [] := by
          intro n0
          induction n0 with
          | zero => intro k xk h1 h2; intros; exact absurd h1 (by omega)
          | succ n0 ih =>
            intro k xk hm hk hx hs
            refine g_seg [(54, .iload 4, 2), (56, .bipush 6, 2)] 58 [(0, .ref m), (2, .int t2), (3, .int (s_at T g (b + 0))), (4, .int xk)] [.int 6, .int xk] C (by decide +kernel) rfl ?_
            refine g_icmp_gt (pc := 58) (off := 55) 113 C (by decide +kernel) (by decide) (fun c26 => ?_) (fun c26 => ?_)
            · have hk8 : k = 6 := by have := lp_gt hx (by omega) (n := 6) (by decide) c26; omega
              refine g_seg [(113, .iconst (-1), 1)] 114 [(0, .ref m), (2, .int t2), (3, .int (s_at T g (b + 0))), (4, .int xk)] [.int (-1)] C (by decide +kernel) rfl ?_
              exact g_iret (pc := 114) C R (⟨_, rfl, Or.inl ⟨i6, i12, hi7, hn8, hi13, hn14, Or.inr ⟨c18, g, hg, he, (fl_n (by rw [hk8] at hs; exact hs)).symm⟩, h2⟩⟩) (Nat.le_of_ble_eq_true rfl) (Nat.le_of_ble_eq_true rfl) (by decide +kernel)
            · have hk8 : k < 6 := by have := lp_ngt hx (by omega) (n := 6) (by decide) c26; omega
              refine g_seg [(61, .bipush (-20), 2), (63, .istore 5, 2)] 65 [(5, .int (-20)), (0, .ref m), (2, .int t2), (3, .int (s_at T g (b + 0))), (4, .int xk)] [] C (by decide +kernel) rfl ?_
              refine g_subp [1, 2, 3, 4, 0] (lv' := [(0, .ref m), (2, .int t2), (3, .int (s_at T g (b + 0))), (4, .int xk), (5, .int (-20))]) rfl ?_
              have lp27 : ∀ (m2 r : Nat) (xr : Int32), 41 + 1 ≤ r + m2 → r ≤ 41 → xr = nI r - 20 → (∀ u, u < r → s_near (s_at T g (b + 0) + (nI u - 20)) (s_at T i12 (b + nI (k + 1))) = false) → PG κ 6 0 0 G23 [(0, .ref m), (2, .int t2), (3, .int (s_at T g (b + 0))), (4, .int xk), (5, .int xr)] 65 [] := by
                intro m2
                induction m2 with
                | zero => intro r xr h1 h2; intros; exact absurd h1 (by omega)
                | succ m2 ih2 =>
                  intro r xr hm2 hr hxr hs2
                  refine g_seg [(65, .iload 5, 2), (67, .bipush 20, 2)] 69 [(0, .ref m), (2, .int t2), (3, .int (s_at T g (b + 0))), (4, .int xk), (5, .int xr)] [.int 20, .int xr] C (by decide +kernel) rfl ?_
                  refine g_icmp_gt (pc := 69) (off := 38) 107 C (by decide +kernel) (by decide) (fun c28 => ?_) (fun c28 => ?_)
                  · have hj8 : r = 41 := by have := sub_gt hxr (by omega) c28; omega
                    refine g_seg [(107, .iinc 4 1, 3), (110, .goto (-56), 3)] 54 [(4, .int (xk + 1)), (0, .ref m), (2, .int t2), (3, .int (s_at T g (b + 0))), (5, .int xr)] [] C (by decide +kernel) rfl ?_
                    refine g_subp [1, 2, 3, 0] (lv' := [(0, .ref m), (2, .int t2), (3, .int (s_at T g (b + 0))), (4, .int (xk + 1))]) rfl ?_
                    exact ih (k + 1) (xk + 1) (by omega) (by omega) (lp_s hx) (nonex hs (fl_0 (by rw [hj8] at hs2; exact hs2)))
                  · have hj8 : r < 41 := sub_ngt hxr (by omega) c28
                    refine g_seg [(72, .iload_n 3, 1), (73, .iload 5, 2), (75, .iadd, 1), (76, .aload_n 0, 1), (77, .iload_n 2, 1), (78, .iload 4, 2)] 80 [(0, .ref m), (2, .int t2), (3, .int (s_at T g (b + 0))), (4, .int xk), (5, .int xr)] [.int xk, .int t2, .ref m, .int ((s_at T g (b + 0)) + xr)] C (by decide +kernel) rfl ?_
                    refine g_callV (pc := 80) C mV_X5_placeOf q779 (h2.1.1) rfl rfl (c_X5_placeOf l D cy h2 i12 (by omega) t2 xk (hn14) (hwok i12 (by omega))) rfl ⟨⟨Nat.le_of_ble_eq_true rfl, Nat.le_of_ble_eq_true rfl⟩, Nat.le_of_ble_eq_true rfl, Nat.le_of_ble_eq_true rfl⟩ rfl (Nat.le_of_ble_eq_true rfl) (by decide +kernel) ?_
                    refine g_kI (fun v31 G30 hp29 => ?_)
                    obtain ⟨rfl, rfl⟩ := hp29
                    refine g_callS (pc := 83) C mS_X5_isNear q846 (c_X5_isNear l D cy G30 ((s_at T g (b + 0)) + xr) (s_at T i12 (b + xk))) rfl ⟨⟨Nat.le_of_ble_eq_true rfl, Nat.le_of_ble_eq_true rfl⟩, Nat.le_of_ble_eq_true rfl, Nat.le_of_ble_eq_true rfl⟩ rfl (Nat.le_of_ble_eq_true rfl) (by decide +kernel) ?_
                    refine g_kI (fun v34 G33 hp32 => ?_)
                    obtain ⟨rfl, hp32⟩ := hp32
                    rcases hp32 with ⟨rfl, h35⟩ | ⟨rfl, h35⟩
                    · refine g_if_eq (pc := 86) (off := 15) 101 C (by decide +kernel) (by decide) (fun c9 => absurd c9 (by decide)) (fun _ => ?_)
                      refine g_seg [(89, .bipush 100, 2), (91, .iload 4, 2), (93, .imul, 1), (94, .iload 5, 2), (96, .iadd, 1), (97, .bipush 20, 2), (99, .iadd, 1)] 100 [(0, .ref m), (2, .int t2), (3, .int (s_at T g (b + 0))), (4, .int xk), (5, .int xr)] [.int (((100 * xk) + xr) + 20)] C (by decide +kernel) rfl ?_
                      exact g_iret (pc := 100) C R (⟨_, rfl, Or.inl ⟨i6, i12, hi7, hn8, hi13, hn14, Or.inr ⟨c18, g, hg, he, by rw [fl_y hk8 hj8 (by rw [← hx, ← hxr]; exact h35) hs2 hs, ← hx, ← hxr]⟩, h2⟩⟩) (Nat.le_of_ble_eq_true rfl) (Nat.le_of_ble_eq_true rfl) (by decide +kernel)
                    · refine g_if_eq (pc := 86) (off := 15) 101 C (by decide +kernel) (by decide) (fun _ => ?_) (fun c9 => absurd (by decide) c9)
                      refine g_seg [(101, .iinc 5 1, 3), (104, .goto (-39), 3)] 65 [(5, .int (xr + 1)), (0, .ref m), (2, .int t2), (3, .int (s_at T g (b + 0))), (4, .int xk)] [] C (by decide +kernel) rfl ?_
                      refine g_subp [1, 2, 3, 4, 0] (lv' := [(0, .ref m), (2, .int t2), (3, .int (s_at T g (b + 0))), (4, .int xk), (5, .int (xr + 1))]) rfl ?_
                      exact ih2 (r + 1) (xr + 1) (by omega) (by omega) (sub_s hxr) (no_f2 hs2 (by rw [← hx, ← hxr]; exact h35))
              exact lp27 (41 + 1) 0 (-20) (by omega) (by omega) (sub_0) (fun u h1 => absurd h1 (by omega))
        exact lp25 (6 + 1) 0 1 (by omega) (by omega) (by decide) (fun u h1 => absurd h1 (by omega))
      · refine g_seg [(37, .iconst (-1), 1)] 38 [(0, .ref m), (1, .int t1), (2, .int t2)] [.int (-1)] C (by decide +kernel) rfl ?_
        exact g_iret (pc := 38) C R (⟨_, rfl, Or.inl ⟨i6, i12, hi7, hn8, hi13, hn14, Or.inl ⟨c18, rfl⟩, h2⟩⟩) (Nat.le_of_ble_eq_true rfl) (Nat.le_of_ble_eq_true rfl) (by decide +kernel)
    · refine g_if_ne (pc := 18) (off := 9) 27 C (by decide +kernel) (by decide) (fun c9 => absurd (by decide) c9) (fun _ => ?_)
      refine g_seg [(21, .aload_n 0, 1), (22, .iconst 1, 1)] 23 [(0, .ref m), (1, .int t1), (2, .int t2)] [.int 1, .ref m] C (by decide +kernel) rfl ?_
      refine g_callV (pc := 23) C mV_X5_fail q708 (h2.1.1) rfl rfl (c_X5_fail l D cy h2 1) rfl ⟨⟨Nat.le_of_ble_eq_true rfl, Nat.le_of_ble_eq_true rfl⟩, Nat.le_of_ble_eq_true rfl, Nat.le_of_ble_eq_true rfl⟩ rfl (Nat.le_of_ble_eq_true rfl) (by decide +kernel) ?_
      refine g_kI (fun v38 G36 hp37 => ?_)
      obtain ⟨rfl, h39⟩ := hp37
      exact g_iret (pc := 26) C R (⟨_, rfl, Or.inr (⟨Or.inr hn14, h39⟩)⟩) (Nat.le_of_ble_eq_true rfl) (Nat.le_of_ble_eq_true rfl) (by decide +kernel)
  · refine g_if_eq (pc := 10) (off := 11) 21 C (by decide +kernel) (by decide) (fun _ => ?_) (fun c9 => absurd (by decide) c9)
    refine g_seg [(21, .aload_n 0, 1), (22, .iconst 1, 1)] 23 [(0, .ref m), (1, .int t1), (2, .int t2)] [.int 1, .ref m] C (by decide +kernel) rfl ?_
    refine g_callV (pc := 23) C mV_X5_fail q708 (h2.1.1) rfl rfl (c_X5_fail l D cy h2 1) rfl ⟨⟨Nat.le_of_ble_eq_true rfl, Nat.le_of_ble_eq_true rfl⟩, Nat.le_of_ble_eq_true rfl, Nat.le_of_ble_eq_true rfl⟩ rfl (Nat.le_of_ble_eq_true rfl) (by decide +kernel) ?_
    refine g_kI (fun v42 G40 hp41 => ?_)
    obtain ⟨rfl, h43⟩ := hp41
    exact g_iret (pc := 26) C R (⟨_, rfl, Or.inr (⟨Or.inl hn8, h43⟩)⟩) (Nat.le_of_ble_eq_true rfl) (Nat.le_of_ble_eq_true rfl) (by decide +kernel)
set_option maxHeartbeats 4000000 in
set_option maxRecDepth 100000 in
theorem c_X5_advise (l : Launch) (D : va_G) (cy : Nat → ClassId) {G : GG} {m : Nat} {am : Nat → Nat} {th b : Int32} {nt nf nc nn : Nat} {T F Cu N : Rw} (h : RM cy m am th b nt nf nc nn T F Cu N G) (hwok : s_wok T nt) (t1 t2 : Int32) : Ctr l D cy yX5_advise prog_7_method_44_code 5 (some .int) kX5_advise [.ref m, .int t1, .int t2] G (pI (fun v G' => (∃ i j, i < nt ∧ t1 = nI i ∧ j < nt ∧ t2 = nI j ∧ ¬ t1 = t2 ∧ (((T i 5 = 0 ∨ T j 5 = 0) ∧ v = -1) ∨ (¬ T i 5 = 0 ∧ ¬ T j 5 = 0 ∧ v = s_advise T i j b)) ∧ RM cy m am 0 b nt nf nc nn T F Cu N G') ∨ (((∀ i, i < nt → t1 ≠ nI i) ∨ (∀ i, i < nt → t2 ≠ nI i)) ∧ RM cy m am 1 b nt nf nc nn T F Cu N G') ∨ ((∃ i, i < nt ∧ t1 = nI i) ∧ (∃ i, i < nt ∧ t2 = nI i) ∧ t1 = t2 ∧ RM cy m am 2 b nt nf nc nn T F Cu N G'))) := by
  refine Ctr.mk (by decide +kernel) (Nat.le_of_ble_eq_true rfl) ?_
  intro κ C R
  have hbd := h.2.2
  refine g_pc (pc' := 0) rfl ?_
  refine g_seg [(0, .aload_n 0, 1), (1, .iconst 0, 1)] 2 [(0, .ref m), (1, .int t1), (2, .int t2)] [.int 0, .ref m] C (by decide +kernel) rfl ?_
  refine g_putf (pc := 2) (k := 0) (v := .int 0) (ty := .int) C fl_X5_25 fp_X5_0 (h.1.1) (rfl) (by first | rfl | decide) (Nat.le_of_ble_eq_true rfl) (by decide +kernel) ?_
  refine g_abs (P := fun G9 => RM cy m am 0 b nt nf nc nn T F Cu N G9) (RM.obj h h.2.2) (fun G1 h2 => ?_)
  refine g_seg [(5, .aload_n 0, 1), (6, .iload_n 1, 1)] 7 [(0, .ref m), (1, .int t1), (2, .int t2)] [.int t1, .ref m] C (by decide +kernel) rfl ?_
  refine g_callV (pc := 7) C mV_X5_isTrapeze q719 (h2.1.1) rfl rfl (c_X5_isTrapeze l D cy h2 t1) rfl ⟨⟨Nat.le_of_ble_eq_true rfl, Nat.le_of_ble_eq_true rfl⟩, Nat.le_of_ble_eq_true rfl, Nat.le_of_ble_eq_true rfl⟩ rfl (Nat.le_of_ble_eq_true rfl) (by decide +kernel) ?_
  refine g_kI (fun v5 G4 hp3 => ?_)
  obtain ⟨rfl, hp3⟩ := hp3
  rcases hp3 with ⟨rfl, i6, hi7, hn8⟩ | ⟨rfl, hn8⟩
  · refine g_if_eq (pc := 10) (off := 11) 21 C (by decide +kernel) (by decide) (fun c9 => absurd c9 (by decide)) (fun _ => ?_)
    refine g_seg [(13, .aload_n 0, 1), (14, .iload_n 2, 1)] 15 [(0, .ref m), (1, .int t1), (2, .int t2)] [.int t2, .ref m] C (by decide +kernel) rfl ?_
    refine g_callV (pc := 15) C mV_X5_isTrapeze q719 (h2.1.1) rfl rfl (c_X5_isTrapeze l D cy h2 t2) rfl ⟨⟨Nat.le_of_ble_eq_true rfl, Nat.le_of_ble_eq_true rfl⟩, Nat.le_of_ble_eq_true rfl, Nat.le_of_ble_eq_true rfl⟩ rfl (Nat.le_of_ble_eq_true rfl) (by decide +kernel) ?_
    refine g_kI (fun v11 G10 hp9 => ?_)
    obtain ⟨rfl, hp9⟩ := hp9
    rcases hp9 with ⟨rfl, i12, hi13, hn14⟩ | ⟨rfl, hn14⟩
    · refine g_if_ne (pc := 18) (off := 9) 27 C (by decide +kernel) (by decide) (fun _ => ?_) (fun c9 => absurd c9 (by decide))
      refine g_seg [(27, .iload_n 1, 1), (28, .iload_n 2, 1)] 29 [(0, .ref m), (1, .int t1), (2, .int t2)] [.int t2, .int t1] C (by decide +kernel) rfl ?_
      refine g_icmp_ne (pc := 29) (off := 9) 38 C (by decide +kernel) (by decide) (fun c15 => ?_) (fun c15 => ?_)
      · refine g_seg [(38, .aload_n 0, 1), (39, .iload_n 1, 1), (40, .iconst 5, 1)] 41 [(0, .ref m), (1, .int t1), (2, .int t2)] [.int 5, .int t1, .ref m] C (by decide +kernel) rfl ?_
        refine g_callV (pc := 41) C mV_X5_ri q723 (h2.1.1) rfl rfl (c_X5_ri l D cy h2 i6 5 (by omega) (by omega) t1 5 (hn8) (rfl)) rfl ⟨⟨Nat.le_of_ble_eq_true rfl, Nat.le_of_ble_eq_true rfl⟩, Nat.le_of_ble_eq_true rfl, Nat.le_of_ble_eq_true rfl⟩ rfl (Nat.le_of_ble_eq_true rfl) (by decide +kernel) ?_
        refine g_kI (fun v18 G17 hp16 => ?_)
        obtain ⟨rfl, rfl⟩ := hp16
        refine g_if_eq (pc := 44) (off := 12) 56 C (by decide +kernel) (by decide) (fun c19 => ?_) (fun c19 => ?_)
        · refine g_seg [(56, .iconst (-1), 1)] 57 [(0, .ref m), (1, .int t1), (2, .int t2)] [.int (-1)] C (by decide +kernel) rfl ?_
          exact g_iret (pc := 57) C R (⟨_, rfl, Or.inl ⟨i6, i12, hi7, hn8, hi13, hn14, c15, Or.inl ⟨Or.inl c19, rfl⟩, h2⟩⟩) (Nat.le_of_ble_eq_true rfl) (Nat.le_of_ble_eq_true rfl) (by decide +kernel)
        · refine g_seg [(47, .aload_n 0, 1), (48, .iload_n 2, 1), (49, .iconst 5, 1)] 50 [(0, .ref m), (1, .int t1), (2, .int t2)] [.int 5, .int t2, .ref m] C (by decide +kernel) rfl ?_
          refine g_callV (pc := 50) C mV_X5_ri q723 (h2.1.1) rfl rfl (c_X5_ri l D cy h2 i12 5 (by omega) (by omega) t2 5 (hn14) (rfl)) rfl ⟨⟨Nat.le_of_ble_eq_true rfl, Nat.le_of_ble_eq_true rfl⟩, Nat.le_of_ble_eq_true rfl, Nat.le_of_ble_eq_true rfl⟩ rfl (Nat.le_of_ble_eq_true rfl) (by decide +kernel) ?_
          refine g_kI (fun v22 G21 hp20 => ?_)
          obtain ⟨rfl, rfl⟩ := hp20
          refine g_if_ne (pc := 53) (off := 5) 58 C (by decide +kernel) (by decide) (fun c23 => ?_) (fun c23 => ?_)
          · refine g_seg [(58, .iconst 0, 1), (59, .istore_n 3, 1)] 60 [(3, .int 0), (0, .ref m), (1, .int t1), (2, .int t2)] [] C (by decide +kernel) rfl ?_
            refine g_subp [1, 2, 3, 0] (lv' := [(0, .ref m), (1, .int t1), (2, .int t2), (3, .int 0)]) rfl ?_
            have lp24 : ∀ (n0 k : Nat) (xk : Int32), 201 + 1 ≤ k + n0 → k ≤ 201 → xk = nI k → (∀ u, u < k → s_ad T i6 i12 b u = none) → PG κ 5 0 0 G21 [(0, .ref m), (1, .int t1), (2, .int t2), (3, .int xk)] 60 [] := by
              intro n0
              induction n0 with
              | zero => intro k xk h1 h2; intros; exact absurd h1 (by omega)
              | succ n0 ih =>
                intro k xk hm hk hx hs
                refine g_seg [(60, .iload_n 3, 1), (61, .sipush 200, 3)] 64 [(0, .ref m), (1, .int t1), (2, .int t2), (3, .int xk)] [.int 200, .int xk] C (by decide +kernel) rfl ?_
                refine g_icmp_gt (pc := 64) (off := 58) 122 C (by decide +kernel) (by decide) (fun c25 => ?_) (fun c25 => ?_)
                · have hk8 : k = 201 := by have := lp_gt hx (by omega) (n := 200) (by decide) c25; omega
                  refine g_seg [(122, .iconst (-1), 1)] 123 [(0, .ref m), (1, .int t1), (2, .int t2), (3, .int xk)] [.int (-1)] C (by decide +kernel) rfl ?_
                  exact g_iret (pc := 123) C R (⟨_, rfl, Or.inl ⟨i6, i12, hi7, hn8, hi13, hn14, c15, Or.inr ⟨c19, c23, (ad_n (by rw [hk8] at hs; exact hs)).symm⟩, h2⟩⟩) (Nat.le_of_ble_eq_true rfl) (Nat.le_of_ble_eq_true rfl) (by decide +kernel)
                · have hk8 : k < 201 := by have := lp_ngt hx (by omega) (n := 200) (by decide) c25; omega
                  refine g_seg [(67, .iconst 0, 1), (68, .istore 4, 2)] 70 [(4, .int 0), (0, .ref m), (1, .int t1), (2, .int t2), (3, .int xk)] [] C (by decide +kernel) rfl ?_
                  refine g_subp [1, 2, 3, 4, 0] (lv' := [(0, .ref m), (1, .int t1), (2, .int t2), (3, .int xk), (4, .int 0)]) rfl ?_
                  have lp26 : ∀ (m2 q : Nat) (xw : Int32), 11 + 1 ≤ q + m2 → q ≤ 11 → xw = nI q → (∀ u, u < q → s_near (s_pl (T i6 0) (T i6 1) (nI u) (nI k)) (s_at T i12 (b + nI k)) = false) → PG κ 5 0 0 G21 [(0, .ref m), (1, .int t1), (2, .int t2), (3, .int xk), (4, .int xw)] 70 [] := by
                    intro m2
                    induction m2 with
                    | zero => intro q xw h1 h2; intros; exact absurd h1 (by omega)
                    | succ m2 ih2 =>
                      intro q xw hm2 hq hxw hs2
                      refine g_seg [(70, .iload 4, 2), (72, .bipush 10, 2)] 74 [(0, .ref m), (1, .int t1), (2, .int t2), (3, .int xk), (4, .int xw)] [.int 10, .int xw] C (by decide +kernel) rfl ?_
                      refine g_icmp_gt (pc := 74) (off := 42) 116 C (by decide +kernel) (by decide) (fun c27 => ?_) (fun c27 => ?_)
                      · have hj8 : q = 11 := by have := lp_gt hxw (by omega) (n := 10) (by decide) c27; omega
                        refine g_seg [(116, .iinc 3 1, 3), (119, .goto (-59), 3)] 60 [(3, .int (xk + 1)), (0, .ref m), (1, .int t1), (2, .int t2), (4, .int xw)] [] C (by decide +kernel) rfl ?_
                        refine g_subp [1, 2, 3, 0] (lv' := [(0, .ref m), (1, .int t1), (2, .int t2), (3, .int (xk + 1))]) rfl ?_
                        exact ih (k + 1) (xk + 1) (by omega) (by omega) (lp_s hx) (nonex hs (ad_0 (by rw [hj8] at hs2; exact hs2)))
                      · have hj8 : q < 11 := by have := lp_ngt hxw (by omega) (n := 10) (by decide) c27; omega
                        refine g_seg [(77, .aload_n 0, 1), (78, .iload_n 1, 1), (79, .iconst 0, 1)] 80 [(0, .ref m), (1, .int t1), (2, .int t2), (3, .int xk), (4, .int xw)] [.int 0, .int t1, .ref m] C (by decide +kernel) rfl ?_
                        refine g_callV (pc := 80) C mV_X5_ri q723 (h2.1.1) rfl rfl (c_X5_ri l D cy h2 i6 0 (by omega) (by omega) t1 0 (hn8) (rfl)) rfl ⟨⟨Nat.le_of_ble_eq_true rfl, Nat.le_of_ble_eq_true rfl⟩, Nat.le_of_ble_eq_true rfl, Nat.le_of_ble_eq_true rfl⟩ rfl (Nat.le_of_ble_eq_true rfl) (by decide +kernel) ?_
                        refine g_kI (fun v30 G29 hp28 => ?_)
                        obtain ⟨rfl, rfl⟩ := hp28
                        refine g_seg [(83, .aload_n 0, 1), (84, .iload_n 1, 1), (85, .iconst 1, 1)] 86 [(0, .ref m), (1, .int t1), (2, .int t2), (3, .int xk), (4, .int xw)] [.int 1, .int t1, .ref m, .int (T i6 0)] C (by decide +kernel) rfl ?_
                        refine g_callV (pc := 86) C mV_X5_ri q723 (h2.1.1) rfl rfl (c_X5_ri l D cy h2 i6 1 (by omega) (by omega) t1 1 (hn8) (rfl)) rfl ⟨⟨Nat.le_of_ble_eq_true rfl, Nat.le_of_ble_eq_true rfl⟩, Nat.le_of_ble_eq_true rfl, Nat.le_of_ble_eq_true rfl⟩ rfl (Nat.le_of_ble_eq_true rfl) (by decide +kernel) ?_
                        refine g_kI (fun v33 G32 hp31 => ?_)
                        obtain ⟨rfl, rfl⟩ := hp31
                        refine g_seg [(89, .iload 4, 2), (91, .iload_n 3, 1)] 92 [(0, .ref m), (1, .int t1), (2, .int t2), (3, .int xk), (4, .int xw)] [.int xk, .int xw, .int (T i6 1), .int (T i6 0)] C (by decide +kernel) rfl ?_
                        refine g_callS (pc := 92) C mS_X5_swung q783 (c_X5_swung l D cy G32 (T i6 0) (T i6 1) xw xk (⟨q, by omega, hxw⟩)) rfl ⟨⟨Nat.le_of_ble_eq_true rfl, Nat.le_of_ble_eq_true rfl⟩, Nat.le_of_ble_eq_true rfl, Nat.le_of_ble_eq_true rfl⟩ rfl (Nat.le_of_ble_eq_true rfl) (by decide +kernel) ?_
                        refine g_kI (fun v36 G35 hp34 => ?_)
                        obtain ⟨rfl, rfl⟩ := hp34
                        refine g_seg [(95, .aload_n 0, 1), (96, .iload_n 2, 1), (97, .iload_n 3, 1)] 98 [(0, .ref m), (1, .int t1), (2, .int t2), (3, .int xk), (4, .int xw)] [.int xk, .int t2, .ref m, .int (s_pl (T i6 0) (T i6 1) xw xk)] C (by decide +kernel) rfl ?_
                        refine g_callV (pc := 98) C mV_X5_placeOf q779 (h2.1.1) rfl rfl (c_X5_placeOf l D cy h2 i12 (by omega) t2 xk (hn14) (hwok i12 (by omega))) rfl ⟨⟨Nat.le_of_ble_eq_true rfl, Nat.le_of_ble_eq_true rfl⟩, Nat.le_of_ble_eq_true rfl, Nat.le_of_ble_eq_true rfl⟩ rfl (Nat.le_of_ble_eq_true rfl) (by decide +kernel) ?_
                        refine g_kI (fun v39 G38 hp37 => ?_)
                        obtain ⟨rfl, rfl⟩ := hp37
                        refine g_callS (pc := 101) C mS_X5_isNear q846 (c_X5_isNear l D cy G38 (s_pl (T i6 0) (T i6 1) xw xk) (s_at T i12 (b + xk))) rfl ⟨⟨Nat.le_of_ble_eq_true rfl, Nat.le_of_ble_eq_true rfl⟩, Nat.le_of_ble_eq_true rfl, Nat.le_of_ble_eq_true rfl⟩ rfl (Nat.le_of_ble_eq_true rfl) (by decide +kernel) ?_
                        refine g_kI (fun v42 G41 hp40 => ?_)
                        obtain ⟨rfl, hp40⟩ := hp40
                        rcases hp40 with ⟨rfl, h43⟩ | ⟨rfl, h43⟩
                        · refine g_if_eq (pc := 104) (off := 6) 110 C (by decide +kernel) (by decide) (fun c9 => absurd c9 (by decide)) (fun _ => ?_)
                          refine g_seg [(107, .iload 4, 2)] 109 [(0, .ref m), (1, .int t1), (2, .int t2), (3, .int xk), (4, .int xw)] [.int xw] C (by decide +kernel) rfl ?_
                          exact g_iret (pc := 109) C R (⟨_, rfl, Or.inl ⟨i6, i12, hi7, hn8, hi13, hn14, c15, Or.inr ⟨c19, c23, hxw.trans (ad_y hk8 hj8 (by rw [← hx, ← hxw]; exact h43) hs2 hs).symm⟩, h2⟩⟩) (Nat.le_of_ble_eq_true rfl) (Nat.le_of_ble_eq_true rfl) (by decide +kernel)
                        · refine g_if_eq (pc := 104) (off := 6) 110 C (by decide +kernel) (by decide) (fun _ => ?_) (fun c9 => absurd (by decide) c9)
                          refine g_seg [(110, .iinc 4 1, 3), (113, .goto (-43), 3)] 70 [(4, .int (xw + 1)), (0, .ref m), (1, .int t1), (2, .int t2), (3, .int xk)] [] C (by decide +kernel) rfl ?_
                          refine g_subp [1, 2, 3, 4, 0] (lv' := [(0, .ref m), (1, .int t1), (2, .int t2), (3, .int xk), (4, .int (xw + 1))]) rfl ?_
                          exact ih2 (q + 1) (xw + 1) (by omega) (by omega) (lp_s hxw) (no_f2 hs2 (by rw [← hx, ← hxw]; exact h43))
                  exact lp26 (11 + 1) 0 0 (by omega) (by omega) (nI_0.symm) (fun u h1 => absurd h1 (by omega))
            exact lp24 (201 + 1) 0 0 (by omega) (by omega) (nI_0.symm) (fun u h1 => absurd h1 (by omega))
          · refine g_seg [(56, .iconst (-1), 1)] 57 [(0, .ref m), (1, .int t1), (2, .int t2)] [.int (-1)] C (by decide +kernel) rfl ?_
            exact g_iret (pc := 57) C R (⟨_, rfl, Or.inl ⟨i6, i12, hi7, hn8, hi13, hn14, c15, Or.inl ⟨Or.inr c23, rfl⟩, h2⟩⟩) (Nat.le_of_ble_eq_true rfl) (Nat.le_of_ble_eq_true rfl) (by decide +kernel)
      · refine g_seg [(32, .aload_n 0, 1), (33, .iconst 2, 1)] 34 [(0, .ref m), (1, .int t1), (2, .int t2)] [.int 2, .ref m] C (by decide +kernel) rfl ?_
        refine g_callV (pc := 34) C mV_X5_fail q708 (h2.1.1) rfl rfl (c_X5_fail l D cy h2 2) rfl ⟨⟨Nat.le_of_ble_eq_true rfl, Nat.le_of_ble_eq_true rfl⟩, Nat.le_of_ble_eq_true rfl, Nat.le_of_ble_eq_true rfl⟩ rfl (Nat.le_of_ble_eq_true rfl) (by decide +kernel) ?_
        refine g_kI (fun v46 G44 hp45 => ?_)
        obtain ⟨rfl, h47⟩ := hp45
        exact g_iret (pc := 37) C R (⟨_, rfl, Or.inr (Or.inr (⟨⟨i6, hi7, hn8⟩, ⟨i12, hi13, hn14⟩, c15, h47⟩))⟩) (Nat.le_of_ble_eq_true rfl) (Nat.le_of_ble_eq_true rfl) (by decide +kernel)
    · refine g_if_ne (pc := 18) (off := 9) 27 C (by decide +kernel) (by decide) (fun c9 => absurd (by decide) c9) (fun _ => ?_)
      refine g_seg [(21, .aload_n 0, 1), (22, .iconst 1, 1)] 23 [(0, .ref m), (1, .int t1), (2, .int t2)] [.int 1, .ref m] C (by decide +kernel) rfl ?_
      refine g_callV (pc := 23) C mV_X5_fail q708 (h2.1.1) rfl rfl (c_X5_fail l D cy h2 1) rfl ⟨⟨Nat.le_of_ble_eq_true rfl, Nat.le_of_ble_eq_true rfl⟩, Nat.le_of_ble_eq_true rfl, Nat.le_of_ble_eq_true rfl⟩ rfl (Nat.le_of_ble_eq_true rfl) (by decide +kernel) ?_
      refine g_kI (fun v50 G48 hp49 => ?_)
      obtain ⟨rfl, h51⟩ := hp49
      exact g_iret (pc := 26) C R (⟨_, rfl, Or.inr (Or.inl ⟨Or.inr hn14, h51⟩)⟩) (Nat.le_of_ble_eq_true rfl) (Nat.le_of_ble_eq_true rfl) (by decide +kernel)
  · refine g_if_eq (pc := 10) (off := 11) 21 C (by decide +kernel) (by decide) (fun _ => ?_) (fun c9 => absurd (by decide) c9)
    refine g_seg [(21, .aload_n 0, 1), (22, .iconst 1, 1)] 23 [(0, .ref m), (1, .int t1), (2, .int t2)] [.int 1, .ref m] C (by decide +kernel) rfl ?_
    refine g_callV (pc := 23) C mV_X5_fail q708 (h2.1.1) rfl rfl (c_X5_fail l D cy h2 1) rfl ⟨⟨Nat.le_of_ble_eq_true rfl, Nat.le_of_ble_eq_true rfl⟩, Nat.le_of_ble_eq_true rfl, Nat.le_of_ble_eq_true rfl⟩ rfl (Nat.le_of_ble_eq_true rfl) (by decide +kernel) ?_
    refine g_kI (fun v54 G52 hp53 => ?_)
    obtain ⟨rfl, h55⟩ := hp53
    exact g_iret (pc := 26) C R (⟨_, rfl, Or.inr (Or.inl ⟨Or.inl hn8, h55⟩)⟩) (Nat.le_of_ble_eq_true rfl) (Nat.le_of_ble_eq_true rfl) (by decide +kernel)
set_option maxHeartbeats 4000000 in
set_option maxRecDepth 100000 in
theorem c_X5_mean (l : Launch) (D : va_G) (cy : Nat → ClassId) {G : GG} {m : Nat} {am : Nat → Nat} {th b : Int32} {nt nf nc nn : Nat} {T F Cu N : Rw} (h : RM cy m am th b nt nf nc nn T F Cu N G) : Ctr l D cy yX5_mean prog_7_method_48_code 1 (some .double) kX5_mean [.ref m] G (pD (fun v G' => v = s_mean F nf ∧ RM cy m am 0 b nt nf nc nn T F Cu N G')) := by
  refine Ctr.mk (by decide +kernel) (Nat.le_of_ble_eq_true rfl) ?_
  intro κ C R
  have hbd := h.2.2
  refine g_pc (pc' := 0) rfl ?_
  refine g_seg [(0, .aload_n 0, 1), (1, .iconst 0, 1)] 2 [(0, .ref m)] [.int 0, .ref m] C (by decide +kernel) rfl ?_
  refine g_putf (pc := 2) (k := 0) (v := .int 0) (ty := .int) C fl_X5_25 fp_X5_0 (h.1.1) (rfl) (by first | rfl | decide) (Nat.le_of_ble_eq_true rfl) (by decide +kernel) ?_
  refine g_abs (P := fun G9 => RM cy m am 0 b nt nf nc nn T F Cu N G9) (RM.obj h h.2.2) (fun G1 h2 => ?_)
  refine g_seg [(5, .aload_n 0, 1)] 6 [(0, .ref m)] [.ref m] C (by decide +kernel) rfl ?_
  refine g_getf (pc := 6) (k := 2) (v := .int (nI nf)) C fl_X5_36 (h2.1.1) rfl (by decide +kernel) ?_
  refine g_if_ne (pc := 9) (off := 7) 16 C (by decide +kernel) (by decide) (fun c3 => ?_) (fun c3 => ?_)
  · refine g_seg [(16, .aload_n 0, 1)] 17 [(0, .ref m)] [.ref m] C (by decide +kernel) rfl ?_
    refine g_callV (pc := 17) C mV_X5_caught q826 (h2.1.1) rfl rfl (c_X5_caught l D cy h2) rfl ⟨⟨Nat.le_of_ble_eq_true rfl, Nat.le_of_ble_eq_true rfl⟩, Nat.le_of_ble_eq_true rfl, Nat.le_of_ble_eq_true rfl⟩ rfl (Nat.le_of_ble_eq_true rfl) (by decide +kernel) ?_
    refine g_kI (fun v6 G5 hp4 => ?_)
    obtain ⟨rfl, rfl⟩ := hp4
    refine g_seg [(20, .i2d, 1), (21, .aload_n 0, 1)] 22 [(0, .ref m)] [.ref m, .double (FP.i2d (s_caught F nf))] C (by decide +kernel) rfl ?_
    refine g_getf (pc := 22) (k := 2) (v := .int (nI nf)) C fl_X5_36 (h2.1.1) rfl (by decide +kernel) ?_
    refine g_seg [(25, .i2d, 1)] 26 [(0, .ref m)] [.double (FP.i2d (nI nf)), .double (FP.i2d (s_caught F nf))] C (by decide +kernel) rfl ?_
    refine g_ddiv (pc := 26) C (by decide +kernel) (dn_ok c3) ?_
    exact g_dret (pc := 27) C R (⟨_, rfl, mean_1M (by omega) c3, h2⟩) (Nat.le_of_ble_eq_true rfl) (Nat.le_of_ble_eq_true rfl) (by decide +kernel)
  · refine g_seg [(12, .dconst 0, 1), (13, .goto 14, 3)] 27 [(0, .ref m)] [.double FP.dconst0] C (by decide +kernel) rfl ?_
    exact g_dret (pc := 27) C R (⟨_, rfl, mean_0M (by omega) c3, h2⟩) (Nat.le_of_ble_eq_true rfl) (Nat.le_of_ble_eq_true rfl) (by decide +kernel)
set_option maxHeartbeats 4000000 in
set_option maxRecDepth 100000 in
theorem c_X5_digest (l : Launch) (D : va_G) (cy : Nat → ClassId) {G : GG} {m : Nat} {am : Nat → Nat} {th b : Int32} {nt nf nc nn : Nat} {T F Cu N : Rw} (h : RM cy m am th b nt nf nc nn T F Cu N G) (hwok : s_wok T nt) : Ctr l D cy yX5_digest prog_7_method_49_code 5 (some .long) kX5_digest [.ref m] G (pL (fun v G' => v = m_digest b nt nf nc nn T F Cu N ∧ RM cy m am 0 b nt nf nc nn T F Cu N G')) := by
  refine Ctr.mk (by decide +kernel) (Nat.le_of_ble_eq_true rfl) ?_
  intro κ C R
  have hbd := h.2.2
  refine g_pc (pc' := 0) rfl ?_
  refine g_seg [(0, .aload_n 0, 1), (1, .iconst 0, 1)] 2 [(0, .ref m)] [.int 0, .ref m] C (by decide +kernel) rfl ?_
  refine g_putf (pc := 2) (k := 0) (v := .int 0) (ty := .int) C fl_X5_25 fp_X5_0 (h.1.1) (rfl) (by first | rfl | decide) (Nat.le_of_ble_eq_true rfl) (by decide +kernel) ?_
  refine g_abs (P := fun G9 => RM cy m am 0 b nt nf nc nn T F Cu N G9) (RM.obj h h.2.2) (fun G1 h2 => ?_)
  refine g_ldc2 (pc := 5) (v := 1061) C q900 (by decide +kernel) ?_
  refine g_seg [(8, .lstore_n 1, 1), (9, .iconst 0, 1), (10, .istore_n 3, 1)] 11 [(3, .int 0), (1, .long 1061), (0, .ref m)] [] C (by decide +kernel) rfl ?_
  refine g_subp [2, 1, 0] (lv' := [(0, .ref m), (1, .long 1061), (3, .int 0)]) rfl ?_
  have lp3 : ∀ (n0 k : Nat) (dd : Int64) (xk : Int32), 9 + 1 ≤ k + n0 → k ≤ 9 → xk = nI k → dd = s_dig (fun w => m_count b nt nf nc T F Cu (nI w)) 1061 k → PG κ 5 0 0 G1 [(0, .ref m), (1, .long dd), (3, .int xk)] 11 [] := by
    intro n0
    induction n0 with
    | zero => intro k dd xk h1 h2; intros; exact absurd h1 (by omega)
    | succ n0 ih =>
      intro k dd xk hm hk hx hs
      refine g_seg [(11, .iload_n 3, 1), (12, .bipush 9, 2)] 14 [(0, .ref m), (1, .long dd), (3, .int xk)] [.int 9, .int xk] C (by decide +kernel) rfl ?_
      refine g_icmp_ge (pc := 14) (off := 22) 36 C (by decide +kernel) (by decide) (fun c4 => ?_) (fun c4 => ?_)
      · have hk8 : k = 9 := by have := lp_ge hx (by omega) (n := 9) (by omega) c4; omega
        rw [hk8] at hs
        refine g_seg [(36, .iconst 0, 1), (37, .istore_n 3, 1)] 38 [(3, .int 0), (0, .ref m), (1, .long dd)] [] C (by decide +kernel) rfl ?_
        refine g_subp [1, 2, 0] (lv' := [(0, .ref m), (1, .long dd), (3, .int 0)]) rfl ?_
        have lp5 : ∀ (mk2 k2 : Nat) (d2 : Int64) (x2 : Int32), nt + 1 ≤ k2 + mk2 → k2 ≤ nt → x2 = nI k2 → d2 = its (fun t d => s_dig (fun w => m_told T F nf b t w) d 8) dd k2 → PG κ 5 0 0 G1 [(0, .ref m), (1, .long d2), (3, .int x2)] 38 [] := by
          intro mk2
          induction mk2 with
          | zero => intro k2 d2 x2 h1 h2; intros; exact absurd h1 (by omega)
          | succ mk2 ihk2 =>
            intro k2 d2 x2 hmk2 h9k2 hx2 hs2
            refine g_seg [(38, .iload_n 3, 1), (39, .aload_n 0, 1)] 40 [(0, .ref m), (1, .long d2), (3, .int x2)] [.ref m, .int x2] C (by decide +kernel) rfl ?_
            refine g_getf (pc := 40) (k := 1) (v := .int (nI nt)) C fl_X5_29 (h2.1.1) rfl (by decide +kernel) ?_
            refine g_icmp_ge (pc := 43) (off := 40) 83 C (by decide +kernel) (by decide) (fun c6 => ?_) (fun c6 => ?_)
            · have hk2 : k2 = nt := by have := lp_ge hx2 (by omega) (n := nt) (by omega) c6; omega
              rw [hk2] at hs2
              refine g_seg [(83, .iconst 0, 1), (84, .istore_n 3, 1)] 85 [(3, .int 0), (0, .ref m), (1, .long d2)] [] C (by decide +kernel) rfl ?_
              refine g_subp [1, 2, 0] (lv' := [(0, .ref m), (1, .long d2), (3, .int 0)]) rfl ?_
              have lp7 : ∀ (mk3 k3 : Nat) (d3 : Int64) (x3 : Int32), nf + 1 ≤ k3 + mk3 → k3 ≤ nf → x3 = nI k3 → d3 = its (fun t d => s_dig (fun w => m_toldF F b t w) d 5) d2 k3 → PG κ 5 0 0 G1 [(0, .ref m), (1, .long d3), (3, .int x3)] 85 [] := by
                intro mk3
                induction mk3 with
                | zero => intro k3 d3 x3 h1 h2; intros; exact absurd h1 (by omega)
                | succ mk3 ihk3 =>
                  intro k3 d3 x3 hmk3 h9k3 hx3 hs3
                  refine g_seg [(85, .iload_n 3, 1), (86, .aload_n 0, 1)] 87 [(0, .ref m), (1, .long d3), (3, .int x3)] [.ref m, .int x3] C (by decide +kernel) rfl ?_
                  refine g_getf (pc := 87) (k := 2) (v := .int (nI nf)) C fl_X5_36 (h2.1.1) rfl (by decide +kernel) ?_
                  refine g_icmp_ge (pc := 90) (off := 39) 129 C (by decide +kernel) (by decide) (fun c8 => ?_) (fun c8 => ?_)
                  · have hk3 : k3 = nf := by have := lp_ge hx3 (by omega) (n := nf) (by omega) c8; omega
                    rw [hk3] at hs3
                    refine g_seg [(129, .iconst 0, 1), (130, .istore_n 3, 1)] 131 [(3, .int 0), (0, .ref m), (1, .long d3)] [] C (by decide +kernel) rfl ?_
                    refine g_subp [1, 2, 0] (lv' := [(0, .ref m), (1, .long d3), (3, .int 0)]) rfl ?_
                    have lp9 : ∀ (mk4 k4 : Nat) (d4 : Int64) (x4 : Int32), (5 * nc) + 1 ≤ k4 + mk4 → k4 ≤ (5 * nc) → x4 = nI k4 → d4 = s_dig (fA 5 Cu) d3 k4 → PG κ 5 0 0 G1 [(0, .ref m), (1, .long d4), (3, .int x4)] 131 [] := by
                      intro mk4
                      induction mk4 with
                      | zero => intro k4 d4 x4 h1 h2; intros; exact absurd h1 (by omega)
                      | succ mk4 ihk4 =>
                        intro k4 d4 x4 hmk4 h9k4 hx4 hs4
                        refine g_seg [(131, .iload_n 3, 1), (132, .iconst 5, 1), (133, .aload_n 0, 1)] 134 [(0, .ref m), (1, .long d4), (3, .int x4)] [.ref m, .int 5, .int x4] C (by decide +kernel) rfl ?_
                        refine g_getf (pc := 134) (k := 3) (v := .int (nI nc)) C fl_X5_80 (h2.1.1) rfl (by decide +kernel) ?_
                        refine g_seg [(137, .imul, 1)] 138 [(0, .ref m), (1, .long d4), (3, .int x4)] [.int (5 * (nI nc)), .int x4] C (by decide +kernel) rfl ?_
                        refine g_icmp_ge (pc := 138) (off := 23) 161 C (by decide +kernel) (by decide) (fun c10 => ?_) (fun c10 => ?_)
                        · rw [show (5 : Int32) * nI nc = nI (5 * nc) from pk_mul 5 nc] at c10
                          have hk4 : k4 = (5 * nc) := by have := lp_ge hx4 (by omega) (n := (5 * nc)) (by omega) c10; omega
                          rw [hk4] at hs4
                          refine g_seg [(161, .iconst 0, 1), (162, .istore_n 3, 1)] 163 [(3, .int 0), (0, .ref m), (1, .long d4)] [] C (by decide +kernel) rfl ?_
                          refine g_subp [1, 2, 0] (lv' := [(0, .ref m), (1, .long d4), (3, .int 0)]) rfl ?_
                          have lp11 : ∀ (mk5 k5 : Nat) (d5 : Int64) (x5 : Int32), (2 * nn) + 1 ≤ k5 + mk5 → k5 ≤ (2 * nn) → x5 = nI k5 → d5 = s_dig (fA 2 N) d4 k5 → PG κ 5 0 0 G1 [(0, .ref m), (1, .long d5), (3, .int x5)] 163 [] := by
                            intro mk5
                            induction mk5 with
                            | zero => intro k5 d5 x5 h1 h2; intros; exact absurd h1 (by omega)
                            | succ mk5 ihk5 =>
                              intro k5 d5 x5 hmk5 h9k5 hx5 hs5
                              refine g_seg [(163, .iload_n 3, 1), (164, .iconst 2, 1), (165, .aload_n 0, 1)] 166 [(0, .ref m), (1, .long d5), (3, .int x5)] [.ref m, .int 2, .int x5] C (by decide +kernel) rfl ?_
                              refine g_getf (pc := 166) (k := 4) (v := .int (nI nn)) C fl_X5_61 (h2.1.1) rfl (by decide +kernel) ?_
                              refine g_seg [(169, .imul, 1)] 170 [(0, .ref m), (1, .long d5), (3, .int x5)] [.int (2 * (nI nn)), .int x5] C (by decide +kernel) rfl ?_
                              refine g_icmp_ge (pc := 170) (off := 23) 193 C (by decide +kernel) (by decide) (fun c12 => ?_) (fun c12 => ?_)
                              · rw [show (2 : Int32) * nI nn = nI (2 * nn) from pk_mul 2 nn] at c12
                                have hk5 : k5 = (2 * nn) := by have := lp_ge hx5 (by omega) (n := (2 * nn)) (by omega) c12; omega
                                rw [hk5] at hs5
                                refine g_seg [(193, .lload_n 1, 1)] 194 [(0, .ref m), (1, .long d5), (3, .int x5)] [.long d5] C (by decide +kernel) rfl ?_
                                exact g_lret (pc := 194) C R (⟨_, rfl, by rw [hs5, hs4, hs3, hs2, hs]; rfl, h2⟩) (Nat.le_of_ble_eq_true rfl) (Nat.le_of_ble_eq_true rfl) (by decide +kernel)
                              · rw [show (2 : Int32) * nI nn = nI (2 * nn) from pk_mul 2 nn] at c12
                                have hk5 : k5 < (2 * nn) := lp_lt hx5 (by omega) (n := (2 * nn)) (by omega) c12
                                refine g_seg [(173, .lload_n 1, 1)] 174 [(0, .ref m), (1, .long d5), (3, .int x5)] [.long d5] C (by decide +kernel) rfl ?_
                                refine g_ldc2 (pc := 174) (v := 31) C q901 (by decide +kernel) ?_
                                refine g_seg [(177, .lmul, 1), (178, .aload_n 0, 1)] 179 [(0, .ref m), (1, .long d5), (3, .int x5)] [.ref m, .long (d5 * 31)] C (by decide +kernel) rfl ?_
                                refine g_getf (pc := 179) (k := 8) (v := .ref (am 3)) C fl_X5_19 (h2.1.1) rfl (by decide +kernel) ?_
                                refine g_seg [(182, .iload_n 3, 1)] 183 [(0, .ref m), (1, .long d5), (3, .int x5)] [.int x5, .ref (am 3), .long (d5 * 31)] C (by decide +kernel) rfl ?_
                                refine g_ialdM (pc := 183) (n := 6) k5 (fA 2 N k5) C (h2.1.2.2.2.2.1) (hx5) (by omega) (by decide) rfl (by decide +kernel) ?_
                                refine g_seg [(184, .i2l, 1), (185, .ladd, 1), (186, .lstore_n 1, 1), (187, .iinc 3 1, 3), (190, .goto (-27), 3)] 163 [(3, .int (x5 + 1)), (1, .long ((d5 * 31) + (fA 2 N k5).toInt64)), (0, .ref m)] [] C (by decide +kernel) rfl ?_
                                refine g_subp [2, 1, 0] (lv' := [(0, .ref m), (1, .long ((d5 * 31) + (fA 2 N k5).toInt64)), (3, .int (x5 + 1))]) rfl ?_
                                exact ihk5 (k5 + 1) ((d5 * 31) + (fA 2 N k5).toInt64) (x5 + 1) (by omega) (by omega) (lp_s hx5) (by rw [hs5]; rfl)
                          exact lp11 ((2 * nn) + 1) 0 d4 0 (by omega) (by omega) (nI_0.symm) (rfl)
                        · rw [show (5 : Int32) * nI nc = nI (5 * nc) from pk_mul 5 nc] at c10
                          have hk4 : k4 < (5 * nc) := lp_lt hx4 (by omega) (n := (5 * nc)) (by omega) c10
                          refine g_seg [(141, .lload_n 1, 1)] 142 [(0, .ref m), (1, .long d4), (3, .int x4)] [.long d4] C (by decide +kernel) rfl ?_
                          refine g_ldc2 (pc := 142) (v := 31) C q901 (by decide +kernel) ?_
                          refine g_seg [(145, .lmul, 1), (146, .aload_n 0, 1)] 147 [(0, .ref m), (1, .long d4), (3, .int x4)] [.ref m, .long (d4 * 31)] C (by decide +kernel) rfl ?_
                          refine g_getf (pc := 147) (k := 7) (v := .ref (am 2)) C fl_X5_16 (h2.1.1) rfl (by decide +kernel) ?_
                          refine g_seg [(150, .iload_n 3, 1)] 151 [(0, .ref m), (1, .long d4), (3, .int x4)] [.int x4, .ref (am 2), .long (d4 * 31)] C (by decide +kernel) rfl ?_
                          refine g_ialdM (pc := 151) (n := 100) k4 (fA 5 Cu k4) C (h2.1.2.2.2.1) (hx4) (by omega) (by decide) rfl (by decide +kernel) ?_
                          refine g_seg [(152, .i2l, 1), (153, .ladd, 1), (154, .lstore_n 1, 1), (155, .iinc 3 1, 3), (158, .goto (-27), 3)] 131 [(3, .int (x4 + 1)), (1, .long ((d4 * 31) + (fA 5 Cu k4).toInt64)), (0, .ref m)] [] C (by decide +kernel) rfl ?_
                          refine g_subp [2, 1, 0] (lv' := [(0, .ref m), (1, .long ((d4 * 31) + (fA 5 Cu k4).toInt64)), (3, .int (x4 + 1))]) rfl ?_
                          exact ihk4 (k4 + 1) ((d4 * 31) + (fA 5 Cu k4).toInt64) (x4 + 1) (by omega) (by omega) (lp_s hx4) (by rw [hs4]; rfl)
                    exact lp9 ((5 * nc) + 1) 0 d3 0 (by omega) (by omega) (nI_0.symm) (rfl)
                  · have hk3 : k3 < nf := lp_lt hx3 (by omega) (n := nf) (by omega) c8
                    refine g_seg [(93, .iconst 0, 1), (94, .istore 4, 2)] 96 [(4, .int 0), (0, .ref m), (1, .long d3), (3, .int x3)] [] C (by decide +kernel) rfl ?_
                    refine g_subp [1, 2, 3, 0] (lv' := [(0, .ref m), (1, .long d3), (3, .int x3), (4, .int 0)]) rfl ?_
                    have lp13 : ∀ (mj3 j3 : Nat) (e3 : Int64) (y3 : Int32), 5 + 1 ≤ j3 + mj3 → j3 ≤ 5 → y3 = nI j3 → e3 = s_dig (fun w => m_toldF F b k3 w) d3 j3 → PG κ 5 0 0 G1 [(0, .ref m), (1, .long e3), (3, .int x3), (4, .int y3)] 96 [] := by
                      intro mj3
                      induction mj3 with
                      | zero => intro j3 e3 y3 h1 h2; intros; exact absurd h1 (by omega)
                      | succ mj3 ihj3 =>
                        intro j3 e3 y3 hmj3 h9j3 hy3 ht3
                        refine g_seg [(96, .iload 4, 2), (98, .iconst 5, 1)] 99 [(0, .ref m), (1, .long e3), (3, .int x3), (4, .int y3)] [.int 5, .int y3] C (by decide +kernel) rfl ?_
                        refine g_icmp_ge (pc := 99) (off := 24) 123 C (by decide +kernel) (by decide) (fun c14 => ?_) (fun c14 => ?_)
                        · have hj3 : j3 = 5 := by have := lp_ge hy3 (by omega) (n := 5) (by omega) c14; omega
                          rw [hj3] at ht3
                          refine g_seg [(123, .iinc 3 1, 3), (126, .goto (-41), 3)] 85 [(3, .int (x3 + 1)), (0, .ref m), (1, .long e3), (4, .int y3)] [] C (by decide +kernel) rfl ?_
                          refine g_subp [1, 2, 0] (lv' := [(0, .ref m), (1, .long e3), (3, .int (x3 + 1))]) rfl ?_
                          exact ihk3 (k3 + 1) e3 (x3 + 1) (by omega) (by omega) (lp_s hx3) (by rw [its, ← hs3]; exact ht3)
                        · have hj3 : j3 < 5 := lp_lt hy3 (by omega) (n := 5) (by omega) c14
                          refine g_seg [(102, .lload_n 1, 1)] 103 [(0, .ref m), (1, .long e3), (3, .int x3), (4, .int y3)] [.long e3] C (by decide +kernel) rfl ?_
                          refine g_ldc2 (pc := 103) (v := 31) C q901 (by decide +kernel) ?_
                          refine g_seg [(106, .lmul, 1), (107, .aload_n 0, 1), (108, .iload_n 3, 1), (109, .iload 4, 2)] 111 [(0, .ref m), (1, .long e3), (3, .int x3), (4, .int y3)] [.int y3, .int x3, .ref m, .long (e3 * 31)] C (by decide +kernel) rfl ?_
                          refine g_callV (pc := 111) C mV_X5_flyerTold q790 (h2.1.1) rfl rfl (c_X5_flyerTold l D cy h2 k3 (by omega) j3 (by omega) x3 y3 (hx3) (hy3)) rfl ⟨⟨Nat.le_of_ble_eq_true rfl, Nat.le_of_ble_eq_true rfl⟩, Nat.le_of_ble_eq_true rfl, Nat.le_of_ble_eq_true rfl⟩ rfl (Nat.le_of_ble_eq_true rfl) (by decide +kernel) ?_
                          refine g_kI (fun v17 G16 hp15 => ?_)
                          obtain ⟨rfl, rfl⟩ := hp15
                          refine g_seg [(114, .i2l, 1), (115, .ladd, 1), (116, .lstore_n 1, 1), (117, .iinc 4 1, 3), (120, .goto (-24), 3)] 96 [(4, .int (y3 + 1)), (1, .long ((e3 * 31) + (m_toldF F b k3 j3).toInt64)), (0, .ref m), (3, .int x3)] [] C (by decide +kernel) rfl ?_
                          refine g_subp [2, 1, 3, 0] (lv' := [(0, .ref m), (1, .long ((e3 * 31) + (m_toldF F b k3 j3).toInt64)), (3, .int x3), (4, .int (y3 + 1))]) rfl ?_
                          exact ihj3 (j3 + 1) ((e3 * 31) + (m_toldF F b k3 j3).toInt64) (y3 + 1) (by omega) (by omega) (lp_s hy3) (by rw [ht3]; rfl)
                    exact lp13 (5 + 1) 0 d3 0 (by omega) (by omega) (nI_0.symm) (rfl)
              exact lp7 (nf + 1) 0 d2 0 (by omega) (by omega) (nI_0.symm) (rfl)
            · have hk2 : k2 < nt := lp_lt hx2 (by omega) (n := nt) (by omega) c6
              refine g_seg [(46, .iconst 0, 1), (47, .istore 4, 2)] 49 [(4, .int 0), (0, .ref m), (1, .long d2), (3, .int x2)] [] C (by decide +kernel) rfl ?_
              refine g_subp [1, 2, 3, 0] (lv' := [(0, .ref m), (1, .long d2), (3, .int x2), (4, .int 0)]) rfl ?_
              have lp18 : ∀ (mj2 j2 : Nat) (e2 : Int64) (y2 : Int32), 8 + 1 ≤ j2 + mj2 → j2 ≤ 8 → y2 = nI j2 → e2 = s_dig (fun w => m_told T F nf b k2 w) d2 j2 → PG κ 5 0 0 G1 [(0, .ref m), (1, .long e2), (3, .int x2), (4, .int y2)] 49 [] := by
                intro mj2
                induction mj2 with
                | zero => intro j2 e2 y2 h1 h2; intros; exact absurd h1 (by omega)
                | succ mj2 ihj2 =>
                  intro j2 e2 y2 hmj2 h9j2 hy2 ht2
                  refine g_seg [(49, .iload 4, 2), (51, .bipush 8, 2)] 53 [(0, .ref m), (1, .long e2), (3, .int x2), (4, .int y2)] [.int 8, .int y2] C (by decide +kernel) rfl ?_
                  refine g_icmp_ge (pc := 53) (off := 24) 77 C (by decide +kernel) (by decide) (fun c19 => ?_) (fun c19 => ?_)
                  · have hj2 : j2 = 8 := by have := lp_ge hy2 (by omega) (n := 8) (by omega) c19; omega
                    rw [hj2] at ht2
                    refine g_seg [(77, .iinc 3 1, 3), (80, .goto (-42), 3)] 38 [(3, .int (x2 + 1)), (0, .ref m), (1, .long e2), (4, .int y2)] [] C (by decide +kernel) rfl ?_
                    refine g_subp [1, 2, 0] (lv' := [(0, .ref m), (1, .long e2), (3, .int (x2 + 1))]) rfl ?_
                    exact ihk2 (k2 + 1) e2 (x2 + 1) (by omega) (by omega) (lp_s hx2) (by rw [its, ← hs2]; exact ht2)
                  · have hj2 : j2 < 8 := lp_lt hy2 (by omega) (n := 8) (by omega) c19
                    refine g_seg [(56, .lload_n 1, 1)] 57 [(0, .ref m), (1, .long e2), (3, .int x2), (4, .int y2)] [.long e2] C (by decide +kernel) rfl ?_
                    refine g_ldc2 (pc := 57) (v := 31) C q901 (by decide +kernel) ?_
                    refine g_seg [(60, .lmul, 1), (61, .aload_n 0, 1), (62, .iload_n 3, 1), (63, .iload 4, 2)] 65 [(0, .ref m), (1, .long e2), (3, .int x2), (4, .int y2)] [.int y2, .int x2, .ref m, .long (e2 * 31)] C (by decide +kernel) rfl ?_
                    refine g_callV (pc := 65) C mV_X5_trapezeTold q775 (h2.1.1) rfl rfl (c_X5_trapezeTold l D cy h2 hwok k2 (by omega) j2 (by omega) x2 y2 (hx2) (hy2)) rfl ⟨⟨Nat.le_of_ble_eq_true rfl, Nat.le_of_ble_eq_true rfl⟩, Nat.le_of_ble_eq_true rfl, Nat.le_of_ble_eq_true rfl⟩ rfl (Nat.le_of_ble_eq_true rfl) (by decide +kernel) ?_
                    refine g_kI (fun v22 G21 hp20 => ?_)
                    obtain ⟨rfl, rfl⟩ := hp20
                    refine g_seg [(68, .i2l, 1), (69, .ladd, 1), (70, .lstore_n 1, 1), (71, .iinc 4 1, 3), (74, .goto (-25), 3)] 49 [(4, .int (y2 + 1)), (1, .long ((e2 * 31) + (m_told T F nf b k2 j2).toInt64)), (0, .ref m), (3, .int x2)] [] C (by decide +kernel) rfl ?_
                    refine g_subp [2, 1, 3, 0] (lv' := [(0, .ref m), (1, .long ((e2 * 31) + (m_told T F nf b k2 j2).toInt64)), (3, .int x2), (4, .int (y2 + 1))]) rfl ?_
                    exact ihj2 (j2 + 1) ((e2 * 31) + (m_told T F nf b k2 j2).toInt64) (y2 + 1) (by omega) (by omega) (lp_s hy2) (by rw [ht2]; rfl)
              exact lp18 (8 + 1) 0 d2 0 (by omega) (by omega) (nI_0.symm) (rfl)
        exact lp5 (nt + 1) 0 dd 0 (by omega) (by omega) (nI_0.symm) (rfl)
      · have hk8 : k < 9 := lp_lt hx (by omega) (n := 9) (by omega) c4
        refine g_seg [(17, .lload_n 1, 1)] 18 [(0, .ref m), (1, .long dd), (3, .int xk)] [.long dd] C (by decide +kernel) rfl ?_
        refine g_ldc2 (pc := 18) (v := 31) C q901 (by decide +kernel) ?_
        refine g_seg [(21, .lmul, 1), (22, .aload_n 0, 1), (23, .iload_n 3, 1)] 24 [(0, .ref m), (1, .long dd), (3, .int xk)] [.int xk, .ref m, .long (dd * 31)] C (by decide +kernel) rfl ?_
        refine g_callV (pc := 24) C mV_X5_counted q802 (h2.1.1) rfl rfl (c_X5_counted l D cy h2 xk) rfl ⟨⟨Nat.le_of_ble_eq_true rfl, Nat.le_of_ble_eq_true rfl⟩, Nat.le_of_ble_eq_true rfl, Nat.le_of_ble_eq_true rfl⟩ rfl (Nat.le_of_ble_eq_true rfl) (by decide +kernel) ?_
        refine g_kI (fun v25 G24 hp23 => ?_)
        obtain ⟨rfl, rfl⟩ := hp23
        refine g_seg [(27, .i2l, 1), (28, .ladd, 1), (29, .lstore_n 1, 1), (30, .iinc 3 1, 3), (33, .goto (-22), 3)] 11 [(3, .int (xk + 1)), (1, .long ((dd * 31) + (m_count b nt nf nc T F Cu xk).toInt64)), (0, .ref m)] [] C (by decide +kernel) rfl ?_
        refine g_subp [2, 1, 0] (lv' := [(0, .ref m), (1, .long ((dd * 31) + (m_count b nt nf nc T F Cu xk).toInt64)), (3, .int (xk + 1))]) rfl ?_
        exact ih (k + 1) ((dd * 31) + (m_count b nt nf nc T F Cu xk).toInt64) (xk + 1) (by omega) (by omega) (lp_s hx) (by rw [hs, hx]; rfl)
  exact lp3 (9 + 1) 0 1061 0 (by omega) (by omega) (nI_0.symm) (rfl)
