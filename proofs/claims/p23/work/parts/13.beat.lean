set_option maxHeartbeats 4000000 in
set_option maxRecDepth 100000 in
theorem c_X4_letGo (l : Launch) (D : va_G) (cy : Nat → ClassId) {G : GG} {x : Nat} {ad : Nat → Nat → Nat} {b : Int32} {nt nf nc nn : Nat} {T E Cu N KT KF KC : Rw} (h : RX cy x ad b nt nf nc nn T E Cu N KT KF KC G) (hwok : s_wok T nt) (k : Nat) (hk : k < nc) : Ctr l D cy yX4_letGo prog_1_method_40_code 4 (some .boolean) kX4_letGo [.ref x, .ref (ad 3 k)] G (pI (fun v G' => (v = 1 ∧ ∃ E', x_go T E Cu nt nf b k = some E' ∧ RX cy x ad b nt nf nc nn T E' Cu N KT KF KC G') ∨ (v = 0 ∧ x_go T E Cu nt nf b k = none ∧ RX cy x ad b nt nf nc nn T E Cu N KT KF KC G'))) := by
  refine Ctr.mk (by decide +kernel) (Nat.le_of_ble_eq_true rfl) ?_
  intro κ C R
  refine g_pc (pc' := 0) rfl ?_
  refine g_seg [(0, .aload_n 0, 1), (1, .aload_n 1, 1)] 2 [(0, .ref x), (1, .ref (ad 3 k))] [.ref (ad 3 k), .ref x] C (by decide +kernel) rfl ?_
  refine g_getf (pc := 2) (k := 1) (v := .int (Cu k 1)) C fl_X4_239 (h.2.1.2.2.1 k hk) rfl (by decide +kernel) ?_
  refine g_callV (pc := 5) C mV_X4_flyerNumbered q187 (h.1.1) rfl rfl (c_X4_flyerNumbered l D cy h (Cu k 1)) rfl ⟨⟨Nat.le_of_ble_eq_true rfl, Nat.le_of_ble_eq_true rfl⟩, Nat.le_of_ble_eq_true rfl, Nat.le_of_ble_eq_true rfl⟩ rfl (Nat.le_of_ble_eq_true rfl) (by decide +kernel) ?_
  refine g_kA (fun v3 G2 hp1 => ?_)
  obtain ⟨rfl, hp1⟩ := hp1
  rcases hp1 with ⟨i4, hi5, hn6, rfl⟩ | ⟨hn6, rfl⟩
  · refine g_seg [(8, .astore_n 2, 1), (9, .aload_n 2, 1)] 10 [(2, .ref (ad 2 i4)), (0, .ref x), (1, .ref (ad 3 k))] [.ref (ad 2 i4)] C (by decide +kernel) rfl ?_
    refine g_ifnonnull (pc := 10) (off := 5) 15 C (by decide +kernel) (by decide) ?_
    refine g_seg [(15, .aload_n 0, 1), (16, .aload_n 2, 1)] 17 [(2, .ref (ad 2 i4)), (0, .ref x), (1, .ref (ad 3 k))] [.ref (ad 2 i4), .ref x] C (by decide +kernel) rfl ?_
    refine g_getf (pc := 17) (k := 1) (v := .int (E i4 1)) C fl_X4_177 (h.2.1.2.1 i4 hi5) rfl (by decide +kernel) ?_
    refine g_callV (pc := 20) C mV_X4_trapezeNumbered q82 (h.1.1) rfl rfl (c_X4_trapezeNumbered l D cy h (E i4 1)) rfl ⟨⟨Nat.le_of_ble_eq_true rfl, Nat.le_of_ble_eq_true rfl⟩, Nat.le_of_ble_eq_true rfl, Nat.le_of_ble_eq_true rfl⟩ rfl (Nat.le_of_ble_eq_true rfl) (by decide +kernel) ?_
    refine g_kA (fun v9 G8 hp7 => ?_)
    obtain ⟨rfl, hp7⟩ := hp7
    rcases hp7 with ⟨i10, hi11, hn12, rfl⟩ | ⟨hn12, rfl⟩
    · refine g_seg [(23, .astore_n 3, 1), (24, .aload_n 3, 1)] 25 [(3, .ref (ad 1 i10)), (2, .ref (ad 2 i4)), (0, .ref x), (1, .ref (ad 3 k))] [.ref (ad 1 i10)] C (by decide +kernel) rfl ?_
      refine g_ifnonnull (pc := 25) (off := 5) 30 C (by decide +kernel) (by decide) ?_
      refine g_seg [(30, .aload_n 2, 1), (31, .aload_n 3, 1), (32, .aload_n 0, 1)] 33 [(3, .ref (ad 1 i10)), (2, .ref (ad 2 i4)), (0, .ref x), (1, .ref (ad 3 k))] [.ref x, .ref (ad 1 i10), .ref (ad 2 i4)] C (by decide +kernel) rfl ?_
      refine g_getf (pc := 33) (k := 8) (v := .int b) C fl_X4_53 (h.1.1) rfl (by decide +kernel) ?_
      refine g_callV (pc := 36) C mV_X3_placeIn q161 (h.2.1.1 i10 hi11) rfl rfl (c_X3_placeIn l D cy G8 (ad 1 i10) (T i10 0) (T i10 1) (T i10 3) (T i10 2) (T i10 6) (T i10 4) (T i10 5) (KT i10 0) (KT i10 1) (h.2.1.1 i10 hi11) b (hwok i10 hi11)) rfl ⟨⟨Nat.le_of_ble_eq_true rfl, Nat.le_of_ble_eq_true rfl⟩, Nat.le_of_ble_eq_true rfl, Nat.le_of_ble_eq_true rfl⟩ rfl (Nat.le_of_ble_eq_true rfl) (by decide +kernel) ?_
      refine g_kI (fun v15 G14 hp13 => ?_)
      obtain ⟨rfl, rfl⟩ := hp13
      refine g_seg [(39, .aload_n 1, 1)] 40 [(3, .ref (ad 1 i10)), (2, .ref (ad 2 i4)), (0, .ref x), (1, .ref (ad 3 k))] [.ref (ad 3 k), .int (s_pl (T i10 0) (T i10 1) (T i10 2) (b - (T i10 6))), .ref (ad 2 i4)] C (by decide +kernel) rfl ?_
      refine g_getf (pc := 40) (k := 2) (v := .int (Cu k 2)) C fl_X4_242 (h.2.1.2.2.1 k hk) rfl (by decide +kernel) ?_
      refine g_seg [(43, .iadd, 1), (44, .aload_n 0, 1)] 45 [(3, .ref (ad 1 i10)), (2, .ref (ad 2 i4)), (0, .ref x), (1, .ref (ad 3 k))] [.ref x, .int ((s_pl (T i10 0) (T i10 1) (T i10 2) (b - (T i10 6))) + (Cu k 2)), .ref (ad 2 i4)] C (by decide +kernel) rfl ?_
      refine g_getf (pc := 45) (k := 8) (v := .int b) C fl_X4_53 (h.1.1) rfl (by decide +kernel) ?_
      refine g_seg [(48, .aload_n 1, 1)] 49 [(3, .ref (ad 1 i10)), (2, .ref (ad 2 i4)), (0, .ref x), (1, .ref (ad 3 k))] [.ref (ad 3 k), .int b, .int ((s_pl (T i10 0) (T i10 1) (T i10 2) (b - (T i10 6))) + (Cu k 2)), .ref (ad 2 i4)] C (by decide +kernel) rfl ?_
      refine g_getf (pc := 49) (k := 3) (v := .int (Cu k 3)) C fl_X4_245 (h.2.1.2.2.1 k hk) rfl (by decide +kernel) ?_
      refine g_seg [(52, .iadd, 1)] 53 [(3, .ref (ad 1 i10)), (2, .ref (ad 2 i4)), (0, .ref x), (1, .ref (ad 3 k))] [.int (b + (Cu k 3)), .int ((s_pl (T i10 0) (T i10 1) (T i10 2) (b - (T i10 6))) + (Cu k 2)), .ref (ad 2 i4)] C (by decide +kernel) rfl ?_
      refine g_callV (pc := 53) C mV_X1_flyTo q263 (h.2.1.2.1 i4 hi5) rfl rfl (c_X1_flyTo l D cy G14 (ad 2 i4) (E i4 0) (E i4 1) (E i4 2) (E i4 3) (E i4 4) (KF i4 0) (KF i4 1) (KF i4 2) (KF i4 3) (KF i4 4) ((s_pl (T i10 0) (T i10 1) (T i10 2) (b - (T i10 6))) + (Cu k 2)) (b + (Cu k 3)) (h.2.1.2.1 i4 hi5)) rfl ⟨⟨Nat.le_of_ble_eq_true rfl, Nat.le_of_ble_eq_true rfl⟩, Nat.le_of_ble_eq_true rfl, Nat.le_of_ble_eq_true rfl⟩ rfl (Nat.le_of_ble_eq_true rfl) (by decide +kernel) ?_
      refine g_kV (fun G16 hG17 => ?_)
      have h18 : RX cy x ad b nt nf nc nn T (s_row E i4 2 (-1) ((s_pl (T i10 0) (T i10 1) (T i10 2) (b - (T i10 6))) + (Cu k 2)) (b + (Cu k 3))) Cu N KT KF KC G16 := by rw [hG17]; exact RXF_fly h hi5
      refine g_seg [(56, .iconst 1, 1)] 57 [(3, .ref (ad 1 i10)), (2, .ref (ad 2 i4)), (0, .ref x), (1, .ref (ad 3 k))] [.int 1] C (by decide +kernel) rfl ?_
      exact g_zret (pc := 57) C R (by first | rfl | decide) (⟨_, rfl, Or.inl ⟨rfl, _, by unfold x_go; rw [ixo_some (by have := h.2.2.2.2.1; omega) hi5 hn6]; simp only; rw [ixo_some (by have := h.2.2.2.1; omega) hi11 hn12]; rfl, h18⟩⟩) (Nat.le_of_ble_eq_true rfl) (Nat.le_of_ble_eq_true rfl) (by decide +kernel)
    · refine g_seg [(23, .astore_n 3, 1), (24, .aload_n 3, 1)] 25 [(3, .null), (2, .ref (ad 2 i4)), (0, .ref x), (1, .ref (ad 3 k))] [.null] C (by decide +kernel) rfl ?_
      refine g_ifnonnullN (pc := 25) (off := 5) C (by decide +kernel) ?_
      refine g_seg [(28, .iconst 0, 1)] 29 [(3, .null), (2, .ref (ad 2 i4)), (0, .ref x), (1, .ref (ad 3 k))] [.int 0] C (by decide +kernel) rfl ?_
      exact g_zret (pc := 29) C R (by first | rfl | decide) (⟨_, rfl, Or.inr ⟨rfl, by unfold x_go; rw [ixo_some (by have := h.2.2.2.2.1; omega) hi5 hn6]; simp only; rw [ixo_none hn12], h⟩⟩) (Nat.le_of_ble_eq_true rfl) (Nat.le_of_ble_eq_true rfl) (by decide +kernel)
  · refine g_seg [(8, .astore_n 2, 1), (9, .aload_n 2, 1)] 10 [(2, .null), (0, .ref x), (1, .ref (ad 3 k))] [.null] C (by decide +kernel) rfl ?_
    refine g_ifnonnullN (pc := 10) (off := 5) C (by decide +kernel) ?_
    refine g_seg [(13, .iconst 0, 1)] 14 [(2, .null), (0, .ref x), (1, .ref (ad 3 k))] [.int 0] C (by decide +kernel) rfl ?_
    exact g_zret (pc := 14) C R (by first | rfl | decide) (⟨_, rfl, Or.inr ⟨rfl, by unfold x_go; rw [ixo_none hn6], h⟩⟩) (Nat.le_of_ble_eq_true rfl) (Nat.le_of_ble_eq_true rfl) (by decide +kernel)
set_option maxHeartbeats 4000000 in
set_option maxRecDepth 100000 in
theorem c_X4_callCues (l : Launch) (D : va_G) (cy : Nat → ClassId) {G : GG} {x : Nat} {ad : Nat → Nat → Nat} {b : Int32} {nt nf nc nn : Nat} {T E Cu N KT KF KC : Rw} (h : RX cy x ad b nt nf nc nn T E Cu N KT KF KC G) (hwok : s_wok T nt) : Ctr l D cy yX4_callCues prog_1_method_39_code 5 none kX4_callCues [.ref x] G (pV (fun G' => RX cy x ad b nt nf nc nn T (its (x_cue T nt nf b) (E, Cu) nc).1 (its (x_cue T nt nf b) (E, Cu) nc).2 N KT KF KC G')) := by
  refine Ctr.mk (by decide +kernel) (Nat.le_of_ble_eq_true rfl) ?_
  intro κ C R
  refine g_pc (pc' := 0) rfl ?_
  refine g_seg [(0, .aload_n 0, 1)] 1 [(0, .ref x)] [.ref x] C (by decide +kernel) rfl ?_
  refine g_getf (pc := 1) (k := 2) (v := .ref (ad 0 2)) C fl_X4_23 (h.1.1) rfl (by decide +kernel) ?_
  refine g_seg [(4, .astore_n 1, 1), (5, .aload_n 1, 1)] 6 [(1, .ref (ad 0 2)), (0, .ref x)] [.ref (ad 0 2)] C (by decide +kernel) rfl ?_
  refine g_alenA (pc := 6) (len := 20) (t0 := 3) C (h.1.2.2.2.1) rfl (by decide +kernel) ?_
  refine g_seg [(7, .istore_n 2, 1), (8, .iconst 0, 1), (9, .istore_n 3, 1)] 10 [(3, .int 0), (2, .int (nI 20)), (1, .ref (ad 0 2)), (0, .ref x)] [] C (by decide +kernel) rfl ?_
  refine g_subp [3, 2, 1, 0] (lv' := [(0, .ref x), (1, .ref (ad 0 2)), (2, .int (nI 20)), (3, .int 0)]) rfl ?_
  have lp1 : ∀ (m k : Nat) (E1 C1 : Rw) (G1 : GG) (xk : Int32), 20 + 1 ≤ k + m → k ≤ 20 → xk = nI k → (E1, C1) = its (x_cue T nt nf b) (E, Cu) (min k nc) → RX cy x ad b nt nf nc nn T E1 C1 N KT KF KC G1 → PG κ 5 0 0 G1 [(0, .ref x), (1, .ref (ad 0 2)), (2, .int (nI 20)), (3, .int xk)] 10 [] := by
    intro m
    induction m with
    | zero => intro k E1 C1 G1 xk h1 h2; intros; exact absurd h1 (by omega)
    | succ m ih =>
      intro k E1 C1 G1 xk hm hk hx hs h1
      refine g_seg [(10, .iload_n 3, 1), (11, .iload_n 2, 1)] 12 [(0, .ref x), (1, .ref (ad 0 2)), (2, .int (nI 20)), (3, .int xk)] [.int (nI 20), .int xk] C (by decide +kernel) rfl ?_
      refine g_icmp_ge (pc := 12) (off := 50) 62 C (by decide +kernel) (by decide) (fun c2 => ?_) (fun c2 => ?_)
      · have hk8 : k = 20 := by have := lp_ge hx (by omega) (by decide) c2; omega
        exact g_vret (pc := 62) C R (⟨rfl, by have e9 := its_e hs hk8 (h.2.2.2.2.2.1); rw [← e9]; exact h1⟩) (Nat.le_of_ble_eq_true rfl) (Nat.le_of_ble_eq_true rfl) (by decide +kernel)
      · have hk8 : k < 20 := by have := lp_lt hx (by omega) (by decide) c2; omega
        refine g_seg [(15, .aload_n 1, 1), (16, .iload_n 3, 1)] 17 [(0, .ref x), (1, .ref (ad 0 2)), (2, .int (nI 20)), (3, .int xk)] [.int xk, .ref (ad 0 2)] C (by decide +kernel) rfl ?_
        refine g_aaldA (pc := 17) (len := 20) (t0 := 3) (j := k) C (h1.1.2.2.2.1) rfl (hx) (hk8) (by decide) (by decide +kernel) (fun hi3 => ?_) (fun hi3 => ?_)
        · refine g_seg [(18, .astore 4, 2), (20, .aload 4, 2)] 22 [(4, .ref (ad 3 k)), (0, .ref x), (1, .ref (ad 0 2)), (2, .int (nI 20)), (3, .int xk)] [.ref (ad 3 k)] C (by decide +kernel) rfl ?_
          refine g_ifnull (pc := 22) (off := 34) C (by decide +kernel) ?_
          refine g_seg [(25, .aload 4, 2)] 27 [(4, .ref (ad 3 k)), (0, .ref x), (1, .ref (ad 0 2)), (2, .int (nI 20)), (3, .int xk)] [.ref (ad 3 k)] C (by decide +kernel) rfl ?_
          refine g_getf (pc := 27) (k := 0) (v := .int (C1 k 0)) C fl_X4_238 (h1.2.1.2.2.1 k hi3) rfl (by decide +kernel) ?_
          refine g_seg [(30, .aload_n 0, 1)] 31 [(4, .ref (ad 3 k)), (0, .ref x), (1, .ref (ad 0 2)), (2, .int (nI 20)), (3, .int xk)] [.ref x, .int (C1 k 0)] C (by decide +kernel) rfl ?_
          refine g_getf (pc := 31) (k := 8) (v := .int b) C fl_X4_53 (h1.1.1) rfl (by decide +kernel) ?_
          refine g_icmp_ne (pc := 34) (off := 22) 56 C (by decide +kernel) (by decide) (fun c4 => ?_) (fun c4 => ?_)
          · refine g_seg [(56, .iinc 3 1, 3), (59, .goto (-49), 3)] 10 [(3, .int (xk + 1)), (4, .ref (ad 3 k)), (0, .ref x), (1, .ref (ad 0 2)), (2, .int (nI 20))] [] C (by decide +kernel) rfl ?_
            refine g_subp [2, 3, 4, 0] (lv' := [(0, .ref x), (1, .ref (ad 0 2)), (2, .int (nI 20)), (3, .int (xk + 1))]) rfl ?_
            exact ih (k + 1) E1 C1 G1 (xk + 1) (by omega) (by omega) (lp_s hx) (its_y hs hi3 (by simp only [x_cue]; rw [if_neg c4])) (h1)
          · refine g_seg [(37, .aload 4, 2), (39, .aload_n 0, 1), (40, .aload 4, 2)] 42 [(4, .ref (ad 3 k)), (0, .ref x), (1, .ref (ad 0 2)), (2, .int (nI 20)), (3, .int xk)] [.ref (ad 3 k), .ref x, .ref (ad 3 k)] C (by decide +kernel) rfl ?_
            refine g_callV (pc := 42) C mV_X4_letGo q259 (h1.1.1) rfl rfl (c_X4_letGo l D cy h1 hwok k hi3) rfl ⟨⟨Nat.le_of_ble_eq_true rfl, Nat.le_of_ble_eq_true rfl⟩, Nat.le_of_ble_eq_true rfl, Nat.le_of_ble_eq_true rfl⟩ rfl (Nat.le_of_ble_eq_true rfl) (by decide +kernel) ?_
            refine g_kI (fun v7 G5 hp6 => ?_)
            rcases hp6 with ⟨rfl, E9, hg10, h8⟩ | ⟨rfl, hg10, h8⟩
            · refine g_if_eq (pc := 45) (off := 7) 52 C (by decide +kernel) (by decide) (fun c9 => absurd c9 (by decide)) (fun _ => ?_)
              refine g_seg [(48, .iconst 1, 1), (49, .goto 4, 3)] 53 [(4, .ref (ad 3 k)), (0, .ref x), (1, .ref (ad 0 2)), (2, .int (nI 20)), (3, .int xk)] [.int 1, .ref (ad 3 k)] C (by decide +kernel) rfl ?_
              refine g_putf (pc := 53) (k := 4) (v := .int 1) (ty := .int) C fl_X4_248 fp_X0_4 (h8.2.1.2.2.1 k hi3) (rfl) (by first | rfl | decide) (Nat.le_of_ble_eq_true rfl) (by decide +kernel) ?_
              refine g_abs (P := fun G9 => RX cy x ad b nt nf nc nn T E9 (s_set C1 k 4 1) N KT KF KC G9) (RXC_st h8 hi3) (fun G11 h12 => ?_)
              refine g_seg [(56, .iinc 3 1, 3), (59, .goto (-49), 3)] 10 [(3, .int (xk + 1)), (4, .ref (ad 3 k)), (0, .ref x), (1, .ref (ad 0 2)), (2, .int (nI 20))] [] C (by decide +kernel) rfl ?_
              refine g_subp [2, 3, 4, 0] (lv' := [(0, .ref x), (1, .ref (ad 0 2)), (2, .int (nI 20)), (3, .int (xk + 1))]) rfl ?_
              exact ih (k + 1) E9 (s_set C1 k 4 1) G11 (xk + 1) (by omega) (by omega) (lp_s hx) (its_y hs hi3 (by simp only [x_cue]; rw [if_pos c4, hg10])) (h12)
            · refine g_if_eq (pc := 45) (off := 7) 52 C (by decide +kernel) (by decide) (fun _ => ?_) (fun c9 => absurd (by decide) c9)
              refine g_seg [(52, .iconst 2, 1)] 53 [(4, .ref (ad 3 k)), (0, .ref x), (1, .ref (ad 0 2)), (2, .int (nI 20)), (3, .int xk)] [.int 2, .ref (ad 3 k)] C (by decide +kernel) rfl ?_
              refine g_putf (pc := 53) (k := 4) (v := .int 2) (ty := .int) C fl_X4_248 fp_X0_4 (h8.2.1.2.2.1 k hi3) (rfl) (by first | rfl | decide) (Nat.le_of_ble_eq_true rfl) (by decide +kernel) ?_
              refine g_abs (P := fun G9 => RX cy x ad b nt nf nc nn T E1 (s_set C1 k 4 2) N KT KF KC G9) (RXC_st h8 hi3) (fun G13 h14 => ?_)
              refine g_seg [(56, .iinc 3 1, 3), (59, .goto (-49), 3)] 10 [(3, .int (xk + 1)), (4, .ref (ad 3 k)), (0, .ref x), (1, .ref (ad 0 2)), (2, .int (nI 20))] [] C (by decide +kernel) rfl ?_
              refine g_subp [2, 3, 4, 0] (lv' := [(0, .ref x), (1, .ref (ad 0 2)), (2, .int (nI 20)), (3, .int (xk + 1))]) rfl ?_
              exact ih (k + 1) E1 (s_set C1 k 4 2) G13 (xk + 1) (by omega) (by omega) (lp_s hx) (its_y hs hi3 (by simp only [x_cue]; rw [if_pos c4, hg10])) (h14)
        · refine g_seg [(18, .astore 4, 2), (20, .aload 4, 2)] 22 [(4, .null), (0, .ref x), (1, .ref (ad 0 2)), (2, .int (nI 20)), (3, .int xk)] [.null] C (by decide +kernel) rfl ?_
          refine g_ifnullN (pc := 22) (off := 34) 56 C (by decide +kernel) (by decide) ?_
          refine g_seg [(56, .iinc 3 1, 3), (59, .goto (-49), 3)] 10 [(3, .int (xk + 1)), (4, .null), (0, .ref x), (1, .ref (ad 0 2)), (2, .int (nI 20))] [] C (by decide +kernel) rfl ?_
          refine g_subp [2, 3, 4, 0] (lv' := [(0, .ref x), (1, .ref (ad 0 2)), (2, .int (nI 20)), (3, .int (xk + 1))]) rfl ?_
          exact ih (k + 1) E1 C1 G1 (xk + 1) (by omega) (by omega) (lp_s hx) (its_n hs hi3) (h1)
  exact lp1 (20 + 1) 0 E Cu G 0 (by omega) (by omega) (nI_0.symm) (its_0) (h)
set_option maxHeartbeats 4000000 in
set_option maxRecDepth 100000 in
theorem c_X4_dropFrom (l : Launch) (D : va_G) (cy : Nat → ClassId) {G : GG} {x : Nat} {ad : Nat → Nat → Nat} {b : Int32} {nt nf nc nn : Nat} {T E Cu N KT KF KC : Rw} (h : RX cy x ad b nt nf nc nn T E Cu N KT KF KC G) (n p0 : Int32) : Ctr l D cy yX4_dropFrom prog_1_method_44_code 8 none kX4_dropFrom [.ref x, .int n, .int p0] G (pV (fun G' => RX cy x ad b nt nf nc nn T (its (x_drop N nn n p0) E nf) Cu N KT KF KC G')) := by
  refine Ctr.mk (by decide +kernel) (Nat.le_of_ble_eq_true rfl) ?_
  intro κ C R
  refine g_pc (pc' := 0) rfl ?_
  refine g_seg [(0, .aload_n 0, 1), (1, .iload_n 2, 1)] 2 [(0, .ref x), (1, .int n), (2, .int p0)] [.int p0, .ref x] C (by decide +kernel) rfl ?_
  refine g_callV (pc := 2) C mV_X4_isNetSpreadAt q282 (h.1.1) rfl rfl (c_X4_isNetSpreadAt l D cy h p0) rfl ⟨⟨Nat.le_of_ble_eq_true rfl, Nat.le_of_ble_eq_true rfl⟩, Nat.le_of_ble_eq_true rfl, Nat.le_of_ble_eq_true rfl⟩ rfl (Nat.le_of_ble_eq_true rfl) (by decide +kernel) ?_
  refine g_kI (fun v3 G2 hp1 => ?_)
  obtain ⟨rfl, hp1⟩ := hp1
  rcases hp1 with ⟨rfl, h4⟩ | ⟨rfl, h4⟩
  · refine g_seg [(5, .istore_n 3, 1), (6, .aload_n 0, 1)] 7 [(3, .int 1), (0, .ref x), (1, .int n), (2, .int p0)] [.ref x] C (by decide +kernel) rfl ?_
    refine g_getf (pc := 7) (k := 1) (v := .ref (ad 0 1)) C fl_X4_17 (h.1.1) rfl (by decide +kernel) ?_
    refine g_seg [(10, .astore 4, 2), (12, .aload 4, 2)] 14 [(4, .ref (ad 0 1)), (3, .int 1), (0, .ref x), (1, .int n), (2, .int p0)] [.ref (ad 0 1)] C (by decide +kernel) rfl ?_
    refine g_alenA (pc := 14) (len := 8) (t0 := 2) C (h.1.2.2.1) rfl (by decide +kernel) ?_
    refine g_seg [(15, .istore 5, 2), (17, .iconst 0, 1), (18, .istore 6, 2)] 20 [(6, .int 0), (5, .int (nI 8)), (4, .ref (ad 0 1)), (3, .int 1), (0, .ref x), (1, .int n), (2, .int p0)] [] C (by decide +kernel) rfl ?_
    refine g_subp [4, 5, 6, 3, 2, 1, 0] (lv' := [(0, .ref x), (1, .int n), (2, .int p0), (3, .int 1), (4, .ref (ad 0 1)), (5, .int (nI 8)), (6, .int 0)]) rfl ?_
    have lp5 : ∀ (m k : Nat) (E1 : Rw) (G1 : GG) (xk : Int32), 8 + 1 ≤ k + m → k ≤ 8 → xk = nI k → E1 = its (x_drop N nn n p0) E (min k nf) → RX cy x ad b nt nf nc nn T E1 Cu N KT KF KC G1 → PG κ 8 0 0 G1 [(0, .ref x), (1, .int n), (2, .int p0), (3, .int 1), (4, .ref (ad 0 1)), (5, .int (nI 8)), (6, .int xk)] 20 [] := by
      intro m
      induction m with
      | zero => intro k E1 G1 xk h1 h2; intros; exact absurd h1 (by omega)
      | succ m ih =>
        intro k E1 G1 xk hm hk hx hs h1
        refine g_seg [(20, .iload 6, 2), (22, .iload 5, 2)] 24 [(0, .ref x), (1, .int n), (2, .int p0), (3, .int 1), (4, .ref (ad 0 1)), (5, .int (nI 8)), (6, .int xk)] [.int (nI 8), .int xk] C (by decide +kernel) rfl ?_
        refine g_icmp_ge (pc := 24) (off := 36) 60 C (by decide +kernel) (by decide) (fun c6 => ?_) (fun c6 => ?_)
        · have hk8 : k = 8 := by have := lp_ge hx (by omega) (by decide) c6; omega
          exact g_vret (pc := 60) C R (⟨rfl, by rw [← its_e hs hk8 (h.2.2.2.2.1)]; exact h1⟩) (Nat.le_of_ble_eq_true rfl) (Nat.le_of_ble_eq_true rfl) (by decide +kernel)
        · have hk8 : k < 8 := by have := lp_lt hx (by omega) (by decide) c6; omega
          refine g_seg [(27, .aload 4, 2), (29, .iload 6, 2)] 31 [(0, .ref x), (1, .int n), (2, .int p0), (3, .int 1), (4, .ref (ad 0 1)), (5, .int (nI 8)), (6, .int xk)] [.int xk, .ref (ad 0 1)] C (by decide +kernel) rfl ?_
          refine g_aaldA (pc := 31) (len := 8) (t0 := 2) (j := k) C (h1.1.2.2.1) rfl (hx) (hk8) (by decide) (by decide +kernel) (fun hi7 => ?_) (fun hi7 => ?_)
          · refine g_seg [(32, .astore 7, 2), (34, .aload 7, 2)] 36 [(7, .ref (ad 2 k)), (0, .ref x), (1, .int n), (2, .int p0), (3, .int 1), (4, .ref (ad 0 1)), (5, .int (nI 8)), (6, .int xk)] [.ref (ad 2 k)] C (by decide +kernel) rfl ?_
            refine g_ifnull (pc := 36) (off := 18) C (by decide +kernel) ?_
            refine g_seg [(39, .aload 7, 2), (41, .iload_n 1, 1)] 42 [(7, .ref (ad 2 k)), (0, .ref x), (1, .int n), (2, .int p0), (3, .int 1), (4, .ref (ad 0 1)), (5, .int (nI 8)), (6, .int xk)] [.int n, .ref (ad 2 k)] C (by decide +kernel) rfl ?_
            refine g_callV (pc := 42) C mV_X1_hangsFrom q179 (h1.2.1.2.1 k hi7) rfl rfl (c_X1_hangsFrom l D cy G1 (ad 2 k) (E1 k 0) (E1 k 1) (E1 k 2) (E1 k 3) (E1 k 4) (KF k 0) (KF k 1) (KF k 2) (KF k 3) (KF k 4) n (h1.2.1.2.1 k hi7)) rfl ⟨⟨Nat.le_of_ble_eq_true rfl, Nat.le_of_ble_eq_true rfl⟩, Nat.le_of_ble_eq_true rfl, Nat.le_of_ble_eq_true rfl⟩ rfl (Nat.le_of_ble_eq_true rfl) (by decide +kernel) ?_
            refine g_kI (fun v10 G9 hp8 => ?_)
            obtain ⟨rfl, hp8⟩ := hp8
            rcases hp8 with ⟨rfl, h11⟩ | ⟨rfl, h11⟩
            · refine g_if_eq (pc := 45) (off := 9) 54 C (by decide +kernel) (by decide) (fun c9 => absurd c9 (by decide)) (fun _ => ?_)
              refine g_seg [(48, .aload 7, 2), (50, .iload_n 3, 1)] 51 [(7, .ref (ad 2 k)), (0, .ref x), (1, .int n), (2, .int p0), (3, .int 1), (4, .ref (ad 0 1)), (5, .int (nI 8)), (6, .int xk)] [.int 1, .ref (ad 2 k)] C (by decide +kernel) rfl ?_
              refine g_callV (pc := 51) C mV_X1_fall q286 (h1.2.1.2.1 k hi7) rfl rfl (c_X1_fall l D cy G9 (ad 2 k) (E1 k 0) (E1 k 1) (E1 k 2) (E1 k 3) (E1 k 4) (KF k 0) (KF k 1) (KF k 2) (KF k 3) (KF k 4) 1 (h1.2.1.2.1 k hi7)) rfl ⟨⟨Nat.le_of_ble_eq_true rfl, Nat.le_of_ble_eq_true rfl⟩, Nat.le_of_ble_eq_true rfl, Nat.le_of_ble_eq_true rfl⟩ rfl (Nat.le_of_ble_eq_true rfl) (by decide +kernel) ?_
              refine g_kV (fun G12 hG13 => ?_)
              have h14 : RX cy x ad b nt nf nc nn T (x_st E1 k 3 (-1)) Cu N KT KF KC G12 := by rw [hG13]; exact RXF_st (a := 3) h1 hi7
              refine g_seg [(54, .iinc 6 1, 3), (57, .goto (-37), 3)] 20 [(6, .int (xk + 1)), (7, .ref (ad 2 k)), (0, .ref x), (1, .int n), (2, .int p0), (3, .int 1), (4, .ref (ad 0 1)), (5, .int (nI 8))] [] C (by decide +kernel) rfl ?_
              refine g_subp [2, 3, 4, 5, 6, 7, 0] (lv' := [(0, .ref x), (1, .int n), (2, .int p0), (3, .int 1), (4, .ref (ad 0 1)), (5, .int (nI 8)), (6, .int (xk + 1))]) rfl ?_
              exact ih (k + 1) (x_st E1 k 3 (-1)) G12 (xk + 1) (by omega) (by omega) (lp_s hx) (its_y hs hi7 (by simp only [x_drop, x_fallc]; rw [if_pos h11, if_pos (h4)])) (h14)
            · refine g_if_eq (pc := 45) (off := 9) 54 C (by decide +kernel) (by decide) (fun _ => ?_) (fun c9 => absurd (by decide) c9)
              refine g_seg [(54, .iinc 6 1, 3), (57, .goto (-37), 3)] 20 [(6, .int (xk + 1)), (7, .ref (ad 2 k)), (0, .ref x), (1, .int n), (2, .int p0), (3, .int 1), (4, .ref (ad 0 1)), (5, .int (nI 8))] [] C (by decide +kernel) rfl ?_
              refine g_subp [2, 3, 4, 5, 6, 7, 0] (lv' := [(0, .ref x), (1, .int n), (2, .int p0), (3, .int 1), (4, .ref (ad 0 1)), (5, .int (nI 8)), (6, .int (xk + 1))]) rfl ?_
              exact ih (k + 1) E1 G9 (xk + 1) (by omega) (by omega) (lp_s hx) (its_y hs hi7 (by simp only [x_drop]; rw [if_neg h11])) (h1)
          · refine g_seg [(32, .astore 7, 2), (34, .aload 7, 2)] 36 [(7, .null), (0, .ref x), (1, .int n), (2, .int p0), (3, .int 1), (4, .ref (ad 0 1)), (5, .int (nI 8)), (6, .int xk)] [.null] C (by decide +kernel) rfl ?_
            refine g_ifnullN (pc := 36) (off := 18) 54 C (by decide +kernel) (by decide) ?_
            refine g_seg [(54, .iinc 6 1, 3), (57, .goto (-37), 3)] 20 [(6, .int (xk + 1)), (7, .null), (0, .ref x), (1, .int n), (2, .int p0), (3, .int 1), (4, .ref (ad 0 1)), (5, .int (nI 8))] [] C (by decide +kernel) rfl ?_
            refine g_subp [2, 3, 4, 5, 6, 7, 0] (lv' := [(0, .ref x), (1, .int n), (2, .int p0), (3, .int 1), (4, .ref (ad 0 1)), (5, .int (nI 8)), (6, .int (xk + 1))]) rfl ?_
            exact ih (k + 1) E1 G1 (xk + 1) (by omega) (by omega) (lp_s hx) (its_n hs hi7) (h1)
    exact lp5 (8 + 1) 0 E G2 0 (by omega) (by omega) (nI_0.symm) (its_0) (h)
  · refine g_seg [(5, .istore_n 3, 1), (6, .aload_n 0, 1)] 7 [(3, .int 0), (0, .ref x), (1, .int n), (2, .int p0)] [.ref x] C (by decide +kernel) rfl ?_
    refine g_getf (pc := 7) (k := 1) (v := .ref (ad 0 1)) C fl_X4_17 (h.1.1) rfl (by decide +kernel) ?_
    refine g_seg [(10, .astore 4, 2), (12, .aload 4, 2)] 14 [(4, .ref (ad 0 1)), (3, .int 0), (0, .ref x), (1, .int n), (2, .int p0)] [.ref (ad 0 1)] C (by decide +kernel) rfl ?_
    refine g_alenA (pc := 14) (len := 8) (t0 := 2) C (h.1.2.2.1) rfl (by decide +kernel) ?_
    refine g_seg [(15, .istore 5, 2), (17, .iconst 0, 1), (18, .istore 6, 2)] 20 [(6, .int 0), (5, .int (nI 8)), (4, .ref (ad 0 1)), (3, .int 0), (0, .ref x), (1, .int n), (2, .int p0)] [] C (by decide +kernel) rfl ?_
    refine g_subp [4, 5, 6, 3, 2, 1, 0] (lv' := [(0, .ref x), (1, .int n), (2, .int p0), (3, .int 0), (4, .ref (ad 0 1)), (5, .int (nI 8)), (6, .int 0)]) rfl ?_
    have lp15 : ∀ (m k : Nat) (E1 : Rw) (G1 : GG) (xk : Int32), 8 + 1 ≤ k + m → k ≤ 8 → xk = nI k → E1 = its (x_drop N nn n p0) E (min k nf) → RX cy x ad b nt nf nc nn T E1 Cu N KT KF KC G1 → PG κ 8 0 0 G1 [(0, .ref x), (1, .int n), (2, .int p0), (3, .int 0), (4, .ref (ad 0 1)), (5, .int (nI 8)), (6, .int xk)] 20 [] := by
      intro m
      induction m with
      | zero => intro k E1 G1 xk h1 h2; intros; exact absurd h1 (by omega)
      | succ m ih =>
        intro k E1 G1 xk hm hk hx hs h1
        refine g_seg [(20, .iload 6, 2), (22, .iload 5, 2)] 24 [(0, .ref x), (1, .int n), (2, .int p0), (3, .int 0), (4, .ref (ad 0 1)), (5, .int (nI 8)), (6, .int xk)] [.int (nI 8), .int xk] C (by decide +kernel) rfl ?_
        refine g_icmp_ge (pc := 24) (off := 36) 60 C (by decide +kernel) (by decide) (fun c16 => ?_) (fun c16 => ?_)
        · have hk8 : k = 8 := by have := lp_ge hx (by omega) (by decide) c16; omega
          exact g_vret (pc := 60) C R (⟨rfl, by rw [← its_e hs hk8 (h.2.2.2.2.1)]; exact h1⟩) (Nat.le_of_ble_eq_true rfl) (Nat.le_of_ble_eq_true rfl) (by decide +kernel)
        · have hk8 : k < 8 := by have := lp_lt hx (by omega) (by decide) c16; omega
          refine g_seg [(27, .aload 4, 2), (29, .iload 6, 2)] 31 [(0, .ref x), (1, .int n), (2, .int p0), (3, .int 0), (4, .ref (ad 0 1)), (5, .int (nI 8)), (6, .int xk)] [.int xk, .ref (ad 0 1)] C (by decide +kernel) rfl ?_
          refine g_aaldA (pc := 31) (len := 8) (t0 := 2) (j := k) C (h1.1.2.2.1) rfl (hx) (hk8) (by decide) (by decide +kernel) (fun hi17 => ?_) (fun hi17 => ?_)
          · refine g_seg [(32, .astore 7, 2), (34, .aload 7, 2)] 36 [(7, .ref (ad 2 k)), (0, .ref x), (1, .int n), (2, .int p0), (3, .int 0), (4, .ref (ad 0 1)), (5, .int (nI 8)), (6, .int xk)] [.ref (ad 2 k)] C (by decide +kernel) rfl ?_
            refine g_ifnull (pc := 36) (off := 18) C (by decide +kernel) ?_
            refine g_seg [(39, .aload 7, 2), (41, .iload_n 1, 1)] 42 [(7, .ref (ad 2 k)), (0, .ref x), (1, .int n), (2, .int p0), (3, .int 0), (4, .ref (ad 0 1)), (5, .int (nI 8)), (6, .int xk)] [.int n, .ref (ad 2 k)] C (by decide +kernel) rfl ?_
            refine g_callV (pc := 42) C mV_X1_hangsFrom q179 (h1.2.1.2.1 k hi17) rfl rfl (c_X1_hangsFrom l D cy G1 (ad 2 k) (E1 k 0) (E1 k 1) (E1 k 2) (E1 k 3) (E1 k 4) (KF k 0) (KF k 1) (KF k 2) (KF k 3) (KF k 4) n (h1.2.1.2.1 k hi17)) rfl ⟨⟨Nat.le_of_ble_eq_true rfl, Nat.le_of_ble_eq_true rfl⟩, Nat.le_of_ble_eq_true rfl, Nat.le_of_ble_eq_true rfl⟩ rfl (Nat.le_of_ble_eq_true rfl) (by decide +kernel) ?_
            refine g_kI (fun v20 G19 hp18 => ?_)
            obtain ⟨rfl, hp18⟩ := hp18
            rcases hp18 with ⟨rfl, h21⟩ | ⟨rfl, h21⟩
            · refine g_if_eq (pc := 45) (off := 9) 54 C (by decide +kernel) (by decide) (fun c9 => absurd c9 (by decide)) (fun _ => ?_)
              refine g_seg [(48, .aload 7, 2), (50, .iload_n 3, 1)] 51 [(7, .ref (ad 2 k)), (0, .ref x), (1, .int n), (2, .int p0), (3, .int 0), (4, .ref (ad 0 1)), (5, .int (nI 8)), (6, .int xk)] [.int 0, .ref (ad 2 k)] C (by decide +kernel) rfl ?_
              refine g_callV (pc := 51) C mV_X1_fall q286 (h1.2.1.2.1 k hi17) rfl rfl (c_X1_fall l D cy G19 (ad 2 k) (E1 k 0) (E1 k 1) (E1 k 2) (E1 k 3) (E1 k 4) (KF k 0) (KF k 1) (KF k 2) (KF k 3) (KF k 4) 0 (h1.2.1.2.1 k hi17)) rfl ⟨⟨Nat.le_of_ble_eq_true rfl, Nat.le_of_ble_eq_true rfl⟩, Nat.le_of_ble_eq_true rfl, Nat.le_of_ble_eq_true rfl⟩ rfl (Nat.le_of_ble_eq_true rfl) (by decide +kernel) ?_
              refine g_kV (fun G22 hG23 => ?_)
              have h24 : RX cy x ad b nt nf nc nn T (x_st E1 k 4 (-1)) Cu N KT KF KC G22 := by rw [hG23]; exact RXF_st (a := 4) h1 hi17
              refine g_seg [(54, .iinc 6 1, 3), (57, .goto (-37), 3)] 20 [(6, .int (xk + 1)), (7, .ref (ad 2 k)), (0, .ref x), (1, .int n), (2, .int p0), (3, .int 0), (4, .ref (ad 0 1)), (5, .int (nI 8))] [] C (by decide +kernel) rfl ?_
              refine g_subp [2, 3, 4, 5, 6, 7, 0] (lv' := [(0, .ref x), (1, .int n), (2, .int p0), (3, .int 0), (4, .ref (ad 0 1)), (5, .int (nI 8)), (6, .int (xk + 1))]) rfl ?_
              exact ih (k + 1) (x_st E1 k 4 (-1)) G22 (xk + 1) (by omega) (by omega) (lp_s hx) (its_y hs hi17 (by simp only [x_drop, x_fallc]; rw [if_pos h21, if_neg (by rw [h4]; decide)])) (h24)
            · refine g_if_eq (pc := 45) (off := 9) 54 C (by decide +kernel) (by decide) (fun _ => ?_) (fun c9 => absurd (by decide) c9)
              refine g_seg [(54, .iinc 6 1, 3), (57, .goto (-37), 3)] 20 [(6, .int (xk + 1)), (7, .ref (ad 2 k)), (0, .ref x), (1, .int n), (2, .int p0), (3, .int 0), (4, .ref (ad 0 1)), (5, .int (nI 8))] [] C (by decide +kernel) rfl ?_
              refine g_subp [2, 3, 4, 5, 6, 7, 0] (lv' := [(0, .ref x), (1, .int n), (2, .int p0), (3, .int 0), (4, .ref (ad 0 1)), (5, .int (nI 8)), (6, .int (xk + 1))]) rfl ?_
              exact ih (k + 1) E1 G19 (xk + 1) (by omega) (by omega) (lp_s hx) (its_y hs hi17 (by simp only [x_drop]; rw [if_neg h21])) (h1)
          · refine g_seg [(32, .astore 7, 2), (34, .aload 7, 2)] 36 [(7, .null), (0, .ref x), (1, .int n), (2, .int p0), (3, .int 0), (4, .ref (ad 0 1)), (5, .int (nI 8)), (6, .int xk)] [.null] C (by decide +kernel) rfl ?_
            refine g_ifnullN (pc := 36) (off := 18) 54 C (by decide +kernel) (by decide) ?_
            refine g_seg [(54, .iinc 6 1, 3), (57, .goto (-37), 3)] 20 [(6, .int (xk + 1)), (7, .null), (0, .ref x), (1, .int n), (2, .int p0), (3, .int 0), (4, .ref (ad 0 1)), (5, .int (nI 8))] [] C (by decide +kernel) rfl ?_
            refine g_subp [2, 3, 4, 5, 6, 7, 0] (lv' := [(0, .ref x), (1, .int n), (2, .int p0), (3, .int 0), (4, .ref (ad 0 1)), (5, .int (nI 8)), (6, .int (xk + 1))]) rfl ?_
            exact ih (k + 1) E1 G1 (xk + 1) (by omega) (by omega) (lp_s hx) (its_n hs hi17) (h1)
    exact lp15 (8 + 1) 0 E G2 0 (by omega) (by omega) (nI_0.symm) (its_0) (h)
set_option maxHeartbeats 4000000 in
set_option maxRecDepth 100000 in
theorem c_X4_endFlights (l : Launch) (D : va_G) (cy : Nat → ClassId) {G : GG} {x : Nat} {ad : Nat → Nat → Nat} {b : Int32} {nt nf nc nn : Nat} {T E Cu N KT KF KC : Rw} (h : RX cy x ad b nt nf nc nn T E Cu N KT KF KC G) (hwok : s_wok T nt) : Ctr l D cy yX4_endFlights prog_1_method_41_code 7 (some .int) kX4_endFlights [.ref x] G (pI (fun v G' => v = (its (x_land N nn T nt nf b) (E, 0) nf).2 ∧ RX cy x ad b nt nf nc nn T (its (x_land N nn T nt nf b) (E, 0) nf).1 Cu N KT KF KC G')) := by
  refine Ctr.mk (by decide +kernel) (Nat.le_of_ble_eq_true rfl) ?_
  intro κ C R
  refine g_pc (pc' := 0) rfl ?_
  refine g_seg [(0, .iconst 0, 1), (1, .istore_n 1, 1), (2, .aload_n 0, 1)] 3 [(1, .int 0), (0, .ref x)] [.ref x] C (by decide +kernel) rfl ?_
  refine g_getf (pc := 3) (k := 1) (v := .ref (ad 0 1)) C fl_X4_17 (h.1.1) rfl (by decide +kernel) ?_
  refine g_seg [(6, .astore_n 2, 1), (7, .aload_n 2, 1)] 8 [(2, .ref (ad 0 1)), (1, .int 0), (0, .ref x)] [.ref (ad 0 1)] C (by decide +kernel) rfl ?_
  refine g_alenA (pc := 8) (len := 8) (t0 := 2) C (h.1.2.2.1) rfl (by decide +kernel) ?_
  refine g_seg [(9, .istore_n 3, 1), (10, .iconst 0, 1), (11, .istore 4, 2)] 13 [(4, .int 0), (3, .int (nI 8)), (2, .ref (ad 0 1)), (1, .int 0), (0, .ref x)] [] C (by decide +kernel) rfl ?_
  refine g_subp [4, 3, 2, 1, 0] (lv' := [(0, .ref x), (1, .int 0), (2, .ref (ad 0 1)), (3, .int (nI 8)), (4, .int 0)]) rfl ?_
  have lp1 : ∀ (m k : Nat) (E1 : Rw) (G1 : GG) (kk xk : Int32), 8 + 1 ≤ k + m → k ≤ 8 → xk = nI k → (E1, kk) = its (x_land N nn T nt nf b) (E, 0) (min k nf) → RX cy x ad b nt nf nc nn T E1 Cu N KT KF KC G1 → PG κ 7 0 0 G1 [(0, .ref x), (1, .int kk), (2, .ref (ad 0 1)), (3, .int (nI 8)), (4, .int xk)] 13 [] := by
    intro m
    induction m with
    | zero => intro k E1 G1 kk xk h1 h2; intros; exact absurd h1 (by omega)
    | succ m ih =>
      intro k E1 G1 kk xk hm hk hx hs h1
      refine g_seg [(13, .iload 4, 2), (15, .iload_n 3, 1)] 16 [(0, .ref x), (1, .int kk), (2, .ref (ad 0 1)), (3, .int (nI 8)), (4, .int xk)] [.int (nI 8), .int xk] C (by decide +kernel) rfl ?_
      refine g_icmp_ge (pc := 16) (off := 87) 103 C (by decide +kernel) (by decide) (fun c2 => ?_) (fun c2 => ?_)
      · have hk8 : k = 8 := by have := lp_ge hx (by omega) (by decide) c2; omega
        refine g_seg [(103, .iload_n 1, 1)] 104 [(0, .ref x), (1, .int kk), (2, .ref (ad 0 1)), (3, .int (nI 8)), (4, .int xk)] [.int kk] C (by decide +kernel) rfl ?_
        exact g_iret (pc := 104) C R (⟨_, rfl, by rw [← its_e hs hk8 (h.2.2.2.2.1)], by rw [← its_e hs hk8 (h.2.2.2.2.1)]; exact h1⟩) (Nat.le_of_ble_eq_true rfl) (Nat.le_of_ble_eq_true rfl) (by decide +kernel)
      · have hk8 : k < 8 := by have := lp_lt hx (by omega) (by decide) c2; omega
        refine g_seg [(19, .aload_n 2, 1), (20, .iload 4, 2)] 22 [(0, .ref x), (1, .int kk), (2, .ref (ad 0 1)), (3, .int (nI 8)), (4, .int xk)] [.int xk, .ref (ad 0 1)] C (by decide +kernel) rfl ?_
        refine g_aaldA (pc := 22) (len := 8) (t0 := 2) (j := k) C (h1.1.2.2.1) rfl (hx) (hk8) (by decide) (by decide +kernel) (fun hi3 => ?_) (fun hi3 => ?_)
        · refine g_seg [(23, .astore 5, 2), (25, .aload 5, 2)] 27 [(5, .ref (ad 2 k)), (0, .ref x), (1, .int kk), (2, .ref (ad 0 1)), (3, .int (nI 8)), (4, .int xk)] [.ref (ad 2 k)] C (by decide +kernel) rfl ?_
          refine g_ifnull (pc := 27) (off := 70) C (by decide +kernel) ?_
          refine g_seg [(30, .aload 5, 2), (32, .aload_n 0, 1)] 33 [(5, .ref (ad 2 k)), (0, .ref x), (1, .int kk), (2, .ref (ad 0 1)), (3, .int (nI 8)), (4, .int xk)] [.ref x, .ref (ad 2 k)] C (by decide +kernel) rfl ?_
          refine g_getf (pc := 33) (k := 8) (v := .int b) C fl_X4_53 (h1.1.1) rfl (by decide +kernel) ?_
          refine g_callV (pc := 36) C mV_X1_comesIn q271 (h1.2.1.2.1 k hi3) rfl rfl (c_X1_comesIn l D cy G1 (ad 2 k) (E1 k 0) (E1 k 1) (E1 k 2) (E1 k 3) (E1 k 4) (KF k 0) (KF k 1) (KF k 2) (KF k 3) (KF k 4) b (h1.2.1.2.1 k hi3)) rfl ⟨⟨Nat.le_of_ble_eq_true rfl, Nat.le_of_ble_eq_true rfl⟩, Nat.le_of_ble_eq_true rfl, Nat.le_of_ble_eq_true rfl⟩ rfl (Nat.le_of_ble_eq_true rfl) (by decide +kernel) ?_
          refine g_kI (fun v6 G5 hp4 => ?_)
          obtain ⟨rfl, hp4⟩ := hp4
          rcases hp4 with ⟨rfl, h7⟩ | ⟨rfl, h7⟩
          · refine g_if_eq (pc := 39) (off := 58) 97 C (by decide +kernel) (by decide) (fun c9 => absurd c9 (by decide)) (fun _ => ?_)
            refine g_seg [(42, .aload_n 0, 1), (43, .aload 5, 2)] 45 [(5, .ref (ad 2 k)), (0, .ref x), (1, .int kk), (2, .ref (ad 0 1)), (3, .int (nI 8)), (4, .int xk)] [.ref (ad 2 k), .ref x] C (by decide +kernel) rfl ?_
            refine g_getf (pc := 45) (k := 2) (v := .int (E1 k 2)) C fl_X4_232 (h1.2.1.2.1 k hi3) rfl (by decide +kernel) ?_
            refine g_callV (pc := 48) C mV_X4_catcherAt q275 (h1.1.1) rfl rfl (c_X4_catcherAt l D cy h1 hwok (E1 k 2)) rfl ⟨⟨Nat.le_of_ble_eq_true rfl, Nat.le_of_ble_eq_true rfl⟩, Nat.le_of_ble_eq_true rfl, Nat.le_of_ble_eq_true rfl⟩ rfl (Nat.le_of_ble_eq_true rfl) (by decide +kernel) ?_
            refine g_kI (fun v10 G8 hp9 => ?_)
            obtain ⟨rfl, hp9⟩ := hp9
            rcases hp9 with ⟨t11, ht12, rfl⟩ | ⟨ht12, rfl⟩
            · refine g_seg [(51, .istore 6, 2), (53, .iload 6, 2), (55, .iconst (-1), 1)] 56 [(6, .int (nI t11)), (5, .ref (ad 2 k)), (0, .ref x), (1, .int kk), (2, .ref (ad 0 1)), (3, .int (nI 8)), (4, .int xk)] [.int (-1), .int (nI t11)] C (by decide +kernel) rfl ?_
              refine g_icmp_ne (pc := 56) (off := 20) 76 C (by decide +kernel) (by decide) (fun _ => ?_) (fun c9 => absurd c9 (nI_m1 (t := t11) (by have := (fst_inv ht12).1; have := h.2.2.2.1; omega)))
              refine g_seg [(76, .aload 5, 2), (78, .iload 6, 2)] 80 [(6, .int (nI t11)), (5, .ref (ad 2 k)), (0, .ref x), (1, .int kk), (2, .ref (ad 0 1)), (3, .int (nI 8)), (4, .int xk)] [.int (nI t11), .ref (ad 2 k)] C (by decide +kernel) rfl ?_
              refine g_callV (pc := 80) C mV_X1_hangFrom q290 (h1.2.1.2.1 k hi3) rfl rfl (c_X1_hangFrom l D cy G8 (ad 2 k) (E1 k 0) (E1 k 1) (E1 k 2) (E1 k 3) (E1 k 4) (KF k 0) (KF k 1) (KF k 2) (KF k 3) (KF k 4) (nI t11) (h1.2.1.2.1 k hi3)) rfl ⟨⟨Nat.le_of_ble_eq_true rfl, Nat.le_of_ble_eq_true rfl⟩, Nat.le_of_ble_eq_true rfl, Nat.le_of_ble_eq_true rfl⟩ rfl (Nat.le_of_ble_eq_true rfl) (by decide +kernel) ?_
              refine g_kV (fun G13 hG14 => ?_)
              have h15 : RX cy x ad b nt nf nc nn T (x_st E1 k 1 (nI t11)) Cu N KT KF KC G13 := by rw [hG14]; exact RXF_st h1 hi3
              refine g_seg [(83, .aload 5, 2), (85, .dup, 1)] 86 [(6, .int (nI t11)), (5, .ref (ad 2 k)), (0, .ref x), (1, .int kk), (2, .ref (ad 0 1)), (3, .int (nI 8)), (4, .int xk)] [.ref (ad 2 k), .ref (ad 2 k)] C (by decide +kernel) rfl ?_
              refine g_getf (pc := 86) (k := 4) (v := .int ((x_st E1 k 1 (nI t11)) k 4)) C fl_X4_194 (h15.2.1.2.1 k hi3) rfl (by decide +kernel) ?_
              refine g_seg [(89, .iconst 1, 1), (90, .iadd, 1)] 91 [(6, .int (nI t11)), (5, .ref (ad 2 k)), (0, .ref x), (1, .int kk), (2, .ref (ad 0 1)), (3, .int (nI 8)), (4, .int xk)] [.int (((x_st E1 k 1 (nI t11)) k 4) + 1), .ref (ad 2 k)] C (by decide +kernel) rfl ?_
              refine g_putf (pc := 91) (k := 4) (v := .int (((x_st E1 k 1 (nI t11)) k 4) + 1)) (ty := .int) C fl_X4_194 fp_X1_4 (h15.2.1.2.1 k hi3) (rfl) (by first | rfl | decide) (Nat.le_of_ble_eq_true rfl) (by decide +kernel) ?_
              refine g_abs (P := fun G9 => RX cy x ad b nt nf nc nn T (s_set (x_st E1 k 1 (nI t11)) k 4 (((x_st E1 k 1 (nI t11)) k 4) + 1)) Cu N KT KF KC G9) (RXF_ca h15 hi3) (fun G16 h17 => ?_)
              refine g_seg [(94, .iinc 1 1, 3), (97, .iinc 4 1, 3), (100, .goto (-87), 3)] 13 [(4, .int (xk + 1)), (1, .int (kk + 1)), (6, .int (nI t11)), (5, .ref (ad 2 k)), (0, .ref x), (2, .ref (ad 0 1)), (3, .int (nI 8))] [] C (by decide +kernel) rfl ?_
              refine g_subp [4, 1, 5, 6, 0] (lv' := [(0, .ref x), (1, .int (kk + 1)), (2, .ref (ad 0 1)), (3, .int (nI 8)), (4, .int (xk + 1))]) rfl ?_
              exact ih (k + 1) (s_set (x_st E1 k 1 (nI t11)) k 4 (((x_st E1 k 1 (nI t11)) k 4) + 1)) G16 (kk + 1) (xk + 1) (by omega) (by omega) (lp_s hx) (its_y hs hi3 (by simp only [x_land]; rw [if_pos h7, ht12]; simp [x_st])) (h17)
            · refine g_seg [(51, .istore 6, 2), (53, .iload 6, 2), (55, .iconst (-1), 1)] 56 [(6, .int (-1)), (5, .ref (ad 2 k)), (0, .ref x), (1, .int kk), (2, .ref (ad 0 1)), (3, .int (nI 8)), (4, .int xk)] [.int (-1), .int (-1)] C (by decide +kernel) rfl ?_
              refine g_icmp_ne (pc := 56) (off := 20) 76 C (by decide +kernel) (by decide) (fun c9 => absurd (rfl) c9) (fun _ => ?_)
              refine g_seg [(59, .aload 5, 2), (61, .aload_n 0, 1), (62, .aload 5, 2)] 64 [(6, .int (-1)), (5, .ref (ad 2 k)), (0, .ref x), (1, .int kk), (2, .ref (ad 0 1)), (3, .int (nI 8)), (4, .int xk)] [.ref (ad 2 k), .ref x, .ref (ad 2 k)] C (by decide +kernel) rfl ?_
              refine g_getf (pc := 64) (k := 2) (v := .int (E1 k 2)) C fl_X4_232 (h1.2.1.2.1 k hi3) rfl (by decide +kernel) ?_
              refine g_callV (pc := 67) C mV_X4_isNetSpreadAt q282 (h1.1.1) rfl rfl (c_X4_isNetSpreadAt l D cy h1 (E1 k 2)) rfl ⟨⟨Nat.le_of_ble_eq_true rfl, Nat.le_of_ble_eq_true rfl⟩, Nat.le_of_ble_eq_true rfl, Nat.le_of_ble_eq_true rfl⟩ rfl (Nat.le_of_ble_eq_true rfl) (by decide +kernel) ?_
              refine g_kI (fun v20 G19 hp18 => ?_)
              obtain ⟨rfl, hp18⟩ := hp18
              rcases hp18 with ⟨rfl, h21⟩ | ⟨rfl, h21⟩
              · refine g_callV (pc := 70) C mV_X1_fall q286 (h1.2.1.2.1 k hi3) rfl rfl (c_X1_fall l D cy G19 (ad 2 k) (E1 k 0) (E1 k 1) (E1 k 2) (E1 k 3) (E1 k 4) (KF k 0) (KF k 1) (KF k 2) (KF k 3) (KF k 4) 1 (h1.2.1.2.1 k hi3)) rfl ⟨⟨Nat.le_of_ble_eq_true rfl, Nat.le_of_ble_eq_true rfl⟩, Nat.le_of_ble_eq_true rfl, Nat.le_of_ble_eq_true rfl⟩ rfl (Nat.le_of_ble_eq_true rfl) (by decide +kernel) ?_
                refine g_kV (fun G22 hG23 => ?_)
                have h24 : RX cy x ad b nt nf nc nn T (x_st E1 k 3 (-1)) Cu N KT KF KC G22 := by rw [hG23]; exact RXF_st (a := 3) h1 hi3
                refine g_seg [(73, .goto 24, 3), (97, .iinc 4 1, 3), (100, .goto (-87), 3)] 13 [(4, .int (xk + 1)), (6, .int (-1)), (5, .ref (ad 2 k)), (0, .ref x), (1, .int kk), (2, .ref (ad 0 1)), (3, .int (nI 8))] [] C (by decide +kernel) rfl ?_
                refine g_subp [3, 4, 5, 6, 0] (lv' := [(0, .ref x), (1, .int kk), (2, .ref (ad 0 1)), (3, .int (nI 8)), (4, .int (xk + 1))]) rfl ?_
                exact ih (k + 1) (x_st E1 k 3 (-1)) G22 kk (xk + 1) (by omega) (by omega) (lp_s hx) (its_y hs hi3 (by simp only [x_land, x_fallc]; rw [if_pos h7, ht12]; simp only; rw [if_pos (h21)])) (h24)
              · refine g_callV (pc := 70) C mV_X1_fall q286 (h1.2.1.2.1 k hi3) rfl rfl (c_X1_fall l D cy G19 (ad 2 k) (E1 k 0) (E1 k 1) (E1 k 2) (E1 k 3) (E1 k 4) (KF k 0) (KF k 1) (KF k 2) (KF k 3) (KF k 4) 0 (h1.2.1.2.1 k hi3)) rfl ⟨⟨Nat.le_of_ble_eq_true rfl, Nat.le_of_ble_eq_true rfl⟩, Nat.le_of_ble_eq_true rfl, Nat.le_of_ble_eq_true rfl⟩ rfl (Nat.le_of_ble_eq_true rfl) (by decide +kernel) ?_
                refine g_kV (fun G25 hG26 => ?_)
                have h27 : RX cy x ad b nt nf nc nn T (x_st E1 k 4 (-1)) Cu N KT KF KC G25 := by rw [hG26]; exact RXF_st (a := 4) h1 hi3
                refine g_seg [(73, .goto 24, 3), (97, .iinc 4 1, 3), (100, .goto (-87), 3)] 13 [(4, .int (xk + 1)), (6, .int (-1)), (5, .ref (ad 2 k)), (0, .ref x), (1, .int kk), (2, .ref (ad 0 1)), (3, .int (nI 8))] [] C (by decide +kernel) rfl ?_
                refine g_subp [3, 4, 5, 6, 0] (lv' := [(0, .ref x), (1, .int kk), (2, .ref (ad 0 1)), (3, .int (nI 8)), (4, .int (xk + 1))]) rfl ?_
                exact ih (k + 1) (x_st E1 k 4 (-1)) G25 kk (xk + 1) (by omega) (by omega) (lp_s hx) (its_y hs hi3 (by simp only [x_land, x_fallc]; rw [if_pos h7, ht12]; simp only; rw [if_neg (by rw [h21]; decide)])) (h27)
          · refine g_if_eq (pc := 39) (off := 58) 97 C (by decide +kernel) (by decide) (fun _ => ?_) (fun c9 => absurd (by decide) c9)
            refine g_seg [(97, .iinc 4 1, 3), (100, .goto (-87), 3)] 13 [(4, .int (xk + 1)), (5, .ref (ad 2 k)), (0, .ref x), (1, .int kk), (2, .ref (ad 0 1)), (3, .int (nI 8))] [] C (by decide +kernel) rfl ?_
            refine g_subp [2, 3, 4, 5, 0] (lv' := [(0, .ref x), (1, .int kk), (2, .ref (ad 0 1)), (3, .int (nI 8)), (4, .int (xk + 1))]) rfl ?_
            exact ih (k + 1) E1 G5 kk (xk + 1) (by omega) (by omega) (lp_s hx) (its_y hs hi3 (by simp only [x_land]; rw [if_neg h7])) (h1)
        · refine g_seg [(23, .astore 5, 2), (25, .aload 5, 2)] 27 [(5, .null), (0, .ref x), (1, .int kk), (2, .ref (ad 0 1)), (3, .int (nI 8)), (4, .int xk)] [.null] C (by decide +kernel) rfl ?_
          refine g_ifnullN (pc := 27) (off := 70) 97 C (by decide +kernel) (by decide) ?_
          refine g_seg [(97, .iinc 4 1, 3), (100, .goto (-87), 3)] 13 [(4, .int (xk + 1)), (5, .null), (0, .ref x), (1, .int kk), (2, .ref (ad 0 1)), (3, .int (nI 8))] [] C (by decide +kernel) rfl ?_
          refine g_subp [2, 3, 4, 5, 0] (lv' := [(0, .ref x), (1, .int kk), (2, .ref (ad 0 1)), (3, .int (nI 8)), (4, .int (xk + 1))]) rfl ?_
          exact ih (k + 1) E1 G1 kk (xk + 1) (by omega) (by omega) (lp_s hx) (its_n hs hi3) (h1)
  exact lp1 (8 + 1) 0 E G 0 0 (by omega) (by omega) (nI_0.symm) (its_0) (h)
set_option maxHeartbeats 4000000 in
set_option maxRecDepth 100000 in
theorem c_X4_wearRopes (l : Launch) (D : va_G) (cy : Nat → ClassId) {G : GG} {x : Nat} {ad : Nat → Nat → Nat} {b : Int32} {nt nf nc nn : Nat} {T E Cu N KT KF KC : Rw} (h : RX cy x ad b nt nf nc nn T E Cu N KT KF KC G) (hwok : s_wok T nt) : Ctr l D cy yX4_wearRopes prog_1_method_43_code 3 none kX4_wearRopes [.ref x] G (pV (fun G' => RX cy x ad b nt nf nc nn (its (x_wear N nn nf b) (T, E) nt).1 (its (x_wear N nn nf b) (T, E) nt).2 Cu N KT KF KC G')) := by
  refine Ctr.mk (by decide +kernel) (Nat.le_of_ble_eq_true rfl) ?_
  intro κ C R
  refine g_pc (pc' := 0) rfl ?_
  refine g_seg [(0, .iconst 0, 1), (1, .istore_n 1, 1)] 2 [(1, .int 0), (0, .ref x)] [] C (by decide +kernel) rfl ?_
  refine g_subp [1, 0] (lv' := [(0, .ref x), (1, .int 0)]) rfl ?_
  have lp1 : ∀ (m k : Nat) (T1 E1 : Rw) (G1 : GG) (xk : Int32), 6 + 1 ≤ k + m → k ≤ 6 → xk = nI k → (T1, E1) = its (x_wear N nn nf b) (T, E) (min k nt) → RX cy x ad b nt nf nc nn T1 E1 Cu N KT KF KC G1 → s_wok T1 nt → PG κ 3 0 0 G1 [(0, .ref x), (1, .int xk)] 2 [] := by
    intro m
    induction m with
    | zero => intro k T1 E1 G1 xk h1 h2; intros; exact absurd h1 (by omega)
    | succ m ih =>
      intro k T1 E1 G1 xk hm hk hx hs h1 hw1
      refine g_seg [(2, .iload_n 1, 1), (3, .aload_n 0, 1)] 4 [(0, .ref x), (1, .int xk)] [.ref x, .int xk] C (by decide +kernel) rfl ?_
      refine g_getf (pc := 4) (k := 0) (v := .ref (ad 0 0)) C fl_X4_11 (h1.1.1) rfl (by decide +kernel) ?_
      refine g_alenA (pc := 7) (len := 6) (t0 := 1) C (h1.1.2.1) rfl (by decide +kernel) ?_
      refine g_icmp_ge (pc := 8) (off := 67) 75 C (by decide +kernel) (by decide) (fun c2 => ?_) (fun c2 => ?_)
      · have hk8 : k = 6 := by have := lp_ge hx (by omega) (by decide) c2; omega
        exact g_vret (pc := 75) C R (⟨rfl, by rw [← its_e hs hk8 (h.2.2.2.1)]; exact h1⟩) (Nat.le_of_ble_eq_true rfl) (Nat.le_of_ble_eq_true rfl) (by decide +kernel)
      · have hk8 : k < 6 := by have := lp_lt hx (by omega) (by decide) c2; omega
        refine g_seg [(11, .aload_n 0, 1)] 12 [(0, .ref x), (1, .int xk)] [.ref x] C (by decide +kernel) rfl ?_
        refine g_getf (pc := 12) (k := 0) (v := .ref (ad 0 0)) C fl_X4_11 (h1.1.1) rfl (by decide +kernel) ?_
        refine g_seg [(15, .iload_n 1, 1)] 16 [(0, .ref x), (1, .int xk)] [.int xk, .ref (ad 0 0)] C (by decide +kernel) rfl ?_
        refine g_aaldA (pc := 16) (len := 6) (t0 := 1) (j := k) C (h1.1.2.1) rfl (hx) (hk8) (by decide) (by decide +kernel) (fun hi3 => ?_) (fun hi3 => ?_)
        · refine g_seg [(17, .astore_n 2, 1), (18, .aload_n 2, 1)] 19 [(2, .ref (ad 1 k)), (0, .ref x), (1, .int xk)] [.ref (ad 1 k)] C (by decide +kernel) rfl ?_
          refine g_ifnull (pc := 19) (off := 50) C (by decide +kernel) ?_
          refine g_seg [(22, .aload_n 2, 1)] 23 [(2, .ref (ad 1 k)), (0, .ref x), (1, .int xk)] [.ref (ad 1 k)] C (by decide +kernel) rfl ?_
          refine g_getf (pc := 23) (k := 6) (v := .int (T1 k 5)) C fl_X4_70 (h1.2.1.1 k hi3) rfl (by decide +kernel) ?_
          refine g_if_eq (pc := 26) (off := 43) 69 C (by decide +kernel) (by decide) (fun c4 => ?_) (fun c4 => ?_)
          · refine g_seg [(69, .iinc 1 1, 3), (72, .goto (-70), 3)] 2 [(1, .int (xk + 1)), (2, .ref (ad 1 k)), (0, .ref x)] [] C (by decide +kernel) rfl ?_
            refine g_subp [2, 0] (lv' := [(0, .ref x), (1, .int (xk + 1))]) rfl ?_
            exact ih (k + 1) T1 E1 G1 (xk + 1) (by omega) (by omega) (lp_s hx) (its_y hs hi3 (by simp only [x_wear]; rw [if_neg (fun h9 => h9.1 c4)])) (h1) (hw1)
          · refine g_seg [(29, .aload_n 2, 1), (30, .aload_n 0, 1)] 31 [(2, .ref (ad 1 k)), (0, .ref x), (1, .int xk)] [.ref x, .ref (ad 1 k)] C (by decide +kernel) rfl ?_
            refine g_getf (pc := 31) (k := 8) (v := .int b) C fl_X4_53 (h1.1.1) rfl (by decide +kernel) ?_
            refine g_callV (pc := 34) C mV_X3_isAtLeftEndIn q298 (h1.2.1.1 k hi3) rfl rfl (c_X3_isAtLeftEndIn l D cy G1 (ad 1 k) (T1 k 0) (T1 k 1) (T1 k 3) (T1 k 2) (T1 k 6) (T1 k 4) (T1 k 5) (KT k 0) (KT k 1) (h1.2.1.1 k hi3) b (hw1 k hi3)) rfl ⟨⟨Nat.le_of_ble_eq_true rfl, Nat.le_of_ble_eq_true rfl⟩, Nat.le_of_ble_eq_true rfl, Nat.le_of_ble_eq_true rfl⟩ rfl (Nat.le_of_ble_eq_true rfl) (by decide +kernel) ?_
            refine g_kI (fun v7 G6 hp5 => ?_)
            obtain ⟨rfl, hp5⟩ := hp5
            rcases hp5 with ⟨rfl, h8⟩ | ⟨rfl, h8⟩
            · refine g_if_eq (pc := 37) (off := 32) 69 C (by decide +kernel) (by decide) (fun c9 => absurd c9 (by decide)) (fun _ => ?_)
              refine g_seg [(40, .aload_n 2, 1), (41, .aload_n 0, 1), (42, .iload_n 1, 1)] 43 [(2, .ref (ad 1 k)), (0, .ref x), (1, .int xk)] [.int xk, .ref x, .ref (ad 1 k)] C (by decide +kernel) rfl ?_
              refine g_callV (pc := 43) C mV_X4_hangersOf q175 (h1.1.1) rfl rfl (c_X4_hangersOf l D cy h1 xk) rfl ⟨⟨Nat.le_of_ble_eq_true rfl, Nat.le_of_ble_eq_true rfl⟩, Nat.le_of_ble_eq_true rfl, Nat.le_of_ble_eq_true rfl⟩ rfl (Nat.le_of_ble_eq_true rfl) (by decide +kernel) ?_
              refine g_kI (fun v11 G10 hp9 => ?_)
              obtain ⟨rfl, rfl⟩ := hp9
              refine g_callV (pc := 46) C mV_X3_wear q302 (h1.2.1.1 k hi3) rfl rfl (c_X3_wear l D cy G10 (ad 1 k) (T1 k 0) (T1 k 1) (T1 k 3) (T1 k 2) (T1 k 6) (T1 k 4) (T1 k 5) (KT k 0) (KT k 1) (nI (s_hangE E1 nf xk)) (h1.2.1.1 k hi3)) rfl ⟨⟨Nat.le_of_ble_eq_true rfl, Nat.le_of_ble_eq_true rfl⟩, Nat.le_of_ble_eq_true rfl, Nat.le_of_ble_eq_true rfl⟩ rfl (Nat.le_of_ble_eq_true rfl) (by decide +kernel) ?_
              refine g_kV (fun G12 hG13 => ?_)
              have h14 : RX cy x ad b nt nf nc nn (x_wr T1 E1 nf k) E1 Cu N KT KF KC G12 := by rw [hG13]; exact (by first | exact RXT_wear h1 hi3 | (rw [hx]; exact RXT_wear h1 hi3))
              refine g_seg [(49, .aload_n 2, 1)] 50 [(2, .ref (ad 1 k)), (0, .ref x), (1, .int xk)] [.ref (ad 1 k)] C (by decide +kernel) rfl ?_
              refine g_getf (pc := 50) (k := 6) (v := .int ((x_wr T1 E1 nf k) k 5)) C fl_X4_70 (h14.2.1.1 k hi3) rfl (by decide +kernel) ?_
              refine g_if_ne (pc := 53) (off := 16) 69 C (by decide +kernel) (by decide) (fun c15 => ?_) (fun c15 => ?_)
              · refine g_seg [(69, .iinc 1 1, 3), (72, .goto (-70), 3)] 2 [(1, .int (xk + 1)), (2, .ref (ad 1 k)), (0, .ref x)] [] C (by decide +kernel) rfl ?_
                refine g_subp [2, 0] (lv' := [(0, .ref x), (1, .int (xk + 1))]) rfl ?_
                exact ih (k + 1) (x_wr T1 E1 nf k) E1 G12 (xk + 1) (by omega) (by omega) (lp_s hx) (its_y hs hi3 (by simp only [x_wear]; rw [if_pos ⟨c4, h8⟩, if_neg c15])) (h14) (wok_wr hw1)
              · refine g_seg [(56, .aload_n 0, 1), (57, .iload_n 1, 1), (58, .aload_n 2, 1), (59, .aload_n 0, 1)] 60 [(2, .ref (ad 1 k)), (0, .ref x), (1, .int xk)] [.ref x, .ref (ad 1 k), .int xk, .ref x] C (by decide +kernel) rfl ?_
                refine g_getf (pc := 60) (k := 8) (v := .int b) C fl_X4_53 (h14.1.1) rfl (by decide +kernel) ?_
                refine g_callV (pc := 63) C mV_X3_placeIn q161 (h14.2.1.1 k hi3) rfl rfl (c_X3_placeIn l D cy G12 (ad 1 k) ((x_wr T1 E1 nf k) k 0) ((x_wr T1 E1 nf k) k 1) ((x_wr T1 E1 nf k) k 3) ((x_wr T1 E1 nf k) k 2) ((x_wr T1 E1 nf k) k 6) ((x_wr T1 E1 nf k) k 4) ((x_wr T1 E1 nf k) k 5) (KT k 0) (KT k 1) (h14.2.1.1 k hi3) b (wok_wr hw1 k hi3)) rfl ⟨⟨Nat.le_of_ble_eq_true rfl, Nat.le_of_ble_eq_true rfl⟩, Nat.le_of_ble_eq_true rfl, Nat.le_of_ble_eq_true rfl⟩ rfl (Nat.le_of_ble_eq_true rfl) (by decide +kernel) ?_
                refine g_kI (fun v18 G17 hp16 => ?_)
                obtain ⟨rfl, rfl⟩ := hp16
                refine g_callV (pc := 66) C mV_X4_dropFrom q306 (h14.1.1) rfl rfl (c_X4_dropFrom l D cy h14 xk (s_pl ((x_wr T1 E1 nf k) k 0) ((x_wr T1 E1 nf k) k 1) ((x_wr T1 E1 nf k) k 2) (b - ((x_wr T1 E1 nf k) k 6)))) rfl ⟨⟨Nat.le_of_ble_eq_true rfl, Nat.le_of_ble_eq_true rfl⟩, Nat.le_of_ble_eq_true rfl, Nat.le_of_ble_eq_true rfl⟩ rfl (Nat.le_of_ble_eq_true rfl) (by decide +kernel) ?_
                refine g_kV (fun G19 h20 => ?_)
                refine g_seg [(69, .iinc 1 1, 3), (72, .goto (-70), 3)] 2 [(1, .int (xk + 1)), (2, .ref (ad 1 k)), (0, .ref x)] [] C (by decide +kernel) rfl ?_
                refine g_subp [2, 0] (lv' := [(0, .ref x), (1, .int (xk + 1))]) rfl ?_
                exact ih (k + 1) (x_wr T1 E1 nf k) (its (x_drop N nn (nI k) (s_pl ((x_wr T1 E1 nf k) k 0) ((x_wr T1 E1 nf k) k 1) ((x_wr T1 E1 nf k) k 2) (b - ((x_wr T1 E1 nf k) k 6)))) E1 nf) G19 (xk + 1) (by omega) (by omega) (lp_s hx) (its_y hs hi3 (by simp only [x_wear]; rw [if_pos ⟨c4, h8⟩, if_pos c15] <;> rfl)) (by have e9 := h20; rw [hx] at e9; exact e9) (wok_wr hw1)
            · refine g_if_eq (pc := 37) (off := 32) 69 C (by decide +kernel) (by decide) (fun _ => ?_) (fun c9 => absurd (by decide) c9)
              refine g_seg [(69, .iinc 1 1, 3), (72, .goto (-70), 3)] 2 [(1, .int (xk + 1)), (2, .ref (ad 1 k)), (0, .ref x)] [] C (by decide +kernel) rfl ?_
              refine g_subp [2, 0] (lv' := [(0, .ref x), (1, .int (xk + 1))]) rfl ?_
              exact ih (k + 1) T1 E1 G6 (xk + 1) (by omega) (by omega) (lp_s hx) (its_y hs hi3 (by simp only [x_wear]; rw [if_neg (fun h9 => h8 h9.2)])) (h1) (hw1)
        · refine g_seg [(17, .astore_n 2, 1), (18, .aload_n 2, 1)] 19 [(2, .null), (0, .ref x), (1, .int xk)] [.null] C (by decide +kernel) rfl ?_
          refine g_ifnullN (pc := 19) (off := 50) 69 C (by decide +kernel) (by decide) ?_
          refine g_seg [(69, .iinc 1 1, 3), (72, .goto (-70), 3)] 2 [(1, .int (xk + 1)), (2, .null), (0, .ref x)] [] C (by decide +kernel) rfl ?_
          refine g_subp [2, 0] (lv' := [(0, .ref x), (1, .int (xk + 1))]) rfl ?_
          exact ih (k + 1) T1 E1 G1 (xk + 1) (by omega) (by omega) (lp_s hx) (its_n hs hi3) (h1) (hw1)
  exact lp1 (6 + 1) 0 T E G 0 (by omega) (by omega) (nI_0.symm) (its_0) (h) (hwok)
