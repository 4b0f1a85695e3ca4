set_option maxHeartbeats 4000000 in
set_option maxRecDepth 100000 in
theorem c_X4_rig (l : Launch) (D : va_G) (cy : Nat → ClassId) {G : GG} {x : Nat} {ad : Nat → Nat → Nat} {b : Int32} {nt nf nc nn : Nat} {T E Cu N KT KF KC : Rw} (h : RX cy x ad b nt nf nc nn T E Cu N KT KF KC G) (mid wid wt sg : Int32) : CtrX l D cy yX4_rig prog_1_method_2_code 6 (some .int) kX4_rig [.ref x, .int mid, .int wid, .int wt, .int sg] G (pI (fun v G' => okR mid wid wt sg ∧ nt < 6 ∧ v = nI nt ∧ ∃ ad', RX cy x ad' b (nt + 1) nf nc nn (s_add T nt (rowT mid wid wt sg b)) E Cu N (s_add KT nt z0) KF KC G')) (fun e G' => RX cy x ad b nt nf nc nn T E Cu N KT KF KC G' ∧ ((e = "java/lang/IllegalArgumentException" ∧ ¬ okR mid wid wt sg) ∨ (e = "java/lang/IllegalStateException" ∧ okR mid wid wt sg ∧ ¬ nt < 6))) := by
  refine CtrX.mk (by decide +kernel) (Nat.le_of_ble_eq_true rfl) ?_
  intro κ C R
  refine g_pc (pc' := 0) rfl ?_
  refine g_seg [(0, .iload_n 1, 1), (1, .iconst 0, 1), (2, .bipush 99, 2)] 4 [(0, .ref x), (1, .int mid), (2, .int wid), (3, .int wt), (4, .int sg)] [.int 99, .int 0, .int mid] C (by decide +kernel) rfl ?_
  refine g_callS (pc := 4) C mS_X4_isWithin q86 (c_X4_isWithin l D cy G mid 0 99) rfl ⟨⟨Nat.le_of_ble_eq_true rfl, Nat.le_of_ble_eq_true rfl⟩, Nat.le_of_ble_eq_true rfl, Nat.le_of_ble_eq_true rfl⟩ rfl (Nat.le_of_ble_eq_true rfl) (by decide +kernel) ?_
  refine g_kI (fun v3 G2 hp1 => ?_)
  obtain ⟨rfl, hp1⟩ := hp1
  rcases hp1 with ⟨rfl, h4⟩ | ⟨rfl, h4⟩
  · refine g_if_eq (pc := 7) (off := 34) 41 C (by decide +kernel) (by decide) (fun c9 => absurd c9 (by decide)) (fun _ => ?_)
    refine g_seg [(10, .iload_n 2, 1), (11, .iconst 1, 1), (12, .bipush 20, 2)] 14 [(0, .ref x), (1, .int mid), (2, .int wid), (3, .int wt), (4, .int sg)] [.int 20, .int 1, .int wid] C (by decide +kernel) rfl ?_
    refine g_callS (pc := 14) C mS_X4_isWithin q86 (c_X4_isWithin l D cy G2 wid 1 20) rfl ⟨⟨Nat.le_of_ble_eq_true rfl, Nat.le_of_ble_eq_true rfl⟩, Nat.le_of_ble_eq_true rfl, Nat.le_of_ble_eq_true rfl⟩ rfl (Nat.le_of_ble_eq_true rfl) (by decide +kernel) ?_
    refine g_kI (fun v7 G6 hp5 => ?_)
    obtain ⟨rfl, hp5⟩ := hp5
    rcases hp5 with ⟨rfl, h8⟩ | ⟨rfl, h8⟩
    · refine g_if_eq (pc := 17) (off := 24) 41 C (by decide +kernel) (by decide) (fun c9 => absurd c9 (by decide)) (fun _ => ?_)
      refine g_seg [(20, .iload_n 3, 1), (21, .iconst 0, 1), (22, .bipush 10, 2)] 24 [(0, .ref x), (1, .int mid), (2, .int wid), (3, .int wt), (4, .int sg)] [.int 10, .int 0, .int wt] C (by decide +kernel) rfl ?_
      refine g_callS (pc := 24) C mS_X4_isWithin q86 (c_X4_isWithin l D cy G6 wt 0 10) rfl ⟨⟨Nat.le_of_ble_eq_true rfl, Nat.le_of_ble_eq_true rfl⟩, Nat.le_of_ble_eq_true rfl, Nat.le_of_ble_eq_true rfl⟩ rfl (Nat.le_of_ble_eq_true rfl) (by decide +kernel) ?_
      refine g_kI (fun v11 G10 hp9 => ?_)
      obtain ⟨rfl, hp9⟩ := hp9
      rcases hp9 with ⟨rfl, h12⟩ | ⟨rfl, h12⟩
      · refine g_if_eq (pc := 27) (off := 14) 41 C (by decide +kernel) (by decide) (fun c9 => absurd c9 (by decide)) (fun _ => ?_)
        refine g_seg [(30, .iload 4, 2), (32, .iconst 1, 1), (33, .bipush 99, 2)] 35 [(0, .ref x), (1, .int mid), (2, .int wid), (3, .int wt), (4, .int sg)] [.int 99, .int 1, .int sg] C (by decide +kernel) rfl ?_
        refine g_callS (pc := 35) C mS_X4_isWithin q86 (c_X4_isWithin l D cy G10 sg 1 99) rfl ⟨⟨Nat.le_of_ble_eq_true rfl, Nat.le_of_ble_eq_true rfl⟩, Nat.le_of_ble_eq_true rfl, Nat.le_of_ble_eq_true rfl⟩ rfl (Nat.le_of_ble_eq_true rfl) (by decide +kernel) ?_
        refine g_kI (fun v15 G14 hp13 => ?_)
        obtain ⟨rfl, hp13⟩ := hp13
        rcases hp13 with ⟨rfl, h16⟩ | ⟨rfl, h16⟩
        · refine g_if_ne (pc := 38) (off := 13) 51 C (by decide +kernel) (by decide) (fun _ => ?_) (fun c9 => absurd c9 (by decide))
          refine g_seg [(51, .aload_n 0, 1)] 52 [(0, .ref x), (1, .int mid), (2, .int wid), (3, .int wt), (4, .int sg)] [.ref x] C (by decide +kernel) rfl ?_
          refine g_getf (pc := 52) (k := 4) (v := .int (nI nt)) C fl_X4_44 (h.1.1) rfl (by decide +kernel) ?_
          refine g_seg [(55, .istore 5, 2), (57, .iload 5, 2), (59, .iconst 0, 1), (60, .aload_n 0, 1)] 61 [(5, .int (nI nt)), (0, .ref x), (1, .int mid), (2, .int wid), (3, .int wt), (4, .int sg)] [.ref x, .int 0, .int (nI nt)] C (by decide +kernel) rfl ?_
          refine g_getf (pc := 61) (k := 0) (v := .ref (ad 0 0)) C fl_X4_11 (h.1.1) rfl (by decide +kernel) ?_
          refine g_alenA (pc := 64) (len := 6) (t0 := 1) C (h.1.2.1) rfl (by decide +kernel) ?_
          refine g_seg [(65, .iconst 1, 1), (66, .isub, 1)] 67 [(5, .int (nI nt)), (0, .ref x), (1, .int mid), (2, .int wid), (3, .int wt), (4, .int sg)] [.int ((nI 6) - 1), .int 0, .int (nI nt)] C (by decide +kernel) rfl ?_
          refine g_callS (pc := 67) C mS_X4_isWithin q86 (c_X4_isWithin l D cy G14 (nI nt) 0 ((nI 6) - 1)) rfl ⟨⟨Nat.le_of_ble_eq_true rfl, Nat.le_of_ble_eq_true rfl⟩, Nat.le_of_ble_eq_true rfl, Nat.le_of_ble_eq_true rfl⟩ rfl (Nat.le_of_ble_eq_true rfl) (by decide +kernel) ?_
          refine g_kI (fun v19 G18 hp17 => ?_)
          obtain ⟨rfl, hp17⟩ := hp17
          rcases hp17 with ⟨rfl, h20⟩ | ⟨rfl, h20⟩
          · refine g_if_ne (pc := 70) (off := 13) 83 C (by decide +kernel) (by decide) (fun _ => ?_) (fun c9 => absurd c9 (by decide))
            refine g_seg [(83, .aload_n 0, 1)] 84 [(5, .int (nI nt)), (0, .ref x), (1, .int mid), (2, .int wid), (3, .int wt), (4, .int sg)] [.ref x] C (by decide +kernel) rfl ?_
            refine g_getf (pc := 84) (k := 0) (v := .ref (ad 0 0)) C fl_X4_11 (h.1.1) rfl (by decide +kernel) ?_
            refine g_seg [(87, .iload 5, 2)] 89 [(5, .int (nI nt)), (0, .ref x), (1, .int mid), (2, .int wid), (3, .int wt), (4, .int sg)] [.int (nI nt), .ref (ad 0 0)] C (by decide +kernel) rfl ?_
            refine g_new (pc := 89) (ci := 3) (fs := [.int 0, .int 0, .int 0, .int 0, .int 0, .int 0, .int 0, .int 0, .int 0]) C rfl inX3 tyX3_ok q42 q432 q28 (fun j hj => by rcases (show j = 0 ∨ j = 1 ∨ j = 2 ∨ j = 3 ∨ j = 4 ∨ j = 5 ∨ j = 6 ∨ j = 7 ∨ j = 8 by omega) with rfl | rfl | rfl | rfl | rfl | rfl | rfl | rfl | rfl <;> rfl) (Nat.le_of_ble_eq_true rfl) (Nat.le_of_ble_eq_true rfl) (by decide +kernel) (fun q21 hq22 => ?_)
            refine g_seg [(92, .dup, 1), (93, .iload_n 1, 1), (94, .iload_n 2, 1), (95, .iload_n 3, 1), (96, .iload 4, 2), (98, .aload_n 0, 1)] 99 [(5, .int (nI nt)), (0, .ref x), (1, .int mid), (2, .int wid), (3, .int wt), (4, .int sg)] [.ref x, .int sg, .int wt, .int wid, .int mid, .ref q21, .ref q21, .int (nI nt), .ref (ad 0 0)] C (by decide +kernel) rfl ?_
            refine g_getf (pc := 99) (k := 8) (v := .int b) C fl_X4_53 ((RX.nw h hq22).1.1) rfl (by decide +kernel) ?_
            refine g_callI (pc := 102) C mI_X3_init q433 (c_X3_init l D cy (g_up G18 q21 (.inr (3, [.int 0, .int 0, .int 0, .int 0, .int 0, .int 0, .int 0, .int 0, .int 0]))) q21 mid wid wt sg b (g_up_self ..)) rfl ⟨⟨Nat.le_of_ble_eq_true rfl, Nat.le_of_ble_eq_true rfl⟩, Nat.le_of_ble_eq_true rfl, Nat.le_of_ble_eq_true rfl⟩ rfl (Nat.le_of_ble_eq_true rfl) (by decide +kernel) ?_
            refine g_kV (fun G23 hG24 => ?_)
            rw [g_up_up] at hG24
            subst hG24
            refine g_aast (pc := 105) (n := 6) (t0 := 1) (ci := 3) C ((RX.nw h hq22).1.2.1) rfl (g_up_self ..) rfl (vp_in_nI ((cap_y (by decide) (by decide) (by have := h.2.2.2.1; omega) h20)) (by decide)) (by decide +kernel) ?_
            refine g_seg [(106, .aload_n 0, 1), (107, .iload 5, 2), (109, .iconst 1, 1), (110, .iadd, 1)] 111 [(5, .int (nI nt)), (0, .ref x), (1, .int mid), (2, .int wid), (3, .int wt), (4, .int sg)] [.int ((nI nt) + 1), .ref x] C (by decide +kernel) rfl ?_
            refine g_putf (pc := 111) (k := 4) (v := .int ((nI nt) + 1)) (ty := .int) C fl_X4_44 fp_X4_4 ((g_oth (RX.nw h hq22).1.1 (RX.nw h hq22).1.2.1 (by simp [oX, oA]))) (rfl) (by first | rfl | decide) (Nat.le_of_ble_eq_true rfl) (by decide +kernel) ?_
            refine g_abs (P := fun G9 => RX cy x (adU ad 1 nt q21) b (nt + 1) nf nc nn (s_add T nt (rowT mid wid wt sg b)) E Cu N (s_add KT nt z0) KF KC G9) (by rw [show (.inr (3, [.int mid, .int wid, .int sg, .int wt, .int b, .int 0, .int 1, .int 0, .int 0]) : va_E) = oT (s_add T nt (rowT mid wid wt sg b)) (s_add KT nt z0) nt by simp [oT, oF, oC, oN, s_add, rowT, rowF, rowC, rowN, z0]]; exact RX_addT (r := rowT mid wid wt sg b) (kr := z0) h hq22 (cap_y (by decide) (by decide) (by have := h.2.2.2.1; omega) h20)) (fun G25 h26 => ?_)
            refine g_seg [(114, .iload 5, 2)] 116 [(5, .int (nI nt)), (0, .ref x), (1, .int mid), (2, .int wid), (3, .int wt), (4, .int sg)] [.int (nI nt)] C (by decide +kernel) rfl ?_
            exact g_iretX (pc := 116) C R (⟨_, rfl, ⟨h4, h8, h12, h16⟩, (cap_y (by decide) (by decide) (by have := h.2.2.2.1; omega) h20), rfl, _, h26⟩) (Nat.le_of_ble_eq_true rfl) (Nat.le_of_ble_eq_true rfl) (by decide +kernel)
          · refine g_if_ne (pc := 70) (off := 13) 83 C (by decide +kernel) (by decide) (fun c9 => absurd (by decide) c9) (fun _ => ?_)
            exact g_throw (pc := 73) (is := 50) (text := "there are 6 trapezes") C R rfl ex_ISE (by decide +kernel) (⟨h, Or.inr (⟨rfl, ⟨h4, h8, h12, h16⟩, cap_n (by decide) (by decide) h20⟩)⟩) (Nat.le_of_ble_eq_true rfl) (Nat.le_of_ble_eq_true rfl) (Nat.le_of_ble_eq_true rfl) (Nat.le_of_ble_eq_true rfl) (by decide +kernel) (by decide +kernel) (by decide +kernel) (by decide +kernel) (by decide +kernel)
        · refine g_if_ne (pc := 38) (off := 13) 51 C (by decide +kernel) (by decide) (fun c9 => absurd (by decide) c9) (fun _ => ?_)
          exact g_throw (pc := 41) (is := 39) (text := "no such trapeze can be made") C R rfl ex_IAE (by decide +kernel) (⟨h, Or.inl ⟨rfl, fun h9 => h16 h9.2.2.2⟩⟩) (Nat.le_of_ble_eq_true rfl) (Nat.le_of_ble_eq_true rfl) (Nat.le_of_ble_eq_true rfl) (Nat.le_of_ble_eq_true rfl) (by decide +kernel) (by decide +kernel) (by decide +kernel) (by decide +kernel) (by decide +kernel)
      · refine g_if_eq (pc := 27) (off := 14) 41 C (by decide +kernel) (by decide) (fun _ => ?_) (fun c9 => absurd (by decide) c9)
        exact g_throw (pc := 41) (is := 39) (text := "no such trapeze can be made") C R rfl ex_IAE (by decide +kernel) (⟨h, Or.inl ⟨rfl, fun h9 => h12 h9.2.2.1⟩⟩) (Nat.le_of_ble_eq_true rfl) (Nat.le_of_ble_eq_true rfl) (Nat.le_of_ble_eq_true rfl) (Nat.le_of_ble_eq_true rfl) (by decide +kernel) (by decide +kernel) (by decide +kernel) (by decide +kernel) (by decide +kernel)
    · refine g_if_eq (pc := 17) (off := 24) 41 C (by decide +kernel) (by decide) (fun _ => ?_) (fun c9 => absurd (by decide) c9)
      exact g_throw (pc := 41) (is := 39) (text := "no such trapeze can be made") C R rfl ex_IAE (by decide +kernel) (⟨h, Or.inl ⟨rfl, fun h9 => h8 h9.2.1⟩⟩) (Nat.le_of_ble_eq_true rfl) (Nat.le_of_ble_eq_true rfl) (Nat.le_of_ble_eq_true rfl) (Nat.le_of_ble_eq_true rfl) (by decide +kernel) (by decide +kernel) (by decide +kernel) (by decide +kernel) (by decide +kernel)
  · refine g_if_eq (pc := 7) (off := 34) 41 C (by decide +kernel) (by decide) (fun _ => ?_) (fun c9 => absurd (by decide) c9)
    exact g_throw (pc := 41) (is := 39) (text := "no such trapeze can be made") C R rfl ex_IAE (by decide +kernel) (⟨h, Or.inl ⟨rfl, fun h9 => h4 h9.1⟩⟩) (Nat.le_of_ble_eq_true rfl) (Nat.le_of_ble_eq_true rfl) (Nat.le_of_ble_eq_true rfl) (Nat.le_of_ble_eq_true rfl) (by decide +kernel) (by decide +kernel) (by decide +kernel) (by decide +kernel) (by decide +kernel)
set_option maxHeartbeats 4000000 in
set_option maxRecDepth 100000 in
theorem c_X4_spread (l : Launch) (D : va_G) (cy : Nat → ClassId) {G : GG} {x : Nat} {ad : Nat → Nat → Nat} {b : Int32} {nt nf nc nn : Nat} {T E Cu N KT KF KC : Rw} (h : RX cy x ad b nt nf nc nn T E Cu N KT KF KC G) (p0 p1 : Int32) : CtrX l D cy yX4_spread prog_1_method_5_code 4 (some .int) kX4_spread [.ref x, .int p0, .int p1] G (pI (fun v G' => okN p0 p1 ∧ nn < 3 ∧ v = nI (nn + 1) ∧ ∃ ad', RX cy x ad' b nt nf nc (nn + 1) T E Cu (s_add N nn (rowN p0 p1)) KT KF KC G')) (fun e G' => RX cy x ad b nt nf nc nn T E Cu N KT KF KC G' ∧ ((e = "java/lang/IllegalArgumentException" ∧ ¬ okN p0 p1) ∨ (e = "java/lang/IllegalStateException" ∧ okN p0 p1 ∧ ¬ nn < 3))) := by
  refine CtrX.mk (by decide +kernel) (Nat.le_of_ble_eq_true rfl) ?_
  intro κ C R
  refine g_pc (pc' := 0) rfl ?_
  refine g_seg [(0, .iload_n 1, 1), (1, .bipush (-50), 2), (3, .sipush 150, 3)] 6 [(0, .ref x), (1, .int p0), (2, .int p1)] [.int 150, .int (-50), .int p0] C (by decide +kernel) rfl ?_
  refine g_callS (pc := 6) C mS_X4_isWithin q86 (c_X4_isWithin l D cy G p0 (-50) 150) rfl ⟨⟨Nat.le_of_ble_eq_true rfl, Nat.le_of_ble_eq_true rfl⟩, Nat.le_of_ble_eq_true rfl, Nat.le_of_ble_eq_true rfl⟩ rfl (Nat.le_of_ble_eq_true rfl) (by decide +kernel) ?_
  refine g_kI (fun v3 G2 hp1 => ?_)
  obtain ⟨rfl, hp1⟩ := hp1
  rcases hp1 with ⟨rfl, h4⟩ | ⟨rfl, h4⟩
  · refine g_if_eq (pc := 9) (off := 20) 29 C (by decide +kernel) (by decide) (fun c9 => absurd c9 (by decide)) (fun _ => ?_)
    refine g_seg [(12, .iload_n 2, 1), (13, .bipush (-50), 2), (15, .sipush 150, 3)] 18 [(0, .ref x), (1, .int p0), (2, .int p1)] [.int 150, .int (-50), .int p1] C (by decide +kernel) rfl ?_
    refine g_callS (pc := 18) C mS_X4_isWithin q86 (c_X4_isWithin l D cy G2 p1 (-50) 150) rfl ⟨⟨Nat.le_of_ble_eq_true rfl, Nat.le_of_ble_eq_true rfl⟩, Nat.le_of_ble_eq_true rfl, Nat.le_of_ble_eq_true rfl⟩ rfl (Nat.le_of_ble_eq_true rfl) (by decide +kernel) ?_
    refine g_kI (fun v7 G6 hp5 => ?_)
    obtain ⟨rfl, hp5⟩ := hp5
    rcases hp5 with ⟨rfl, h8⟩ | ⟨rfl, h8⟩
    · refine g_if_eq (pc := 21) (off := 8) 29 C (by decide +kernel) (by decide) (fun c9 => absurd c9 (by decide)) (fun _ => ?_)
      refine g_seg [(24, .iload_n 1, 1), (25, .iload_n 2, 1)] 26 [(0, .ref x), (1, .int p0), (2, .int p1)] [.int p1, .int p0] C (by decide +kernel) rfl ?_
      refine g_icmp_le (pc := 26) (off := 13) 39 C (by decide +kernel) (by decide) (fun c9 => ?_) (fun c9 => ?_)
      · refine g_seg [(39, .aload_n 0, 1)] 40 [(0, .ref x), (1, .int p0), (2, .int p1)] [.ref x] C (by decide +kernel) rfl ?_
        refine g_getf (pc := 40) (k := 7) (v := .int (nI nn)) C fl_X4_91 (h.1.1) rfl (by decide +kernel) ?_
        refine g_seg [(43, .istore_n 3, 1), (44, .iload_n 3, 1), (45, .iconst 0, 1), (46, .aload_n 0, 1)] 47 [(3, .int (nI nn)), (0, .ref x), (1, .int p0), (2, .int p1)] [.ref x, .int 0, .int (nI nn)] C (by decide +kernel) rfl ?_
        refine g_getf (pc := 47) (k := 3) (v := .ref (ad 0 3)) C fl_X4_29 (h.1.1) rfl (by decide +kernel) ?_
        refine g_alenA (pc := 50) (len := 3) (t0 := 4) C (h.1.2.2.2.2) rfl (by decide +kernel) ?_
        refine g_seg [(51, .iconst 1, 1), (52, .isub, 1)] 53 [(3, .int (nI nn)), (0, .ref x), (1, .int p0), (2, .int p1)] [.int ((nI 3) - 1), .int 0, .int (nI nn)] C (by decide +kernel) rfl ?_
        refine g_callS (pc := 53) C mS_X4_isWithin q86 (c_X4_isWithin l D cy G6 (nI nn) 0 ((nI 3) - 1)) rfl ⟨⟨Nat.le_of_ble_eq_true rfl, Nat.le_of_ble_eq_true rfl⟩, Nat.le_of_ble_eq_true rfl, Nat.le_of_ble_eq_true rfl⟩ rfl (Nat.le_of_ble_eq_true rfl) (by decide +kernel) ?_
        refine g_kI (fun v12 G11 hp10 => ?_)
        obtain ⟨rfl, hp10⟩ := hp10
        rcases hp10 with ⟨rfl, h13⟩ | ⟨rfl, h13⟩
        · refine g_if_ne (pc := 56) (off := 13) 69 C (by decide +kernel) (by decide) (fun _ => ?_) (fun c9 => absurd c9 (by decide))
          refine g_seg [(69, .aload_n 0, 1)] 70 [(3, .int (nI nn)), (0, .ref x), (1, .int p0), (2, .int p1)] [.ref x] C (by decide +kernel) rfl ?_
          refine g_getf (pc := 70) (k := 3) (v := .ref (ad 0 3)) C fl_X4_29 (h.1.1) rfl (by decide +kernel) ?_
          refine g_seg [(73, .iload_n 3, 1)] 74 [(3, .int (nI nn)), (0, .ref x), (1, .int p0), (2, .int p1)] [.int (nI nn), .ref (ad 0 3)] C (by decide +kernel) rfl ?_
          refine g_new (pc := 74) (ci := 2) (fs := [.int 0, .int 0]) C rfl inX2 tyX2_ok q48 q556 q32 (fun j hj => by rcases (show j = 0 ∨ j = 1 by omega) with rfl | rfl <;> rfl) (Nat.le_of_ble_eq_true rfl) (Nat.le_of_ble_eq_true rfl) (by decide +kernel) (fun q14 hq15 => ?_)
          refine g_seg [(77, .dup, 1), (78, .iload_n 1, 1), (79, .iload_n 2, 1)] 80 [(3, .int (nI nn)), (0, .ref x), (1, .int p0), (2, .int p1)] [.int p1, .int p0, .ref q14, .ref q14, .int (nI nn), .ref (ad 0 3)] C (by decide +kernel) rfl ?_
          refine g_callI (pc := 80) C mI_X2_init q557 (c_X2_init l D cy (g_up G11 q14 (.inr (2, [.int 0, .int 0]))) q14 p0 p1 (g_up_self ..)) rfl ⟨⟨Nat.le_of_ble_eq_true rfl, Nat.le_of_ble_eq_true rfl⟩, Nat.le_of_ble_eq_true rfl, Nat.le_of_ble_eq_true rfl⟩ rfl (Nat.le_of_ble_eq_true rfl) (by decide +kernel) ?_
          refine g_kV (fun G16 hG17 => ?_)
          rw [g_up_up] at hG17
          subst hG17
          refine g_aast (pc := 83) (n := 3) (t0 := 4) (ci := 2) C ((RX.nw h hq15).1.2.2.2.2) rfl (g_up_self ..) rfl (vp_in_nI ((cap_y (by decide) (by decide) (by have := h.2.2.2.2.2.2; omega) h13)) (by decide)) (by decide +kernel) ?_
          refine g_seg [(84, .aload_n 0, 1), (85, .iload_n 3, 1), (86, .iconst 1, 1), (87, .iadd, 1)] 88 [(3, .int (nI nn)), (0, .ref x), (1, .int p0), (2, .int p1)] [.int ((nI nn) + 1), .ref x] C (by decide +kernel) rfl ?_
          refine g_putf (pc := 88) (k := 7) (v := .int ((nI nn) + 1)) (ty := .int) C fl_X4_91 fp_X4_7 ((g_oth (RX.nw h hq15).1.1 (RX.nw h hq15).1.2.2.2.2 (by simp [oX, oA]))) (rfl) (by first | rfl | decide) (Nat.le_of_ble_eq_true rfl) (by decide +kernel) ?_
          refine g_abs (P := fun G9 => RX cy x (adU ad 4 nn q14) b nt nf nc (nn + 1) T E Cu (s_add N nn (rowN p0 p1)) KT KF KC G9) (by rw [show (.inr (2, [.int p0, .int p1]) : va_E) = oN (s_add N nn (rowN p0 p1)) nn by simp [oT, oF, oC, oN, s_add, rowT, rowF, rowC, rowN, z0]]; exact RX_addN (r := rowN p0 p1) h hq15 (cap_y (by decide) (by decide) (by have := h.2.2.2.2.2.2; omega) h13)) (fun G18 h19 => ?_)
          refine g_seg [(91, .aload_n 0, 1)] 92 [(3, .int (nI nn)), (0, .ref x), (1, .int p0), (2, .int p1)] [.ref x] C (by decide +kernel) rfl ?_
          refine g_getf (pc := 92) (k := 7) (v := .int (nI (nn + 1))) C fl_X4_91 (h19.1.1) rfl (by decide +kernel) ?_
          exact g_iretX (pc := 95) C R (⟨_, rfl, ⟨h4, h8, c9⟩, (cap_y (by decide) (by decide) (by have := h.2.2.2.2.2.2; omega) h13), rfl, _, h19⟩) (Nat.le_of_ble_eq_true rfl) (Nat.le_of_ble_eq_true rfl) (by decide +kernel)
        · refine g_if_ne (pc := 56) (off := 13) 69 C (by decide +kernel) (by decide) (fun c9 => absurd (by decide) c9) (fun _ => ?_)
          exact g_throw (pc := 59) (is := 94) (text := "there are 3 nets") C R rfl ex_ISE (by decide +kernel) (⟨h, Or.inr (⟨rfl, ⟨h4, h8, c9⟩, cap_n (by decide) (by decide) h13⟩)⟩) (Nat.le_of_ble_eq_true rfl) (Nat.le_of_ble_eq_true rfl) (Nat.le_of_ble_eq_true rfl) (Nat.le_of_ble_eq_true rfl) (by decide +kernel) (by decide +kernel) (by decide +kernel) (by decide +kernel) (by decide +kernel)
      · exact g_throw (pc := 29) (is := 89) (text := "no net can be spread so") C R rfl ex_IAE (by decide +kernel) (⟨h, Or.inl ⟨rfl, fun h9 => c9 h9.2.2⟩⟩) (Nat.le_of_ble_eq_true rfl) (Nat.le_of_ble_eq_true rfl) (Nat.le_of_ble_eq_true rfl) (Nat.le_of_ble_eq_true rfl) (by decide +kernel) (by decide +kernel) (by decide +kernel) (by decide +kernel) (by decide +kernel)
    · refine g_if_eq (pc := 21) (off := 8) 29 C (by decide +kernel) (by decide) (fun _ => ?_) (fun c9 => absurd (by decide) c9)
      exact g_throw (pc := 29) (is := 89) (text := "no net can be spread so") C R rfl ex_IAE (by decide +kernel) (⟨h, Or.inl ⟨rfl, fun h9 => h8 h9.2.1⟩⟩) (Nat.le_of_ble_eq_true rfl) (Nat.le_of_ble_eq_true rfl) (Nat.le_of_ble_eq_true rfl) (Nat.le_of_ble_eq_true rfl) (by decide +kernel) (by decide +kernel) (by decide +kernel) (by decide +kernel) (by decide +kernel)
  · refine g_if_eq (pc := 9) (off := 20) 29 C (by decide +kernel) (by decide) (fun _ => ?_) (fun c9 => absurd (by decide) c9)
    exact g_throw (pc := 29) (is := 89) (text := "no net can be spread so") C R rfl ex_IAE (by decide +kernel) (⟨h, Or.inl ⟨rfl, fun h9 => h4 h9.1⟩⟩) (Nat.le_of_ble_eq_true rfl) (Nat.le_of_ble_eq_true rfl) (Nat.le_of_ble_eq_true rfl) (Nat.le_of_ble_eq_true rfl) (by decide +kernel) (by decide +kernel) (by decide +kernel) (by decide +kernel) (by decide +kernel)
set_option maxHeartbeats 4000000 in
set_option maxRecDepth 100000 in
theorem c_X4_join (l : Launch) (D : va_G) (cy : Nat → ClassId) {G : GG} {x : Nat} {ad : Nat → Nat → Nat} {b : Int32} {nt nf nc nn : Nat} {T E Cu N KT KF KC : Rw} (h : RX cy x ad b nt nf nc nn T E Cu N KT KF KC G) : CtrX l D cy yX4_join prog_1_method_6_code 2 (some .int) kX4_join [.ref x] G (pI (fun v G' => nf < 8 ∧ v = nI nf ∧ ∃ ad', RX cy x ad' b nt (nf + 1) nc nn T (s_add E nf rowF) Cu N KT (s_add KF nf z0) KC G')) (fun e G' => RX cy x ad b nt nf nc nn T E Cu N KT KF KC G' ∧ ((e = "java/lang/IllegalStateException" ∧ ¬ nf < 8))) := by
  refine CtrX.mk (by decide +kernel) (Nat.le_of_ble_eq_true rfl) ?_
  intro κ C R
  refine g_pc (pc' := 0) rfl ?_
  refine g_seg [(0, .aload_n 0, 1)] 1 [(0, .ref x)] [.ref x] C (by decide +kernel) rfl ?_
  refine g_getf (pc := 1) (k := 5) (v := .int (nI nf)) C fl_X4_98 (h.1.1) rfl (by decide +kernel) ?_
  refine g_seg [(4, .istore_n 1, 1), (5, .iload_n 1, 1), (6, .iconst 0, 1), (7, .aload_n 0, 1)] 8 [(1, .int (nI nf)), (0, .ref x)] [.ref x, .int 0, .int (nI nf)] C (by decide +kernel) rfl ?_
  refine g_getf (pc := 8) (k := 1) (v := .ref (ad 0 1)) C fl_X4_17 (h.1.1) rfl (by decide +kernel) ?_
  refine g_alenA (pc := 11) (len := 8) (t0 := 2) C (h.1.2.2.1) rfl (by decide +kernel) ?_
  refine g_seg [(12, .iconst 1, 1), (13, .isub, 1)] 14 [(1, .int (nI nf)), (0, .ref x)] [.int ((nI 8) - 1), .int 0, .int (nI nf)] C (by decide +kernel) rfl ?_
  refine g_callS (pc := 14) C mS_X4_isWithin q86 (c_X4_isWithin l D cy G (nI nf) 0 ((nI 8) - 1)) rfl ⟨⟨Nat.le_of_ble_eq_true rfl, Nat.le_of_ble_eq_true rfl⟩, Nat.le_of_ble_eq_true rfl, Nat.le_of_ble_eq_true rfl⟩ rfl (Nat.le_of_ble_eq_true rfl) (by decide +kernel) ?_
  refine g_kI (fun v3 G2 hp1 => ?_)
  obtain ⟨rfl, hp1⟩ := hp1
  rcases hp1 with ⟨rfl, h4⟩ | ⟨rfl, h4⟩
  · refine g_if_ne (pc := 17) (off := 13) 30 C (by decide +kernel) (by decide) (fun _ => ?_) (fun c9 => absurd c9 (by decide))
    refine g_seg [(30, .aload_n 0, 1)] 31 [(1, .int (nI nf)), (0, .ref x)] [.ref x] C (by decide +kernel) rfl ?_
    refine g_getf (pc := 31) (k := 1) (v := .ref (ad 0 1)) C fl_X4_17 (h.1.1) rfl (by decide +kernel) ?_
    refine g_seg [(34, .iload_n 1, 1)] 35 [(1, .int (nI nf)), (0, .ref x)] [.int (nI nf), .ref (ad 0 1)] C (by decide +kernel) rfl ?_
    refine g_new (pc := 35) (ci := 1) (fs := [.int 0, .int 0, .int 0, .int 0, .int 0, .int 0, .int 0, .int 0, .int 0, .int 0]) C rfl inX1 tyX1_ok q44 q494 q30 (fun j hj => by rcases (show j = 0 ∨ j = 1 ∨ j = 2 ∨ j = 3 ∨ j = 4 ∨ j = 5 ∨ j = 6 ∨ j = 7 ∨ j = 8 ∨ j = 9 by omega) with rfl | rfl | rfl | rfl | rfl | rfl | rfl | rfl | rfl | rfl <;> rfl) (Nat.le_of_ble_eq_true rfl) (Nat.le_of_ble_eq_true rfl) (by decide +kernel) (fun q5 hq6 => ?_)
    refine g_seg [(38, .dup, 1)] 39 [(1, .int (nI nf)), (0, .ref x)] [.ref q5, .ref q5, .int (nI nf), .ref (ad 0 1)] C (by decide +kernel) rfl ?_
    refine g_callIN (pc := 39) (host := "CircusLines") C R mI_X1_init (fun U h9 => h9.2.2.2.2.2.2.1) (c_X1_init l D cy (g_up G2 q5 (.inr (1, [.int 0, .int 0, .int 0, .int 0, .int 0, .int 0, .int 0, .int 0, .int 0, .int 0]))) q5  (g_up_self ..)) rfl ⟨⟨Nat.le_of_ble_eq_true rfl, Nat.le_of_ble_eq_true rfl⟩, Nat.le_of_ble_eq_true rfl, Nat.le_of_ble_eq_true rfl⟩ rfl (Nat.le_of_ble_eq_true rfl) (by decide +kernel) ?_
    refine g_kV (fun G7 hG8 => ?_)
    rw [g_up_up] at hG8
    subst hG8
    refine g_aast (pc := 42) (n := 8) (t0 := 2) (ci := 1) C ((RX.nw h hq6).1.2.2.1) rfl (g_up_self ..) rfl (vp_in_nI ((cap_y (by decide) (by decide) (by have := h.2.2.2.2.1; omega) h4)) (by decide)) (by decide +kernel) ?_
    refine g_seg [(43, .aload_n 0, 1), (44, .iload_n 1, 1), (45, .iconst 1, 1), (46, .iadd, 1)] 47 [(1, .int (nI nf)), (0, .ref x)] [.int ((nI nf) + 1), .ref x] C (by decide +kernel) rfl ?_
    refine g_putf (pc := 47) (k := 5) (v := .int ((nI nf) + 1)) (ty := .int) C fl_X4_98 fp_X4_5 ((g_oth (RX.nw h hq6).1.1 (RX.nw h hq6).1.2.2.1 (by simp [oX, oA]))) (rfl) (by first | rfl | decide) (Nat.le_of_ble_eq_true rfl) (by decide +kernel) ?_
    refine g_abs (P := fun G9 => RX cy x (adU ad 2 nf q5) b nt (nf + 1) nc nn T (s_add E nf rowF) Cu N KT (s_add KF nf z0) KC G9) (by rw [show (.inr (1, [.int 0, .int (-1), .int 0, .int 0, .int 0, .int 0, .int 0, .int 0, .int 0, .int 0]) : va_E) = oF (s_add E nf rowF) (s_add KF nf z0) nf by simp [oT, oF, oC, oN, s_add, rowT, rowF, rowC, rowN, z0]]; exact RX_addF (r := rowF) (kr := z0) h hq6 (cap_y (by decide) (by decide) (by have := h.2.2.2.2.1; omega) h4)) (fun G9 h10 => ?_)
    refine g_seg [(50, .iload_n 1, 1)] 51 [(1, .int (nI nf)), (0, .ref x)] [.int (nI nf)] C (by decide +kernel) rfl ?_
    exact g_iretX (pc := 51) C R (⟨_, rfl, (cap_y (by decide) (by decide) (by have := h.2.2.2.2.1; omega) h4), rfl, _, h10⟩) (Nat.le_of_ble_eq_true rfl) (Nat.le_of_ble_eq_true rfl) (by decide +kernel)
  · refine g_if_ne (pc := 17) (off := 13) 30 C (by decide +kernel) (by decide) (fun c9 => absurd (by decide) c9) (fun _ => ?_)
    exact g_throw (pc := 20) (is := 101) (text := "there are 8 flyers") C R rfl ex_ISE (by decide +kernel) (⟨h, rfl, cap_n (by decide) (by decide) h4⟩) (Nat.le_of_ble_eq_true rfl) (Nat.le_of_ble_eq_true rfl) (Nat.le_of_ble_eq_true rfl) (Nat.le_of_ble_eq_true rfl) (by decide +kernel) (by decide +kernel) (by decide +kernel) (by decide +kernel) (by decide +kernel)
set_option maxHeartbeats 4000000 in
set_option maxRecDepth 100000 in
theorem c_X4_cue (l : Launch) (D : va_G) (cy : Nat → ClassId) {G : GG} {x : Nat} {ad : Nat → Nat → Nat} {b : Int32} {nt nf nc nn : Nat} {T E Cu N KT KF KC : Rw} (h : RX cy x ad b nt nf nc nn T E Cu N KT KF KC G) (bt f r tm : Int32) : CtrX l D cy yX4_cue prog_1_method_8_code 6 (some .int) kX4_cue [.ref x, .int bt, .int f, .int r, .int tm] G (pI (fun v G' => (∃ i, i < nf ∧ f = nI i) ∧ okC bt r tm ∧ ¬ bt < b ∧ nc < 20 ∧ v = nI nc ∧ ∃ ad', RX cy x ad' b nt nf (nc + 1) nn T E (s_add Cu nc (rowC bt f r tm)) N KT KF (s_add KC nc z0) G')) (fun e G' => RX cy x ad b nt nf nc nn T E Cu N KT KF KC G' ∧ ((e = "java/lang/IndexOutOfBoundsException" ∧ (∀ i, i < nf → f ≠ nI i)) ∨ (e = "java/lang/IllegalArgumentException" ∧ (∃ i, i < nf ∧ f = nI i) ∧ ¬ okC bt r tm) ∨ (e = "java/lang/IllegalStateException" ∧ (∃ i, i < nf ∧ f = nI i) ∧ okC bt r tm ∧ (bt < b ∨ bt < 0 ∨ ¬ nc < 20)))) := by
  refine CtrX.mk (by decide +kernel) (Nat.le_of_ble_eq_true rfl) ?_
  intro κ C R
  refine g_pc (pc' := 0) rfl ?_
  refine g_seg [(0, .aload_n 0, 1), (1, .iload_n 2, 1)] 2 [(0, .ref x), (1, .int bt), (2, .int f), (3, .int r), (4, .int tm)] [.int f, .ref x] C (by decide +kernel) rfl ?_
  refine g_callV (pc := 2) C mV_X4_flyerNumbered q187 (h.1.1) rfl rfl (c_X4_flyerNumbered l D cy h f) rfl ⟨⟨Nat.le_of_ble_eq_true rfl, Nat.le_of_ble_eq_true rfl⟩, Nat.le_of_ble_eq_true rfl, Nat.le_of_ble_eq_true rfl⟩ rfl (Nat.le_of_ble_eq_true rfl) (by decide +kernel) ?_
  refine g_kA (fun v3 G2 hp1 => ?_)
  obtain ⟨rfl, hp1⟩ := hp1
  rcases hp1 with ⟨i4, hi5, hn6, rfl⟩ | ⟨hn6, rfl⟩
  · refine g_ifnonnull (pc := 5) (off := 13) 18 C (by decide +kernel) (by decide) ?_
    refine g_seg [(18, .iload_n 3, 1), (19, .bipush (-20), 2), (21, .bipush 20, 2)] 23 [(0, .ref x), (1, .int bt), (2, .int f), (3, .int r), (4, .int tm)] [.int 20, .int (-20), .int r] C (by decide +kernel) rfl ?_
    refine g_callS (pc := 23) C mS_X4_isWithin q86 (c_X4_isWithin l D cy G2 r (-20) 20) rfl ⟨⟨Nat.le_of_ble_eq_true rfl, Nat.le_of_ble_eq_true rfl⟩, Nat.le_of_ble_eq_true rfl, Nat.le_of_ble_eq_true rfl⟩ rfl (Nat.le_of_ble_eq_true rfl) (by decide +kernel) ?_
    refine g_kI (fun v9 G8 hp7 => ?_)
    obtain ⟨rfl, hp7⟩ := hp7
    rcases hp7 with ⟨rfl, h10⟩ | ⟨rfl, h10⟩
    · refine g_if_eq (pc := 26) (off := 21) 47 C (by decide +kernel) (by decide) (fun c9 => absurd c9 (by decide)) (fun _ => ?_)
      refine g_seg [(29, .iload 4, 2), (31, .iconst 1, 1), (32, .bipush 6, 2)] 34 [(0, .ref x), (1, .int bt), (2, .int f), (3, .int r), (4, .int tm)] [.int 6, .int 1, .int tm] C (by decide +kernel) rfl ?_
      refine g_callS (pc := 34) C mS_X4_isWithin q86 (c_X4_isWithin l D cy G8 tm 1 6) rfl ⟨⟨Nat.le_of_ble_eq_true rfl, Nat.le_of_ble_eq_true rfl⟩, Nat.le_of_ble_eq_true rfl, Nat.le_of_ble_eq_true rfl⟩ rfl (Nat.le_of_ble_eq_true rfl) (by decide +kernel) ?_
      refine g_kI (fun v13 G12 hp11 => ?_)
      obtain ⟨rfl, hp11⟩ := hp11
      rcases hp11 with ⟨rfl, h14⟩ | ⟨rfl, h14⟩
      · refine g_if_eq (pc := 37) (off := 10) 47 C (by decide +kernel) (by decide) (fun c9 => absurd c9 (by decide)) (fun _ => ?_)
        refine g_seg [(40, .iload_n 1, 1), (41, .sipush 9999, 3)] 44 [(0, .ref x), (1, .int bt), (2, .int f), (3, .int r), (4, .int tm)] [.int 9999, .int bt] C (by decide +kernel) rfl ?_
        refine g_icmp_le (pc := 44) (off := 13) 57 C (by decide +kernel) (by decide) (fun c15 => ?_) (fun c15 => ?_)
        · refine g_seg [(57, .aload_n 0, 1)] 58 [(0, .ref x), (1, .int bt), (2, .int f), (3, .int r), (4, .int tm)] [.ref x] C (by decide +kernel) rfl ?_
          refine g_getf (pc := 58) (k := 6) (v := .int (nI nc)) C fl_X4_128 (h.1.1) rfl (by decide +kernel) ?_
          refine g_seg [(61, .istore 5, 2), (63, .iload_n 1, 1), (64, .aload_n 0, 1)] 65 [(5, .int (nI nc)), (0, .ref x), (1, .int bt), (2, .int f), (3, .int r), (4, .int tm)] [.ref x, .int bt] C (by decide +kernel) rfl ?_
          refine g_getf (pc := 65) (k := 8) (v := .int b) C fl_X4_53 (h.1.1) rfl (by decide +kernel) ?_
          refine g_icmp_lt (pc := 68) (off := 23) 91 C (by decide +kernel) (by decide) (fun c16 => ?_) (fun c16 => ?_)
          · exact g_throw (pc := 91) (is := 131) (text := "the beat has gone by, or there are 20 cues") C R rfl ex_ISE (by decide +kernel) (⟨h, Or.inr (Or.inr (⟨rfl, ⟨i4, hi5, hn6⟩, ⟨h10, h14, c15⟩, Or.inl c16⟩))⟩) (Nat.le_of_ble_eq_true rfl) (Nat.le_of_ble_eq_true rfl) (Nat.le_of_ble_eq_true rfl) (Nat.le_of_ble_eq_true rfl) (by decide +kernel) (by decide +kernel) (by decide +kernel) (by decide +kernel) (by decide +kernel)
          · refine g_seg [(71, .iload_n 1, 1)] 72 [(5, .int (nI nc)), (0, .ref x), (1, .int bt), (2, .int f), (3, .int r), (4, .int tm)] [.int bt] C (by decide +kernel) rfl ?_
            refine g_if_lt (pc := 72) (off := 19) 91 C (by decide +kernel) (by decide) (fun c17 => ?_) (fun c17 => ?_)
            · exact g_throw (pc := 91) (is := 131) (text := "the beat has gone by, or there are 20 cues") C R rfl ex_ISE (by decide +kernel) (⟨h, Or.inr (Or.inr (⟨rfl, ⟨i4, hi5, hn6⟩, ⟨h10, h14, c15⟩, Or.inr (Or.inl c17)⟩))⟩) (Nat.le_of_ble_eq_true rfl) (Nat.le_of_ble_eq_true rfl) (Nat.le_of_ble_eq_true rfl) (Nat.le_of_ble_eq_true rfl) (by decide +kernel) (by decide +kernel) (by decide +kernel) (by decide +kernel) (by decide +kernel)
            · refine g_seg [(75, .iload 5, 2), (77, .iconst 0, 1), (78, .aload_n 0, 1)] 79 [(5, .int (nI nc)), (0, .ref x), (1, .int bt), (2, .int f), (3, .int r), (4, .int tm)] [.ref x, .int 0, .int (nI nc)] C (by decide +kernel) rfl ?_
              refine g_getf (pc := 79) (k := 2) (v := .ref (ad 0 2)) C fl_X4_23 (h.1.1) rfl (by decide +kernel) ?_
              refine g_alenA (pc := 82) (len := 20) (t0 := 3) C (h.1.2.2.2.1) rfl (by decide +kernel) ?_
              refine g_seg [(83, .iconst 1, 1), (84, .isub, 1)] 85 [(5, .int (nI nc)), (0, .ref x), (1, .int bt), (2, .int f), (3, .int r), (4, .int tm)] [.int ((nI 20) - 1), .int 0, .int (nI nc)] C (by decide +kernel) rfl ?_
              refine g_callS (pc := 85) C mS_X4_isWithin q86 (c_X4_isWithin l D cy G12 (nI nc) 0 ((nI 20) - 1)) rfl ⟨⟨Nat.le_of_ble_eq_true rfl, Nat.le_of_ble_eq_true rfl⟩, Nat.le_of_ble_eq_true rfl, Nat.le_of_ble_eq_true rfl⟩ rfl (Nat.le_of_ble_eq_true rfl) (by decide +kernel) ?_
              refine g_kI (fun v20 G19 hp18 => ?_)
              obtain ⟨rfl, hp18⟩ := hp18
              rcases hp18 with ⟨rfl, h21⟩ | ⟨rfl, h21⟩
              · refine g_if_ne (pc := 88) (off := 13) 101 C (by decide +kernel) (by decide) (fun _ => ?_) (fun c9 => absurd c9 (by decide))
                refine g_seg [(101, .aload_n 0, 1)] 102 [(5, .int (nI nc)), (0, .ref x), (1, .int bt), (2, .int f), (3, .int r), (4, .int tm)] [.ref x] C (by decide +kernel) rfl ?_
                refine g_getf (pc := 102) (k := 2) (v := .ref (ad 0 2)) C fl_X4_23 (h.1.1) rfl (by decide +kernel) ?_
                refine g_seg [(105, .iload 5, 2)] 107 [(5, .int (nI nc)), (0, .ref x), (1, .int bt), (2, .int f), (3, .int r), (4, .int tm)] [.int (nI nc), .ref (ad 0 2)] C (by decide +kernel) rfl ?_
                refine g_new (pc := 107) (ci := 0) (fs := [.int 0, .int 0, .int 0, .int 0, .int 0, .int 0]) C rfl inX0 tyX0_ok q46 q577 q33 (fun j hj => by rcases (show j = 0 ∨ j = 1 ∨ j = 2 ∨ j = 3 ∨ j = 4 ∨ j = 5 by omega) with rfl | rfl | rfl | rfl | rfl | rfl <;> rfl) (Nat.le_of_ble_eq_true rfl) (Nat.le_of_ble_eq_true rfl) (by decide +kernel) (fun q22 hq23 => ?_)
                refine g_seg [(110, .dup, 1), (111, .iload_n 1, 1), (112, .iload_n 2, 1), (113, .iload_n 3, 1), (114, .iload 4, 2)] 116 [(5, .int (nI nc)), (0, .ref x), (1, .int bt), (2, .int f), (3, .int r), (4, .int tm)] [.int tm, .int r, .int f, .int bt, .ref q22, .ref q22, .int (nI nc), .ref (ad 0 2)] C (by decide +kernel) rfl ?_
                refine g_callI (pc := 116) C mI_X0_init q578 (c_X0_init l D cy (g_up G19 q22 (.inr (0, [.int 0, .int 0, .int 0, .int 0, .int 0, .int 0]))) q22 bt f r tm (g_up_self ..)) rfl ⟨⟨Nat.le_of_ble_eq_true rfl, Nat.le_of_ble_eq_true rfl⟩, Nat.le_of_ble_eq_true rfl, Nat.le_of_ble_eq_true rfl⟩ rfl (Nat.le_of_ble_eq_true rfl) (by decide +kernel) ?_
                refine g_kV (fun G24 hG25 => ?_)
                rw [g_up_up] at hG25
                subst hG25
                refine g_aast (pc := 119) (n := 20) (t0 := 3) (ci := 0) C ((RX.nw h hq23).1.2.2.2.1) rfl (g_up_self ..) rfl (vp_in_nI ((cap_y (by decide) (by decide) (by have := h.2.2.2.2.2.1; omega) h21)) (by decide)) (by decide +kernel) ?_
                refine g_seg [(120, .aload_n 0, 1), (121, .iload 5, 2), (123, .iconst 1, 1), (124, .iadd, 1)] 125 [(5, .int (nI nc)), (0, .ref x), (1, .int bt), (2, .int f), (3, .int r), (4, .int tm)] [.int ((nI nc) + 1), .ref x] C (by decide +kernel) rfl ?_
                refine g_putf (pc := 125) (k := 6) (v := .int ((nI nc) + 1)) (ty := .int) C fl_X4_128 fp_X4_6 ((g_oth (RX.nw h hq23).1.1 (RX.nw h hq23).1.2.2.2.1 (by simp [oX, oA]))) (rfl) (by first | rfl | decide) (Nat.le_of_ble_eq_true rfl) (by decide +kernel) ?_
                refine g_abs (P := fun G9 => RX cy x (adU ad 3 nc q22) b nt nf (nc + 1) nn T E (s_add Cu nc (rowC bt f r tm)) N KT KF (s_add KC nc z0) G9) (by rw [show (.inr (0, [.int bt, .int f, .int r, .int tm, .int 0, .int 0]) : va_E) = oC (s_add Cu nc (rowC bt f r tm)) (s_add KC nc z0) nc by simp [oT, oF, oC, oN, s_add, rowT, rowF, rowC, rowN, z0]]; exact RX_addC (r := rowC bt f r tm) (kr := z0) h hq23 (cap_y (by decide) (by decide) (by have := h.2.2.2.2.2.1; omega) h21)) (fun G26 h27 => ?_)
                refine g_seg [(128, .iload 5, 2)] 130 [(5, .int (nI nc)), (0, .ref x), (1, .int bt), (2, .int f), (3, .int r), (4, .int tm)] [.int (nI nc)] C (by decide +kernel) rfl ?_
                exact g_iretX (pc := 130) C R (⟨_, rfl, ⟨i4, hi5, hn6⟩, ⟨h10, h14, c15⟩, c16, (cap_y (by decide) (by decide) (by have := h.2.2.2.2.2.1; omega) h21), rfl, _, h27⟩) (Nat.le_of_ble_eq_true rfl) (Nat.le_of_ble_eq_true rfl) (by decide +kernel)
              · refine g_if_ne (pc := 88) (off := 13) 101 C (by decide +kernel) (by decide) (fun c9 => absurd (by decide) c9) (fun _ => ?_)
                exact g_throw (pc := 91) (is := 131) (text := "the beat has gone by, or there are 20 cues") C R rfl ex_ISE (by decide +kernel) (⟨h, Or.inr (Or.inr (⟨rfl, ⟨i4, hi5, hn6⟩, ⟨h10, h14, c15⟩, Or.inr (Or.inr (cap_n (by decide) (by decide) h21))⟩))⟩) (Nat.le_of_ble_eq_true rfl) (Nat.le_of_ble_eq_true rfl) (Nat.le_of_ble_eq_true rfl) (Nat.le_of_ble_eq_true rfl) (by decide +kernel) (by decide +kernel) (by decide +kernel) (by decide +kernel) (by decide +kernel)
        · exact g_throw (pc := 47) (is := 126) (text := "no cue can be given so") C R rfl ex_IAE (by decide +kernel) (⟨h, Or.inr (Or.inl ⟨rfl, ⟨i4, hi5, hn6⟩, fun h9 => c15 h9.2.2⟩)⟩) (Nat.le_of_ble_eq_true rfl) (Nat.le_of_ble_eq_true rfl) (Nat.le_of_ble_eq_true rfl) (Nat.le_of_ble_eq_true rfl) (by decide +kernel) (by decide +kernel) (by decide +kernel) (by decide +kernel) (by decide +kernel)
      · refine g_if_eq (pc := 37) (off := 10) 47 C (by decide +kernel) (by decide) (fun _ => ?_) (fun c9 => absurd (by decide) c9)
        exact g_throw (pc := 47) (is := 126) (text := "no cue can be given so") C R rfl ex_IAE (by decide +kernel) (⟨h, Or.inr (Or.inl ⟨rfl, ⟨i4, hi5, hn6⟩, fun h9 => h14 h9.2.1⟩)⟩) (Nat.le_of_ble_eq_true rfl) (Nat.le_of_ble_eq_true rfl) (Nat.le_of_ble_eq_true rfl) (Nat.le_of_ble_eq_true rfl) (by decide +kernel) (by decide +kernel) (by decide +kernel) (by decide +kernel) (by decide +kernel)
    · refine g_if_eq (pc := 26) (off := 21) 47 C (by decide +kernel) (by decide) (fun _ => ?_) (fun c9 => absurd (by decide) c9)
      exact g_throw (pc := 47) (is := 126) (text := "no cue can be given so") C R rfl ex_IAE (by decide +kernel) (⟨h, Or.inr (Or.inl ⟨rfl, ⟨i4, hi5, hn6⟩, fun h9 => h10 h9.1⟩)⟩) (Nat.le_of_ble_eq_true rfl) (Nat.le_of_ble_eq_true rfl) (Nat.le_of_ble_eq_true rfl) (Nat.le_of_ble_eq_true rfl) (by decide +kernel) (by decide +kernel) (by decide +kernel) (by decide +kernel) (by decide +kernel)
  · refine g_ifnonnullN (pc := 5) (off := 13) C (by decide +kernel) ?_
    exact g_throw (pc := 8) (is := 124) (text := "no such flyer") C R rfl ex_IOE (by decide +kernel) (⟨h, Or.inl ⟨rfl, hn6⟩⟩) (Nat.le_of_ble_eq_true rfl) (Nat.le_of_ble_eq_true rfl) (Nat.le_of_ble_eq_true rfl) (Nat.le_of_ble_eq_true rfl) (by decide +kernel) (by decide +kernel) (by decide +kernel) (by decide +kernel) (by decide +kernel)
