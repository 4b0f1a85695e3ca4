set_option maxHeartbeats 4000000 in
set_option maxRecDepth 100000 in
theorem c_X5_go (l : Launch) (D : va_G) (cy : Nat → ClassId) {G : GG} {s : Nat} {rt : Nat → Nat} {rd : Nat → Nat → Nat} {b : Int32} {nt nf nc nn : Nat} {S F Cu N : Rw} (h : RS cy s rt rd b nt nf nc nn S F Cu N G) (hwF : y_wF nt nf F) (hwC : y_wC nf nc Cu) (hwS : y_wS nt S) : Ctr l D cy yX5_go prog_7_method_10_code 9 (some .int) kX5_go [.ref s] G (pI (fun v G' => RS cy s rt rd (b + 1) nt nf nc nn ((y_beat N nn nt nf nc b S F Cu).1) ((y_beat N nn nt nf nc b S F Cu).2.1) ((y_beat N nn nt nf nc b S F Cu).2.2) N G')) := by
  refine Ctr.mk (by decide +kernel) (Nat.le_of_ble_eq_true rfl) ?_
  intro κ C R
  have hbd := h.2.2.2
  refine g_pc (pc' := 0) rfl ?_
  refine g_seg [(0, .iconst 0, 1), (1, .istore_n 1, 1), (2, .aload_n 0, 1)] 3 [(1, .int 0), (0, .ref s)] [.ref s] C (by decide +kernel) rfl ?_
  refine g_getf (pc := 3) (k := 2) (v := .ref (rt 2)) C fl_X5_18 (h.1.1) rfl (by decide +kernel) ?_
  refine g_seg [(6, .astore_n 2, 1), (7, .aload_n 2, 1)] 8 [(2, .ref (rt 2)), (1, .int 0), (0, .ref s)] [.ref (rt 2)] C (by decide +kernel) rfl ?_
  refine g_alenI (pc := 8) C (h.1.2.2.2.1) (by decide +kernel) ?_
  refine g_seg [(9, .istore_n 3, 1), (10, .iconst 0, 1), (11, .istore 4, 2)] 13 [(4, .int 0), (3, .int (nI nc)), (2, .ref (rt 2)), (1, .int 0), (0, .ref s)] [] C (by decide +kernel) rfl ?_
  refine g_subp [4, 3, 2, 1, 0] (lv' := [(0, .ref s), (1, .int 0), (2, .ref (rt 2)), (3, .int (nI nc)), (4, .int 0)]) rfl ?_
  have lp1 : ∀ (m k : Nat) (F1 C1 : Rw) (G1 : GG) (xk : Int32), nc + 1 ≤ k + m → k ≤ nc → xk = nI k → (F1, C1) = its (y_cue S b) (F, Cu) k → RS cy s rt rd b nt nf nc nn S F1 C1 N G1 → y_wF nt nf F1 → y_wC nf nc C1 → PG κ 9 0 0 G1 [(0, .ref s), (1, .int 0), (2, .ref (rt 2)), (3, .int (nI nc)), (4, .int xk)] 13 [] := by
    intro m
    induction m with
    | zero => intro k F1 C1 G1 xk h1 h2; intros; exact absurd h1 (by omega)
    | succ m ih =>
      intro k F1 C1 G1 xk hm hk hx hs h1 hwF1 hwC1
      refine g_seg [(13, .iload 4, 2), (15, .iload_n 3, 1)] 16 [(0, .ref s), (1, .int 0), (2, .ref (rt 2)), (3, .int (nI nc)), (4, .int xk)] [.int (nI nc), .int xk] C (by decide +kernel) rfl ?_
      refine g_icmp_ge (pc := 16) (off := 113) 129 C (by decide +kernel) (by decide) (fun c2 => ?_) (fun c2 => ?_)
      · have hk8 : k = nc := by have := lp_ge hx (by omega) (by omega) c2; omega
        rw [hk8] at hs
        refine g_seg [(129, .aload_n 0, 1)] 130 [(0, .ref s), (1, .int 0), (2, .ref (rt 2)), (3, .int (nI nc)), (4, .int xk)] [.ref s] C (by decide +kernel) rfl ?_
        refine g_getf (pc := 130) (k := 1) (v := .ref (rt 1)) C fl_X5_15 (h1.1.1) rfl (by decide +kernel) ?_
        refine g_seg [(133, .astore_n 2, 1), (134, .aload_n 2, 1)] 135 [(2, .ref (rt 1)), (0, .ref s), (1, .int 0), (3, .int (nI nc)), (4, .int xk)] [.ref (rt 1)] C (by decide +kernel) rfl ?_
        refine g_alenI (pc := 135) C (h1.1.2.2.1) (by decide +kernel) ?_
        have hFC : F1 = (its (y_cue S b) (F, Cu) nc).1 := congrArg Prod.fst hs
        have hCC : C1 = (its (y_cue S b) (F, Cu) nc).2 := congrArg Prod.snd hs
        refine g_seg [(136, .istore_n 3, 1), (137, .iconst 0, 1), (138, .istore 4, 2)] 140 [(4, .int 0), (3, .int (nI nf)), (2, .ref (rt 1)), (0, .ref s), (1, .int 0)] [] C (by decide +kernel) rfl ?_
        refine g_subp [3, 4, 2, 1, 0] (lv' := [(0, .ref s), (1, .int 0), (2, .ref (rt 1)), (3, .int (nI nf)), (4, .int 0)]) rfl ?_
        have lp3 : ∀ (m2 k2 : Nat) (F2 : Rw) (G2 : GG) (many xl : Int32), nf + 1 ≤ k2 + m2 → k2 ≤ nf → xl = nI k2 → F2 = its (y_land N nn S nt nf) F1 k2 → RS cy s rt rd b nt nf nc nn S F2 C1 N G2 → y_wF nt nf F2 → PG κ 9 0 0 G2 [(0, .ref s), (1, .int many), (2, .ref (rt 1)), (3, .int (nI nf)), (4, .int xl)] 140 [] := by
          intro m2
          induction m2 with
          | zero => intro k2 F2 G2 many xl h1 h2; intros; exact absurd h1 (by omega)
          | succ m2 ih2 =>
            intro k2 F2 G2 many xl hm2 hk2 hx2 hs2 h2 hwF2
            refine g_seg [(140, .iload 4, 2), (142, .iload_n 3, 1)] 143 [(0, .ref s), (1, .int many), (2, .ref (rt 1)), (3, .int (nI nf)), (4, .int xl)] [.int (nI nf), .int xl] C (by decide +kernel) rfl ?_
            refine g_icmp_ge (pc := 143) (off := 174) 317 C (by decide +kernel) (by decide) (fun c4 => ?_) (fun c4 => ?_)
            · have hl8 : k2 = nf := by have := lp_ge hx2 (by omega) (by omega) c4; omega
              rw [hl8] at hs2
              refine g_seg [(317, .iconst 0, 1), (318, .istore_n 2, 1)] 319 [(2, .int 0), (0, .ref s), (1, .int many), (3, .int (nI nf)), (4, .int xl)] [] C (by decide +kernel) rfl ?_
              refine g_subp [1, 2, 0] (lv' := [(0, .ref s), (1, .int many), (2, .int 0)]) rfl ?_
              have lp5 : ∀ (m4 k4 : Nat) (S4 F4 : Rw) (G4 : GG) (x4 : Int32), nt + 1 ≤ k4 + m4 → k4 ≤ nt → x4 = nI k4 → (S4, F4) = its (y_wear N nn nf) (S, F2) k4 → RS cy s rt rd b nt nf nc nn S4 F4 C1 N G4 → y_wS nt S4 → PG κ 9 0 0 G4 [(0, .ref s), (1, .int many), (2, .int x4)] 319 [] := by
                intro m4
                induction m4 with
                | zero => intro k4 S4 F4 G4 x4 h1 h2; intros; exact absurd h1 (by omega)
                | succ m4 ih4 =>
                  intro k4 S4 F4 G4 x4 hm4 hk4 hx4 hs4 h4 hwS4
                  refine g_seg [(319, .iload_n 2, 1), (320, .aload_n 0, 1)] 321 [(0, .ref s), (1, .int many), (2, .int x4)] [.ref s, .int x4] C (by decide +kernel) rfl ?_
                  refine g_getf (pc := 321) (k := 0) (v := .ref (rt 0)) C fl_X5_9 (h4.1.1) rfl (by decide +kernel) ?_
                  refine g_alenI (pc := 324) C (h4.1.2.1) (by decide +kernel) ?_
                  refine g_icmp_ge (pc := 325) (off := 130) 455 C (by decide +kernel) (by decide) (fun c6 => ?_) (fun c6 => ?_)
                  · have hn8 : k4 = nt := by have := lp_ge hx4 (by omega) (by omega) c6; omega
                    rw [hn8] at hs4
                    refine g_seg [(455, .aload_n 0, 1)] 456 [(0, .ref s), (1, .int many), (2, .int x4)] [.ref s] C (by decide +kernel) rfl ?_
                    refine g_getf (pc := 456) (k := 0) (v := .ref (rt 0)) C fl_X5_9 (h4.1.1) rfl (by decide +kernel) ?_
                    refine g_seg [(459, .astore_n 2, 1), (460, .aload_n 2, 1)] 461 [(2, .ref (rt 0)), (0, .ref s), (1, .int many)] [.ref (rt 0)] C (by decide +kernel) rfl ?_
                    refine g_alenI (pc := 461) C (h4.1.2.1) (by decide +kernel) ?_
                    refine g_seg [(462, .istore_n 3, 1), (463, .iconst 0, 1), (464, .istore 4, 2)] 466 [(4, .int 0), (3, .int (nI nt)), (2, .ref (rt 0)), (0, .ref s), (1, .int many)] [] C (by decide +kernel) rfl ?_
                    refine g_subp [3, 4, 2, 1, 0] (lv' := [(0, .ref s), (1, .int many), (2, .ref (rt 0)), (3, .int (nI nt)), (4, .int 0)]) rfl ?_
                    have lp7 : ∀ (m6 k6 : Nat) (S6 : Rw) (G6 : GG) (x6 : Int32), nt + 1 ≤ k6 + m6 → k6 ≤ nt → x6 = nI k6 → S6 = its y_age S4 k6 → RS cy s rt rd b nt nf nc nn S6 F4 C1 N G6 → PG κ 9 0 0 G6 [(0, .ref s), (1, .int many), (2, .ref (rt 0)), (3, .int (nI nt)), (4, .int x6)] 466 [] := by
                      intro m6
                      induction m6 with
                      | zero => intro k6 S6 G6 x6 h1 h2; intros; exact absurd h1 (by omega)
                      | succ m6 ih6 =>
                        intro k6 S6 G6 x6 hm6 hk6 hx6 hs6 h6
                        refine g_seg [(466, .iload 4, 2), (468, .iload_n 3, 1)] 469 [(0, .ref s), (1, .int many), (2, .ref (rt 0)), (3, .int (nI nt)), (4, .int x6)] [.int (nI nt), .int x6] C (by decide +kernel) rfl ?_
                        refine g_icmp_ge (pc := 469) (off := 24) 493 C (by decide +kernel) (by decide) (fun c8 => ?_) (fun c8 => ?_)
                        · have hq8 : k6 = nt := by have := lp_ge hx6 (by omega) (by omega) c8; omega
                          refine g_seg [(493, .aload_n 0, 1), (494, .dup, 1)] 495 [(0, .ref s), (1, .int many), (2, .ref (rt 0)), (3, .int (nI nt)), (4, .int x6)] [.ref s, .ref s] C (by decide +kernel) rfl ?_
                          refine g_getf (pc := 495) (k := 4) (v := .int b) C fl_X5_33 (h6.1.1) rfl (by decide +kernel) ?_
                          refine g_seg [(498, .iconst 1, 1), (499, .iadd, 1)] 500 [(0, .ref s), (1, .int many), (2, .ref (rt 0)), (3, .int (nI nt)), (4, .int x6)] [.int (b + 1), .ref s] C (by decide +kernel) rfl ?_
                          refine g_putf (pc := 500) (k := 4) (v := .int (b + 1)) (ty := .int) C fl_X5_33 fp_X5_4 (h6.1.1) (rfl) (by first | rfl | decide) (Nat.le_of_ble_eq_true rfl) (by decide +kernel) ?_
                          refine g_abs (P := fun G9 => RS cy s rt rd (b + 1) nt nf nc nn S6 F4 C1 N G9) (RS.wb h6) (fun G9 h10 => ?_)
                          refine g_seg [(503, .iload_n 1, 1)] 504 [(0, .ref s), (1, .int many), (2, .ref (rt 0)), (3, .int (nI nt)), (4, .int x6)] [.int many] C (by decide +kernel) rfl ?_
                          exact g_iret (pc := 504) C R (⟨_, rfl, by rw [hq8] at hs6; have e9 : y_beat N nn nt nf nc b S F Cu = (S6, F4, C1) := (by unfold y_beat; simp only; rw [← hFC, ← hs2, ← hs4, ← hCC]; simp only; rw [← hs6]); rw [e9]; exact h10⟩) (Nat.le_of_ble_eq_true rfl) (Nat.le_of_ble_eq_true rfl) (by decide +kernel)
                        · have hq8 : k6 < nt := lp_lt hx6 (by omega) (by omega) c8
                          refine g_seg [(472, .aload_n 2, 1), (473, .iload 4, 2)] 475 [(0, .ref s), (1, .int many), (2, .ref (rt 0)), (3, .int (nI nt)), (4, .int x6)] [.int x6, .ref (rt 0)] C (by decide +kernel) rfl ?_
                          refine g_aaldS (pc := 475) (j := k6) C (h6.1.2.1) (hx6) (hq8) (by omega) (by decide +kernel) ?_
                          refine g_seg [(476, .astore 5, 2), (478, .aload 5, 2), (480, .bipush 6, 2), (482, .dup2, 1)] 483 [(5, .ref (rd 0 k6)), (0, .ref s), (1, .int many), (2, .ref (rt 0)), (3, .int (nI nt)), (4, .int x6)] [.int 6, .ref (rd 0 k6), .int 6, .ref (rd 0 k6)] C (by decide +kernel) rfl ?_
                          refine g_ialdM (pc := 483) (n := 7) 6 (S6 k6 6) C (h6.2.1.1 k6 hq8) rfl (by decide) (by decide) (cut_lt (by decide)) (by decide +kernel) ?_
                          refine g_seg [(484, .iconst 1, 1), (485, .iadd, 1)] 486 [(5, .ref (rd 0 k6)), (0, .ref s), (1, .int many), (2, .ref (rt 0)), (3, .int (nI nt)), (4, .int x6)] [.int ((S6 k6 6) + 1), .int 6, .ref (rd 0 k6)] C (by decide +kernel) rfl ?_
                          refine g_iastM (pc := 486) (n := 7) 6 (cut 7 ((s_set S6 k6 6 ((S6 k6 6) + 1)) k6)) C (h6.2.1.1 k6 hq8) rfl (by decide) (by decide) (cut_upd (by decide)) (by decide +kernel) ?_
                          refine g_abs (P := fun G9 => RS cy s rt rd b nt nf nc nn (s_set S6 k6 6 ((S6 k6 6) + 1)) F4 C1 N G9) (RS.w0 h6 hq8 (fun j9 h9 => s_set_ne h9)) (fun G11 h12 => ?_)
                          refine g_seg [(487, .iinc 4 1, 3), (490, .goto (-24), 3)] 466 [(4, .int (x6 + 1)), (5, .ref (rd 0 k6)), (0, .ref s), (1, .int many), (2, .ref (rt 0)), (3, .int (nI nt))] [] C (by decide +kernel) rfl ?_
                          refine g_subp [2, 3, 4, 5, 0] (lv' := [(0, .ref s), (1, .int many), (2, .ref (rt 0)), (3, .int (nI nt)), (4, .int (x6 + 1))]) rfl ?_
                          exact ih6 (k6 + 1) (s_set S6 k6 6 ((S6 k6 6) + 1)) G11 (x6 + 1) (by omega) (by omega) (lp_s hx6) (by rw [its, ← hs6]; rfl) (h12)
                    exact lp7 (nt + 1) 0 S4 G4 0 (by omega) (by omega) (nI_0.symm) (rfl) (h4)
                  · have hn8 : k4 < nt := lp_lt hx4 (by omega) (by omega) c6
                    refine g_seg [(328, .aload_n 0, 1)] 329 [(0, .ref s), (1, .int many), (2, .int x4)] [.ref s] C (by decide +kernel) rfl ?_
                    refine g_getf (pc := 329) (k := 0) (v := .ref (rt 0)) C fl_X5_9 (h4.1.1) rfl (by decide +kernel) ?_
                    refine g_seg [(332, .iload_n 2, 1)] 333 [(0, .ref s), (1, .int many), (2, .int x4)] [.int x4, .ref (rt 0)] C (by decide +kernel) rfl ?_
                    refine g_aaldS (pc := 333) (j := k4) C (h4.1.2.1) (hx4) (hn8) (by omega) (by decide +kernel) ?_
                    refine g_seg [(334, .astore_n 3, 1), (335, .aload_n 3, 1), (336, .iconst 5, 1)] 337 [(3, .ref (rd 0 k4)), (0, .ref s), (1, .int many), (2, .int x4)] [.int 5, .ref (rd 0 k4)] C (by decide +kernel) rfl ?_
                    refine g_ialdM (pc := 337) (n := 7) 5 (S4 k4 5) C (h4.2.1.1 k4 hn8) rfl (by decide) (by decide) (cut_lt (by decide)) (by decide +kernel) ?_
                    refine g_seg [(338, .iconst 1, 1)] 339 [(3, .ref (rd 0 k4)), (0, .ref s), (1, .int many), (2, .int x4)] [.int 1, .int (S4 k4 5)] C (by decide +kernel) rfl ?_
                    refine g_icmp_ne (pc := 339) (off := 110) 449 C (by decide +kernel) (by decide) (fun c13 => ?_) (fun c13 => ?_)
                    · refine g_seg [(449, .iinc 2 1, 3), (452, .goto (-133), 3)] 319 [(2, .int (x4 + 1)), (3, .ref (rd 0 k4)), (0, .ref s), (1, .int many)] [] C (by decide +kernel) rfl ?_
                      refine g_subp [2, 3, 0] (lv' := [(0, .ref s), (1, .int many), (2, .int (x4 + 1))]) rfl ?_
                      exact ih4 (k4 + 1) S4 F4 G4 (x4 + 1) (by omega) (by omega) (lp_s hx4) (by rw [its, ← hs4]; exact (if_neg (fun h9 => c13 h9.1)).symm) (h4) (hwS4)
                    · refine g_seg [(342, .aload_n 3, 1), (343, .bipush 6, 2)] 345 [(3, .ref (rd 0 k4)), (0, .ref s), (1, .int many), (2, .int x4)] [.int 6, .ref (rd 0 k4)] C (by decide +kernel) rfl ?_
                      refine g_ialdM (pc := 345) (n := 7) 6 (S4 k4 6) C (h4.2.1.1 k4 hn8) rfl (by decide) (by decide) (cut_lt (by decide)) (by decide +kernel) ?_
                      refine g_seg [(346, .iconst 4, 1), (347, .iconst 2, 1), (348, .aload_n 3, 1), (349, .iconst 2, 1)] 350 [(3, .ref (rd 0 k4)), (0, .ref s), (1, .int many), (2, .int x4)] [.int 2, .ref (rd 0 k4), .int 2, .int 4, .int (S4 k4 6)] C (by decide +kernel) rfl ?_
                      refine g_ialdM (pc := 350) (n := 7) 2 (S4 k4 2) C (h4.2.1.1 k4 hn8) rfl (by decide) (by decide) (cut_lt (by decide)) (by decide +kernel) ?_
                      refine g_seg [(351, .imul, 1), (352, .iadd, 1)] 353 [(3, .ref (rd 0 k4)), (0, .ref s), (1, .int many), (2, .int x4)] [.int (4 + (2 * (S4 k4 2))), .int (S4 k4 6)] C (by decide +kernel) rfl ?_
                      refine g_irem (pc := 353) C (by decide +kernel) (y_hne (hwS4 k4 hn8).1) ?_
                      refine g_if_ne (pc := 354) (off := 95) 449 C (by decide +kernel) (by decide) (fun c14 => ?_) (fun c14 => ?_)
                      · refine g_seg [(449, .iinc 2 1, 3), (452, .goto (-133), 3)] 319 [(2, .int (x4 + 1)), (3, .ref (rd 0 k4)), (0, .ref s), (1, .int many)] [] C (by decide +kernel) rfl ?_
                        refine g_subp [2, 3, 0] (lv' := [(0, .ref s), (1, .int many), (2, .int (x4 + 1))]) rfl ?_
                        exact ih4 (k4 + 1) S4 F4 G4 (x4 + 1) (by omega) (by omega) (lp_s hx4) (by rw [its, ← hs4]; exact (if_neg (fun h9 => c14 h9.2)).symm) (h4) (hwS4)
                      · refine g_seg [(357, .aload_n 3, 1), (358, .iconst 4, 1), (359, .dup2, 1)] 360 [(3, .ref (rd 0 k4)), (0, .ref s), (1, .int many), (2, .int x4)] [.int 4, .ref (rd 0 k4), .int 4, .ref (rd 0 k4)] C (by decide +kernel) rfl ?_
                        refine g_ialdM (pc := 360) (n := 7) 4 (S4 k4 4) C (h4.2.1.1 k4 hn8) rfl (by decide) (by decide) (cut_lt (by decide)) (by decide +kernel) ?_
                        refine g_seg [(361, .aload_n 0, 1), (362, .iload_n 2, 1)] 363 [(3, .ref (rd 0 k4)), (0, .ref s), (1, .int many), (2, .int x4)] [.int x4, .ref s, .int (S4 k4 4), .int 4, .ref (rd 0 k4)] C (by decide +kernel) rfl ?_
                        refine g_callV (pc := 363) C mV_X5_hang q362 (h4.1.1) rfl rfl (c_X5_hang l D cy h4 x4) rfl ⟨⟨Nat.le_of_ble_eq_true rfl, Nat.le_of_ble_eq_true rfl⟩, Nat.le_of_ble_eq_true rfl, Nat.le_of_ble_eq_true rfl⟩ rfl (Nat.le_of_ble_eq_true rfl) (by decide +kernel) ?_
                        refine g_kI (fun v17 G16 hp15 => ?_)
                        obtain ⟨rfl, rfl⟩ := hp15
                        refine g_seg [(366, .iadd, 1)] 367 [(3, .ref (rd 0 k4)), (0, .ref s), (1, .int many), (2, .int x4)] [.int ((S4 k4 4) + (nI (s_hangE F4 nf x4))), .int 4, .ref (rd 0 k4)] C (by decide +kernel) rfl ?_
                        refine g_iastM (pc := 367) (n := 7) 4 (cut 7 ((s_set S4 k4 4 ((S4 k4 4) + (nI (s_hangE F4 nf x4)))) k4)) C (h4.2.1.1 k4 hn8) rfl (by decide) (by decide) (cut_upd (by decide)) (by decide +kernel) ?_
                        refine g_abs (P := fun G9 => RS cy s rt rd b nt nf nc nn (s_set S4 k4 4 ((S4 k4 4) + (nI (s_hangE F4 nf x4)))) F4 C1 N G9) (RS.w0 h4 hn8 (fun j9 h9 => s_set_ne h9)) (fun G18 h19 => ?_)
                        refine g_seg [(368, .aload_n 3, 1), (369, .iconst 4, 1)] 370 [(3, .ref (rd 0 k4)), (0, .ref s), (1, .int many), (2, .int x4)] [.int 4, .ref (rd 0 k4)] C (by decide +kernel) rfl ?_
                        refine g_ialdM (pc := 370) (n := 7) 4 ((S4 k4 4) + (nI (s_hangE F4 nf x4))) C (h19.2.1.1 k4 hn8) rfl (by decide) (by decide) (by rw [cut_lt (by decide)]; simp [s_set, s_row]) (by decide +kernel) ?_
                        refine g_seg [(371, .aload_n 3, 1), (372, .iconst 3, 1)] 373 [(3, .ref (rd 0 k4)), (0, .ref s), (1, .int many), (2, .int x4)] [.int 3, .ref (rd 0 k4), .int ((S4 k4 4) + (nI (s_hangE F4 nf x4)))] C (by decide +kernel) rfl ?_
                        refine g_ialdM (pc := 373) (n := 7) 3 (S4 k4 3) C (h19.2.1.1 k4 hn8) rfl (by decide) (by decide) (by rw [cut_lt (by decide)]; simp [s_set, s_row]) (by decide +kernel) ?_
                        refine g_icmp_le (pc := 374) (off := 75) 449 C (by decide +kernel) (by decide) (fun c20 => ?_) (fun c20 => ?_)
                        · refine g_seg [(449, .iinc 2 1, 3), (452, .goto (-133), 3)] 319 [(2, .int (x4 + 1)), (3, .ref (rd 0 k4)), (0, .ref s), (1, .int many)] [] C (by decide +kernel) rfl ?_
                          refine g_subp [2, 3, 0] (lv' := [(0, .ref s), (1, .int many), (2, .int (x4 + 1))]) rfl ?_
                          exact ih4 (k4 + 1) (s_set S4 k4 4 ((S4 k4 4) + (nI (s_hangE F4 nf x4)))) F4 G18 (x4 + 1) (by omega) (by omega) (lp_s hx4) (by subst hx4; rw [its, ← hs4]; unfold y_wear; rw [if_pos ⟨c13, c14⟩, if_neg (Int32.not_lt.mpr c20)]; rfl) (h19) (hwS4.set (by decide) (by decide))
                        · refine g_seg [(377, .aload_n 3, 1), (378, .iconst 5, 1), (379, .iconst 0, 1)] 380 [(3, .ref (rd 0 k4)), (0, .ref s), (1, .int many), (2, .int x4)] [.int 0, .int 5, .ref (rd 0 k4)] C (by decide +kernel) rfl ?_
                          refine g_iastM (pc := 380) (n := 7) 5 (cut 7 ((s_set (s_set S4 k4 4 ((S4 k4 4) + (nI (s_hangE F4 nf x4)))) k4 5 0) k4)) C (h19.2.1.1 k4 hn8) rfl (by decide) (by decide) (cut_upd (by decide)) (by decide +kernel) ?_
                          refine g_abs (P := fun G9 => RS cy s rt rd b nt nf nc nn (s_set (s_set S4 k4 4 ((S4 k4 4) + (nI (s_hangE F4 nf x4)))) k4 5 0) F4 C1 N G9) (RS.w0 h19 hn8 (fun j9 h9 => s_set_ne h9)) (fun G21 h22 => ?_)
                          refine g_seg [(381, .aload_n 3, 1), (382, .aload_n 3, 1), (383, .bipush 6, 2)] 385 [(3, .ref (rd 0 k4)), (0, .ref s), (1, .int many), (2, .int x4)] [.int 6, .ref (rd 0 k4), .ref (rd 0 k4)] C (by decide +kernel) rfl ?_
                          refine g_ialdM (pc := 385) (n := 7) 6 (S4 k4 6) C (h22.2.1.1 k4 hn8) rfl (by decide) (by decide) (by rw [cut_lt (by decide)]; simp [s_set, s_row]) (by decide +kernel) ?_
                          obtain ⟨⟨w9, hw9, hf9⟩, d9, hd9, hs9⟩ := hwS4 k4 hn8
                          refine g_callS (pc := 386) C mS_X5_place q355 (c_X5_place l D cy _ (rd 0 k4) ((s_set (s_set S4 k4 4 ((S4 k4 4) + (nI (s_hangE F4 nf x4)))) k4 5 0) k4) (h22.2.1.1 k4 hn8) w9 d9 hw9 (S4 k4 0) (S4 k4 1) (S4 k4 2) (by simp [s_set]) (by simp [s_set]) (by simp [s_set]) hf9 (S4 k4 6) hs9 hd9) rfl ⟨⟨Nat.le_of_ble_eq_true rfl, Nat.le_of_ble_eq_true rfl⟩, Nat.le_of_ble_eq_true rfl, Nat.le_of_ble_eq_true rfl⟩ rfl (Nat.le_of_ble_eq_true rfl) (by decide +kernel) ?_
                          refine g_kI (fun v25 G24 hp23 => ?_)
                          obtain ⟨rfl, rfl⟩ := hp23
                          refine g_seg [(389, .istore 4, 2), (391, .aload_n 0, 1)] 392 [(4, .int (s_pl (S4 k4 0) (S4 k4 1) (S4 k4 2) (S4 k4 6))), (3, .ref (rd 0 k4)), (0, .ref s), (1, .int many), (2, .int x4)] [.ref s] C (by decide +kernel) rfl ?_
                          refine g_getf (pc := 392) (k := 1) (v := .ref (rt 1)) C fl_X5_15 (h22.1.1) rfl (by decide +kernel) ?_
                          refine g_seg [(395, .astore 5, 2), (397, .aload 5, 2)] 399 [(5, .ref (rt 1)), (4, .int (s_pl (S4 k4 0) (S4 k4 1) (S4 k4 2) (S4 k4 6))), (3, .ref (rd 0 k4)), (0, .ref s), (1, .int many), (2, .int x4)] [.ref (rt 1)] C (by decide +kernel) rfl ?_
                          refine g_alenI (pc := 399) C (h22.1.2.2.1) (by decide +kernel) ?_
                          refine g_seg [(400, .istore 6, 2), (402, .iconst 0, 1), (403, .istore 7, 2)] 405 [(7, .int 0), (6, .int (nI nf)), (5, .ref (rt 1)), (4, .int (s_pl (S4 k4 0) (S4 k4 1) (S4 k4 2) (S4 k4 6))), (3, .ref (rd 0 k4)), (0, .ref s), (1, .int many), (2, .int x4)] [] C (by decide +kernel) rfl ?_
                          refine g_subp [5, 6, 7, 3, 2, 1, 0] (lv' := [(0, .ref s), (1, .int many), (2, .int x4), (4, .int (s_pl (S4 k4 0) (S4 k4 1) (S4 k4 2) (S4 k4 6))), (5, .ref (rt 1)), (6, .int (nI nf)), (7, .int 0)]) rfl ?_
                          have lp26 : ∀ (m5 k5 : Nat) (F5 : Rw) (G5 : GG) (x5 : Int32), nf + 1 ≤ k5 + m5 → k5 ≤ nf → x5 = nI k5 → F5 = its (y_drop N nn (nI k4) (y_pl S4 k4)) F4 k5 → RS cy s rt rd b nt nf nc nn (s_set (s_set S4 k4 4 ((S4 k4 4) + (nI (s_hangE F4 nf x4)))) k4 5 0) F5 C1 N G5 → PG κ 9 0 0 G5 [(0, .ref s), (1, .int many), (2, .int x4), (4, .int (s_pl (S4 k4 0) (S4 k4 1) (S4 k4 2) (S4 k4 6))), (5, .ref (rt 1)), (6, .int (nI nf)), (7, .int x5)] 405 [] := by
                            intro m5
                            induction m5 with
                            | zero => intro k5 F5 G5 x5 h1 h2; intros; exact absurd h1 (by omega)
                            | succ m5 ih5 =>
                              intro k5 F5 G5 x5 hm5 hk5 hx5 hs5 h5
                              refine g_seg [(405, .iload 7, 2), (407, .iload 6, 2)] 409 [(0, .ref s), (1, .int many), (2, .int x4), (4, .int (s_pl (S4 k4 0) (S4 k4 1) (S4 k4 2) (S4 k4 6))), (5, .ref (rt 1)), (6, .int (nI nf)), (7, .int x5)] [.int (nI nf), .int x5] C (by decide +kernel) rfl ?_
                              refine g_icmp_ge (pc := 409) (off := 40) 449 C (by decide +kernel) (by decide) (fun c27 => ?_) (fun c27 => ?_)
                              · have ho8 : k5 = nf := by have := lp_ge hx5 (by omega) (by omega) c27; omega
                                rw [ho8] at hs5
                                refine g_seg [(449, .iinc 2 1, 3), (452, .goto (-133), 3)] 319 [(2, .int (x4 + 1)), (0, .ref s), (1, .int many), (4, .int (s_pl (S4 k4 0) (S4 k4 1) (S4 k4 2) (S4 k4 6))), (5, .ref (rt 1)), (6, .int (nI nf)), (7, .int x5)] [] C (by decide +kernel) rfl ?_
                                refine g_subp [1, 2, 0] (lv' := [(0, .ref s), (1, .int many), (2, .int (x4 + 1))]) rfl ?_
                                exact ih4 (k4 + 1) (s_set (s_set S4 k4 4 ((S4 k4 4) + (nI (s_hangE F4 nf x4)))) k4 5 0) F5 G5 (x4 + 1) (by omega) (by omega) (lp_s hx4) (by subst hx4; rw [its, ← hs4]; unfold y_wear; rw [if_pos ⟨c13, c14⟩, if_pos (Int32.not_le.mp c20), ← hs5]; rfl) (h5) ((hwS4.set (by decide) (by decide)).set (by decide) (by decide))
                              · have ho8 : k5 < nf := lp_lt hx5 (by omega) (by omega) c27
                                refine g_seg [(412, .aload 5, 2), (414, .iload 7, 2)] 416 [(0, .ref s), (1, .int many), (2, .int x4), (4, .int (s_pl (S4 k4 0) (S4 k4 1) (S4 k4 2) (S4 k4 6))), (5, .ref (rt 1)), (6, .int (nI nf)), (7, .int x5)] [.int x5, .ref (rt 1)] C (by decide +kernel) rfl ?_
                                refine g_aaldS (pc := 416) (j := k5) C (h5.1.2.2.1) (hx5) (ho8) (by omega) (by decide +kernel) ?_
                                refine g_seg [(417, .astore 8, 2), (419, .aload 8, 2), (421, .iconst 0, 1)] 422 [(8, .ref (rd 1 k5)), (0, .ref s), (1, .int many), (2, .int x4), (4, .int (s_pl (S4 k4 0) (S4 k4 1) (S4 k4 2) (S4 k4 6))), (5, .ref (rt 1)), (6, .int (nI nf)), (7, .int x5)] [.int 0, .ref (rd 1 k5)] C (by decide +kernel) rfl ?_
                                refine g_ialdM (pc := 422) (n := 5) 0 (F5 k5 0) C (h5.2.1.2.1 k5 ho8) rfl (by decide) (by decide) (cut_lt (by decide)) (by decide +kernel) ?_
                                refine g_seg [(423, .iconst 1, 1)] 424 [(8, .ref (rd 1 k5)), (0, .ref s), (1, .int many), (2, .int x4), (4, .int (s_pl (S4 k4 0) (S4 k4 1) (S4 k4 2) (S4 k4 6))), (5, .ref (rt 1)), (6, .int (nI nf)), (7, .int x5)] [.int 1, .int (F5 k5 0)] C (by decide +kernel) rfl ?_
                                refine g_icmp_ne (pc := 424) (off := 19) 443 C (by decide +kernel) (by decide) (fun c28 => ?_) (fun c28 => ?_)
                                · refine g_seg [(443, .iinc 7 1, 3), (446, .goto (-41), 3)] 405 [(7, .int (x5 + 1)), (8, .ref (rd 1 k5)), (0, .ref s), (1, .int many), (2, .int x4), (4, .int (s_pl (S4 k4 0) (S4 k4 1) (S4 k4 2) (S4 k4 6))), (5, .ref (rt 1)), (6, .int (nI nf))] [] C (by decide +kernel) rfl ?_
                                  refine g_subp [2, 3, 4, 5, 6, 7, 0] (lv' := [(0, .ref s), (1, .int many), (2, .int x4), (4, .int (s_pl (S4 k4 0) (S4 k4 1) (S4 k4 2) (S4 k4 6))), (5, .ref (rt 1)), (6, .int (nI nf)), (7, .int (x5 + 1))]) rfl ?_
                                  exact ih5 (k5 + 1) F5 G5 (x5 + 1) (by omega) (by omega) (lp_s hx5) (by rw [its, ← hs5]; exact (if_neg (fun h9 => c28 h9.1)).symm) (h5)
                                · refine g_seg [(427, .aload 8, 2), (429, .iconst 1, 1)] 430 [(8, .ref (rd 1 k5)), (0, .ref s), (1, .int many), (2, .int x4), (4, .int (s_pl (S4 k4 0) (S4 k4 1) (S4 k4 2) (S4 k4 6))), (5, .ref (rt 1)), (6, .int (nI nf)), (7, .int x5)] [.int 1, .ref (rd 1 k5)] C (by decide +kernel) rfl ?_
                                  refine g_ialdM (pc := 430) (n := 5) 1 (F5 k5 1) C (h5.2.1.2.1 k5 ho8) rfl (by decide) (by decide) (cut_lt (by decide)) (by decide +kernel) ?_
                                  refine g_seg [(431, .iload_n 2, 1)] 432 [(8, .ref (rd 1 k5)), (0, .ref s), (1, .int many), (2, .int x4), (4, .int (s_pl (S4 k4 0) (S4 k4 1) (S4 k4 2) (S4 k4 6))), (5, .ref (rt 1)), (6, .int (nI nf)), (7, .int x5)] [.int x4, .int (F5 k5 1)] C (by decide +kernel) rfl ?_
                                  refine g_icmp_ne (pc := 432) (off := 11) 443 C (by decide +kernel) (by decide) (fun c29 => ?_) (fun c29 => ?_)
                                  · refine g_seg [(443, .iinc 7 1, 3), (446, .goto (-41), 3)] 405 [(7, .int (x5 + 1)), (8, .ref (rd 1 k5)), (0, .ref s), (1, .int many), (2, .int x4), (4, .int (s_pl (S4 k4 0) (S4 k4 1) (S4 k4 2) (S4 k4 6))), (5, .ref (rt 1)), (6, .int (nI nf))] [] C (by decide +kernel) rfl ?_
                                    refine g_subp [2, 3, 4, 5, 6, 7, 0] (lv' := [(0, .ref s), (1, .int many), (2, .int x4), (4, .int (s_pl (S4 k4 0) (S4 k4 1) (S4 k4 2) (S4 k4 6))), (5, .ref (rt 1)), (6, .int (nI nf)), (7, .int (x5 + 1))]) rfl ?_
                                    exact ih5 (k5 + 1) F5 G5 (x5 + 1) (by omega) (by omega) (lp_s hx5) (by rw [its, ← hs5]; exact (if_neg (fun h9 => c29 (h9.2.trans hx4.symm))).symm) (h5)
                                  · refine g_seg [(435, .aload_n 0, 1), (436, .aload 8, 2), (438, .iload 4, 2)] 440 [(8, .ref (rd 1 k5)), (0, .ref s), (1, .int many), (2, .int x4), (4, .int (s_pl (S4 k4 0) (S4 k4 1) (S4 k4 2) (S4 k4 6))), (5, .ref (rt 1)), (6, .int (nI nf)), (7, .int x5)] [.int (s_pl (S4 k4 0) (S4 k4 1) (S4 k4 2) (S4 k4 6)), .ref (rd 1 k5), .ref s] C (by decide +kernel) rfl ?_
                                    refine g_callV (pc := 440) C mV_X5_falls q366 (h5.1.1) rfl rfl (c_X5_falls l D cy h5 k5 ho8 (s_pl (S4 k4 0) (S4 k4 1) (S4 k4 2) (S4 k4 6))) rfl ⟨⟨Nat.le_of_ble_eq_true rfl, Nat.le_of_ble_eq_true rfl⟩, Nat.le_of_ble_eq_true rfl, Nat.le_of_ble_eq_true rfl⟩ rfl (Nat.le_of_ble_eq_true rfl) (by decide +kernel) ?_
                                    refine g_kV (fun G30 h31 => ?_)
                                    refine g_seg [(443, .iinc 7 1, 3), (446, .goto (-41), 3)] 405 [(7, .int (x5 + 1)), (8, .ref (rd 1 k5)), (0, .ref s), (1, .int many), (2, .int x4), (4, .int (s_pl (S4 k4 0) (S4 k4 1) (S4 k4 2) (S4 k4 6))), (5, .ref (rt 1)), (6, .int (nI nf))] [] C (by decide +kernel) rfl ?_
                                    refine g_subp [2, 3, 4, 5, 6, 7, 0] (lv' := [(0, .ref s), (1, .int many), (2, .int x4), (4, .int (s_pl (S4 k4 0) (S4 k4 1) (S4 k4 2) (S4 k4 6))), (5, .ref (rt 1)), (6, .int (nI nf)), (7, .int (x5 + 1))]) rfl ?_
                                    exact ih5 (k5 + 1) (s_fall N nn F5 k5 (s_pl (S4 k4 0) (S4 k4 1) (S4 k4 2) (S4 k4 6))) G30 (x5 + 1) (by omega) (by omega) (lp_s hx5) (by rw [its, ← hs5]; exact (if_pos ⟨c28, c29.trans hx4⟩).symm) (h31)
                          exact lp26 (nf + 1) 0 F4 G24 0 (by omega) (by omega) (nI_0.symm) (rfl) (h22)
              exact lp5 (nt + 1) 0 S F2 G2 0 (by omega) (by omega) (nI_0.symm) (rfl) (h2) (hwS)
            · have hl8 : k2 < nf := lp_lt hx2 (by omega) (by omega) c4
              refine g_seg [(146, .aload_n 2, 1), (147, .iload 4, 2)] 149 [(0, .ref s), (1, .int many), (2, .ref (rt 1)), (3, .int (nI nf)), (4, .int xl)] [.int xl, .ref (rt 1)] C (by decide +kernel) rfl ?_
              refine g_aaldS (pc := 149) (j := k2) C (h2.1.2.2.1) (hx2) (hl8) (by omega) (by decide +kernel) ?_
              refine g_seg [(150, .astore 5, 2), (152, .aload 5, 2), (154, .iconst 0, 1)] 155 [(5, .ref (rd 1 k2)), (0, .ref s), (1, .int many), (2, .ref (rt 1)), (3, .int (nI nf)), (4, .int xl)] [.int 0, .ref (rd 1 k2)] C (by decide +kernel) rfl ?_
              refine g_ialdM (pc := 155) (n := 5) 0 (F2 k2 0) C (h2.2.1.2.1 k2 hl8) rfl (by decide) (by decide) (cut_lt (by decide)) (by decide +kernel) ?_
              refine g_seg [(156, .iconst 2, 1)] 157 [(5, .ref (rd 1 k2)), (0, .ref s), (1, .int many), (2, .ref (rt 1)), (3, .int (nI nf)), (4, .int xl)] [.int 2, .int (F2 k2 0)] C (by decide +kernel) rfl ?_
              refine g_icmp_eq (pc := 157) (off := 6) 163 C (by decide +kernel) (by decide) (fun c32 => ?_) (fun c32 => ?_)
              · refine g_seg [(163, .aload 5, 2), (165, .iconst 3, 1)] 166 [(5, .ref (rd 1 k2)), (0, .ref s), (1, .int many), (2, .ref (rt 1)), (3, .int (nI nf)), (4, .int xl)] [.int 3, .ref (rd 1 k2)] C (by decide +kernel) rfl ?_
                refine g_ialdM (pc := 166) (n := 5) 3 (F2 k2 3) C (h2.2.1.2.1 k2 hl8) rfl (by decide) (by decide) (cut_lt (by decide)) (by decide +kernel) ?_
                refine g_if_le (pc := 167) (off := 14) 181 C (by decide +kernel) (by decide) (fun c33 => ?_) (fun c33 => ?_)
                · refine g_seg [(181, .iconst (-1), 1), (182, .istore 6, 2), (184, .aload_n 0, 1)] 185 [(6, .int (-1)), (5, .ref (rd 1 k2)), (0, .ref s), (1, .int many), (2, .ref (rt 1)), (3, .int (nI nf)), (4, .int xl)] [.ref s] C (by decide +kernel) rfl ?_
                  refine g_getf (pc := 185) (k := 0) (v := .ref (rt 0)) C fl_X5_9 (h2.1.1) rfl (by decide +kernel) ?_
                  refine g_alenI (pc := 188) C (h2.1.2.1) (by decide +kernel) ?_
                  have hF2 : F2 k2 0 = 2 := c32
                  refine g_seg [(189, .iconst 1, 1), (190, .isub, 1), (191, .istore 7, 2)] 193 [(7, .int ((nI nt) - 1)), (6, .int (-1)), (5, .ref (rd 1 k2)), (0, .ref s), (1, .int many), (2, .ref (rt 1)), (3, .int (nI nf)), (4, .int xl)] [] C (by decide +kernel) rfl ?_
                  refine g_subp [3, 4, 5, 6, 7, 2, 1, 0] (lv' := [(0, .ref s), (1, .int many), (2, .ref (rt 1)), (3, .int (nI nf)), (4, .int xl), (5, .ref (rd 1 k2)), (6, .int (-1)), (7, .int ((nI nt) - 1))]) rfl ?_
                  have lp34 : ∀ (m3 k3 : Nat) (at3 x3 : Int32), nt + 1 ≤ k3 + m3 → k3 ≤ nt → (∃ j, x3 = nI j - 1 ∧ j + k3 = nt ∧ y_at (y_free S F2 nf (F2 k2 2)) nt j at3) → PG κ 9 0 0 G2 [(0, .ref s), (1, .int many), (2, .ref (rt 1)), (3, .int (nI nf)), (4, .int xl), (5, .ref (rd 1 k2)), (6, .int at3), (7, .int x3)] 193 [] := by
                    intro m3
                    induction m3 with
                    | zero => intro k3 at3 x3 h1 h2; intros; exact absurd h1 (by omega)
                    | succ m3 ih3 =>
                      intro k3 at3 x3 hm3 hk3 hj
                      refine g_seg [(193, .iload 7, 2)] 195 [(0, .ref s), (1, .int many), (2, .ref (rt 1)), (3, .int (nI nf)), (4, .int xl), (5, .ref (rd 1 k2)), (6, .int at3), (7, .int x3)] [.int x3] C (by decide +kernel) rfl ?_
                      refine g_if_lt (pc := 195) (off := 76) 271 C (by decide +kernel) (by decide) (fun c35 => ?_) (fun c35 => ?_)
                      · obtain ⟨j, hj1, hj2, hat0⟩ := hj
                        have hj0 := y_j0 hj1 (by omega) c35
                        subst hj0
                        refine g_seg [(271, .iload 6, 2)] 273 [(0, .ref s), (1, .int many), (2, .ref (rt 1)), (3, .int (nI nf)), (4, .int xl), (5, .ref (rd 1 k2)), (6, .int at3), (7, .int x3)] [.int at3] C (by decide +kernel) rfl ?_
                        refine g_if_ge (pc := 273) (off := 16) 289 C (by decide +kernel) (by decide) (fun c36 => ?_) (fun c36 => ?_)
                        · obtain ⟨t9, hv9, ht9, hat⟩ := y_at.s hat0 (by omega) c36
                          subst hv9
                          refine g_seg [(289, .aload_n 0, 1), (290, .aload 5, 2), (292, .iconst 1, 1), (293, .iload 6, 2), (295, .iconst 0, 1), (296, .iconst (-1), 1)] 297 [(0, .ref s), (1, .int many), (2, .ref (rt 1)), (3, .int (nI nf)), (4, .int xl), (5, .ref (rd 1 k2)), (6, .int (nI t9)), (7, .int x3)] [.int (-1), .int 0, .int (nI t9), .int 1, .ref (rd 1 k2), .ref s] C (by decide +kernel) rfl ?_
                          refine g_callV (pc := 297) C mV_X5_state q358 (h2.1.1) rfl rfl (c_X5_state l D cy h2 k2 hl8 1 (nI t9) 0 (-1)) rfl ⟨⟨Nat.le_of_ble_eq_true rfl, Nat.le_of_ble_eq_true rfl⟩, Nat.le_of_ble_eq_true rfl, Nat.le_of_ble_eq_true rfl⟩ rfl (Nat.le_of_ble_eq_true rfl) (by decide +kernel) ?_
                          refine g_kV (fun G37 h38 => ?_)
                          refine g_seg [(300, .aload 5, 2), (302, .iconst 4, 1), (303, .dup2, 1)] 304 [(0, .ref s), (1, .int many), (2, .ref (rt 1)), (3, .int (nI nf)), (4, .int xl), (5, .ref (rd 1 k2)), (6, .int (nI t9)), (7, .int x3)] [.int 4, .ref (rd 1 k2), .int 4, .ref (rd 1 k2)] C (by decide +kernel) rfl ?_
                          refine g_ialdM (pc := 304) (n := 5) 4 (F2 k2 4) C (h38.2.1.2.1 k2 hl8) rfl (by decide) (by decide) (by rw [cut_lt (by decide)]; simp [s_set, s_row]) (by decide +kernel) ?_
                          refine g_seg [(305, .iconst 1, 1), (306, .iadd, 1)] 307 [(0, .ref s), (1, .int many), (2, .ref (rt 1)), (3, .int (nI nf)), (4, .int xl), (5, .ref (rd 1 k2)), (6, .int (nI t9)), (7, .int x3)] [.int ((F2 k2 4) + 1), .int 4, .ref (rd 1 k2)] C (by decide +kernel) rfl ?_
                          refine g_iastM (pc := 307) (n := 5) 4 (cut 5 ((s_set (s_row F2 k2 1 (nI t9) 0 (-1)) k2 4 ((F2 k2 4) + 1)) k2)) C (h38.2.1.2.1 k2 hl8) rfl (by decide) (by decide) (cut_upd (by decide)) (by decide +kernel) ?_
                          refine g_abs (P := fun G9 => RS cy s rt rd b nt nf nc nn S (s_set (s_row F2 k2 1 (nI t9) 0 (-1)) k2 4 ((F2 k2 4) + 1)) C1 N G9) (RS.w1 h38 hl8 (fun j9 h9 => s_set_ne h9)) (fun G39 h40 => ?_)
                          refine g_seg [(308, .iinc 1 1, 3), (311, .iinc 4 1, 3), (314, .goto (-174), 3)] 140 [(4, .int (xl + 1)), (1, .int (many + 1)), (0, .ref s), (2, .ref (rt 1)), (3, .int (nI nf)), (5, .ref (rd 1 k2)), (6, .int (nI t9)), (7, .int x3)] [] C (by decide +kernel) rfl ?_
                          refine g_subp [2, 1, 3, 4, 0] (lv' := [(0, .ref s), (1, .int (many + 1)), (2, .ref (rt 1)), (3, .int (nI nf)), (4, .int (xl + 1))]) rfl ?_
                          exact ih2 (k2 + 1) (s_set (s_row F2 k2 1 (nI t9) 0 (-1)) k2 4 ((F2 k2 4) + 1)) G39 (many + 1) (xl + 1) (by omega) (by omega) (lp_s hx2) (by rw [its, ← hs2]; unfold y_land; rw [if_pos c32, if_neg (Int32.not_lt.mpr c33), hat]) (h40) ((hwF2.row (fun _ => ⟨t9, ht9, rfl⟩)).set (by decide))
                        · have hat := y_at.z hat0 (by omega) c36
                          refine g_seg [(276, .aload_n 0, 1), (277, .aload 5, 2), (279, .aload 5, 2), (281, .iconst 2, 1)] 282 [(0, .ref s), (1, .int many), (2, .ref (rt 1)), (3, .int (nI nf)), (4, .int xl), (5, .ref (rd 1 k2)), (6, .int at3), (7, .int x3)] [.int 2, .ref (rd 1 k2), .ref (rd 1 k2), .ref s] C (by decide +kernel) rfl ?_
                          refine g_ialdM (pc := 282) (n := 5) 2 (F2 k2 2) C (h2.2.1.2.1 k2 hl8) rfl (by decide) (by decide) (cut_lt (by decide)) (by decide +kernel) ?_
                          refine g_callV (pc := 283) C mV_X5_falls q366 (h2.1.1) rfl rfl (c_X5_falls l D cy h2 k2 hl8 (F2 k2 2)) rfl ⟨⟨Nat.le_of_ble_eq_true rfl, Nat.le_of_ble_eq_true rfl⟩, Nat.le_of_ble_eq_true rfl, Nat.le_of_ble_eq_true rfl⟩ rfl (Nat.le_of_ble_eq_true rfl) (by decide +kernel) ?_
                          refine g_kV (fun G41 h42 => ?_)
                          refine g_seg [(286, .goto 25, 3), (311, .iinc 4 1, 3), (314, .goto (-174), 3)] 140 [(4, .int (xl + 1)), (0, .ref s), (1, .int many), (2, .ref (rt 1)), (3, .int (nI nf)), (5, .ref (rd 1 k2)), (6, .int at3), (7, .int x3)] [] C (by decide +kernel) rfl ?_
                          refine g_subp [1, 2, 3, 4, 0] (lv' := [(0, .ref s), (1, .int many), (2, .ref (rt 1)), (3, .int (nI nf)), (4, .int (xl + 1))]) rfl ?_
                          exact ih2 (k2 + 1) (s_fall N nn F2 k2 (F2 k2 2)) G41 many (xl + 1) (by omega) (by omega) (lp_s hx2) (by rw [its, ← hs2]; unfold y_land; rw [if_pos c32, if_neg (Int32.not_lt.mpr c33), hat]) (h42) (hwF2.fall)
                      · obtain ⟨j, hj1, hj2, hat0⟩ := hj
                        obtain ⟨j3, rfl⟩ := y_j1 hj1 c35
                        have hj3 : x3 = nI j3 := by rw [hj1, nI_pred]
                        have hb3 : j3 < nt := by omega
                        have hat4 := hat0
                        refine g_seg [(198, .aload_n 0, 1)] 199 [(0, .ref s), (1, .int many), (2, .ref (rt 1)), (3, .int (nI nf)), (4, .int xl), (5, .ref (rd 1 k2)), (6, .int at3), (7, .int x3)] [.ref s] C (by decide +kernel) rfl ?_
                        refine g_getf (pc := 199) (k := 0) (v := .ref (rt 0)) C fl_X5_9 (h2.1.1) rfl (by decide +kernel) ?_
                        refine g_seg [(202, .iload 7, 2)] 204 [(0, .ref s), (1, .int many), (2, .ref (rt 1)), (3, .int (nI nf)), (4, .int xl), (5, .ref (rd 1 k2)), (6, .int at3), (7, .int x3)] [.int x3, .ref (rt 0)] C (by decide +kernel) rfl ?_
                        refine g_aaldS (pc := 204) (j := j3) C (h2.1.2.1) (hj3) (hb3) (by omega) (by decide +kernel) ?_
                        refine g_seg [(205, .aload_n 0, 1)] 206 [(0, .ref s), (1, .int many), (2, .ref (rt 1)), (3, .int (nI nf)), (4, .int xl), (5, .ref (rd 1 k2)), (6, .int at3), (7, .int x3)] [.ref s, .ref (rd 0 j3)] C (by decide +kernel) rfl ?_
                        refine g_getf (pc := 206) (k := 0) (v := .ref (rt 0)) C fl_X5_9 (h2.1.1) rfl (by decide +kernel) ?_
                        refine g_seg [(209, .iload 7, 2)] 211 [(0, .ref s), (1, .int many), (2, .ref (rt 1)), (3, .int (nI nf)), (4, .int xl), (5, .ref (rd 1 k2)), (6, .int at3), (7, .int x3)] [.int x3, .ref (rt 0), .ref (rd 0 j3)] C (by decide +kernel) rfl ?_
                        refine g_aaldS (pc := 211) (j := j3) C (h2.1.2.1) (hj3) (hb3) (by omega) (by decide +kernel) ?_
                        refine g_seg [(212, .bipush 6, 2)] 214 [(0, .ref s), (1, .int many), (2, .ref (rt 1)), (3, .int (nI nf)), (4, .int xl), (5, .ref (rd 1 k2)), (6, .int at3), (7, .int x3)] [.int 6, .ref (rd 0 j3), .ref (rd 0 j3)] C (by decide +kernel) rfl ?_
                        refine g_ialdM (pc := 214) (n := 7) 6 (S j3 6) C (h2.2.1.1 j3 hb3) rfl (by decide) (by decide) (cut_lt (by decide)) (by decide +kernel) ?_
                        obtain ⟨⟨w9, hw9, hf9⟩, d9, hd9, hs9⟩ := hwS j3 hb3
                        refine g_callS (pc := 215) C mS_X5_place q355 (c_X5_place l D cy _ (rd 0 j3) (S j3) (h2.2.1.1 j3 hb3) w9 d9 hw9 (S j3 0) (S j3 1) (S j3 2) rfl rfl rfl hf9 (S j3 6) hs9 hd9) rfl ⟨⟨Nat.le_of_ble_eq_true rfl, Nat.le_of_ble_eq_true rfl⟩, Nat.le_of_ble_eq_true rfl, Nat.le_of_ble_eq_true rfl⟩ rfl (Nat.le_of_ble_eq_true rfl) (by decide +kernel) ?_
                        refine g_kI (fun v45 G44 hp43 => ?_)
                        obtain ⟨rfl, rfl⟩ := hp43
                        refine g_seg [(218, .aload 5, 2), (220, .iconst 2, 1)] 221 [(0, .ref s), (1, .int many), (2, .ref (rt 1)), (3, .int (nI nf)), (4, .int xl), (5, .ref (rd 1 k2)), (6, .int at3), (7, .int x3)] [.int 2, .ref (rd 1 k2), .int (s_pl (S j3 0) (S j3 1) (S j3 2) (S j3 6))] C (by decide +kernel) rfl ?_
                        refine g_ialdM (pc := 221) (n := 5) 2 (F2 k2 2) C (h2.2.1.2.1 k2 hl8) rfl (by decide) (by decide) (cut_lt (by decide)) (by decide +kernel) ?_
                        refine g_seg [(222, .isub, 1), (223, .istore 8, 2), (225, .aload_n 0, 1)] 226 [(8, .int ((s_pl (S j3 0) (S j3 1) (S j3 2) (S j3 6)) - (F2 k2 2))), (0, .ref s), (1, .int many), (2, .ref (rt 1)), (3, .int (nI nf)), (4, .int xl), (5, .ref (rd 1 k2)), (6, .int at3), (7, .int x3)] [.ref s] C (by decide +kernel) rfl ?_
                        refine g_getf (pc := 226) (k := 0) (v := .ref (rt 0)) C fl_X5_9 (h2.1.1) rfl (by decide +kernel) ?_
                        refine g_seg [(229, .iload 7, 2)] 231 [(8, .int ((s_pl (S j3 0) (S j3 1) (S j3 2) (S j3 6)) - (F2 k2 2))), (0, .ref s), (1, .int many), (2, .ref (rt 1)), (3, .int (nI nf)), (4, .int xl), (5, .ref (rd 1 k2)), (6, .int at3), (7, .int x3)] [.int x3, .ref (rt 0)] C (by decide +kernel) rfl ?_
                        refine g_aaldS (pc := 231) (j := j3) C (h2.1.2.1) (hj3) (hb3) (by omega) (by decide +kernel) ?_
                        refine g_seg [(232, .iconst 5, 1)] 233 [(8, .int ((s_pl (S j3 0) (S j3 1) (S j3 2) (S j3 6)) - (F2 k2 2))), (0, .ref s), (1, .int many), (2, .ref (rt 1)), (3, .int (nI nf)), (4, .int xl), (5, .ref (rd 1 k2)), (6, .int at3), (7, .int x3)] [.int 5, .ref (rd 0 j3)] C (by decide +kernel) rfl ?_
                        refine g_ialdM (pc := 233) (n := 7) 5 (S j3 5) C (h2.2.1.1 j3 hb3) rfl (by decide) (by decide) (cut_lt (by decide)) (by decide +kernel) ?_
                        refine g_seg [(234, .iconst 1, 1)] 235 [(8, .int ((s_pl (S j3 0) (S j3 1) (S j3 2) (S j3 6)) - (F2 k2 2))), (0, .ref s), (1, .int many), (2, .ref (rt 1)), (3, .int (nI nf)), (4, .int xl), (5, .ref (rd 1 k2)), (6, .int at3), (7, .int x3)] [.int 1, .int (S j3 5)] C (by decide +kernel) rfl ?_
                        refine g_icmp_ne (pc := 235) (off := 30) 265 C (by decide +kernel) (by decide) (fun c46 => ?_) (fun c46 => ?_)
                        · refine g_seg [(265, .iinc 7 (-1), 3), (268, .goto (-75), 3)] 193 [(7, .int (x3 + (-1))), (8, .int ((s_pl (S j3 0) (S j3 1) (S j3 2) (S j3 6)) - (F2 k2 2))), (0, .ref s), (1, .int many), (2, .ref (rt 1)), (3, .int (nI nf)), (4, .int xl), (5, .ref (rd 1 k2)), (6, .int at3)] [] C (by decide +kernel) rfl ?_
                          refine g_subp [2, 3, 4, 5, 6, 7, 8, 0] (lv' := [(0, .ref s), (1, .int many), (2, .ref (rt 1)), (3, .int (nI nf)), (4, .int xl), (5, .ref (rd 1 k2)), (6, .int at3), (7, .int (x3 + (-1)))]) rfl ?_
                          exact ih3 (k3 + 1) at3 (x3 + (-1)) (by omega) (by omega) (⟨j3, by rw [hj3]; exact (Int32.sub_eq_add_neg (nI j3) 1).symm, by omega, hat4.n (by unfold y_free; exact decide_eq_false (fun h9 => c46 h9.1))⟩)
                        · refine g_seg [(238, .aload_n 0, 1), (239, .iload 7, 2)] 241 [(8, .int ((s_pl (S j3 0) (S j3 1) (S j3 2) (S j3 6)) - (F2 k2 2))), (0, .ref s), (1, .int many), (2, .ref (rt 1)), (3, .int (nI nf)), (4, .int xl), (5, .ref (rd 1 k2)), (6, .int at3), (7, .int x3)] [.int x3, .ref s] C (by decide +kernel) rfl ?_
                          refine g_callV (pc := 241) C mV_X5_hang q362 (h2.1.1) rfl rfl (c_X5_hang l D cy h2 x3) rfl ⟨⟨Nat.le_of_ble_eq_true rfl, Nat.le_of_ble_eq_true rfl⟩, Nat.le_of_ble_eq_true rfl, Nat.le_of_ble_eq_true rfl⟩ rfl (Nat.le_of_ble_eq_true rfl) (by decide +kernel) ?_
                          refine g_kI (fun v49 G48 hp47 => ?_)
                          obtain ⟨rfl, rfl⟩ := hp47
                          refine g_seg [(244, .iconst 2, 1)] 245 [(8, .int ((s_pl (S j3 0) (S j3 1) (S j3 2) (S j3 6)) - (F2 k2 2))), (0, .ref s), (1, .int many), (2, .ref (rt 1)), (3, .int (nI nf)), (4, .int xl), (5, .ref (rd 1 k2)), (6, .int at3), (7, .int x3)] [.int 2, .int (nI (s_hangE F2 nf x3))] C (by decide +kernel) rfl ?_
                          refine g_icmp_ge (pc := 245) (off := 20) 265 C (by decide +kernel) (by decide) (fun c50 => ?_) (fun c50 => ?_)
                          · refine g_seg [(265, .iinc 7 (-1), 3), (268, .goto (-75), 3)] 193 [(7, .int (x3 + (-1))), (8, .int ((s_pl (S j3 0) (S j3 1) (S j3 2) (S j3 6)) - (F2 k2 2))), (0, .ref s), (1, .int many), (2, .ref (rt 1)), (3, .int (nI nf)), (4, .int xl), (5, .ref (rd 1 k2)), (6, .int at3)] [] C (by decide +kernel) rfl ?_
                            refine g_subp [2, 3, 4, 5, 6, 7, 8, 0] (lv' := [(0, .ref s), (1, .int many), (2, .ref (rt 1)), (3, .int (nI nf)), (4, .int xl), (5, .ref (rd 1 k2)), (6, .int at3), (7, .int (x3 + (-1)))]) rfl ?_
                            exact ih3 (k3 + 1) at3 (x3 + (-1)) (by omega) (by omega) (⟨j3, by rw [hj3]; exact (Int32.sub_eq_add_neg (nI j3) 1).symm, by omega, hat4.n (by unfold y_free; exact decide_eq_false (fun h9 => absurd h9.2.1 (Int32.not_lt.mpr (by rw [← hj3]; exact c50))))⟩)
                          · refine g_seg [(248, .iload 8, 2), (250, .iconst 2, 1)] 251 [(8, .int ((s_pl (S j3 0) (S j3 1) (S j3 2) (S j3 6)) - (F2 k2 2))), (0, .ref s), (1, .int many), (2, .ref (rt 1)), (3, .int (nI nf)), (4, .int xl), (5, .ref (rd 1 k2)), (6, .int at3), (7, .int x3)] [.int 2, .int ((s_pl (S j3 0) (S j3 1) (S j3 2) (S j3 6)) - (F2 k2 2))] C (by decide +kernel) rfl ?_
                            refine g_icmp_gt (pc := 251) (off := 14) 265 C (by decide +kernel) (by decide) (fun c51 => ?_) (fun c51 => ?_)
                            · refine g_seg [(265, .iinc 7 (-1), 3), (268, .goto (-75), 3)] 193 [(7, .int (x3 + (-1))), (8, .int ((s_pl (S j3 0) (S j3 1) (S j3 2) (S j3 6)) - (F2 k2 2))), (0, .ref s), (1, .int many), (2, .ref (rt 1)), (3, .int (nI nf)), (4, .int xl), (5, .ref (rd 1 k2)), (6, .int at3)] [] C (by decide +kernel) rfl ?_
                              refine g_subp [2, 3, 4, 5, 6, 7, 8, 0] (lv' := [(0, .ref s), (1, .int many), (2, .ref (rt 1)), (3, .int (nI nf)), (4, .int xl), (5, .ref (rd 1 k2)), (6, .int at3), (7, .int (x3 + (-1)))]) rfl ?_
                              exact ih3 (k3 + 1) at3 (x3 + (-1)) (by omega) (by omega) (⟨j3, by rw [hj3]; exact (Int32.sub_eq_add_neg (nI j3) 1).symm, by omega, hat4.n (by unfold y_free; exact decide_eq_false (fun h9 => absurd h9.2.2.1 (Int32.not_le.mpr c51)))⟩)
                            · refine g_seg [(254, .iload 8, 2), (256, .bipush (-2), 2)] 258 [(8, .int ((s_pl (S j3 0) (S j3 1) (S j3 2) (S j3 6)) - (F2 k2 2))), (0, .ref s), (1, .int many), (2, .ref (rt 1)), (3, .int (nI nf)), (4, .int xl), (5, .ref (rd 1 k2)), (6, .int at3), (7, .int x3)] [.int (-2), .int ((s_pl (S j3 0) (S j3 1) (S j3 2) (S j3 6)) - (F2 k2 2))] C (by decide +kernel) rfl ?_
                              refine g_icmp_lt (pc := 258) (off := 7) 265 C (by decide +kernel) (by decide) (fun c52 => ?_) (fun c52 => ?_)
                              · refine g_seg [(265, .iinc 7 (-1), 3), (268, .goto (-75), 3)] 193 [(7, .int (x3 + (-1))), (8, .int ((s_pl (S j3 0) (S j3 1) (S j3 2) (S j3 6)) - (F2 k2 2))), (0, .ref s), (1, .int many), (2, .ref (rt 1)), (3, .int (nI nf)), (4, .int xl), (5, .ref (rd 1 k2)), (6, .int at3)] [] C (by decide +kernel) rfl ?_
                                refine g_subp [2, 3, 4, 5, 6, 7, 8, 0] (lv' := [(0, .ref s), (1, .int many), (2, .ref (rt 1)), (3, .int (nI nf)), (4, .int xl), (5, .ref (rd 1 k2)), (6, .int at3), (7, .int (x3 + (-1)))]) rfl ?_
                                exact ih3 (k3 + 1) at3 (x3 + (-1)) (by omega) (by omega) (⟨j3, by rw [hj3]; exact (Int32.sub_eq_add_neg (nI j3) 1).symm, by omega, hat4.n (by unfold y_free; exact decide_eq_false (fun h9 => absurd h9.2.2.2 (Int32.not_le.mpr c52)))⟩)
                              · refine g_seg [(261, .iload 7, 2), (263, .istore 6, 2), (265, .iinc 7 (-1), 3), (268, .goto (-75), 3)] 193 [(7, .int (x3 + (-1))), (6, .int x3), (8, .int ((s_pl (S j3 0) (S j3 1) (S j3 2) (S j3 6)) - (F2 k2 2))), (0, .ref s), (1, .int many), (2, .ref (rt 1)), (3, .int (nI nf)), (4, .int xl), (5, .ref (rd 1 k2))] [] C (by decide +kernel) rfl ?_
                                refine g_subp [3, 4, 5, 6, 7, 8, 1, 0] (lv' := [(0, .ref s), (1, .int many), (2, .ref (rt 1)), (3, .int (nI nf)), (4, .int xl), (5, .ref (rd 1 k2)), (6, .int x3), (7, .int (x3 + (-1)))]) rfl ?_
                                exact ih3 (k3 + 1) x3 (x3 + (-1)) (by omega) (by omega) (⟨j3, by rw [hj3]; exact (Int32.sub_eq_add_neg (nI j3) 1).symm, by omega, by rw [hj3]; exact y_at.y (by omega) (by unfold y_free; exact decide_eq_true ⟨c46, (by rw [← hj3]; exact Int32.not_le.mp c50), Int32.not_lt.mp c51, Int32.not_lt.mp c52⟩)⟩)
                  exact lp34 (nt + 1) 0 (-1) ((nI nt) - 1) (by omega) (by omega) (⟨nt, rfl, by omega, Or.inl ⟨rfl, fun i h1 h2 => absurd h2 (by omega)⟩⟩)
                · refine g_seg [(170, .aload 5, 2), (172, .iconst 3, 1), (173, .dup2, 1)] 174 [(5, .ref (rd 1 k2)), (0, .ref s), (1, .int many), (2, .ref (rt 1)), (3, .int (nI nf)), (4, .int xl)] [.int 3, .ref (rd 1 k2), .int 3, .ref (rd 1 k2)] C (by decide +kernel) rfl ?_
                  refine g_ialdM (pc := 174) (n := 5) 3 (F2 k2 3) C (h2.2.1.2.1 k2 hl8) rfl (by decide) (by decide) (cut_lt (by decide)) (by decide +kernel) ?_
                  refine g_seg [(175, .iconst 1, 1), (176, .isub, 1)] 177 [(5, .ref (rd 1 k2)), (0, .ref s), (1, .int many), (2, .ref (rt 1)), (3, .int (nI nf)), (4, .int xl)] [.int ((F2 k2 3) - 1), .int 3, .ref (rd 1 k2)] C (by decide +kernel) rfl ?_
                  refine g_iastM (pc := 177) (n := 5) 3 (cut 5 ((s_set F2 k2 3 ((F2 k2 3) - 1)) k2)) C (h2.2.1.2.1 k2 hl8) rfl (by decide) (by decide) (cut_upd (by decide)) (by decide +kernel) ?_
                  refine g_abs (P := fun G9 => RS cy s rt rd b nt nf nc nn S (s_set F2 k2 3 ((F2 k2 3) - 1)) C1 N G9) (RS.w1 h2 hl8 (fun j9 h9 => s_set_ne h9)) (fun G53 h54 => ?_)
                  refine g_seg [(178, .goto 133, 3), (311, .iinc 4 1, 3), (314, .goto (-174), 3)] 140 [(4, .int (xl + 1)), (5, .ref (rd 1 k2)), (0, .ref s), (1, .int many), (2, .ref (rt 1)), (3, .int (nI nf))] [] C (by decide +kernel) rfl ?_
                  refine g_subp [2, 3, 4, 5, 0] (lv' := [(0, .ref s), (1, .int many), (2, .ref (rt 1)), (3, .int (nI nf)), (4, .int (xl + 1))]) rfl ?_
                  exact ih2 (k2 + 1) (s_set F2 k2 3 ((F2 k2 3) - 1)) G53 many (xl + 1) (by omega) (by omega) (lp_s hx2) (by rw [its, ← hs2]; unfold y_land; rw [if_pos c32, if_pos (Int32.not_le.mp c33)]) (h54) (hwF2.set (by decide))
              · refine g_seg [(160, .goto 151, 3), (311, .iinc 4 1, 3), (314, .goto (-174), 3)] 140 [(4, .int (xl + 1)), (5, .ref (rd 1 k2)), (0, .ref s), (1, .int many), (2, .ref (rt 1)), (3, .int (nI nf))] [] C (by decide +kernel) rfl ?_
                refine g_subp [2, 3, 4, 5, 0] (lv' := [(0, .ref s), (1, .int many), (2, .ref (rt 1)), (3, .int (nI nf)), (4, .int (xl + 1))]) rfl ?_
                exact ih2 (k2 + 1) F2 G2 many (xl + 1) (by omega) (by omega) (lp_s hx2) (by rw [its, ← hs2]; exact (if_neg c32).symm) (h2) (hwF2)
        exact lp3 (nf + 1) 0 F1 G1 0 0 (by omega) (by omega) (nI_0.symm) (rfl) (h1) (hwF1)
      · have hk8 : k < nc := lp_lt hx (by omega) (by omega) c2
        obtain ⟨f, hf, hC⟩ := hwC1 k hk8
        refine g_seg [(19, .aload_n 2, 1), (20, .iload 4, 2)] 22 [(0, .ref s), (1, .int 0), (2, .ref (rt 2)), (3, .int (nI nc)), (4, .int xk)] [.int xk, .ref (rt 2)] C (by decide +kernel) rfl ?_
        refine g_aaldS (pc := 22) (j := k) C (h1.1.2.2.2.1) (hx) (hk8) (by omega) (by decide +kernel) ?_
        refine g_seg [(23, .astore 5, 2), (25, .aload 5, 2), (27, .iconst 0, 1)] 28 [(5, .ref (rd 2 k)), (0, .ref s), (1, .int 0), (2, .ref (rt 2)), (3, .int (nI nc)), (4, .int xk)] [.int 0, .ref (rd 2 k)] C (by decide +kernel) rfl ?_
        refine g_ialdM (pc := 28) (n := 5) 0 (C1 k 0) C (h1.2.1.2.2.1 k hk8) rfl (by decide) (by decide) (cut_lt (by decide)) (by decide +kernel) ?_
        refine g_seg [(29, .aload_n 0, 1)] 30 [(5, .ref (rd 2 k)), (0, .ref s), (1, .int 0), (2, .ref (rt 2)), (3, .int (nI nc)), (4, .int xk)] [.ref s, .int (C1 k 0)] C (by decide +kernel) rfl ?_
        refine g_getf (pc := 30) (k := 4) (v := .int b) C fl_X5_33 (h1.1.1) rfl (by decide +kernel) ?_
        refine g_icmp_ne (pc := 33) (off := 90) 123 C (by decide +kernel) (by decide) (fun c55 => ?_) (fun c55 => ?_)
        · refine g_seg [(123, .iinc 4 1, 3), (126, .goto (-113), 3)] 13 [(4, .int (xk + 1)), (5, .ref (rd 2 k)), (0, .ref s), (1, .int 0), (2, .ref (rt 2)), (3, .int (nI nc))] [] C (by decide +kernel) rfl ?_
          refine g_subp [2, 3, 4, 5, 0] (lv' := [(0, .ref s), (1, .int 0), (2, .ref (rt 2)), (3, .int (nI nc)), (4, .int (xk + 1))]) rfl ?_
          exact ih (k + 1) F1 C1 G1 (xk + 1) (by omega) (by omega) (lp_s hx) (by rw [its, ← hs]; exact (if_neg (fun h9 => c55 h9.1)).symm) (h1) (hwF1) (hwC1)
        · refine g_seg [(36, .aload 5, 2), (38, .iconst 4, 1)] 39 [(5, .ref (rd 2 k)), (0, .ref s), (1, .int 0), (2, .ref (rt 2)), (3, .int (nI nc)), (4, .int xk)] [.int 4, .ref (rd 2 k)] C (by decide +kernel) rfl ?_
          refine g_ialdM (pc := 39) (n := 5) 4 (C1 k 4) C (h1.2.1.2.2.1 k hk8) rfl (by decide) (by decide) (cut_lt (by decide)) (by decide +kernel) ?_
          refine g_if_eq (pc := 40) (off := 6) 46 C (by decide +kernel) (by decide) (fun c56 => ?_) (fun c56 => ?_)
          · refine g_seg [(46, .aload_n 0, 1)] 47 [(5, .ref (rd 2 k)), (0, .ref s), (1, .int 0), (2, .ref (rt 2)), (3, .int (nI nc)), (4, .int xk)] [.ref s] C (by decide +kernel) rfl ?_
            refine g_getf (pc := 47) (k := 1) (v := .ref (rt 1)) C fl_X5_15 (h1.1.1) rfl (by decide +kernel) ?_
            refine g_seg [(50, .aload 5, 2), (52, .iconst 1, 1)] 53 [(5, .ref (rd 2 k)), (0, .ref s), (1, .int 0), (2, .ref (rt 2)), (3, .int (nI nc)), (4, .int xk)] [.int 1, .ref (rd 2 k), .ref (rt 1)] C (by decide +kernel) rfl ?_
            refine g_ialdM (pc := 53) (n := 5) 1 (C1 k 1) C (h1.2.1.2.2.1 k hk8) rfl (by decide) (by decide) (cut_lt (by decide)) (by decide +kernel) ?_
            refine g_aaldS (pc := 54) (j := f) C (h1.1.2.2.1) (hC) (hf) (by omega) (by decide +kernel) ?_
            refine g_seg [(55, .astore 6, 2), (57, .aload 5, 2), (59, .iconst 4, 1), (60, .aload 6, 2), (62, .iconst 0, 1)] 63 [(6, .ref (rd 1 f)), (5, .ref (rd 2 k)), (0, .ref s), (1, .int 0), (2, .ref (rt 2)), (3, .int (nI nc)), (4, .int xk)] [.int 0, .ref (rd 1 f), .int 4, .ref (rd 2 k)] C (by decide +kernel) rfl ?_
            refine g_ialdM (pc := 63) (n := 5) 0 (F1 f 0) C (h1.2.1.2.1 f hf) rfl (by decide) (by decide) (cut_lt (by decide)) (by decide +kernel) ?_
            refine g_seg [(64, .iconst 1, 1)] 65 [(6, .ref (rd 1 f)), (5, .ref (rd 2 k)), (0, .ref s), (1, .int 0), (2, .ref (rt 2)), (3, .int (nI nc)), (4, .int xk)] [.int 1, .int (F1 f 0), .int 4, .ref (rd 2 k)] C (by decide +kernel) rfl ?_
            refine g_icmp_ne (pc := 65) (off := 7) 72 C (by decide +kernel) (by decide) (fun c57 => ?_) (fun c57 => ?_)
            · refine g_seg [(72, .iconst 2, 1)] 73 [(6, .ref (rd 1 f)), (5, .ref (rd 2 k)), (0, .ref s), (1, .int 0), (2, .ref (rt 2)), (3, .int (nI nc)), (4, .int xk)] [.int 2, .int 4, .ref (rd 2 k)] C (by decide +kernel) rfl ?_
              refine g_iastM (pc := 73) (n := 5) 4 (cut 5 ((s_set C1 k 4 2) k)) C (h1.2.1.2.2.1 k hk8) rfl (by decide) (by decide) (cut_upd (by decide)) (by decide +kernel) ?_
              refine g_abs (P := fun G9 => RS cy s rt rd b nt nf nc nn S F1 (s_set C1 k 4 2) N G9) (RS.w2 h1 hk8 (fun j9 h9 => s_set_ne h9)) (fun G58 h59 => ?_)
              refine g_seg [(74, .aload 6, 2), (76, .iconst 0, 1)] 77 [(6, .ref (rd 1 f)), (5, .ref (rd 2 k)), (0, .ref s), (1, .int 0), (2, .ref (rt 2)), (3, .int (nI nc)), (4, .int xk)] [.int 0, .ref (rd 1 f)] C (by decide +kernel) rfl ?_
              refine g_ialdM (pc := 77) (n := 5) 0 (F1 f 0) C (h59.2.1.2.1 f hf) rfl (by decide) (by decide) (cut_lt (by decide)) (by decide +kernel) ?_
              refine g_seg [(78, .iconst 1, 1)] 79 [(6, .ref (rd 1 f)), (5, .ref (rd 2 k)), (0, .ref s), (1, .int 0), (2, .ref (rt 2)), (3, .int (nI nc)), (4, .int xk)] [.int 1, .int (F1 f 0)] C (by decide +kernel) rfl ?_
              refine g_icmp_ne (pc := 79) (off := 44) 123 C (by decide +kernel) (by decide) (fun _ => ?_) (fun c9 => absurd c9 (c57))
              refine g_seg [(123, .iinc 4 1, 3), (126, .goto (-113), 3)] 13 [(4, .int (xk + 1)), (6, .ref (rd 1 f)), (5, .ref (rd 2 k)), (0, .ref s), (1, .int 0), (2, .ref (rt 2)), (3, .int (nI nc))] [] C (by decide +kernel) rfl ?_
              refine g_subp [3, 4, 5, 6, 0] (lv' := [(0, .ref s), (1, .int 0), (2, .ref (rt 2)), (3, .int (nI nc)), (4, .int (xk + 1))]) rfl ?_
              exact ih (k + 1) F1 (s_set C1 k 4 2) G58 (xk + 1) (by omega) (by omega) (lp_s hx) (by rw [its, ← hs]; simp only [y_cue]; rw [if_pos ⟨c55, c56⟩, ixn_n hC (by omega), if_neg c57]) (h59) (hwF1) (hwC1.set)
            · obtain ⟨t, ht, hF⟩ := hwF1 f hf c57
              refine g_seg [(68, .iconst 1, 1), (69, .goto 4, 3)] 73 [(6, .ref (rd 1 f)), (5, .ref (rd 2 k)), (0, .ref s), (1, .int 0), (2, .ref (rt 2)), (3, .int (nI nc)), (4, .int xk)] [.int 1, .int 4, .ref (rd 2 k)] C (by decide +kernel) rfl ?_
              refine g_iastM (pc := 73) (n := 5) 4 (cut 5 ((s_set C1 k 4 1) k)) C (h1.2.1.2.2.1 k hk8) rfl (by decide) (by decide) (cut_upd (by decide)) (by decide +kernel) ?_
              refine g_abs (P := fun G9 => RS cy s rt rd b nt nf nc nn S F1 (s_set C1 k 4 1) N G9) (RS.w2 h1 hk8 (fun j9 h9 => s_set_ne h9)) (fun G60 h61 => ?_)
              refine g_seg [(74, .aload 6, 2), (76, .iconst 0, 1)] 77 [(6, .ref (rd 1 f)), (5, .ref (rd 2 k)), (0, .ref s), (1, .int 0), (2, .ref (rt 2)), (3, .int (nI nc)), (4, .int xk)] [.int 0, .ref (rd 1 f)] C (by decide +kernel) rfl ?_
              refine g_ialdM (pc := 77) (n := 5) 0 (F1 f 0) C (h61.2.1.2.1 f hf) rfl (by decide) (by decide) (cut_lt (by decide)) (by decide +kernel) ?_
              refine g_seg [(78, .iconst 1, 1)] 79 [(6, .ref (rd 1 f)), (5, .ref (rd 2 k)), (0, .ref s), (1, .int 0), (2, .ref (rt 2)), (3, .int (nI nc)), (4, .int xk)] [.int 1, .int (F1 f 0)] C (by decide +kernel) rfl ?_
              refine g_icmp_ne (pc := 79) (off := 44) 123 C (by decide +kernel) (by decide) (fun c9 => absurd (c57) c9) (fun _ => ?_)
              refine g_seg [(82, .aload_n 0, 1), (83, .aload 6, 2), (85, .iconst 2, 1), (86, .iconst (-1), 1), (87, .aload_n 0, 1)] 88 [(6, .ref (rd 1 f)), (5, .ref (rd 2 k)), (0, .ref s), (1, .int 0), (2, .ref (rt 2)), (3, .int (nI nc)), (4, .int xk)] [.ref s, .int (-1), .int 2, .ref (rd 1 f), .ref s] C (by decide +kernel) rfl ?_
              refine g_getf (pc := 88) (k := 0) (v := .ref (rt 0)) C fl_X5_9 (h61.1.1) rfl (by decide +kernel) ?_
              refine g_seg [(91, .aload 6, 2), (93, .iconst 1, 1)] 94 [(6, .ref (rd 1 f)), (5, .ref (rd 2 k)), (0, .ref s), (1, .int 0), (2, .ref (rt 2)), (3, .int (nI nc)), (4, .int xk)] [.int 1, .ref (rd 1 f), .ref (rt 0), .int (-1), .int 2, .ref (rd 1 f), .ref s] C (by decide +kernel) rfl ?_
              refine g_ialdM (pc := 94) (n := 5) 1 (F1 f 1) C (h61.2.1.2.1 f hf) rfl (by decide) (by decide) (cut_lt (by decide)) (by decide +kernel) ?_
              refine g_aaldS (pc := 95) (j := t) C (h61.1.2.1) (hF) (ht) (by omega) (by decide +kernel) ?_
              refine g_seg [(96, .aload_n 0, 1)] 97 [(6, .ref (rd 1 f)), (5, .ref (rd 2 k)), (0, .ref s), (1, .int 0), (2, .ref (rt 2)), (3, .int (nI nc)), (4, .int xk)] [.ref s, .ref (rd 0 t), .int (-1), .int 2, .ref (rd 1 f), .ref s] C (by decide +kernel) rfl ?_
              refine g_getf (pc := 97) (k := 0) (v := .ref (rt 0)) C fl_X5_9 (h61.1.1) rfl (by decide +kernel) ?_
              refine g_seg [(100, .aload 6, 2), (102, .iconst 1, 1)] 103 [(6, .ref (rd 1 f)), (5, .ref (rd 2 k)), (0, .ref s), (1, .int 0), (2, .ref (rt 2)), (3, .int (nI nc)), (4, .int xk)] [.int 1, .ref (rd 1 f), .ref (rt 0), .ref (rd 0 t), .int (-1), .int 2, .ref (rd 1 f), .ref s] C (by decide +kernel) rfl ?_
              refine g_ialdM (pc := 103) (n := 5) 1 (F1 f 1) C (h61.2.1.2.1 f hf) rfl (by decide) (by decide) (cut_lt (by decide)) (by decide +kernel) ?_
              refine g_aaldS (pc := 104) (j := t) C (h61.1.2.1) (hF) (ht) (by omega) (by decide +kernel) ?_
              refine g_seg [(105, .bipush 6, 2)] 107 [(6, .ref (rd 1 f)), (5, .ref (rd 2 k)), (0, .ref s), (1, .int 0), (2, .ref (rt 2)), (3, .int (nI nc)), (4, .int xk)] [.int 6, .ref (rd 0 t), .ref (rd 0 t), .int (-1), .int 2, .ref (rd 1 f), .ref s] C (by decide +kernel) rfl ?_
              refine g_ialdM (pc := 107) (n := 7) 6 (S t 6) C (h61.2.1.1 t ht) rfl (by decide) (by decide) (cut_lt (by decide)) (by decide +kernel) ?_
              obtain ⟨⟨w9, hw9, hf9⟩, d9, hd9, hs9⟩ := hwS t ht
              refine g_callS (pc := 108) C mS_X5_place q355 (c_X5_place l D cy _ (rd 0 t) (S t) (h61.2.1.1 t ht) w9 d9 hw9 (S t 0) (S t 1) (S t 2) rfl rfl rfl hf9 (S t 6) hs9 hd9) rfl ⟨⟨Nat.le_of_ble_eq_true rfl, Nat.le_of_ble_eq_true rfl⟩, Nat.le_of_ble_eq_true rfl, Nat.le_of_ble_eq_true rfl⟩ rfl (Nat.le_of_ble_eq_true rfl) (by decide +kernel) ?_
              refine g_kI (fun v64 G63 hp62 => ?_)
              obtain ⟨rfl, rfl⟩ := hp62
              refine g_seg [(111, .aload 5, 2), (113, .iconst 2, 1)] 114 [(6, .ref (rd 1 f)), (5, .ref (rd 2 k)), (0, .ref s), (1, .int 0), (2, .ref (rt 2)), (3, .int (nI nc)), (4, .int xk)] [.int 2, .ref (rd 2 k), .int (s_pl (S t 0) (S t 1) (S t 2) (S t 6)), .int (-1), .int 2, .ref (rd 1 f), .ref s] C (by decide +kernel) rfl ?_
              refine g_ialdM (pc := 114) (n := 5) 2 (C1 k 2) C (h61.2.1.2.2.1 k hk8) rfl (by decide) (by decide) (by rw [cut_lt (by decide)]; simp [s_set, s_row]) (by decide +kernel) ?_
              refine g_seg [(115, .iadd, 1), (116, .aload 5, 2), (118, .iconst 3, 1)] 119 [(6, .ref (rd 1 f)), (5, .ref (rd 2 k)), (0, .ref s), (1, .int 0), (2, .ref (rt 2)), (3, .int (nI nc)), (4, .int xk)] [.int 3, .ref (rd 2 k), .int ((s_pl (S t 0) (S t 1) (S t 2) (S t 6)) + (C1 k 2)), .int (-1), .int 2, .ref (rd 1 f), .ref s] C (by decide +kernel) rfl ?_
              refine g_ialdM (pc := 119) (n := 5) 3 (C1 k 3) C (h61.2.1.2.2.1 k hk8) rfl (by decide) (by decide) (by rw [cut_lt (by decide)]; simp [s_set, s_row]) (by decide +kernel) ?_
              refine g_callV (pc := 120) C mV_X5_state q358 (h61.1.1) rfl rfl (c_X5_state l D cy h61 f hf 2 (-1) ((s_pl (S t 0) (S t 1) (S t 2) (S t 6)) + (C1 k 2)) (C1 k 3)) rfl ⟨⟨Nat.le_of_ble_eq_true rfl, Nat.le_of_ble_eq_true rfl⟩, Nat.le_of_ble_eq_true rfl, Nat.le_of_ble_eq_true rfl⟩ rfl (Nat.le_of_ble_eq_true rfl) (by decide +kernel) ?_
              refine g_kV (fun G65 h66 => ?_)
              refine g_seg [(123, .iinc 4 1, 3), (126, .goto (-113), 3)] 13 [(4, .int (xk + 1)), (6, .ref (rd 1 f)), (5, .ref (rd 2 k)), (0, .ref s), (1, .int 0), (2, .ref (rt 2)), (3, .int (nI nc))] [] C (by decide +kernel) rfl ?_
              refine g_subp [3, 4, 5, 6, 0] (lv' := [(0, .ref s), (1, .int 0), (2, .ref (rt 2)), (3, .int (nI nc)), (4, .int (xk + 1))]) rfl ?_
              exact ih (k + 1) (s_row F1 f 2 (-1) ((s_pl (S t 0) (S t 1) (S t 2) (S t 6)) + (C1 k 2)) (C1 k 3)) (s_set C1 k 4 1) G65 (xk + 1) (by omega) (by omega) (lp_s hx) (by rw [its, ← hs]; simp only [y_cue]; rw [if_pos ⟨c55, c56⟩, ixn_n hC (by omega), if_pos c57, ixn_n hF (by omega)]) (h66) (hwF1.row (fun e9 => absurd e9 (by decide))) (hwC1.set)
          · refine g_seg [(43, .goto 80, 3), (123, .iinc 4 1, 3), (126, .goto (-113), 3)] 13 [(4, .int (xk + 1)), (5, .ref (rd 2 k)), (0, .ref s), (1, .int 0), (2, .ref (rt 2)), (3, .int (nI nc))] [] C (by decide +kernel) rfl ?_
            refine g_subp [2, 3, 4, 5, 0] (lv' := [(0, .ref s), (1, .int 0), (2, .ref (rt 2)), (3, .int (nI nc)), (4, .int (xk + 1))]) rfl ?_
            exact ih (k + 1) F1 C1 G1 (xk + 1) (by omega) (by omega) (lp_s hx) (by rw [its, ← hs]; exact (if_neg (fun h9 => c56 h9.2)).symm) (h1) (hwF1) (hwC1)
  exact lp1 (nc + 1) 0 F Cu G 0 (by omega) (by omega) (nI_0.symm) (rfl) (h) (hwF) (hwC)
