theorem wok_wear1 {N : Rw} {nn nf nt t : Nat} {b : Int32} {TE : Rw × Rw} (h : s_wok TE.1 nt) : s_wok (x_wear N nn nf b t TE).1 nt := by
  unfold x_wear
  split
  · split
    · exact wok_wr h
    · exact wok_wr h
  · exact h
theorem wok_wear {N : Rw} {nn nf nt : Nat} {b : Int32} {TE : Rw × Rw} (h : s_wok TE.1 nt) (n : Nat) : s_wok (its (x_wear N nn nf b) TE n).1 nt := by
  induction n with
  | zero => exact h
  | succ n ih => exact wok_wear1 ih
theorem wok_beats {N : Rw} {nn nt nf nc : Nat} {S : Xb} (h : s_wok S.2.1 nt) (n : Nat) : s_wok (x_beats N nn nt nf nc S n).2.1 nt := by
  induction n with
  | zero => exact h
  | succ n ih => exact wok_wear (TE := (_, _)) ih nt

set_option maxHeartbeats 4000000 in
set_option maxRecDepth 100000 in
theorem c_X4_passBeats (l : Launch) (D : va_G) (cy : Nat → ClassId) {G : GG} {x : Nat} {ad : Nat → Nat → Nat} {b : Int32} {nt nf nc nn : Nat} {T E Cu N KT KF KC : Rw} (h : RX cy x ad b nt nf nc nn T E Cu N KT KF KC G) (hwok : s_wok T nt) (n : Nat) (bt : Int32) (hbt : bt = nI n) (hn : n ≤ 200) : Ctr l D cy yX4_passBeats prog_1_method_38_code 4 (some .int) kX4_passBeats [.ref x, .int bt] G (pI (fun v G' => v = (x_beats N nn nt nf nc (b, T, E, Cu, 0) n).2.2.2.2 ∧ RX cy x ad (x_beats N nn nt nf nc (b, T, E, Cu, 0) n).1 nt nf nc nn (x_beats N nn nt nf nc (b, T, E, Cu, 0) n).2.1 (x_beats N nn nt nf nc (b, T, E, Cu, 0) n).2.2.1 (x_beats N nn nt nf nc (b, T, E, Cu, 0) n).2.2.2.1 N KT KF KC G')) := by
  refine Ctr.mk (by decide +kernel) (Nat.le_of_ble_eq_true rfl) ?_
  intro κ C R
  refine g_pc (pc' := 0) rfl ?_
  refine g_seg [(0, .iconst 0, 1), (1, .istore_n 2, 1), (2, .iconst 0, 1), (3, .istore_n 3, 1)] 4 [(3, .int 0), (2, .int 0), (0, .ref x), (1, .int bt)] [] C (by decide +kernel) rfl ?_
  refine g_subp [2, 3, 1, 0] (lv' := [(0, .ref x), (1, .int bt), (2, .int 0), (3, .int 0)]) rfl ?_
  have lp1 : ∀ (m k : Nat) (b1 : Int32) (T1 E1 C1 : Rw) (G1 : GG) (kk xk : Int32), n + 1 ≤ k + m → k ≤ n → xk = nI k → (b1, T1, E1, C1, kk) = x_beats N nn nt nf nc (b, T, E, Cu, 0) k → RX cy x ad b1 nt nf nc nn T1 E1 C1 N KT KF KC G1 → s_wok T1 nt → PG κ 4 0 0 G1 [(0, .ref x), (1, .int bt), (2, .int kk), (3, .int xk)] 4 [] := by
    intro m
    induction m with
    | zero => intro k b1 T1 E1 C1 G1 kk xk h1 h2; intros; exact absurd h1 (by omega)
    | succ m ih =>
      intro k b1 T1 E1 C1 G1 kk xk hm hk hx hs h1 hw1
      refine g_seg [(4, .iload_n 3, 1), (5, .iload_n 1, 1)] 6 [(0, .ref x), (1, .int bt), (2, .int kk), (3, .int xk)] [.int bt, .int xk] C (by decide +kernel) rfl ?_
      refine g_icmp_ge (pc := 6) (off := 34) 40 C (by decide +kernel) (by decide) (fun c2 => ?_) (fun c2 => ?_)
      · have hk8 : k = n := by rw [hbt] at c2; have := lp_ge hx (by omega) (by omega) c2; omega
        refine g_seg [(40, .iload_n 2, 1)] 41 [(0, .ref x), (1, .int bt), (2, .int kk), (3, .int xk)] [.int kk] C (by decide +kernel) rfl ?_
        exact g_iret (pc := 41) C R (⟨_, rfl, by rw [← hk8, ← hs], by rw [← hk8, ← hs]; exact h1⟩) (Nat.le_of_ble_eq_true rfl) (Nat.le_of_ble_eq_true rfl) (by decide +kernel)
      · have hk8 : k < n := by rw [hbt] at c2; exact lp_lt hx (by omega) (by omega) c2
        refine g_seg [(9, .aload_n 0, 1)] 10 [(0, .ref x), (1, .int bt), (2, .int kk), (3, .int xk)] [.ref x] C (by decide +kernel) rfl ?_
        refine g_callV (pc := 10) C mV_X4_callCues q255 (h1.1.1) rfl rfl (c_X4_callCues l D cy h1 hw1) rfl ⟨⟨Nat.le_of_ble_eq_true rfl, Nat.le_of_ble_eq_true rfl⟩, Nat.le_of_ble_eq_true rfl, Nat.le_of_ble_eq_true rfl⟩ rfl (Nat.le_of_ble_eq_true rfl) (by decide +kernel) ?_
        refine g_kV (fun G3 h4 => ?_)
        refine g_seg [(13, .iload_n 2, 1), (14, .aload_n 0, 1)] 15 [(0, .ref x), (1, .int bt), (2, .int kk), (3, .int xk)] [.ref x, .int kk] C (by decide +kernel) rfl ?_
        refine g_callV (pc := 15) C mV_X4_endFlights q267 (h4.1.1) rfl rfl (c_X4_endFlights l D cy h4 hw1) rfl ⟨⟨Nat.le_of_ble_eq_true rfl, Nat.le_of_ble_eq_true rfl⟩, Nat.le_of_ble_eq_true rfl, Nat.le_of_ble_eq_true rfl⟩ rfl (Nat.le_of_ble_eq_true rfl) (by decide +kernel) ?_
        refine g_kI (fun v7 G5 hp6 => ?_)
        obtain ⟨rfl, h8⟩ := hp6
        refine g_seg [(18, .iadd, 1), (19, .istore_n 2, 1), (20, .aload_n 0, 1)] 21 [(2, .int (kk + ((its (x_land N nn T1 nt nf b1) ((its (x_cue T1 nt nf b1) (E1, C1) nc).1, 0) nf).2))), (0, .ref x), (1, .int bt), (3, .int xk)] [.ref x] C (by decide +kernel) rfl ?_
        refine g_callV (pc := 21) C mV_X4_wearRopes q294 (h8.1.1) rfl rfl (c_X4_wearRopes l D cy h8 hw1) rfl ⟨⟨Nat.le_of_ble_eq_true rfl, Nat.le_of_ble_eq_true rfl⟩, Nat.le_of_ble_eq_true rfl, Nat.le_of_ble_eq_true rfl⟩ rfl (Nat.le_of_ble_eq_true rfl) (by decide +kernel) ?_
        refine g_kV (fun G9 h10 => ?_)
        refine g_seg [(24, .aload_n 0, 1), (25, .dup, 1)] 26 [(2, .int (kk + ((its (x_land N nn T1 nt nf b1) ((its (x_cue T1 nt nf b1) (E1, C1) nc).1, 0) nf).2))), (0, .ref x), (1, .int bt), (3, .int xk)] [.ref x, .ref x] C (by decide +kernel) rfl ?_
        refine g_getf (pc := 26) (k := 8) (v := .int b1) C fl_X4_53 (h10.1.1) rfl (by decide +kernel) ?_
        refine g_seg [(29, .iconst 1, 1), (30, .iadd, 1)] 31 [(2, .int (kk + ((its (x_land N nn T1 nt nf b1) ((its (x_cue T1 nt nf b1) (E1, C1) nc).1, 0) nf).2))), (0, .ref x), (1, .int bt), (3, .int xk)] [.int (b1 + 1), .ref x] C (by decide +kernel) rfl ?_
        refine g_putf (pc := 31) (k := 8) (v := .int (b1 + 1)) (ty := .int) C fl_X4_53 fp_X4_8 (h10.1.1) (rfl) (by first | rfl | decide) (Nat.le_of_ble_eq_true rfl) (by decide +kernel) ?_
        refine g_abs (P := fun G9 => RX cy x ad (b1 + 1) nt nf nc nn ((its (x_wear N nn nf b1) (T1, (its (x_land N nn T1 nt nf b1) ((its (x_cue T1 nt nf b1) (E1, C1) nc).1, 0) nf).1) nt).1) ((its (x_wear N nn nf b1) (T1, (its (x_land N nn T1 nt nf b1) ((its (x_cue T1 nt nf b1) (E1, C1) nc).1, 0) nf).1) nt).2) ((its (x_cue T1 nt nf b1) (E1, C1) nc).2) N KT KF KC G9) (RX.setB h10) (fun G11 h12 => ?_)
        refine g_seg [(34, .iinc 3 1, 3), (37, .goto (-33), 3)] 4 [(3, .int (xk + 1)), (2, .int (kk + ((its (x_land N nn T1 nt nf b1) ((its (x_cue T1 nt nf b1) (E1, C1) nc).1, 0) nf).2))), (0, .ref x), (1, .int bt)] [] C (by decide +kernel) rfl ?_
        refine g_subp [2, 3, 1, 0] (lv' := [(0, .ref x), (1, .int bt), (2, .int (kk + ((its (x_land N nn T1 nt nf b1) ((its (x_cue T1 nt nf b1) (E1, C1) nc).1, 0) nf).2))), (3, .int (xk + 1))]) rfl ?_
        exact ih (k + 1) (b1 + 1) ((its (x_wear N nn nf b1) (T1, (its (x_land N nn T1 nt nf b1) ((its (x_cue T1 nt nf b1) (E1, C1) nc).1, 0) nf).1) nt).1) ((its (x_wear N nn nf b1) (T1, (its (x_land N nn T1 nt nf b1) ((its (x_cue T1 nt nf b1) (E1, C1) nc).1, 0) nf).1) nt).2) ((its (x_cue T1 nt nf b1) (E1, C1) nc).2) G11 (kk + ((its (x_land N nn T1 nt nf b1) ((its (x_cue T1 nt nf b1) (E1, C1) nc).1, 0) nf).2)) (xk + 1) (by omega) (by omega) (lp_s hx) (by simp only [x_beats, its] at hs ⊢; rw [← hs]; rfl) (h12) (wok_wear (TE := (_, _)) hw1 nt)
  exact lp1 (n + 1) 0 b T E Cu G 0 0 (by omega) (by omega) (nI_0.symm) (rfl) (h) (hwok)
set_option maxHeartbeats 4000000 in
set_option maxRecDepth 100000 in
theorem c_X4_keepAct (l : Launch) (D : va_G) (cy : Nat → ClassId) {G : GG} {x : Nat} {ad : Nat → Nat → Nat} {b : Int32} {nt nf nc nn : Nat} {T E Cu N KT KF KC : Rw} (h : RX cy x ad b nt nf nc nn T E Cu N KT KF KC G) (hb : ∀ t, t < nt → T t 5 = 0 ∨ T t 5 = 1) : Ctr l D cy yX4_keepAct prog_1_method_45_code 5 none kX4_keepAct [.ref x] G (pV (fun G' => RX cy x ad b nt nf nc nn T E Cu N (mixR (kT T) KT nt) (mixR E KF nf) (mixR (kC Cu) KC nc) G')) := by
  refine Ctr.mk (by decide +kernel) (Nat.le_of_ble_eq_true rfl) ?_
  intro κ C R
  refine g_pc (pc' := 0) rfl ?_
  refine g_seg [(0, .aload_n 0, 1)] 1 [(0, .ref x)] [.ref x] C (by decide +kernel) rfl ?_
  refine g_getf (pc := 1) (k := 0) (v := .ref (ad 0 0)) C fl_X4_11 (h.1.1) rfl (by decide +kernel) ?_
  refine g_seg [(4, .astore_n 1, 1), (5, .aload_n 1, 1)] 6 [(1, .ref (ad 0 0)), (0, .ref x)] [.ref (ad 0 0)] C (by decide +kernel) rfl ?_
  refine g_alenA (pc := 6) (len := 6) (t0 := 1) C (h.1.2.1) rfl (by decide +kernel) ?_
  refine g_seg [(7, .istore_n 2, 1), (8, .iconst 0, 1), (9, .istore_n 3, 1)] 10 [(3, .int 0), (2, .int (nI 6)), (1, .ref (ad 0 0)), (0, .ref x)] [] C (by decide +kernel) rfl ?_
  refine g_subp [3, 2, 1, 0] (lv' := [(0, .ref x), (1, .ref (ad 0 0)), (2, .int (nI 6)), (3, .int 0)]) rfl ?_
  have lp1 : ∀ (m k : Nat) (G1 : GG) (xk : Int32), 6 + 1 ≤ k + m → k ≤ 6 → xk = nI k → RX cy x ad b nt nf nc nn T E Cu N (mixR (kT T) KT (min k nt)) KF KC G1 → PG κ 5 0 0 G1 [(0, .ref x), (1, .ref (ad 0 0)), (2, .int (nI 6)), (3, .int xk)] 10 [] := by
    intro m
    induction m with
    | zero => intro k G1 xk h1 h2; intros; exact absurd h1 (by omega)
    | succ m ih =>
      intro k G1 xk hm hk hx ha
      refine g_seg [(10, .iload_n 3, 1), (11, .iload_n 2, 1)] 12 [(0, .ref x), (1, .ref (ad 0 0)), (2, .int (nI 6)), (3, .int xk)] [.int (nI 6), .int xk] C (by decide +kernel) rfl ?_
      refine g_icmp_ge (pc := 12) (off := 24) 36 C (by decide +kernel) (by decide) (fun c2 => ?_) (fun c2 => ?_)
      · have hk8 : k = 6 := by have := lp_ge hx (by omega) (by decide) c2; omega
        have hax : RX cy x ad b nt nf nc nn T E Cu N (mixR (kT T) KT nt) KF KC G1 := by rw [hk8, Nat.min_eq_right (by have := h.2.2.2.1; omega)] at ha; exact ha
        refine g_seg [(36, .aload_n 0, 1)] 37 [(0, .ref x), (1, .ref (ad 0 0)), (2, .int (nI 6)), (3, .int xk)] [.ref x] C (by decide +kernel) rfl ?_
        refine g_getf (pc := 37) (k := 1) (v := .ref (ad 0 1)) C fl_X4_17 (hax.1.1) rfl (by decide +kernel) ?_
        refine g_seg [(40, .astore_n 1, 1), (41, .aload_n 1, 1)] 42 [(1, .ref (ad 0 1)), (0, .ref x), (2, .int (nI 6)), (3, .int xk)] [.ref (ad 0 1)] C (by decide +kernel) rfl ?_
        refine g_alenA (pc := 42) (len := 8) (t0 := 2) C (hax.1.2.2.1) rfl (by decide +kernel) ?_
        refine g_seg [(43, .istore_n 2, 1), (44, .iconst 0, 1), (45, .istore_n 3, 1)] 46 [(3, .int 0), (2, .int (nI 8)), (1, .ref (ad 0 1)), (0, .ref x)] [] C (by decide +kernel) rfl ?_
        refine g_subp [3, 2, 1, 0] (lv' := [(0, .ref x), (1, .ref (ad 0 1)), (2, .int (nI 8)), (3, .int 0)]) rfl ?_
        have lp3 : ∀ (m k : Nat) (G1 : GG) (xk : Int32), 8 + 1 ≤ k + m → k ≤ 8 → xk = nI k → RX cy x ad b nt nf nc nn T E Cu N (mixR (kT T) KT nt) (mixR E KF (min k nf)) KC G1 → PG κ 5 0 0 G1 [(0, .ref x), (1, .ref (ad 0 1)), (2, .int (nI 8)), (3, .int xk)] 46 [] := by
          intro m
          induction m with
          | zero => intro k G1 xk h1 h2; intros; exact absurd h1 (by omega)
          | succ m ih =>
            intro k G1 xk hm hk hx hb
            refine g_seg [(46, .iload_n 3, 1), (47, .iload_n 2, 1)] 48 [(0, .ref x), (1, .ref (ad 0 1)), (2, .int (nI 8)), (3, .int xk)] [.int (nI 8), .int xk] C (by decide +kernel) rfl ?_
            refine g_icmp_ge (pc := 48) (off := 24) 72 C (by decide +kernel) (by decide) (fun c4 => ?_) (fun c4 => ?_)
            · have hk8 : k = 8 := by have := lp_ge hx (by omega) (by decide) c4; omega
              have hbx : RX cy x ad b nt nf nc nn T E Cu N (mixR (kT T) KT nt) (mixR E KF nf) KC G1 := by rw [hk8, Nat.min_eq_right (by have := h.2.2.2.2.1; omega)] at hb; exact hb
              refine g_seg [(72, .aload_n 0, 1)] 73 [(0, .ref x), (1, .ref (ad 0 1)), (2, .int (nI 8)), (3, .int xk)] [.ref x] C (by decide +kernel) rfl ?_
              refine g_getf (pc := 73) (k := 2) (v := .ref (ad 0 2)) C fl_X4_23 (hbx.1.1) rfl (by decide +kernel) ?_
              refine g_seg [(76, .astore_n 1, 1), (77, .aload_n 1, 1)] 78 [(1, .ref (ad 0 2)), (0, .ref x), (2, .int (nI 8)), (3, .int xk)] [.ref (ad 0 2)] C (by decide +kernel) rfl ?_
              refine g_alenA (pc := 78) (len := 20) (t0 := 3) C (hbx.1.2.2.2.1) rfl (by decide +kernel) ?_
              refine g_seg [(79, .istore_n 2, 1), (80, .iconst 0, 1), (81, .istore_n 3, 1)] 82 [(3, .int 0), (2, .int (nI 20)), (1, .ref (ad 0 2)), (0, .ref x)] [] C (by decide +kernel) rfl ?_
              refine g_subp [3, 2, 1, 0] (lv' := [(0, .ref x), (1, .ref (ad 0 2)), (2, .int (nI 20)), (3, .int 0)]) rfl ?_
              have lp5 : ∀ (m k : Nat) (G1 : GG) (xk : Int32), 20 + 1 ≤ k + m → k ≤ 20 → xk = nI k → RX cy x ad b nt nf nc nn T E Cu N (mixR (kT T) KT nt) (mixR E KF nf) (mixR (kC Cu) KC (min k nc)) G1 → PG κ 5 0 0 G1 [(0, .ref x), (1, .ref (ad 0 2)), (2, .int (nI 20)), (3, .int xk)] 82 [] := by
                intro m
                induction m with
                | zero => intro k G1 xk h1 h2; intros; exact absurd h1 (by omega)
                | succ m ih =>
                  intro k G1 xk hm hk hx hc
                  refine g_seg [(82, .iload_n 3, 1), (83, .iload_n 2, 1)] 84 [(0, .ref x), (1, .ref (ad 0 2)), (2, .int (nI 20)), (3, .int xk)] [.int (nI 20), .int xk] C (by decide +kernel) rfl ?_
                  refine g_icmp_ge (pc := 84) (off := 24) 108 C (by decide +kernel) (by decide) (fun c6 => ?_) (fun c6 => ?_)
                  · have hk8 : k = 20 := by have := lp_ge hx (by omega) (by decide) c6; omega
                    have hcx : RX cy x ad b nt nf nc nn T E Cu N (mixR (kT T) KT nt) (mixR E KF nf) (mixR (kC Cu) KC nc) G1 := by rw [hk8, Nat.min_eq_right (by have := h.2.2.2.2.2.1; omega)] at hc; exact hc
                    exact g_vret (pc := 108) C R (⟨rfl, hcx⟩) (Nat.le_of_ble_eq_true rfl) (Nat.le_of_ble_eq_true rfl) (by decide +kernel)
                  · have hk8 : k < 20 := lp_lt hx (by omega) (by decide) c6
                    refine g_seg [(87, .aload_n 1, 1), (88, .iload_n 3, 1)] 89 [(0, .ref x), (1, .ref (ad 0 2)), (2, .int (nI 20)), (3, .int xk)] [.int xk, .ref (ad 0 2)] C (by decide +kernel) rfl ?_
                    refine g_aaldA (pc := 89) (len := 20) (t0 := 3) (j := k) C (hc.1.2.2.2.1) rfl (hx) (hk8) (by decide) (by decide +kernel) (fun hi7 => ?_) (fun hi7 => ?_)
                    · rw [min_e hi7] at hc
                      refine g_seg [(90, .astore 4, 2), (92, .aload 4, 2)] 94 [(4, .ref (ad 3 k)), (0, .ref x), (1, .ref (ad 0 2)), (2, .int (nI 20)), (3, .int xk)] [.ref (ad 3 k)] C (by decide +kernel) rfl ?_
                      refine g_ifnull (pc := 94) (off := 8) C (by decide +kernel) ?_
                      refine g_seg [(97, .aload 4, 2)] 99 [(4, .ref (ad 3 k)), (0, .ref x), (1, .ref (ad 0 2)), (2, .int (nI 20)), (3, .int xk)] [.ref (ad 3 k)] C (by decide +kernel) rfl ?_
                      refine g_callV (pc := 99) C mV_X0_keep q331 (hc.2.1.2.2.1 k hi7) rfl rfl (c_X0_keep l D cy G1 (ad 3 k) (Cu k 0) (Cu k 1) (Cu k 2) (Cu k 3) (Cu k 4) ((mixR (kC Cu) KC k) k 0)  (hc.2.1.2.2.1 k hi7)) rfl ⟨⟨Nat.le_of_ble_eq_true rfl, Nat.le_of_ble_eq_true rfl⟩, Nat.le_of_ble_eq_true rfl, Nat.le_of_ble_eq_true rfl⟩ rfl (Nat.le_of_ble_eq_true rfl) (by decide +kernel) ?_
                      refine g_kV (fun G8 hG9 => ?_)
                      have h10 : RX cy x ad b nt nf nc nn T E Cu N (mixR (kT T) KT nt) (mixR E KF nf) (mixR (kC Cu) KC (k + 1)) G8 := by rw [hG9]; exact RX_keepC hc hi7
                      refine g_seg [(102, .iinc 3 1, 3), (105, .goto (-23), 3)] 82 [(3, .int (xk + 1)), (4, .ref (ad 3 k)), (0, .ref x), (1, .ref (ad 0 2)), (2, .int (nI 20))] [] C (by decide +kernel) rfl ?_
                      refine g_subp [2, 3, 4, 0] (lv' := [(0, .ref x), (1, .ref (ad 0 2)), (2, .int (nI 20)), (3, .int (xk + 1))]) rfl ?_
                      exact ih (k + 1) G8 (xk + 1) (by omega) (by omega) (lp_s hx) (by rw [min_y hi7, min_e hi7]; exact h10)
                    · refine g_seg [(90, .astore 4, 2), (92, .aload 4, 2)] 94 [(4, .null), (0, .ref x), (1, .ref (ad 0 2)), (2, .int (nI 20)), (3, .int xk)] [.null] C (by decide +kernel) rfl ?_
                      refine g_ifnullN (pc := 94) (off := 8) 102 C (by decide +kernel) (by decide) ?_
                      refine g_seg [(102, .iinc 3 1, 3), (105, .goto (-23), 3)] 82 [(3, .int (xk + 1)), (4, .null), (0, .ref x), (1, .ref (ad 0 2)), (2, .int (nI 20))] [] C (by decide +kernel) rfl ?_
                      refine g_subp [2, 3, 4, 0] (lv' := [(0, .ref x), (1, .ref (ad 0 2)), (2, .int (nI 20)), (3, .int (xk + 1))]) rfl ?_
                      exact ih (k + 1) G1 (xk + 1) (by omega) (by omega) (lp_s hx) (by rw [min_n hi7]; exact hc)
              exact lp5 (20 + 1) 0 G1 0 (by omega) (by omega) (nI_0.symm) (by rw [Nat.zero_min, mix0]; exact hbx)
            · have hk8 : k < 8 := lp_lt hx (by omega) (by decide) c4
              refine g_seg [(51, .aload_n 1, 1), (52, .iload_n 3, 1)] 53 [(0, .ref x), (1, .ref (ad 0 1)), (2, .int (nI 8)), (3, .int xk)] [.int xk, .ref (ad 0 1)] C (by decide +kernel) rfl ?_
              refine g_aaldA (pc := 53) (len := 8) (t0 := 2) (j := k) C (hb.1.2.2.1) rfl (hx) (hk8) (by decide) (by decide +kernel) (fun hi11 => ?_) (fun hi11 => ?_)
              · rw [min_e hi11] at hb
                refine g_seg [(54, .astore 4, 2), (56, .aload 4, 2)] 58 [(4, .ref (ad 2 k)), (0, .ref x), (1, .ref (ad 0 1)), (2, .int (nI 8)), (3, .int xk)] [.ref (ad 2 k)] C (by decide +kernel) rfl ?_
                refine g_ifnull (pc := 58) (off := 8) C (by decide +kernel) ?_
                refine g_seg [(61, .aload 4, 2)] 63 [(4, .ref (ad 2 k)), (0, .ref x), (1, .ref (ad 0 1)), (2, .int (nI 8)), (3, .int xk)] [.ref (ad 2 k)] C (by decide +kernel) rfl ?_
                refine g_callV (pc := 63) C mV_X1_keep q327 (hb.2.1.2.1 k hi11) rfl rfl (c_X1_keep l D cy G1 (ad 2 k) (E k 0) (E k 1) (E k 2) (E k 3) (E k 4) ((mixR E KF k) k 0) ((mixR E KF k) k 1) ((mixR E KF k) k 2) ((mixR E KF k) k 3) ((mixR E KF k) k 4)  (hb.2.1.2.1 k hi11)) rfl ⟨⟨Nat.le_of_ble_eq_true rfl, Nat.le_of_ble_eq_true rfl⟩, Nat.le_of_ble_eq_true rfl, Nat.le_of_ble_eq_true rfl⟩ rfl (Nat.le_of_ble_eq_true rfl) (by decide +kernel) ?_
                refine g_kV (fun G12 hG13 => ?_)
                have h14 : RX cy x ad b nt nf nc nn T E Cu N (mixR (kT T) KT nt) (mixR E KF (k + 1)) KC G12 := by rw [hG13]; exact RX_keepF hb hi11
                refine g_seg [(66, .iinc 3 1, 3), (69, .goto (-23), 3)] 46 [(3, .int (xk + 1)), (4, .ref (ad 2 k)), (0, .ref x), (1, .ref (ad 0 1)), (2, .int (nI 8))] [] C (by decide +kernel) rfl ?_
                refine g_subp [2, 3, 4, 0] (lv' := [(0, .ref x), (1, .ref (ad 0 1)), (2, .int (nI 8)), (3, .int (xk + 1))]) rfl ?_
                exact ih (k + 1) G12 (xk + 1) (by omega) (by omega) (lp_s hx) (by rw [min_y hi11, min_e hi11]; exact h14)
              · refine g_seg [(54, .astore 4, 2), (56, .aload 4, 2)] 58 [(4, .null), (0, .ref x), (1, .ref (ad 0 1)), (2, .int (nI 8)), (3, .int xk)] [.null] C (by decide +kernel) rfl ?_
                refine g_ifnullN (pc := 58) (off := 8) 66 C (by decide +kernel) (by decide) ?_
                refine g_seg [(66, .iinc 3 1, 3), (69, .goto (-23), 3)] 46 [(3, .int (xk + 1)), (4, .null), (0, .ref x), (1, .ref (ad 0 1)), (2, .int (nI 8))] [] C (by decide +kernel) rfl ?_
                refine g_subp [2, 3, 4, 0] (lv' := [(0, .ref x), (1, .ref (ad 0 1)), (2, .int (nI 8)), (3, .int (xk + 1))]) rfl ?_
                exact ih (k + 1) G1 (xk + 1) (by omega) (by omega) (lp_s hx) (by rw [min_n hi11]; exact hb)
        exact lp3 (8 + 1) 0 G1 0 (by omega) (by omega) (nI_0.symm) (by rw [Nat.zero_min, mix0]; exact hax)
      · have hk8 : k < 6 := lp_lt hx (by omega) (by decide) c2
        refine g_seg [(15, .aload_n 1, 1), (16, .iload_n 3, 1)] 17 [(0, .ref x), (1, .ref (ad 0 0)), (2, .int (nI 6)), (3, .int xk)] [.int xk, .ref (ad 0 0)] C (by decide +kernel) rfl ?_
        refine g_aaldA (pc := 17) (len := 6) (t0 := 1) (j := k) C (ha.1.2.1) rfl (hx) (hk8) (by decide) (by decide +kernel) (fun hi15 => ?_) (fun hi15 => ?_)
        · rw [min_e hi15] at ha
          refine g_seg [(18, .astore 4, 2), (20, .aload 4, 2)] 22 [(4, .ref (ad 1 k)), (0, .ref x), (1, .ref (ad 0 0)), (2, .int (nI 6)), (3, .int xk)] [.ref (ad 1 k)] C (by decide +kernel) rfl ?_
          refine g_ifnull (pc := 22) (off := 8) C (by decide +kernel) ?_
          refine g_seg [(25, .aload 4, 2)] 27 [(4, .ref (ad 1 k)), (0, .ref x), (1, .ref (ad 0 0)), (2, .int (nI 6)), (3, .int xk)] [.ref (ad 1 k)] C (by decide +kernel) rfl ?_
          refine g_callV (pc := 27) C mV_X3_keep q323 (ha.2.1.1 k hi15) rfl rfl (c_X3_keep l D cy G1 (ad 1 k) (T k 0) (T k 1) (T k 3) (T k 2) (T k 6) (T k 4) (T k 5) ((mixR (kT T) KT k) k 0) ((mixR (kT T) KT k) k 1)  (ha.2.1.1 k hi15) (hb k hi15)) rfl ⟨⟨Nat.le_of_ble_eq_true rfl, Nat.le_of_ble_eq_true rfl⟩, Nat.le_of_ble_eq_true rfl, Nat.le_of_ble_eq_true rfl⟩ rfl (Nat.le_of_ble_eq_true rfl) (by decide +kernel) ?_
          refine g_kV (fun G16 hG17 => ?_)
          have h18 : RX cy x ad b nt nf nc nn T E Cu N (mixR (kT T) KT (k + 1)) KF KC G16 := by rw [hG17]; exact RX_keepT ha hi15
          refine g_seg [(30, .iinc 3 1, 3), (33, .goto (-23), 3)] 10 [(3, .int (xk + 1)), (4, .ref (ad 1 k)), (0, .ref x), (1, .ref (ad 0 0)), (2, .int (nI 6))] [] C (by decide +kernel) rfl ?_
          refine g_subp [2, 3, 4, 0] (lv' := [(0, .ref x), (1, .ref (ad 0 0)), (2, .int (nI 6)), (3, .int (xk + 1))]) rfl ?_
          exact ih (k + 1) G16 (xk + 1) (by omega) (by omega) (lp_s hx) (by rw [min_y hi15, min_e hi15]; exact h18)
        · refine g_seg [(18, .astore 4, 2), (20, .aload 4, 2)] 22 [(4, .null), (0, .ref x), (1, .ref (ad 0 0)), (2, .int (nI 6)), (3, .int xk)] [.null] C (by decide +kernel) rfl ?_
          refine g_ifnullN (pc := 22) (off := 8) 30 C (by decide +kernel) (by decide) ?_
          refine g_seg [(30, .iinc 3 1, 3), (33, .goto (-23), 3)] 10 [(3, .int (xk + 1)), (4, .null), (0, .ref x), (1, .ref (ad 0 0)), (2, .int (nI 6))] [] C (by decide +kernel) rfl ?_
          refine g_subp [2, 3, 4, 0] (lv' := [(0, .ref x), (1, .ref (ad 0 0)), (2, .int (nI 6)), (3, .int (xk + 1))]) rfl ?_
          exact ih (k + 1) G1 (xk + 1) (by omega) (by omega) (lp_s hx) (by rw [min_n hi15]; exact ha)
  exact lp1 (6 + 1) 0 G 0 (by omega) (by omega) (nI_0.symm) (by rw [Nat.zero_min, mix0]; exact h)
set_option maxHeartbeats 4000000 in
set_option maxRecDepth 100000 in
theorem c_X4_takeActBack (l : Launch) (D : va_G) (cy : Nat → ClassId) {G : GG} {x : Nat} {ad : Nat → Nat → Nat} {b : Int32} {nt nf nc nn : Nat} {T E Cu N KT KF KC : Rw} (h : RX cy x ad b nt nf nc nn T E Cu N KT KF KC G) (hb : ∀ t, t < nt → KT t 1 = 0 ∨ KT t 1 = 1) : Ctr l D cy yX4_takeActBack prog_1_method_46_code 5 none kX4_takeActBack [.ref x] G (pV (fun G' => RX cy x ad b nt nf nc nn (mixR (tT T KT) T nt) (mixR KF E nf) (mixR (tC Cu KC) Cu nc) N KT KF KC G')) := by
  refine Ctr.mk (by decide +kernel) (Nat.le_of_ble_eq_true rfl) ?_
  intro κ C R
  refine g_pc (pc' := 0) rfl ?_
  refine g_seg [(0, .aload_n 0, 1)] 1 [(0, .ref x)] [.ref x] C (by decide +kernel) rfl ?_
  refine g_getf (pc := 1) (k := 0) (v := .ref (ad 0 0)) C fl_X4_11 (h.1.1) rfl (by decide +kernel) ?_
  refine g_seg [(4, .astore_n 1, 1), (5, .aload_n 1, 1)] 6 [(1, .ref (ad 0 0)), (0, .ref x)] [.ref (ad 0 0)] C (by decide +kernel) rfl ?_
  refine g_alenA (pc := 6) (len := 6) (t0 := 1) C (h.1.2.1) rfl (by decide +kernel) ?_
  refine g_seg [(7, .istore_n 2, 1), (8, .iconst 0, 1), (9, .istore_n 3, 1)] 10 [(3, .int 0), (2, .int (nI 6)), (1, .ref (ad 0 0)), (0, .ref x)] [] C (by decide +kernel) rfl ?_
  refine g_subp [3, 2, 1, 0] (lv' := [(0, .ref x), (1, .ref (ad 0 0)), (2, .int (nI 6)), (3, .int 0)]) rfl ?_
  have lp1 : ∀ (m k : Nat) (G1 : GG) (xk : Int32), 6 + 1 ≤ k + m → k ≤ 6 → xk = nI k → RX cy x ad b nt nf nc nn (mixR (tT T KT) T (min k nt)) E Cu N KT KF KC G1 → PG κ 5 0 0 G1 [(0, .ref x), (1, .ref (ad 0 0)), (2, .int (nI 6)), (3, .int xk)] 10 [] := by
    intro m
    induction m with
    | zero => intro k G1 xk h1 h2; intros; exact absurd h1 (by omega)
    | succ m ih =>
      intro k G1 xk hm hk hx ha
      refine g_seg [(10, .iload_n 3, 1), (11, .iload_n 2, 1)] 12 [(0, .ref x), (1, .ref (ad 0 0)), (2, .int (nI 6)), (3, .int xk)] [.int (nI 6), .int xk] C (by decide +kernel) rfl ?_
      refine g_icmp_ge (pc := 12) (off := 24) 36 C (by decide +kernel) (by decide) (fun c2 => ?_) (fun c2 => ?_)
      · have hk8 : k = 6 := by have := lp_ge hx (by omega) (by decide) c2; omega
        have hax : RX cy x ad b nt nf nc nn (mixR (tT T KT) T nt) E Cu N KT KF KC G1 := by rw [hk8, Nat.min_eq_right (by have := h.2.2.2.1; omega)] at ha; exact ha
        refine g_seg [(36, .aload_n 0, 1)] 37 [(0, .ref x), (1, .ref (ad 0 0)), (2, .int (nI 6)), (3, .int xk)] [.ref x] C (by decide +kernel) rfl ?_
        refine g_getf (pc := 37) (k := 1) (v := .ref (ad 0 1)) C fl_X4_17 (hax.1.1) rfl (by decide +kernel) ?_
        refine g_seg [(40, .astore_n 1, 1), (41, .aload_n 1, 1)] 42 [(1, .ref (ad 0 1)), (0, .ref x), (2, .int (nI 6)), (3, .int xk)] [.ref (ad 0 1)] C (by decide +kernel) rfl ?_
        refine g_alenA (pc := 42) (len := 8) (t0 := 2) C (hax.1.2.2.1) rfl (by decide +kernel) ?_
        refine g_seg [(43, .istore_n 2, 1), (44, .iconst 0, 1), (45, .istore_n 3, 1)] 46 [(3, .int 0), (2, .int (nI 8)), (1, .ref (ad 0 1)), (0, .ref x)] [] C (by decide +kernel) rfl ?_
        refine g_subp [3, 2, 1, 0] (lv' := [(0, .ref x), (1, .ref (ad 0 1)), (2, .int (nI 8)), (3, .int 0)]) rfl ?_
        have lp3 : ∀ (m k : Nat) (G1 : GG) (xk : Int32), 8 + 1 ≤ k + m → k ≤ 8 → xk = nI k → RX cy x ad b nt nf nc nn (mixR (tT T KT) T nt) (mixR KF E (min k nf)) Cu N KT KF KC G1 → PG κ 5 0 0 G1 [(0, .ref x), (1, .ref (ad 0 1)), (2, .int (nI 8)), (3, .int xk)] 46 [] := by
          intro m
          induction m with
          | zero => intro k G1 xk h1 h2; intros; exact absurd h1 (by omega)
          | succ m ih =>
            intro k G1 xk hm hk hx hb
            refine g_seg [(46, .iload_n 3, 1), (47, .iload_n 2, 1)] 48 [(0, .ref x), (1, .ref (ad 0 1)), (2, .int (nI 8)), (3, .int xk)] [.int (nI 8), .int xk] C (by decide +kernel) rfl ?_
            refine g_icmp_ge (pc := 48) (off := 24) 72 C (by decide +kernel) (by decide) (fun c4 => ?_) (fun c4 => ?_)
            · have hk8 : k = 8 := by have := lp_ge hx (by omega) (by decide) c4; omega
              have hbx : RX cy x ad b nt nf nc nn (mixR (tT T KT) T nt) (mixR KF E nf) Cu N KT KF KC G1 := by rw [hk8, Nat.min_eq_right (by have := h.2.2.2.2.1; omega)] at hb; exact hb
              refine g_seg [(72, .aload_n 0, 1)] 73 [(0, .ref x), (1, .ref (ad 0 1)), (2, .int (nI 8)), (3, .int xk)] [.ref x] C (by decide +kernel) rfl ?_
              refine g_getf (pc := 73) (k := 2) (v := .ref (ad 0 2)) C fl_X4_23 (hbx.1.1) rfl (by decide +kernel) ?_
              refine g_seg [(76, .astore_n 1, 1), (77, .aload_n 1, 1)] 78 [(1, .ref (ad 0 2)), (0, .ref x), (2, .int (nI 8)), (3, .int xk)] [.ref (ad 0 2)] C (by decide +kernel) rfl ?_
              refine g_alenA (pc := 78) (len := 20) (t0 := 3) C (hbx.1.2.2.2.1) rfl (by decide +kernel) ?_
              refine g_seg [(79, .istore_n 2, 1), (80, .iconst 0, 1), (81, .istore_n 3, 1)] 82 [(3, .int 0), (2, .int (nI 20)), (1, .ref (ad 0 2)), (0, .ref x)] [] C (by decide +kernel) rfl ?_
              refine g_subp [3, 2, 1, 0] (lv' := [(0, .ref x), (1, .ref (ad 0 2)), (2, .int (nI 20)), (3, .int 0)]) rfl ?_
              have lp5 : ∀ (m k : Nat) (G1 : GG) (xk : Int32), 20 + 1 ≤ k + m → k ≤ 20 → xk = nI k → RX cy x ad b nt nf nc nn (mixR (tT T KT) T nt) (mixR KF E nf) (mixR (tC Cu KC) Cu (min k nc)) N KT KF KC G1 → PG κ 5 0 0 G1 [(0, .ref x), (1, .ref (ad 0 2)), (2, .int (nI 20)), (3, .int xk)] 82 [] := by
                intro m
                induction m with
                | zero => intro k G1 xk h1 h2; intros; exact absurd h1 (by omega)
                | succ m ih =>
                  intro k G1 xk hm hk hx hc
                  refine g_seg [(82, .iload_n 3, 1), (83, .iload_n 2, 1)] 84 [(0, .ref x), (1, .ref (ad 0 2)), (2, .int (nI 20)), (3, .int xk)] [.int (nI 20), .int xk] C (by decide +kernel) rfl ?_
                  refine g_icmp_ge (pc := 84) (off := 24) 108 C (by decide +kernel) (by decide) (fun c6 => ?_) (fun c6 => ?_)
                  · have hk8 : k = 20 := by have := lp_ge hx (by omega) (by decide) c6; omega
                    have hcx : RX cy x ad b nt nf nc nn (mixR (tT T KT) T nt) (mixR KF E nf) (mixR (tC Cu KC) Cu nc) N KT KF KC G1 := by rw [hk8, Nat.min_eq_right (by have := h.2.2.2.2.2.1; omega)] at hc; exact hc
                    exact g_vret (pc := 108) C R (⟨rfl, hcx⟩) (Nat.le_of_ble_eq_true rfl) (Nat.le_of_ble_eq_true rfl) (by decide +kernel)
                  · have hk8 : k < 20 := lp_lt hx (by omega) (by decide) c6
                    refine g_seg [(87, .aload_n 1, 1), (88, .iload_n 3, 1)] 89 [(0, .ref x), (1, .ref (ad 0 2)), (2, .int (nI 20)), (3, .int xk)] [.int xk, .ref (ad 0 2)] C (by decide +kernel) rfl ?_
                    refine g_aaldA (pc := 89) (len := 20) (t0 := 3) (j := k) C (hc.1.2.2.2.1) rfl (hx) (hk8) (by decide) (by decide +kernel) (fun hi7 => ?_) (fun hi7 => ?_)
                    · rw [min_e hi7] at hc
                      refine g_seg [(90, .astore 4, 2), (92, .aload 4, 2)] 94 [(4, .ref (ad 3 k)), (0, .ref x), (1, .ref (ad 0 2)), (2, .int (nI 20)), (3, .int xk)] [.ref (ad 3 k)] C (by decide +kernel) rfl ?_
                      refine g_ifnull (pc := 94) (off := 8) C (by decide +kernel) ?_
                      refine g_seg [(97, .aload 4, 2)] 99 [(4, .ref (ad 3 k)), (0, .ref x), (1, .ref (ad 0 2)), (2, .int (nI 20)), (3, .int xk)] [.ref (ad 3 k)] C (by decide +kernel) rfl ?_
                      refine g_callV (pc := 99) C mV_X0_takeBack q347 (hc.2.1.2.2.1 k hi7) rfl rfl (c_X0_takeBack l D cy G1 (ad 3 k) ((mixR (tC Cu KC) Cu k) k 0) ((mixR (tC Cu KC) Cu k) k 1) ((mixR (tC Cu KC) Cu k) k 2) ((mixR (tC Cu KC) Cu k) k 3) ((mixR (tC Cu KC) Cu k) k 4) (KC k 0)  (hc.2.1.2.2.1 k hi7)) rfl ⟨⟨Nat.le_of_ble_eq_true rfl, Nat.le_of_ble_eq_true rfl⟩, Nat.le_of_ble_eq_true rfl, Nat.le_of_ble_eq_true rfl⟩ rfl (Nat.le_of_ble_eq_true rfl) (by decide +kernel) ?_
                      refine g_kV (fun G8 hG9 => ?_)
                      have h10 : RX cy x ad b nt nf nc nn (mixR (tT T KT) T nt) (mixR KF E nf) (mixR (tC Cu KC) Cu (k + 1)) N KT KF KC G8 := by rw [hG9]; exact RX_backC hc hi7
                      refine g_seg [(102, .iinc 3 1, 3), (105, .goto (-23), 3)] 82 [(3, .int (xk + 1)), (4, .ref (ad 3 k)), (0, .ref x), (1, .ref (ad 0 2)), (2, .int (nI 20))] [] C (by decide +kernel) rfl ?_
                      refine g_subp [2, 3, 4, 0] (lv' := [(0, .ref x), (1, .ref (ad 0 2)), (2, .int (nI 20)), (3, .int (xk + 1))]) rfl ?_
                      exact ih (k + 1) G8 (xk + 1) (by omega) (by omega) (lp_s hx) (by rw [min_y hi7, min_e hi7]; exact h10)
                    · refine g_seg [(90, .astore 4, 2), (92, .aload 4, 2)] 94 [(4, .null), (0, .ref x), (1, .ref (ad 0 2)), (2, .int (nI 20)), (3, .int xk)] [.null] C (by decide +kernel) rfl ?_
                      refine g_ifnullN (pc := 94) (off := 8) 102 C (by decide +kernel) (by decide) ?_
                      refine g_seg [(102, .iinc 3 1, 3), (105, .goto (-23), 3)] 82 [(3, .int (xk + 1)), (4, .null), (0, .ref x), (1, .ref (ad 0 2)), (2, .int (nI 20))] [] C (by decide +kernel) rfl ?_
                      refine g_subp [2, 3, 4, 0] (lv' := [(0, .ref x), (1, .ref (ad 0 2)), (2, .int (nI 20)), (3, .int (xk + 1))]) rfl ?_
                      exact ih (k + 1) G1 (xk + 1) (by omega) (by omega) (lp_s hx) (by rw [min_n hi7]; exact hc)
              exact lp5 (20 + 1) 0 G1 0 (by omega) (by omega) (nI_0.symm) (by rw [Nat.zero_min, mix0]; exact hbx)
            · have hk8 : k < 8 := lp_lt hx (by omega) (by decide) c4
              refine g_seg [(51, .aload_n 1, 1), (52, .iload_n 3, 1)] 53 [(0, .ref x), (1, .ref (ad 0 1)), (2, .int (nI 8)), (3, .int xk)] [.int xk, .ref (ad 0 1)] C (by decide +kernel) rfl ?_
              refine g_aaldA (pc := 53) (len := 8) (t0 := 2) (j := k) C (hb.1.2.2.1) rfl (hx) (hk8) (by decide) (by decide +kernel) (fun hi11 => ?_) (fun hi11 => ?_)
              · rw [min_e hi11] at hb
                refine g_seg [(54, .astore 4, 2), (56, .aload 4, 2)] 58 [(4, .ref (ad 2 k)), (0, .ref x), (1, .ref (ad 0 1)), (2, .int (nI 8)), (3, .int xk)] [.ref (ad 2 k)] C (by decide +kernel) rfl ?_
                refine g_ifnull (pc := 58) (off := 8) C (by decide +kernel) ?_
                refine g_seg [(61, .aload 4, 2)] 63 [(4, .ref (ad 2 k)), (0, .ref x), (1, .ref (ad 0 1)), (2, .int (nI 8)), (3, .int xk)] [.ref (ad 2 k)] C (by decide +kernel) rfl ?_
                refine g_callV (pc := 63) C mV_X1_takeBack q343 (hb.2.1.2.1 k hi11) rfl rfl (c_X1_takeBack l D cy G1 (ad 2 k) ((mixR KF E k) k 0) ((mixR KF E k) k 1) ((mixR KF E k) k 2) ((mixR KF E k) k 3) ((mixR KF E k) k 4) (KF k 0) (KF k 1) (KF k 2) (KF k 3) (KF k 4)  (hb.2.1.2.1 k hi11)) rfl ⟨⟨Nat.le_of_ble_eq_true rfl, Nat.le_of_ble_eq_true rfl⟩, Nat.le_of_ble_eq_true rfl, Nat.le_of_ble_eq_true rfl⟩ rfl (Nat.le_of_ble_eq_true rfl) (by decide +kernel) ?_
                refine g_kV (fun G12 hG13 => ?_)
                have h14 : RX cy x ad b nt nf nc nn (mixR (tT T KT) T nt) (mixR KF E (k + 1)) Cu N KT KF KC G12 := by rw [hG13]; exact RX_backF hb hi11
                refine g_seg [(66, .iinc 3 1, 3), (69, .goto (-23), 3)] 46 [(3, .int (xk + 1)), (4, .ref (ad 2 k)), (0, .ref x), (1, .ref (ad 0 1)), (2, .int (nI 8))] [] C (by decide +kernel) rfl ?_
                refine g_subp [2, 3, 4, 0] (lv' := [(0, .ref x), (1, .ref (ad 0 1)), (2, .int (nI 8)), (3, .int (xk + 1))]) rfl ?_
                exact ih (k + 1) G12 (xk + 1) (by omega) (by omega) (lp_s hx) (by rw [min_y hi11, min_e hi11]; exact h14)
              · refine g_seg [(54, .astore 4, 2), (56, .aload 4, 2)] 58 [(4, .null), (0, .ref x), (1, .ref (ad 0 1)), (2, .int (nI 8)), (3, .int xk)] [.null] C (by decide +kernel) rfl ?_
                refine g_ifnullN (pc := 58) (off := 8) 66 C (by decide +kernel) (by decide) ?_
                refine g_seg [(66, .iinc 3 1, 3), (69, .goto (-23), 3)] 46 [(3, .int (xk + 1)), (4, .null), (0, .ref x), (1, .ref (ad 0 1)), (2, .int (nI 8))] [] C (by decide +kernel) rfl ?_
                refine g_subp [2, 3, 4, 0] (lv' := [(0, .ref x), (1, .ref (ad 0 1)), (2, .int (nI 8)), (3, .int (xk + 1))]) rfl ?_
                exact ih (k + 1) G1 (xk + 1) (by omega) (by omega) (lp_s hx) (by rw [min_n hi11]; exact hb)
        exact lp3 (8 + 1) 0 G1 0 (by omega) (by omega) (nI_0.symm) (by rw [Nat.zero_min, mix0]; exact hax)
      · have hk8 : k < 6 := lp_lt hx (by omega) (by decide) c2
        refine g_seg [(15, .aload_n 1, 1), (16, .iload_n 3, 1)] 17 [(0, .ref x), (1, .ref (ad 0 0)), (2, .int (nI 6)), (3, .int xk)] [.int xk, .ref (ad 0 0)] C (by decide +kernel) rfl ?_
        refine g_aaldA (pc := 17) (len := 6) (t0 := 1) (j := k) C (ha.1.2.1) rfl (hx) (hk8) (by decide) (by decide +kernel) (fun hi15 => ?_) (fun hi15 => ?_)
        · rw [min_e hi15] at ha
          refine g_seg [(18, .astore 4, 2), (20, .aload 4, 2)] 22 [(4, .ref (ad 1 k)), (0, .ref x), (1, .ref (ad 0 0)), (2, .int (nI 6)), (3, .int xk)] [.ref (ad 1 k)] C (by decide +kernel) rfl ?_
          refine g_ifnull (pc := 22) (off := 8) C (by decide +kernel) ?_
          refine g_seg [(25, .aload 4, 2)] 27 [(4, .ref (ad 1 k)), (0, .ref x), (1, .ref (ad 0 0)), (2, .int (nI 6)), (3, .int xk)] [.ref (ad 1 k)] C (by decide +kernel) rfl ?_
          refine g_callV (pc := 27) C mV_X3_takeBack q339 (ha.2.1.1 k hi15) rfl rfl (c_X3_takeBack l D cy G1 (ad 1 k) ((mixR (tT T KT) T k) k 0) ((mixR (tT T KT) T k) k 1) ((mixR (tT T KT) T k) k 3) ((mixR (tT T KT) T k) k 2) ((mixR (tT T KT) T k) k 6) ((mixR (tT T KT) T k) k 4) ((mixR (tT T KT) T k) k 5) (KT k 0) (KT k 1)  (ha.2.1.1 k hi15) (hb k hi15)) rfl ⟨⟨Nat.le_of_ble_eq_true rfl, Nat.le_of_ble_eq_true rfl⟩, Nat.le_of_ble_eq_true rfl, Nat.le_of_ble_eq_true rfl⟩ rfl (Nat.le_of_ble_eq_true rfl) (by decide +kernel) ?_
          refine g_kV (fun G16 hG17 => ?_)
          have h18 : RX cy x ad b nt nf nc nn (mixR (tT T KT) T (k + 1)) E Cu N KT KF KC G16 := by rw [hG17]; exact RX_backT ha hi15
          refine g_seg [(30, .iinc 3 1, 3), (33, .goto (-23), 3)] 10 [(3, .int (xk + 1)), (4, .ref (ad 1 k)), (0, .ref x), (1, .ref (ad 0 0)), (2, .int (nI 6))] [] C (by decide +kernel) rfl ?_
          refine g_subp [2, 3, 4, 0] (lv' := [(0, .ref x), (1, .ref (ad 0 0)), (2, .int (nI 6)), (3, .int (xk + 1))]) rfl ?_
          exact ih (k + 1) G16 (xk + 1) (by omega) (by omega) (lp_s hx) (by rw [min_y hi15, min_e hi15]; exact h18)
        · refine g_seg [(18, .astore 4, 2), (20, .aload 4, 2)] 22 [(4, .null), (0, .ref x), (1, .ref (ad 0 0)), (2, .int (nI 6)), (3, .int xk)] [.null] C (by decide +kernel) rfl ?_
          refine g_ifnullN (pc := 22) (off := 8) 30 C (by decide +kernel) (by decide) ?_
          refine g_seg [(30, .iinc 3 1, 3), (33, .goto (-23), 3)] 10 [(3, .int (xk + 1)), (4, .null), (0, .ref x), (1, .ref (ad 0 0)), (2, .int (nI 6))] [] C (by decide +kernel) rfl ?_
          refine g_subp [2, 3, 4, 0] (lv' := [(0, .ref x), (1, .ref (ad 0 0)), (2, .int (nI 6)), (3, .int (xk + 1))]) rfl ?_
          exact ih (k + 1) G1 (xk + 1) (by omega) (by omega) (lp_s hx) (by rw [min_n hi15]; exact ha)
  exact lp1 (6 + 1) 0 G 0 (by omega) (by omega) (nI_0.symm) (by rw [Nat.zero_min, mix0]; exact h)
