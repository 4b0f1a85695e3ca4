/-! the turns, and what is ahead of them -/
set_option maxHeartbeats 8000000 in
set_option maxRecDepth 100000 in
theorem t_turns {nm : String} {κ : Kx} {l : Launch} {D : va_G} {cy : Nat → ClassId} {sb L : Nat} {xs : Nat → Int32} (C : g_OK κ l D cy (yLw nm) 24 code room_1 (some .boolean)) (X : g_XX κ) (Z : g_SC κ sb L xs) (hLn : L ≤ 260) (fin : ∀ (G : GG) (ce sl : Nat) (lv : LV), ce ≤ 650000 → sl ≤ 6500000 → PG κ 24 ce sl G lv 1277 [.int 1]) {x s c0 s0 : Nat} (hc0 : c0 ≤ 1000) (hs0 : s0 ≤ 10000) : ∀ (m k : Nat) (G : GG), 50 + 1 ≤ k + m → k ≤ 50 → LA cy x s k G → PG κ 24 (c0 + 1490 * k) (s0 + 9240 * k) G [(0, .ref sb), (1, .ref x), (2, .ref s), (3, .int (nI k))] 22 [] := by
  intro m
  induction m with
  | zero => intro k G h1 h2; intros; exact absurd h1 (by omega)
  | succ m ih =>
    intro k G hm hk hA
    have hx : nI k = nI k := rfl
    refine g_seg [(22, .iload_n 3, 1), (23, .bipush 50, 2)] 25 [(0, .ref sb), (1, .ref x), (2, .ref s), (3, .int (nI k))] [.int 50, .int (nI k)] C (by decide +kernel) rfl ?_
    refine g_icmp_ge (pc := 25) (off := 1247) 1272 C (by decide +kernel) (by decide) (fun c21 => ?_) (fun c21 => ?_)
    · have hk8 : k = 50 := by have := lp_ge (n := 50) hx (by omega) (by omega) c21; omega
      refine g_seg [(1272, .aload_n 2, 1), (1273, .aload_n 1, 1)] 1274 [(0, .ref sb), (1, .ref x), (2, .ref s), (3, .int (nI k))] [.ref x, .ref s] C (by decide +kernel) rfl ?_
      obtain ⟨G2, rt, rd, nt, nf, nc, nn, T, E, Cu, N, hL, hS, hv⟩ := hA
      refine g_callVN (pc := 1274) C X mV_X5_isSame q374 (LX.rs hL hS).1.1 rfl rfl (c_X5_isSame l D cy hL hS hv.wok (hv.wS (by omega)) hv.b5) rfl ⟨⟨(Nat.le_of_ble_eq_true rfl), (Nat.le_of_ble_eq_true rfl)⟩, (by show (c0 + 1490 * k) + 204 ≤ 693133; omega), (by show (s0 + 9240 * k) + 1239 ≤ 7022224; omega)⟩ rfl (Nat.le_of_ble_eq_true rfl) (by decide +kernel) (g_kI (fun v9 G9 hp9 => ?_))
      subst hp9
      exact fin _ _ _ _ (by show (c0 + 1490 * k) + 204 ≤ 650000; omega) (by show (s0 + 9240 * k) + 1239 ≤ 6500000; omega)
    · have hk8 : k < 50 := lp_lt (n := 50) hx (by omega) (by omega) c21
      refine g_seg [(28, .aload_n 0, 1), (29, .iload_n 3, 1), (30, .bipush 16, 2)] 32 [(0, .ref sb), (1, .ref x), (2, .ref s), (3, .int (nI k))] [.int 16, .int (nI k), .ref sb] C (by decide +kernel) rfl ?_
      refine g_irem (pc := 32) C (by decide +kernel) (by decide) ?_
      refine g_callSS (pc := 33) C X Z mS_L_cell q395 (c_L_cell l D cy G sb L xs hLn ((nI k) - (nI k) / 16 * 16) (k % 16) (pk_rem (d := 16) (by omega) (by decide) (by decide)) (by omega)) rfl ⟨⟨(Nat.le_of_ble_eq_true rfl), (Nat.le_of_ble_eq_true rfl)⟩, (by show (c0 + 1490 * k) + 0 ≤ 693133; omega), (by show (s0 + 9240 * k) + 0 ≤ 7022224; omega)⟩ rfl (Nat.le_of_ble_eq_true rfl) (by decide +kernel) ?_
      refine g_kI (fun v23 G22 hp24 => ?_)
      obtain rfl := hp24
      refine g_seg [(36, .iload_n 3, 1), (37, .bipush 16, 2)] 39 [(0, .ref sb), (1, .ref x), (2, .ref s), (3, .int (nI k))] [.int 16, .int (nI k), .int v23] C (by decide +kernel) rfl ?_
      refine g_idiv (pc := 39) C (by decide +kernel) (by decide) ?_
      refine g_seg [(40, .iconst 3, 1), (41, .imul, 1), (42, .ishr, 1), (43, .sipush 157, 3), (46, .iload_n 3, 1), (47, .imul, 1), (48, .iadd, 1), (49, .istore 4, 2), (51, .aload_n 1, 1), (52, .aload_n 2, 1), (53, .iload 4, 2)] 55 [(4, .int ((v23 >>> ((((nI k) / 16) * 3) &&& 31)) + (157 * (nI k)))), (0, .ref sb), (1, .ref x), (2, .ref s), (3, .int (nI k))] [.int ((v23 >>> ((((nI k) / 16) * 3) &&& 31)) + (157 * (nI k))), .ref s, .ref x] C (by decide +kernel) rfl ?_
      refine g_callSN (pc := 55) C X mS_L_act q399 (c_L_act l D cy hA (by omega) ((v23 >>> ((((nI k) / 16) * 3) &&& 31)) + (157 * (nI k)))) rfl ⟨⟨(Nat.le_of_ble_eq_true rfl), (Nat.le_of_ble_eq_true rfl)⟩, (by show ((c0 + 1490 * k) + 0) + 3 ≤ 693133; omega), (by show ((s0 + 9240 * k) + 0) + 38 ≤ 7022224; omega)⟩ rfl (Nat.le_of_ble_eq_true rfl) (by decide +kernel) (g_kI (fun v9 G25 hp9 => ?_))
      obtain ⟨rfl, hA26⟩ := hp9
      refine g_if_ne (pc := 58) (off := 5) 63 C (by decide +kernel) (by decide) (fun _ => ?_) (fun c9 => absurd c9 (by decide))
      generalize hv4 : ((v23 >>> ((((nI k) / 16) * 3) &&& 31)) + (157 * (nI k))) = v4
      refine g_subp [1, 2, 3, 4, 0] (lv' := [(0, .ref sb), (1, .ref x), (2, .ref s), (3, .int (nI k)), (4, .int v4)]) rfl ?_
      obtain ⟨G2, rt, rd, nt, nf, nc, nn, T, E, Cu, N, hL, hS, hv⟩ := hA26
      have hbd := LX.bd hL
      obtain ⟨hb1, hB, hR0, hR1, hR2⟩ := beat_all (N := N) (nn := nn) hv (by omega) hbd.1 hbd.2.1
      generalize hXb : x_beat N nn nt nf nc (nI k, T, E, Cu, 0) = Xb at hb1 hB hR0 hR1 hR2
      obtain ⟨b', T', E', C', κ'⟩ := Xb
      simp only at hb1 hB hR0 hR1 hR2
      subst hb1
      refine g_widen (k := (c0 + 1490 * k + 5)) (n := (s0 + 9240 * k + 40)) (by show (((c0 + 1490 * k) + 0) + 3) ≤ (c0 + 1490 * k + 5); omega) (by show (((s0 + 9240 * k) + 0) + 38) ≤ (s0 + 9240 * k + 40); omega) ?_
      have hce : c0 + 1490 * k + 5 ≤ 100000 := by omega
      have hsl : s0 + 9240 * k + 40 ≤ 600000 := by omega
      generalize hcz : c0 + 1490 * k + 5 = cz at hce
      generalize hsz : s0 + 9240 * k + 40 = sz at hsl
      refine t_p1 C X hL hv hk8 (by omega) (by omega) hS (fun G31 G41 qr rr qt s1 hL1 hqr hqt => ?_)
      refine t_p2 (rt := rt) (rd := rd) C X hL1 hv hk8 (by omega) (by omega) (fun G32 G42 qw rw s2 hL2 hqw => ?_)
      refine t_p3 (rt := rt) (rd := rd) C X hL2 hv hk8 (by omega) (by omega) (fun G33 G43 qc s3 hL3 hqc => ?_)
      refine t_p4 (rt := rt) (rd := rd) C X hL3 hv hk8 (by omega) (by omega) hXb (fun G34 G44 qn s4 hL4 hqn => ?_)
      refine t_p5 C X hL4 hv hk8 (by omega) (by omega) hS hXb hR0 hR1 hR2.symm.symm hqn (fun G35 G25 hL5 hS5 => ?_)
      have u2 : sG G42 G44 := s3.tr s4
      have u1 : sG G41 G44 := s2.tr u2
      refine t_p6 C X hL5 hv hB hk8 (by omega) (by omega) (hqr.up u1) (hqt.up u1) (hqw.up u2) (hqc.up s4) (fun G36 G46 qh s5 hL6 hqh => ?_)
      refine t_p7 C X hL6 hv hB hk8 (by omega) (by omega) (hqr.up (u1.tr s5)) (hqt.up (u1.tr s5)) (hqw.up (u2.tr s5)) (hqc.up (s4.tr s5)) hqh (fun G37 hL7 => ?_)
      refine t_p8 C X hL7 hv hB hk8 (by omega) (by omega) (hqr.up (u1.tr s5)) (hqt.up (u1.tr s5)) (hqw.up (u2.tr s5)) (hqc.up (s4.tr s5)) (fun G38 hL8 => ?_)
      have hA9 : LA cy x s (k + 1) G38 := ⟨G25, rt, rd, nt, nf, nc, nn, T', E', C', N, hL8.x3, hS5, hB.1⟩
      refine g_seg [(1257, .iload 16, 2), (1259, .iload 14, 2)] 1261 [(0, .ref sb), (1, .ref x), (2, .ref s), (3, .int (nI k)), (4, .int v4), (5, .int (nI nt)), (6, .int (nI nf)), (7, .int (nI nc)), (8, .int (nI k)), (9, .ref qr), (10, .ref qt), (11, .ref qw), (12, .ref qc), (14, .int κ'), (16, .int (s_sum E' E nf))] [.int κ', .int (s_sum E' E nf)] C (by decide +kernel) rfl ?_
      refine g_icmp_eq (pc := 1261) (off := 5) 1266 C (by decide +kernel) (by decide) (fun _ => ?_) (fun c9 => absurd (hB.2.2.2.2.symm) c9)
      refine g_seg [(1266, .iinc 3 1, 3), (1269, .goto (-1247), 3)] 22 [(3, .int ((nI k) + 1)), (0, .ref sb), (1, .ref x), (2, .ref s), (4, .int v4), (5, .int (nI nt)), (6, .int (nI nf)), (7, .int (nI nc)), (8, .int (nI k)), (9, .ref qr), (10, .ref qt), (11, .ref qw), (12, .ref qc), (14, .int κ'), (16, .int (s_sum E' E nf))] [] C (by decide +kernel) rfl ?_
      rw [nI_1]
      refine g_subp [1, 2, 3, 0] (lv' := [(0, .ref sb), (1, .ref x), (2, .ref s), (3, .int (nI (k + 1)))]) rfl ?_
      refine g_widen (k := (c0 + 1490 * (k + 1))) (n := (s0 + 9240 * (k + 1))) (by show (cz + 80 + 60 + 30 + 10 + 15 + 1100 + 120 + 70) ≤ (c0 + 1490 * (k + 1)); omega) (by show (sz + 500 + 300 + 150 + 70 + 80 + 7000 + 700 + 400) ≤ (s0 + 9240 * (k + 1)); omega) ?_
      exact ih (k + 1) G38 (by omega) (by omega) hA9
set_option maxHeartbeats 8000000 in
set_option maxRecDepth 100000 in
theorem t_start {nm : String} {κ : Kx} {l : Launch} {D : va_G} {cy : Nat → ClassId} {sb L : Nat} {xs : Nat → Int32} (C : g_OK κ l D cy (yLw nm) 24 code room_1 (some .boolean)) (X : g_XX κ) (Z : g_SC κ sb L xs) (hLn : L ≤ 260) (fin : ∀ (G : GG) (ce sl : Nat) (lv : LV), ce ≤ 650000 → sl ≤ 6500000 → PG κ 24 ce sl G lv 1277 [.int 1]) : PG κ 24 0 0 (fun _ => none) [(0, .ref sb)] 0 [] := by
  refine g_new (pc := 0) (ci := 4) (fs := [.null, .null, .null, .null, .int 0, .int 0, .int 0, .int 0, .int 0]) C rfl inX4 tyX4_ok q34 q35 q21 (fun j hj => by rcases (show j = 0 ∨ j = 1 ∨ j = 2 ∨ j = 3 ∨ j = 4 ∨ j = 5 ∨ j = 6 ∨ j = 7 ∨ j = 8 by omega) with rfl | rfl | rfl | rfl | rfl | rfl | rfl | rfl | rfl <;> rfl) (Nat.le_of_ble_eq_true rfl) (Nat.le_of_ble_eq_true rfl) (by decide +kernel) (fun x hx => ?_)
  refine g_seg [(3, .dup, 1)] 4 [(0, .ref sb)] [.ref x, .ref x] C (by decide +kernel) rfl ?_
  refine g_callI (pc := 4) C mI_X4_init q36 (c_X4_init l D cy _ x (g_up_self ..)) rfl ⟨⟨(Nat.le_of_ble_eq_true rfl), (Nat.le_of_ble_eq_true rfl)⟩, (by show (0 + 1) + 4 ≤ 693133; omega), (by show (0 + 9) + 37 ≤ 7022224; omega)⟩ rfl (Nat.le_of_ble_eq_true rfl) (by decide +kernel) (g_kV (fun G1 h1 => ?_))
  obtain ⟨ad, hX0⟩ := h1
  refine g_seg [(7, .astore_n 1, 1), (8, .aload_n 1, 1), (9, .aload_n 0, 1)] 10 [(1, .ref x), (0, .ref sb)] [.ref sb, .ref x] C (by decide +kernel) rfl ?_
  refine g_callSS (pc := 10) C X Z mS_L_build q606 (c_L_build l D cy hX0 sb L xs hLn) rfl ⟨⟨(Nat.le_of_ble_eq_true rfl), (Nat.le_of_ble_eq_true rfl)⟩, (by show ((0 + 1) + 4) + 95 ≤ 693133; omega), (by show ((0 + 9) + 37) + 1145 ≤ 7022224; omega)⟩ rfl (Nat.le_of_ble_eq_true rfl) (by decide +kernel) ?_
  refine g_kA (fun v9 G9 hp9 => ?_)
  obtain ⟨s, rfl, hA⟩ := hp9
  refine g_seg [(13, .astore_n 2, 1), (14, .aload_n 2, 1)] 15 [(2, .ref s), (1, .ref x), (0, .ref sb)] [.ref s] C (by decide +kernel) rfl ?_
  refine g_ifnonnull (pc := 15) (off := 5) 20 C (by decide +kernel) (by decide) ?_
  refine g_seg [(20, .iconst 0, 1), (21, .istore_n 3, 1)] 22 [(3, .int 0), (2, .ref s), (1, .ref x), (0, .ref sb)] [] C (by decide +kernel) rfl ?_
  refine g_subp [3, 2, 1, 0] (lv' := [(0, .ref sb), (1, .ref x), (2, .ref s), (3, .int 0)]) rfl ?_
  refine g_widen (k := (200 + 1490 * 0)) (n := (2000 + 9240 * 0)) (by show (((0 + 1) + 4) + 95) ≤ (200 + 1490 * 0); omega) (by show (((0 + 9) + 37) + 1145) ≤ (2000 + 9240 * 0); omega) ?_
  exact t_turns C X Z hLn fin (by decide) (by decide) 51 0 _ (by omega) (by omega) hA
