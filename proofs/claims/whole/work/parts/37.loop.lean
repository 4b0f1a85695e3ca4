/-! the arms without a wrapper; the loop -/
set_option maxHeartbeats 4000000 in
set_option maxRecDepth 100000 in
theorem t_netAt {nm : String} {κ : Kx} {l : Launch} {D : va_G} {cy : Nat → ClassId} {b L x m o bn k ce sl : Nat} {xs : Nat → Int32} {xi : Int32} {G : GG} (C : g_OK κ l D cy (yLw nm) 9 code room_1 (some .boolean)) (hSC : g_SC κ b L xs) (hL : L ≤ 2560) (hk : 5 * k + 5 ≤ L) (hx : xi = nI (5 * k)) (hce : ce + 16 ≤ room_1.cells) (hsl : sl + 400 ≤ room_1.slots) (hlw : LW cy x m o G bn) (kk : ∀ G' bn' ce' sl', LW cy x m o G' bn' → bn' ≤ bn → ce' ≤ ce + 16 → sl' ≤ sl + 400 → PG κ 9 ce' sl' G' [(0, .ref b), (1, .ref x), (2, .ref m), (3, .ref o), (4, .int xi)] 1356 []) : PG κ 9 ce sl G [(0, .ref b), (1, .ref x), (2, .ref m), (3, .ref o), (4, .int xi)] 948 [] := by
  obtain ⟨G1, G2, ad, am, th, nt, nf, nc, nn, T, E, Cu, N, KT, KF, KC, F, z0, hX, hM, ⟨s1, s2, dj⟩, ⟨ho, ho1, ho2⟩, hT, hS, hC⟩ := hlw
  refine g_pc (pc' := 948) rfl ?_
  refine g_seg [(948, .aload_n 1, 1), (949, .aload_n 0, 1), (950, .iload 4, 2), (952, .iconst 1, 1), (953, .iadd, 1)] 954 [(0, .ref b), (1, .ref x), (2, .ref m), (3, .ref o), (4, .int xi)] [.int (xi + 1), .ref b, .ref x] C (by decide +kernel) rfl ?_
  refine g_sald (pc := 954) (j := (5 * k + 1)) C hSC (by rw [hx]; exact nI_add (5 * k) 1) (by omega) (by omega) (by decide +kernel) ?_
  refine g_callV (pc := 955) C mV_X4_netAt q106 (s1 _ _ hX.1.1) rfl rfl (Ctr.frame (c_X4_netAt l D cy hX (xs (5 * k + 1))) s1) rfl ⟨⟨(Nat.le_of_ble_eq_true rfl), (Nat.le_of_ble_eq_true rfl)⟩, by refine Nat.le_trans ?_ hce; (try simp only [Nat.add_assoc]); exact Nat.add_le_add_left (by decide) _, by refine Nat.le_trans ?_ hsl; (try simp only [Nat.add_assoc]); exact Nat.add_le_add_left (by decide) _⟩ rfl (Nat.le_of_ble_eq_true rfl) (by decide +kernel) (fun r G3 h3 => ?_)
  obtain ⟨G', ⟨v, rfl, hv, hX2⟩, hf⟩ := h3
  obtain ⟨f1, f2, f3, f4, f5⟩ := fr_step hf s2 dj ho ho1
  show PG κ 9 (ce + kX4_netAt.cells) (sl + kX4_netAt.slots) G3 [(0, .ref b), (1, .ref x), (2, .ref m), (3, .ref o), (4, .int xi)] 958 [.int v]
  refine g_seg [(958, .aload_n 2, 1), (959, .aload_n 0, 1), (960, .iload 4, 2), (962, .iconst 1, 1), (963, .iadd, 1)] 964 [(0, .ref b), (1, .ref x), (2, .ref m), (3, .ref o), (4, .int xi)] [.int (xi + 1), .ref b, .ref m, .int v] C (by decide +kernel) rfl ?_
  refine g_sald (pc := 964) (j := (5 * k + 1)) C hSC (by rw [hx]; exact nI_add (5 * k) 1) (by omega) (by omega) (by decide +kernel) ?_
  refine g_callV (pc := 965) C mV_X5_netAt q814 (f2 _ _ hM.1.1) rfl rfl (Ctr.frame (c_X5_netAt l D cy hM (xs (5 * k + 1))) f2) rfl ⟨⟨(Nat.le_of_ble_eq_true rfl), (Nat.le_of_ble_eq_true rfl)⟩, by refine Nat.le_trans ?_ hce; (try simp only [Nat.add_assoc]); exact Nat.add_le_add_left (by decide) _, by refine Nat.le_trans ?_ hsl; (try simp only [Nat.add_assoc]); exact Nat.add_le_add_left (by decide) _⟩ rfl (Nat.le_of_ble_eq_true rfl) (by decide +kernel) (fun r G4 h4 => ?_)
  obtain ⟨G6, ⟨w9, rfl, hq, hM2⟩, hf4⟩ := h4
  obtain ⟨u2, u1, u3', u4, u6⟩ := fr_step hf4 f1 (dj_sym f3) f4 ho2
  have u3 := dj_sym u3'
  have hvw : v = w9 := by rcases hv with ⟨rfl, a9⟩ | ⟨rfl, a9⟩ <;> rcases hq with ⟨rfl, c9⟩ | ⟨rfl, c9⟩ <;> first | rfl | (rw [a9] at c9; cases c9)
  subst hvw
  show PG κ 9 ((ce + kX4_netAt.cells) + kX5_netAt.cells) ((sl + kX4_netAt.slots) + kX5_netAt.slots) G4 [(0, .ref b), (1, .ref x), (2, .ref m), (3, .ref o), (4, .int xi)] 968 [.int v, .int v]
  refine g_icmp_eq (pc := 968) (off := 388) 1356 C (by decide +kernel) (by decide) (fun _ => ?_) (fun c9 => absurd (rfl) c9)
  refine g_subp [0, 1, 2, 3, 4] (lv' := [(0, .ref b), (1, .ref x), (2, .ref m), (3, .ref o), (4, .int xi)]) rfl ?_
  exact kk G4 bn _ _ (LW_mk ⟨ad, am, nt, nf, nc, nn, T, E, Cu, N, KT, KF, KC, F, hX2, hM2, hT, hS, hC⟩ u1 u2 u3 u4 f5 u6) (Nat.le_refl _) (by (try simp only [Nat.add_assoc]); exact Nat.add_le_add_left (by decide) _) (by (try simp only [Nat.add_assoc]); exact Nat.add_le_add_left (by decide) _)
set_option maxHeartbeats 4000000 in
set_option maxRecDepth 100000 in
theorem t_mean {nm : String} {κ : Kx} {l : Launch} {D : va_G} {cy : Nat → ClassId} {b L x m o bn k ce sl : Nat} {xs : Nat → Int32} {xi : Int32} {G : GG} (C : g_OK κ l D cy (yLw nm) 9 code room_1 (some .boolean)) (hSC : g_SC κ b L xs) (hL : L ≤ 2560) (hk : 5 * k + 5 ≤ L) (hx : xi = nI (5 * k)) (hce : ce + 16 ≤ room_1.cells) (hsl : sl + 400 ≤ room_1.slots) (hlw : LW cy x m o G bn) (kk : ∀ G' bn' ce' sl', LW cy x m o G' bn' → bn' ≤ bn → ce' ≤ ce + 16 → sl' ≤ sl + 400 → PG κ 9 ce' sl' G' [(0, .ref b), (1, .ref x), (2, .ref m), (3, .ref o), (4, .int xi)] 1356 []) : PG κ 9 ce sl G [(0, .ref b), (1, .ref x), (2, .ref m), (3, .ref o), (4, .int xi)] 1301 [] := by
  obtain ⟨G1, G2, ad, am, th, nt, nf, nc, nn, T, E, Cu, N, KT, KF, KC, F, z0, hX, hM, ⟨s1, s2, dj⟩, ⟨ho, ho1, ho2⟩, hT, hS, hC⟩ := hlw
  refine g_pc (pc' := 1301) rfl ?_
  refine g_seg [(1301, .aload_n 1, 1)] 1302 [(0, .ref b), (1, .ref x), (2, .ref m), (3, .ref o), (4, .int xi)] [.ref x] C (by decide +kernel) rfl ?_
  refine g_callV (pc := 1302) C mV_X4_mean q117 (s1 _ _ hX.1.1) rfl rfl (Ctr.frame (c_X4_mean l D cy hX ) s1) rfl ⟨⟨(Nat.le_of_ble_eq_true rfl), (Nat.le_of_ble_eq_true rfl)⟩, by refine Nat.le_trans ?_ hce; (try simp only [Nat.add_assoc]); exact Nat.add_le_add_left (by decide) _, by refine Nat.le_trans ?_ hsl; (try simp only [Nat.add_assoc]); exact Nat.add_le_add_left (by decide) _⟩ rfl (Nat.le_of_ble_eq_true rfl) (by decide +kernel) (fun r G3 h3 => ?_)
  obtain ⟨G', ⟨v, rfl, hv, hX2⟩, hf⟩ := h3
  obtain ⟨f1, f2, f3, f4, f5⟩ := fr_step hf s2 dj ho ho1
  show PG κ 9 (ce + kX4_mean.cells) (sl + kX4_mean.slots) G3 [(0, .ref b), (1, .ref x), (2, .ref m), (3, .ref o), (4, .int xi)] 1305 [.double v]
  refine g_seg [(1305, .dstore 5, 2), (1307, .aload_n 2, 1)] 1308 [(5, .double v), (0, .ref b), (1, .ref x), (2, .ref m), (3, .ref o), (4, .int xi)] [.ref m] C (by decide +kernel) rfl ?_
  refine g_callV (pc := 1308) C mV_X5_mean q892 (f2 _ _ hM.1.1) rfl rfl (Ctr.frame (c_X5_mean l D cy hM ) f2) rfl ⟨⟨(Nat.le_of_ble_eq_true rfl), (Nat.le_of_ble_eq_true rfl)⟩, by refine Nat.le_trans ?_ hce; (try simp only [Nat.add_assoc]); exact Nat.add_le_add_left (by decide) _, by refine Nat.le_trans ?_ hsl; (try simp only [Nat.add_assoc]); exact Nat.add_le_add_left (by decide) _⟩ rfl (Nat.le_of_ble_eq_true rfl) (by decide +kernel) (fun r G4 h4 => ?_)
  obtain ⟨G6, ⟨w9, rfl, hq, hM2⟩, hf4⟩ := h4
  obtain ⟨u2, u1, u3', u4, u6⟩ := fr_step hf4 f1 (dj_sym f3) f4 ho2
  have u3 := dj_sym u3'
  have hvw : v = w9 := by rw [hv, hq, mean_eq hS]
  subst hvw
  show PG κ 9 ((ce + kX4_mean.cells) + kX5_mean.cells) ((sl + kX4_mean.slots) + kX5_mean.slots) G4 [(5, .double v), (0, .ref b), (1, .ref x), (2, .ref m), (3, .ref o), (4, .int xi)] 1311 [.double v]
  by_cases hdc : Op.cmpValue (FP.dcmp v v) .l = 0
  · refine g_seg [(1311, .dstore 7, 2), (1313, .dload 5, 2), (1315, .dload 7, 2), (1317, .dcmp .l, 1)] 1318 [(7, .double v), (5, .double v), (0, .ref b), (1, .ref x), (2, .ref m), (3, .ref o), (4, .int xi)] [.int (Op.cmpValue (FP.dcmp v v) .l)] C (by decide +kernel) rfl ?_
    refine g_if_eq (pc := 1318) (off := 21) 1339 C (by decide +kernel) (by decide) (fun _ => ?_) (fun c9 => absurd (hdc) c9)
    refine g_seg [(1339, .goto 17, 3)] 1356 [(7, .double v), (5, .double v), (0, .ref b), (1, .ref x), (2, .ref m), (3, .ref o), (4, .int xi)] [] C (by decide +kernel) rfl ?_
    refine g_subp [2, 3, 4, 5, 6] (lv' := [(0, .ref b), (1, .ref x), (2, .ref m), (3, .ref o), (4, .int xi)]) rfl ?_
    exact kk G4 bn _ _ (LW_mk ⟨ad, am, nt, nf, nc, nn, T, E, Cu, N, KT, KF, KC, F, hX2, hM2, hT, hS, hC⟩ u1 u2 u3 u4 f5 u6) (Nat.le_refl _) (by (try simp only [Nat.add_assoc]); exact Nat.add_le_add_left (by decide) _) (by (try simp only [Nat.add_assoc]); exact Nat.add_le_add_left (by decide) _)
  · refine g_seg [(1311, .dstore 7, 2), (1313, .dload 5, 2), (1315, .dload 7, 2), (1317, .dcmp .l, 1)] 1318 [(7, .double v), (5, .double v), (0, .ref b), (1, .ref x), (2, .ref m), (3, .ref o), (4, .int xi)] [.int (Op.cmpValue (FP.dcmp v v) .l)] C (by decide +kernel) rfl ?_
    refine g_if_eq (pc := 1318) (off := 21) 1339 C (by decide +kernel) (by decide) (fun c9 => absurd c9 (hdc)) (fun _ => ?_)
    refine g_seg [(1321, .dload 5, 2), (1323, .dload 5, 2), (1325, .dcmp .l, 1)] 1326 [(7, .double v), (5, .double v), (0, .ref b), (1, .ref x), (2, .ref m), (3, .ref o), (4, .int xi)] [.int (Op.cmpValue (FP.dcmp v v) .l)] C (by decide +kernel) rfl ?_
    refine g_if_eq (pc := 1326) (off := 11) 1337 C (by decide +kernel) (by decide) (fun c9 => absurd c9 (hdc)) (fun _ => ?_)
    refine g_seg [(1329, .dload 7, 2), (1331, .dload 7, 2), (1333, .dcmp .l, 1)] 1334 [(7, .double v), (5, .double v), (0, .ref b), (1, .ref x), (2, .ref m), (3, .ref o), (4, .int xi)] [.int (Op.cmpValue (FP.dcmp v v) .l)] C (by decide +kernel) rfl ?_
    refine g_if_ne (pc := 1334) (off := 5) 1339 C (by decide +kernel) (by decide) (fun _ => ?_) (fun c9 => absurd c9 (hdc))
    refine g_seg [(1339, .goto 17, 3)] 1356 [(7, .double v), (5, .double v), (0, .ref b), (1, .ref x), (2, .ref m), (3, .ref o), (4, .int xi)] [] C (by decide +kernel) rfl ?_
    refine g_subp [2, 3, 4, 5, 6] (lv' := [(0, .ref b), (1, .ref x), (2, .ref m), (3, .ref o), (4, .int xi)]) rfl ?_
    exact kk G4 bn _ _ (LW_mk ⟨ad, am, nt, nf, nc, nn, T, E, Cu, N, KT, KF, KC, F, hX2, hM2, hT, hS, hC⟩ u1 u2 u3 u4 f5 u6) (Nat.le_refl _) (by (try simp only [Nat.add_assoc]); exact Nat.add_le_add_left (by decide) _) (by (try simp only [Nat.add_assoc]); exact Nat.add_le_add_left (by decide) _)
set_option maxHeartbeats 4000000 in
set_option maxRecDepth 100000 in
theorem t_digest {nm : String} {κ : Kx} {l : Launch} {D : va_G} {cy : Nat → ClassId} {b L x m o bn k ce sl : Nat} {xs : Nat → Int32} {xi : Int32} {G : GG} (C : g_OK κ l D cy (yLw nm) 9 code room_1 (some .boolean)) (hSC : g_SC κ b L xs) (hL : L ≤ 2560) (hk : 5 * k + 5 ≤ L) (hx : xi = nI (5 * k)) (hce : ce + 16 ≤ room_1.cells) (hsl : sl + 400 ≤ room_1.slots) (hlw : LW cy x m o G bn) (kk : ∀ G' bn' ce' sl', LW cy x m o G' bn' → bn' ≤ bn → ce' ≤ ce + 16 → sl' ≤ sl + 400 → PG κ 9 ce' sl' G' [(0, .ref b), (1, .ref x), (2, .ref m), (3, .ref o), (4, .int xi)] 1356 []) : PG κ 9 ce sl G [(0, .ref b), (1, .ref x), (2, .ref m), (3, .ref o), (4, .int xi)] 1342 [] := by
  obtain ⟨G1, G2, ad, am, th, nt, nf, nc, nn, T, E, Cu, N, KT, KF, KC, F, z0, hX, hM, ⟨s1, s2, dj⟩, ⟨ho, ho1, ho2⟩, hT, hS, hC⟩ := hlw
  refine g_pc (pc' := 1342) rfl ?_
  refine g_seg [(1342, .aload_n 1, 1)] 1343 [(0, .ref b), (1, .ref x), (2, .ref m), (3, .ref o), (4, .int xi)] [.ref x] C (by decide +kernel) rfl ?_
  refine g_callV (pc := 1343) C mV_X4_digest q121 (s1 _ _ hX.1.1) rfl rfl (Ctr.frame (c_X4_digest l D cy hX hT.1) s1) rfl ⟨⟨(Nat.le_of_ble_eq_true rfl), (Nat.le_of_ble_eq_true rfl)⟩, by refine Nat.le_trans ?_ hce; (try simp only [Nat.add_assoc]); exact Nat.add_le_add_left (by decide) _, by refine Nat.le_trans ?_ hsl; (try simp only [Nat.add_assoc]); exact Nat.add_le_add_left (by decide) _⟩ rfl (Nat.le_of_ble_eq_true rfl) (by decide +kernel) (fun r G3 h3 => ?_)
  obtain ⟨G', ⟨v, rfl, hv, hX2⟩, hf⟩ := h3
  obtain ⟨f1, f2, f3, f4, f5⟩ := fr_step hf s2 dj ho ho1
  show PG κ 9 (ce + kX4_digest.cells) (sl + kX4_digest.slots) G3 [(0, .ref b), (1, .ref x), (2, .ref m), (3, .ref o), (4, .int xi)] 1346 [.long v]
  refine g_seg [(1346, .aload_n 2, 1)] 1347 [(0, .ref b), (1, .ref x), (2, .ref m), (3, .ref o), (4, .int xi)] [.ref m, .long v] C (by decide +kernel) rfl ?_
  refine g_callV (pc := 1347) C mV_X5_digest q896 (f2 _ _ hM.1.1) rfl rfl (Ctr.frame (c_X5_digest l D cy hM hT.1) f2) rfl ⟨⟨(Nat.le_of_ble_eq_true rfl), (Nat.le_of_ble_eq_true rfl)⟩, by refine Nat.le_trans ?_ hce; (try simp only [Nat.add_assoc]); exact Nat.add_le_add_left (by decide) _, by refine Nat.le_trans ?_ hsl; (try simp only [Nat.add_assoc]); exact Nat.add_le_add_left (by decide) _⟩ rfl (Nat.le_of_ble_eq_true rfl) (by decide +kernel) (fun r G4 h4 => ?_)
  obtain ⟨G6, ⟨w9, rfl, hq, hM2⟩, hf4⟩ := h4
  obtain ⟨u2, u1, u3', u4, u6⟩ := fr_step hf4 f1 (dj_sym f3) f4 ho2
  have u3 := dj_sym u3'
  have hvw : v = w9 := by rw [hv, hq, digest_eq ⟨hM.2.2.1, hM.2.2.2.1⟩ hT hS]
  subst hvw
  show PG κ 9 ((ce + kX4_digest.cells) + kX5_digest.cells) ((sl + kX4_digest.slots) + kX5_digest.slots) G4 [(0, .ref b), (1, .ref x), (2, .ref m), (3, .ref o), (4, .int xi)] 1350 [.long v, .long v]
  refine g_seg [(1350, .lcmp, 1)] 1351 [(0, .ref b), (1, .ref x), (2, .ref m), (3, .ref o), (4, .int xi)] [.int (lg_cmp v v)] C (by decide +kernel) rfl ?_
  refine g_if_eq (pc := 1351) (off := 5) 1356 C (by decide +kernel) (by decide) (fun _ => ?_) (fun c9 => absurd (lg_same _) c9)
  refine g_subp [0, 1, 2, 3, 4] (lv' := [(0, .ref b), (1, .ref x), (2, .ref m), (3, .ref o), (4, .int xi)]) rfl ?_
  exact kk G4 bn _ _ (LW_mk ⟨ad, am, nt, nf, nc, nn, T, E, Cu, N, KT, KF, KC, F, hX2, hM2, hT, hS, hC⟩ u1 u2 u3 u4 f5 u6) (Nat.le_refl _) (by (try simp only [Nat.add_assoc]); exact Nat.add_le_add_left (by decide) _) (by (try simp only [Nat.add_assoc]); exact Nat.add_le_add_left (by decide) _)
theorem nI_big {n : Nat} (h : n < 2 ^ 31) : (nI n).toInt = n := by
  show (Int32.ofNat n).toInt = n
  rw [Int32.toInt_ofNat_of_lt h]
/-- the head's test -/
theorem lp_hd {L k : Nat} (hL : L ≤ 2560) (hk : 5 * k ≤ L) : nI L - 5 < nI (5 * k) ↔ L < 5 * k + 5 := by
  rw [Int32.lt_iff_toInt_lt, Int32.toInt_sub, nI_big (by omega), nI_big (by omega)]
  rw [show (5 : Int32).toInt = 5 by decide, Int.bmod_eq_of_le (by omega) (by omega)]
  omega
set_option maxHeartbeats 4000000 in
set_option maxRecDepth 100000 in
theorem t_loop {nm : String} {κ : Kx} {l : Launch} {D : va_G} {cy : Nat → ClassId} {b L x m o c0 s0 : Nat} {xs : Nat → Int32} (C : g_OK κ l D cy (yLw nm) 9 code room_1 (some .boolean)) (hCX : g_CX κ) (hSC : g_SC κ b L xs) (hL : L ≤ 2560) (hc0 : c0 + 16 * 513 ≤ room_1.cells) (hs0 : s0 + 400 * 513 ≤ room_1.slots) (fin : ∀ G ce sl k, ce ≤ c0 + 16 * 513 → sl ≤ s0 + 400 * 513 → PG κ 9 ce sl G [(0, .ref b), (1, .ref x), (2, .ref m), (3, .ref o), (4, .int (nI (5 * k)))] 1362 []) : ∀ (n k bn ce sl : Nat) (G : GG), L < 5 * k + 5 * n → 5 * k ≤ L → bn ≤ 200 * k → ce ≤ c0 + 16 * k → sl ≤ s0 + 400 * k → LW cy x m o G bn → PG κ 9 ce sl G [(0, .ref b), (1, .ref x), (2, .ref m), (3, .ref o), (4, .int (nI (5 * k)))] 23 [] := by
  intro n
  induction n with
  | zero => intro k bn ce sl G h1 h2; exact absurd h1 (by omega)
  | succ n ih =>
    intro k bn ce sl G h1 h2 hbn hce hsl hlw
    refine g_seg [(23, .iload 4, 2), (25, .aload_n 0, 1)] 26 [(0, .ref b), (1, .ref x), (2, .ref m), (3, .ref o), (4, .int (nI (5 * k)))] [.ref b, .int (nI (5 * k))] C (by decide +kernel) rfl ?_
    refine g_salen (pc := 26) C hSC (by decide +kernel) ?_
    refine g_seg [(27, .iconst 5, 1), (28, .isub, 1)] 29 [(0, .ref b), (1, .ref x), (2, .ref m), (3, .ref o), (4, .int (nI (5 * k)))] [.int ((nI L) - 5), .int (nI (5 * k))] C (by decide +kernel) rfl ?_
    refine g_icmp_gt (pc := 29) (off := 1333) 1362 C (by decide +kernel) (by decide) (fun _ => fin G ce sl k (by omega) (by omega)) (fun c9 => ?_)
    have hk : 5 * k + 5 ≤ L := by
      by_cases h9 : L < 5 * k + 5
      · exact absurd ((lp_hd hL h2).mpr h9) c9
      · omega
    refine g_seg [(32, .aload_n 0, 1), (33, .iload 4, 2)] 35 [(0, .ref b), (1, .ref x), (2, .ref m), (3, .ref o), (4, .int (nI (5 * k)))] [.int (nI (5 * k)), .ref b] C (by decide +kernel) rfl ?_
    refine g_sald (pc := 35) (j := 5 * k) C hSC rfl (by omega) (by omega) (by decide +kernel) ?_
    refine g_seg [(36, .bipush 31, 2), (38, .iand, 1)] 39 [(0, .ref b), (1, .ref x), (2, .ref m), (3, .ref o), (4, .int (nI (5 * k)))] [.int ((xs (5 * k)) &&& 31)] C (by decide +kernel) rfl ?_
    have kk : ∀ G' bn' ce' sl', LW cy x m o G' bn' → bn' ≤ bn + 200 → ce' ≤ ce + 16 → sl' ≤ sl + 400 → PG κ 9 ce' sl' G' [(0, .ref b), (1, .ref x), (2, .ref m), (3, .ref o), (4, .int (nI (5 * k)))] 1356 [] := by
      intro G' bn' ce' sl' g1 g2 g3 g4
      refine g_seg [(1356, .iinc 4 5, 3), (1359, .goto (-1336), 3)] 23 [(4, .int ((nI (5 * k)) + 5)), (0, .ref b), (1, .ref x), (2, .ref m), (3, .ref o)] [] C (by decide +kernel) rfl ?_
      refine g_subp [1, 2, 3, 4, 0] (lv' := [(0, .ref b), (1, .ref x), (2, .ref m), (3, .ref o), (4, .int ((nI (5 * k)) + 5))]) rfl ?_
      have e9 : nI (5 * k) + 5 = nI (5 * (k + 1)) := nI_add (5 * k) 5
      rw [e9]
      exact ih (k + 1) bn' ce' sl' G' (by omega) (by omega) (by omega) (by omega) (by omega) g1
    generalize xs (5 * k) &&& 31 = z
    have kk0 : PG κ 9 ce sl G [(0, .ref b), (1, .ref x), (2, .ref m), (3, .ref o), (4, .int (nI (5 * k)))] 1356 [] := kk G bn ce sl hlw (by omega) (by omega) (by omega)
    have kk1 : ∀ G' bn' ce' sl', LW cy x m o G' bn' → bn' ≤ bn → ce' ≤ ce + 16 → sl' ≤ sl + 400 → PG κ 9 ce' sl' G' [(0, .ref b), (1, .ref x), (2, .ref m), (3, .ref o), (4, .int (nI (5 * k)))] 1356 [] := fun G' bn' ce' sl' g1 g2 => kk G' bn' ce' sl' g1 (by omega)
    by_cases hw0 : z = 0
    · subst hw0
      refine g_tableIn (pc := 39) (dflt := 1317) (lo := 0) (hi := 19) (offs := #[93, 185, 253, 309, 377, 421, 489, 581, 649, 717, 785, 841, 909, 934, 990, 1058, 1126, 1194, 1262, 1303]) (len := 93) (off := 93) 132 C (by decide +kernel) (by decide) (by decide) (by decide) (by decide) ?_
      exact t_rig C hCX hSC hL hk rfl (by omega) (by omega) (by omega) hlw kk
    by_cases hw1 : z = 1
    · subst hw1
      refine g_tableIn (pc := 39) (dflt := 1317) (lo := 0) (hi := 19) (offs := #[93, 185, 253, 309, 377, 421, 489, 581, 649, 717, 785, 841, 909, 934, 990, 1058, 1126, 1194, 1262, 1303]) (len := 93) (off := 185) 224 C (by decide +kernel) (by decide) (by decide) (by decide) (by decide) ?_
      exact t_weigh C hCX hSC hL hk rfl (by omega) (by omega) (by omega) hlw kk
    by_cases hw2 : z = 2
    · subst hw2
      refine g_tableIn (pc := 39) (dflt := 1317) (lo := 0) (hi := 19) (offs := #[93, 185, 253, 309, 377, 421, 489, 581, 649, 717, 785, 841, 909, 934, 990, 1058, 1126, 1194, 1262, 1303]) (len := 93) (off := 253) 292 C (by decide +kernel) (by decide) (by decide) (by decide) (by decide) ?_
      exact t_mend C hCX hSC hL hk rfl (by omega) (by omega) (by omega) hlw kk
    by_cases hw3 : z = 3
    · subst hw3
      refine g_tableIn (pc := 39) (dflt := 1317) (lo := 0) (hi := 19) (offs := #[93, 185, 253, 309, 377, 421, 489, 581, 649, 717, 785, 841, 909, 934, 990, 1058, 1126, 1194, 1262, 1303]) (len := 93) (off := 309) 348 C (by decide +kernel) (by decide) (by decide) (by decide) (by decide) ?_
      exact t_spread C hCX hSC hL hk rfl (by omega) (by omega) (by omega) hlw kk
    by_cases hw4 : z = 4
    · subst hw4
      refine g_tableIn (pc := 39) (dflt := 1317) (lo := 0) (hi := 19) (offs := #[93, 185, 253, 309, 377, 421, 489, 581, 649, 717, 785, 841, 909, 934, 990, 1058, 1126, 1194, 1262, 1303]) (len := 93) (off := 377) 416 C (by decide +kernel) (by decide) (by decide) (by decide) (by decide) ?_
      exact t_join C hCX hSC hL hk rfl (by omega) (by omega) (by omega) hlw kk
    by_cases hw5 : z = 5
    · subst hw5
      refine g_tableIn (pc := 39) (dflt := 1317) (lo := 0) (hi := 19) (offs := #[93, 185, 253, 309, 377, 421, 489, 581, 649, 717, 785, 841, 909, 934, 990, 1058, 1126, 1194, 1262, 1303]) (len := 93) (off := 421) 460 C (by decide +kernel) (by decide) (by decide) (by decide) (by decide) ?_
      exact t_mount C hCX hSC hL hk rfl (by omega) (by omega) (by omega) hlw kk
    by_cases hw6 : z = 6
    · subst hw6
      refine g_tableIn (pc := 39) (dflt := 1317) (lo := 0) (hi := 19) (offs := #[93, 185, 253, 309, 377, 421, 489, 581, 649, 717, 785, 841, 909, 934, 990, 1058, 1126, 1194, 1262, 1303]) (len := 93) (off := 489) 528 C (by decide +kernel) (by decide) (by decide) (by decide) (by decide) ?_
      exact t_cue C hCX hSC hL hk rfl (by omega) (by omega) (by omega) hlw kk
    by_cases hw7 : z = 7
    · subst hw7
      refine g_tableIn (pc := 39) (dflt := 1317) (lo := 0) (hi := 19) (offs := #[93, 185, 253, 309, 377, 421, 489, 581, 649, 717, 785, 841, 909, 934, 990, 1058, 1126, 1194, 1262, 1303]) (len := 93) (off := 581) 620 C (by decide +kernel) (by decide) (by decide) (by decide) (by decide) ?_
      exact t_trapeze C hCX hSC hL hk rfl (by omega) (by omega) (by omega) hlw kk
    by_cases hw8 : z = 8
    · subst hw8
      refine g_tableIn (pc := 39) (dflt := 1317) (lo := 0) (hi := 19) (offs := #[93, 185, 253, 309, 377, 421, 489, 581, 649, 717, 785, 841, 909, 934, 990, 1058, 1126, 1194, 1262, 1303]) (len := 93) (off := 649) 688 C (by decide +kernel) (by decide) (by decide) (by decide) (by decide) ?_
      exact t_flyer C hCX hSC hL hk rfl (by omega) (by omega) (by omega) hlw kk
    by_cases hw9 : z = 9
    · subst hw9
      refine g_tableIn (pc := 39) (dflt := 1317) (lo := 0) (hi := 19) (offs := #[93, 185, 253, 309, 377, 421, 489, 581, 649, 717, 785, 841, 909, 934, 990, 1058, 1126, 1194, 1262, 1303]) (len := 93) (off := 717) 756 C (by decide +kernel) (by decide) (by decide) (by decide) (by decide) ?_
      exact t_called C hCX hSC hL hk rfl (by omega) (by omega) (by omega) hlw kk
    by_cases hw10 : z = 10
    · subst hw10
      refine g_tableIn (pc := 39) (dflt := 1317) (lo := 0) (hi := 19) (offs := #[93, 185, 253, 309, 377, 421, 489, 581, 649, 717, 785, 841, 909, 934, 990, 1058, 1126, 1194, 1262, 1303]) (len := 93) (off := 785) 824 C (by decide +kernel) (by decide) (by decide) (by decide) (by decide) ?_
      exact t_count C hCX hSC hL hk rfl (by omega) (by omega) (by omega) hlw kk
    by_cases hw11 : z = 11
    · subst hw11
      refine g_tableIn (pc := 39) (dflt := 1317) (lo := 0) (hi := 19) (offs := #[93, 185, 253, 309, 377, 421, 489, 581, 649, 717, 785, 841, 909, 934, 990, 1058, 1126, 1194, 1262, 1303]) (len := 93) (off := 841) 880 C (by decide +kernel) (by decide) (by decide) (by decide) (by decide) ?_
      exact t_place C hCX hSC hL hk rfl (by omega) (by omega) (by omega) hlw kk
    by_cases hw12 : z = 12
    · subst hw12
      refine g_tableIn (pc := 39) (dflt := 1317) (lo := 0) (hi := 19) (offs := #[93, 185, 253, 309, 377, 421, 489, 581, 649, 717, 785, 841, 909, 934, 990, 1058, 1126, 1194, 1262, 1303]) (len := 93) (off := 909) 948 C (by decide +kernel) (by decide) (by decide) (by decide) (by decide) ?_
      exact t_netAt C hSC hL hk rfl (by omega) (by omega) hlw kk1
    by_cases hw13 : z = 13
    · subst hw13
      refine g_tableIn (pc := 39) (dflt := 1317) (lo := 0) (hi := 19) (offs := #[93, 185, 253, 309, 377, 421, 489, 581, 649, 717, 785, 841, 909, 934, 990, 1058, 1126, 1194, 1262, 1303]) (len := 93) (off := 934) 973 C (by decide +kernel) (by decide) (by decide) (by decide) (by decide) ?_
      exact t_go C hCX hSC hL hk rfl (by omega) (by omega) (by omega) hlw kk
    by_cases hw14 : z = 14
    · subst hw14
      refine g_tableIn (pc := 39) (dflt := 1317) (lo := 0) (hi := 19) (offs := #[93, 185, 253, 309, 377, 421, 489, 581, 649, 717, 785, 841, 909, 934, 990, 1058, 1126, 1194, 1262, 1303]) (len := 93) (off := 990) 1029 C (by decide +kernel) (by decide) (by decide) (by decide) (by decide) ?_
      exact t_meets C hCX hSC hL hk rfl (by omega) (by omega) (by omega) hlw kk
    by_cases hw15 : z = 15
    · subst hw15
      refine g_tableIn (pc := 39) (dflt := 1317) (lo := 0) (hi := 19) (offs := #[93, 185, 253, 309, 377, 421, 489, 581, 649, 717, 785, 841, 909, 934, 990, 1058, 1126, 1194, 1262, 1303]) (len := 93) (off := 1058) 1097 C (by decide +kernel) (by decide) (by decide) (by decide) (by decide) ?_
      exact t_flight C hCX hSC hL hk rfl (by omega) (by omega) (by omega) hlw kk
    by_cases hw16 : z = 16
    · subst hw16
      refine g_tableIn (pc := 39) (dflt := 1317) (lo := 0) (hi := 19) (offs := #[93, 185, 253, 309, 377, 421, 489, 581, 649, 717, 785, 841, 909, 934, 990, 1058, 1126, 1194, 1262, 1303]) (len := 93) (off := 1126) 1165 C (by decide +kernel) (by decide) (by decide) (by decide) (by decide) ?_
      exact t_advise C hCX hSC hL hk rfl (by omega) (by omega) (by omega) hlw kk
    by_cases hw17 : z = 17
    · subst hw17
      refine g_tableIn (pc := 39) (dflt := 1317) (lo := 0) (hi := 19) (offs := #[93, 185, 253, 309, 377, 421, 489, 581, 649, 717, 785, 841, 909, 934, 990, 1058, 1126, 1194, 1262, 1303]) (len := 93) (off := 1194) 1233 C (by decide +kernel) (by decide) (by decide) (by decide) (by decide) ?_
      exact t_foresee C hCX hSC hL hk rfl (by omega) (by omega) (by omega) hlw kk
    by_cases hw18 : z = 18
    · subst hw18
      refine g_tableIn (pc := 39) (dflt := 1317) (lo := 0) (hi := 19) (offs := #[93, 185, 253, 309, 377, 421, 489, 581, 649, 717, 785, 841, 909, 934, 990, 1058, 1126, 1194, 1262, 1303]) (len := 93) (off := 1262) 1301 C (by decide +kernel) (by decide) (by decide) (by decide) (by decide) ?_
      exact t_mean C hSC hL hk rfl (by omega) (by omega) hlw kk1
    by_cases hw19 : z = 19
    · subst hw19
      refine g_tableIn (pc := 39) (dflt := 1317) (lo := 0) (hi := 19) (offs := #[93, 185, 253, 309, 377, 421, 489, 581, 649, 717, 785, 841, 909, 934, 990, 1058, 1126, 1194, 1262, 1303]) (len := 93) (off := 1303) 1342 C (by decide +kernel) (by decide) (by decide) (by decide) (by decide) ?_
      exact t_digest C hSC hL hk rfl (by omega) (by omega) hlw kk1
    refine g_tableOut (pc := 39) (dflt := 1317) (lo := 0) (hi := 19) (offs := #[93, 185, 253, 309, 377, 421, 489, 581, 649, 717, 785, 841, 909, 934, 990, 1058, 1126, 1194, 1262, 1303]) (len := 93) 1356 C (by decide +kernel) (by have a0 := ti_ne hw0; rw [show (0 : Int32).toInt = 0 by decide] at a0; have a1 := ti_ne hw1; rw [show (1 : Int32).toInt = 1 by decide] at a1; have a2 := ti_ne hw2; rw [show (2 : Int32).toInt = 2 by decide] at a2; have a3 := ti_ne hw3; rw [show (3 : Int32).toInt = 3 by decide] at a3; have a4 := ti_ne hw4; rw [show (4 : Int32).toInt = 4 by decide] at a4; have a5 := ti_ne hw5; rw [show (5 : Int32).toInt = 5 by decide] at a5; have a6 := ti_ne hw6; rw [show (6 : Int32).toInt = 6 by decide] at a6; have a7 := ti_ne hw7; rw [show (7 : Int32).toInt = 7 by decide] at a7; have a8 := ti_ne hw8; rw [show (8 : Int32).toInt = 8 by decide] at a8; have a9 := ti_ne hw9; rw [show (9 : Int32).toInt = 9 by decide] at a9; have a10 := ti_ne hw10; rw [show (10 : Int32).toInt = 10 by decide] at a10; have a11 := ti_ne hw11; rw [show (11 : Int32).toInt = 11 by decide] at a11; have a12 := ti_ne hw12; rw [show (12 : Int32).toInt = 12 by decide] at a12; have a13 := ti_ne hw13; rw [show (13 : Int32).toInt = 13 by decide] at a13; have a14 := ti_ne hw14; rw [show (14 : Int32).toInt = 14 by decide] at a14; have a15 := ti_ne hw15; rw [show (15 : Int32).toInt = 15 by decide] at a15; have a16 := ti_ne hw16; rw [show (16 : Int32).toInt = 16 by decide] at a16; have a17 := ti_ne hw17; rw [show (17 : Int32).toInt = 17 by decide] at a17; have a18 := ti_ne hw18; rw [show (18 : Int32).toInt = 18 by decide] at a18; have a19 := ti_ne hw19; rw [show (19 : Int32).toInt = 19 by decide] at a19; omega) (by decide) ?_
    exact kk0
