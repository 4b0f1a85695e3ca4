/-! the arms of the law's switch -/
abbrev yLw (nm : String) : MethodName := ⟨"CircusLinesLaw", nm, "([I)Z"⟩
theorem lg_same (x : Int64) : lg_cmp x x = 0 := by simp [lg_cmp]
theorem mW_L_rig : g_mW yL_rig method_3_code 7 (some .int) [(0, 14, 17, 13), (0, 14, 21, 15)] 6 := ⟨q190, q47, ⟨by decide +kernel, by decide +kernel⟩, by decide +kernel, q189⟩
theorem mW_L_weigh : g_mW yL_weigh method_4_code 5 (some .int) [(0, 10, 13, 21), (0, 10, 17, 13), (0, 10, 21, 15)] 4 := ⟨q322, q47, ⟨by decide +kernel, by decide +kernel⟩, by decide +kernel, q321⟩
theorem mW_L_mend : g_mW yL_mend method_5_code 4 (some .int) [(0, 9, 12, 21)] 3 := ⟨q356, q47, ⟨by decide +kernel, by decide +kernel⟩, by decide +kernel, q355⟩
theorem mW_L_spread : g_mW yL_spread method_6_code 5 (some .int) [(0, 10, 13, 13), (0, 10, 17, 15)] 4 := ⟨q367, q47, ⟨by decide +kernel, by decide +kernel⟩, by decide +kernel, q366⟩
theorem mW_L_join : g_mW yL_join method_7_code 3 (some .int) [(0, 8, 11, 15)] 2 := ⟨q390, q47, ⟨by decide +kernel, by decide +kernel⟩, by decide +kernel, q389⟩
theorem mW_L_mount : g_mW yL_mount method_8_code 5 (some .int) [(0, 10, 13, 21), (0, 10, 17, 15)] 4 := ⟨q439, q47, ⟨by decide +kernel, by decide +kernel⟩, by decide +kernel, q438⟩
theorem mW_L_cue : g_mW yL_cue method_9_code 7 (some .int) [(0, 14, 17, 21), (0, 14, 21, 13), (0, 14, 25, 15)] 6 := ⟨q460, q47, ⟨by decide +kernel, by decide +kernel⟩, by decide +kernel, q459⟩
theorem mW_L_trapeze : g_mW yL_trapeze method_10_code 5 (some .int) [(0, 10, 13, 21)] 4 := ⟨q499, q47, ⟨by decide +kernel, by decide +kernel⟩, by decide +kernel, q498⟩
theorem mW_L_flyer : g_mW yL_flyer method_11_code 5 (some .int) [(0, 10, 13, 21)] 4 := ⟨q507, q47, ⟨by decide +kernel, by decide +kernel⟩, by decide +kernel, q506⟩
theorem mW_L_called : g_mW yL_called method_12_code 5 (some .int) [(0, 10, 13, 21)] 4 := ⟨q515, q47, ⟨by decide +kernel, by decide +kernel⟩, by decide +kernel, q514⟩
theorem mW_L_count : g_mW yL_count method_13_code 4 (some .int) [(0, 9, 12, 21)] 3 := ⟨q523, q47, ⟨by decide +kernel, by decide +kernel⟩, by decide +kernel, q522⟩
theorem mW_L_place : g_mW yL_place method_14_code 5 (some .int) [(0, 10, 13, 21), (0, 10, 17, 13)] 4 := ⟨q531, q47, ⟨by decide +kernel, by decide +kernel⟩, by decide +kernel, q530⟩
theorem mW_L_go : g_mW yL_go method_15_code 4 (some .int) [(0, 9, 12, 13)] 3 := ⟨q539, q47, ⟨by decide +kernel, by decide +kernel⟩, by decide +kernel, q538⟩
theorem mW_L_meets : g_mW yL_meets method_16_code 5 (some .int) [(0, 10, 13, 21)] 4 := ⟨q598, q47, ⟨by decide +kernel, by decide +kernel⟩, by decide +kernel, q597⟩
theorem mW_L_flight : g_mW yL_flight method_17_code 5 (some .int) [(0, 10, 13, 21)] 4 := ⟨q605, q47, ⟨by decide +kernel, by decide +kernel⟩, by decide +kernel, q604⟩
theorem mW_L_advise : g_mW yL_advise method_18_code 5 (some .int) [(0, 10, 13, 21), (0, 10, 17, 13)] 4 := ⟨q612, q47, ⟨by decide +kernel, by decide +kernel⟩, by decide +kernel, q611⟩
theorem mW_L_foresee : g_mW yL_foresee method_19_code 5 (some .int) [(0, 10, 13, 13), (0, 10, 17, 21)] 4 := ⟨q621, q47, ⟨by decide +kernel, by decide +kernel⟩, by decide +kernel, q620⟩
set_option maxHeartbeats 4000000 in
set_option maxRecDepth 100000 in
theorem t_rig {nm : String} {κ : Kx} {l : Launch} {D : va_G} {cy : Nat → ClassId} {b L x m o bn k ce sl : Nat} {xs : Nat → Int32} {xi : Int32} {G : GG} (C : g_OK κ l D cy (yLw nm) 9 code room_1 (some .boolean)) (hCX : g_CX κ) (hSC : g_SC κ b L xs) (hL : L ≤ 2560) (hk : 5 * k + 5 ≤ L) (hx : xi = nI (5 * k)) (hbn : bn + 200 < 2 ^ 31) (hce : ce + 16 ≤ room_1.cells) (hsl : sl + 400 ≤ room_1.slots) (hlw : LW cy x m o G bn) (kk : ∀ G' bn' ce' sl', LW cy x m o G' bn' → bn' ≤ bn + 200 → ce' ≤ ce + 16 → sl' ≤ sl + 400 → PG κ 9 ce' sl' G' [(0, .ref b), (1, .ref x), (2, .ref m), (3, .ref o), (4, .int xi)] 1356 []) : PG κ 9 ce sl G [(0, .ref b), (1, .ref x), (2, .ref m), (3, .ref o), (4, .int xi)] 132 [] := by
  obtain ⟨G1, G2, ad, am, th, nt, nf, nc, nn, T, E, Cu, N, KT, KF, KC, F, z0, hX, hM, ⟨s1, s2, dj⟩, ⟨ho, ho1, ho2⟩, hT, hS, hC⟩ := hlw
  refine g_pc (pc' := 132) rfl ?_
  refine g_seg [(132, .aload_n 1, 1), (133, .aload_n 0, 1), (134, .iload 4, 2), (136, .iconst 1, 1), (137, .iadd, 1)] 138 [(0, .ref b), (1, .ref x), (2, .ref m), (3, .ref o), (4, .int xi)] [.int (xi + 1), .ref b, .ref x] C (by decide +kernel) rfl ?_
  refine g_sald (pc := 138) (j := (5 * k + 1)) C hSC (by rw [hx]; exact nI_add (5 * k) 1) (by omega) (by omega) (by decide +kernel) ?_
  refine g_seg [(139, .aload_n 0, 1), (140, .iload 4, 2), (142, .iconst 2, 1), (143, .iadd, 1)] 144 [(0, .ref b), (1, .ref x), (2, .ref m), (3, .ref o), (4, .int xi)] [.int (xi + 2), .ref b, .int (xs (5 * k + 1)), .ref x] C (by decide +kernel) rfl ?_
  refine g_sald (pc := 144) (j := (5 * k + 2)) C hSC (by rw [hx]; exact nI_add (5 * k) 2) (by omega) (by omega) (by decide +kernel) ?_
  refine g_seg [(145, .aload_n 0, 1), (146, .iload 4, 2), (148, .iconst 3, 1), (149, .iadd, 1)] 150 [(0, .ref b), (1, .ref x), (2, .ref m), (3, .ref o), (4, .int xi)] [.int (xi + 3), .ref b, .int (xs (5 * k + 2)), .int (xs (5 * k + 1)), .ref x] C (by decide +kernel) rfl ?_
  refine g_sald (pc := 150) (j := (5 * k + 3)) C hSC (by rw [hx]; exact nI_add (5 * k) 3) (by omega) (by omega) (by decide +kernel) ?_
  refine g_seg [(151, .aload_n 0, 1), (152, .iload 4, 2), (154, .iconst 4, 1), (155, .iadd, 1)] 156 [(0, .ref b), (1, .ref x), (2, .ref m), (3, .ref o), (4, .int xi)] [.int (xi + 4), .ref b, .int (xs (5 * k + 3)), .int (xs (5 * k + 2)), .int (xs (5 * k + 1)), .ref x] C (by decide +kernel) rfl ?_
  refine g_sald (pc := 156) (j := (5 * k + 4)) C hSC (by rw [hx]; exact nI_add (5 * k) 4) (by omega) (by omega) (by decide +kernel) ?_
  refine g_seg [(157, .aload_n 3, 1)] 158 [(0, .ref b), (1, .ref x), (2, .ref m), (3, .ref o), (4, .int xi)] [.ref o, .int (xs (5 * k + 4)), .int (xs (5 * k + 3)), .int (xs (5 * k + 2)), .int (xs (5 * k + 1)), .ref x] C (by decide +kernel) rfl ?_
  refine g_callSW (pc := 158) C hCX mW_L_rig q188 (c_L_rig l D cy (xs (5 * k + 1)) (xs (5 * k + 2)) (xs (5 * k + 3)) (xs (5 * k + 4)) (c_X4_rig l D cy hX (xs (5 * k + 1)) (xs (5 * k + 2)) (xs (5 * k + 3)) (xs (5 * k + 4))) s1 hX.1.1 ho ho1 (fun E G' h => by rcases h.2 with ⟨rfl, -⟩ | ⟨rfl, -⟩ <;> simp)) rfl ⟨⟨(Nat.le_of_ble_eq_true rfl), (Nat.le_of_ble_eq_true rfl)⟩, by refine Nat.le_trans ?_ hce; (try simp only [Nat.add_assoc]); exact Nat.add_le_add_left (by decide) _, by refine Nat.le_trans ?_ hsl; (try simp only [Nat.add_assoc]); exact Nat.add_le_add_left (by decide) _⟩ rfl (Nat.le_of_ble_eq_true rfl) (by decide +kernel) (fun r G3 h9 => ?_)
  obtain ⟨v, rfl, h9⟩ := h9
  rcases h9 with ⟨rfl, z, G', hp, hf⟩ | ⟨e9, G', hp, hf, rfl⟩
  · obtain ⟨f1, f2, f3, f4, f5⟩ := fo_step hf s2 dj ⟨_, ho⟩ ho1 ho2
    show PG κ 9 (ce + kL_rig.cells) (sl + kL_rig.slots) G3 [(0, .ref b), (1, .ref x), (2, .ref m), (3, .ref o), (4, .int xi)] 161 [.int 0]
    refine g_seg [(161, .istore 5, 2), (163, .aload_n 2, 1), (164, .aload_n 0, 1), (165, .iload 4, 2), (167, .iconst 1, 1), (168, .iadd, 1)] 169 [(5, .int 0), (0, .ref b), (1, .ref x), (2, .ref m), (3, .ref o), (4, .int xi)] [.int (xi + 1), .ref b, .ref m] C (by decide +kernel) rfl ?_
    refine g_sald (pc := 169) (j := (5 * k + 1)) C hSC (by rw [hx]; exact nI_add (5 * k) 1) (by omega) (by omega) (by decide +kernel) ?_
    refine g_seg [(170, .aload_n 0, 1), (171, .iload 4, 2), (173, .iconst 2, 1), (174, .iadd, 1)] 175 [(5, .int 0), (0, .ref b), (1, .ref x), (2, .ref m), (3, .ref o), (4, .int xi)] [.int (xi + 2), .ref b, .int (xs (5 * k + 1)), .ref m] C (by decide +kernel) rfl ?_
    refine g_sald (pc := 175) (j := (5 * k + 2)) C hSC (by rw [hx]; exact nI_add (5 * k) 2) (by omega) (by omega) (by decide +kernel) ?_
    refine g_seg [(176, .aload_n 0, 1), (177, .iload 4, 2), (179, .iconst 3, 1), (180, .iadd, 1)] 181 [(5, .int 0), (0, .ref b), (1, .ref x), (2, .ref m), (3, .ref o), (4, .int xi)] [.int (xi + 3), .ref b, .int (xs (5 * k + 2)), .int (xs (5 * k + 1)), .ref m] C (by decide +kernel) rfl ?_
    refine g_sald (pc := 181) (j := (5 * k + 3)) C hSC (by rw [hx]; exact nI_add (5 * k) 3) (by omega) (by omega) (by decide +kernel) ?_
    refine g_seg [(182, .aload_n 0, 1), (183, .iload 4, 2), (185, .iconst 4, 1), (186, .iadd, 1)] 187 [(5, .int 0), (0, .ref b), (1, .ref x), (2, .ref m), (3, .ref o), (4, .int xi)] [.int (xi + 4), .ref b, .int (xs (5 * k + 3)), .int (xs (5 * k + 2)), .int (xs (5 * k + 1)), .ref m] C (by decide +kernel) rfl ?_
    refine g_sald (pc := 187) (j := (5 * k + 4)) C hSC (by rw [hx]; exact nI_add (5 * k) 4) (by omega) (by omega) (by decide +kernel) ?_
    refine g_callV (pc := 188) C mV_X5_rig q701 (f2 _ _ hM.1.1) rfl rfl (Ctr.frame (c_X5_rig l D cy hM (xs (5 * k + 1)) (xs (5 * k + 2)) (xs (5 * k + 3)) (xs (5 * k + 4))) f2) rfl ⟨⟨(Nat.le_of_ble_eq_true rfl), (Nat.le_of_ble_eq_true rfl)⟩, by refine Nat.le_trans ?_ hce; (try simp only [Nat.add_assoc]); exact Nat.add_le_add_left (by decide) _, by refine Nat.le_trans ?_ hsl; (try simp only [Nat.add_assoc]); exact Nat.add_le_add_left (by decide) _⟩ rfl (Nat.le_of_ble_eq_true rfl) (by decide +kernel) (fun r G4 h4 => ?_)
    obtain ⟨G6, ⟨w9, rfl, hq⟩, hf4⟩ := h4
    obtain ⟨u2, u1, u3', u4, u6⟩ := fr_step hf4 f1 (dj_sym f3) f4 ho2
    have u3 := dj_sym u3'
    obtain ⟨hz, bn', hbn', hLB⟩ := a_rig_ok (ad := ad) (am := am) (nt := nt) (nf := nf) (nc := nc) (nn := nn) (T := T) (E := E) (Cu := Cu) (N := N) (KT := KT) (KF := KF) (KC := KC) (F := F) ⟨hM.2.2.1, hM.2.2.2.1⟩ hT hS hC hbn hp hq
    have hLB2 := hLB
    obtain ⟨ad2, am2, nt2, nf2, nc2, nn2, T2, E2, C2, N2, KT2, KF2, KC2, F2, hX2, hM2, -⟩ := hLB
    show PG κ 9 ((ce + kL_rig.cells) + kX5_rig.cells) ((sl + kL_rig.slots) + kX5_rig.slots) G4 [(5, .int 0), (0, .ref b), (1, .ref x), (2, .ref m), (3, .ref o), (4, .int xi)] 191 [.int w9]
    refine g_seg [(191, .istore 6, 2), (193, .aload_n 2, 1)] 194 [(6, .int w9), (5, .int 0), (0, .ref b), (1, .ref x), (2, .ref m), (3, .ref o), (4, .int xi)] [.ref m] C (by decide +kernel) rfl ?_
    refine g_callV (pc := 194) C mV_X5_thrown q697 (u2 _ _ hM2.1.1) rfl rfl (Ctr.frame (c_X5_thrown l D cy hM2) u2) rfl ⟨⟨(Nat.le_of_ble_eq_true rfl), (Nat.le_of_ble_eq_true rfl)⟩, by refine Nat.le_trans ?_ hce; (try simp only [Nat.add_assoc]); exact Nat.add_le_add_left (by decide) _, by refine Nat.le_trans ?_ hsl; (try simp only [Nat.add_assoc]); exact Nat.add_le_add_left (by decide) _⟩ rfl (Nat.le_of_ble_eq_true rfl) (by decide +kernel) (fun r G5 h5 => ?_)
    obtain ⟨G7, ⟨v7, rfl, rfl, rfl⟩, hf5⟩ := h5
    obtain ⟨v1, v2, v3, v4, v5⟩ := fr_step hf5 u1 (dj_sym u3) u4 u6
    show PG κ 9 (((ce + kL_rig.cells) + kX5_rig.cells) + kX5_thrown.cells) (((sl + kL_rig.slots) + kX5_rig.slots) + kX5_thrown.slots) G5 [(6, .int w9), (5, .int 0), (0, .ref b), (1, .ref x), (2, .ref m), (3, .ref o), (4, .int xi)] 197 [.int 0]
    refine g_seg [(197, .iload 5, 2)] 199 [(6, .int w9), (5, .int 0), (0, .ref b), (1, .ref x), (2, .ref m), (3, .ref o), (4, .int xi)] [.int 0, .int 0] C (by decide +kernel) rfl ?_
    refine g_icmp_eq (pc := 199) (off := 5) 204 C (by decide +kernel) (by decide) (fun _ => ?_) (fun c9 => absurd rfl c9)
    refine g_seg [(204, .iload 5, 2)] 206 [(6, .int w9), (5, .int 0), (0, .ref b), (1, .ref x), (2, .ref m), (3, .ref o), (4, .int xi)] [.int 0] C (by decide +kernel) rfl ?_
    refine g_if_ne (pc := 206) (off := 15) 221 C (by decide +kernel) (by decide) (fun c9 => absurd rfl c9) (fun _ => ?_)
    refine g_seg [(209, .aload_n 3, 1), (210, .iconst 0, 1)] 211 [(6, .int w9), (5, .int 0), (0, .ref b), (1, .ref x), (2, .ref m), (3, .ref o), (4, .int xi)] [.int 0, .ref o] C (by decide +kernel) rfl ?_
    refine g_laldM (pc := 211) C v4 rfl (by decide +kernel) ?_
    refine g_seg [(212, .iload 6, 2), (214, .i2l, 1), (215, .lcmp, 1)] 216 [(6, .int w9), (5, .int 0), (0, .ref b), (1, .ref x), (2, .ref m), (3, .ref o), (4, .int xi)] [.int (lg_cmp z.toInt64 w9.toInt64)] C (by decide +kernel) rfl ?_
    refine g_if_eq (pc := 216) (off := 5) 221 C (by decide +kernel) (by decide) (fun _ => ?_) (fun c9 => absurd (by rw [hz]; exact lg_same _) c9)
    refine g_seg [(221, .goto 1135, 3)] 1356 [(6, .int w9), (5, .int 0), (0, .ref b), (1, .ref x), (2, .ref m), (3, .ref o), (4, .int xi)] [] C (by decide +kernel) rfl ?_
    refine g_subp [2, 3, 4, 5, 6] (lv' := [(0, .ref b), (1, .ref x), (2, .ref m), (3, .ref o), (4, .int xi)]) rfl ?_
    exact kk G5 bn' _ _ (LW_mk hLB2 v2 v1 u3 v4 f5 u6) hbn' (by (try simp only [Nat.add_assoc]); exact Nat.add_le_add_left (by decide) _) (by (try simp only [Nat.add_assoc]); exact Nat.add_le_add_left (by decide) _)
  · obtain ⟨f1, f2, f3, f4, f5⟩ := fr_step hf s2 dj ho ho1
    show PG κ 9 (ce + kL_rig.cells) (sl + kL_rig.slots) G3 [(0, .ref b), (1, .ref x), (2, .ref m), (3, .ref o), (4, .int xi)] 161 [.int (if e9 = "java/lang/IllegalArgumentException" then 1 else (if e9 = "java/lang/IllegalStateException" then 2 else 0))]
    refine g_seg [(161, .istore 5, 2), (163, .aload_n 2, 1), (164, .aload_n 0, 1), (165, .iload 4, 2), (167, .iconst 1, 1), (168, .iadd, 1)] 169 [(5, .int (if e9 = "java/lang/IllegalArgumentException" then 1 else (if e9 = "java/lang/IllegalStateException" then 2 else 0))), (0, .ref b), (1, .ref x), (2, .ref m), (3, .ref o), (4, .int xi)] [.int (xi + 1), .ref b, .ref m] C (by decide +kernel) rfl ?_
    refine g_sald (pc := 169) (j := (5 * k + 1)) C hSC (by rw [hx]; exact nI_add (5 * k) 1) (by omega) (by omega) (by decide +kernel) ?_
    refine g_seg [(170, .aload_n 0, 1), (171, .iload 4, 2), (173, .iconst 2, 1), (174, .iadd, 1)] 175 [(5, .int (if e9 = "java/lang/IllegalArgumentException" then 1 else (if e9 = "java/lang/IllegalStateException" then 2 else 0))), (0, .ref b), (1, .ref x), (2, .ref m), (3, .ref o), (4, .int xi)] [.int (xi + 2), .ref b, .int (xs (5 * k + 1)), .ref m] C (by decide +kernel) rfl ?_
    refine g_sald (pc := 175) (j := (5 * k + 2)) C hSC (by rw [hx]; exact nI_add (5 * k) 2) (by omega) (by omega) (by decide +kernel) ?_
    refine g_seg [(176, .aload_n 0, 1), (177, .iload 4, 2), (179, .iconst 3, 1), (180, .iadd, 1)] 181 [(5, .int (if e9 = "java/lang/IllegalArgumentException" then 1 else (if e9 = "java/lang/IllegalStateException" then 2 else 0))), (0, .ref b), (1, .ref x), (2, .ref m), (3, .ref o), (4, .int xi)] [.int (xi + 3), .ref b, .int (xs (5 * k + 2)), .int (xs (5 * k + 1)), .ref m] C (by decide +kernel) rfl ?_
    refine g_sald (pc := 181) (j := (5 * k + 3)) C hSC (by rw [hx]; exact nI_add (5 * k) 3) (by omega) (by omega) (by decide +kernel) ?_
    refine g_seg [(182, .aload_n 0, 1), (183, .iload 4, 2), (185, .iconst 4, 1), (186, .iadd, 1)] 187 [(5, .int (if e9 = "java/lang/IllegalArgumentException" then 1 else (if e9 = "java/lang/IllegalStateException" then 2 else 0))), (0, .ref b), (1, .ref x), (2, .ref m), (3, .ref o), (4, .int xi)] [.int (xi + 4), .ref b, .int (xs (5 * k + 3)), .int (xs (5 * k + 2)), .int (xs (5 * k + 1)), .ref m] C (by decide +kernel) rfl ?_
    refine g_sald (pc := 187) (j := (5 * k + 4)) C hSC (by rw [hx]; exact nI_add (5 * k) 4) (by omega) (by omega) (by decide +kernel) ?_
    refine g_callV (pc := 188) C mV_X5_rig q701 (f2 _ _ hM.1.1) rfl rfl (Ctr.frame (c_X5_rig l D cy hM (xs (5 * k + 1)) (xs (5 * k + 2)) (xs (5 * k + 3)) (xs (5 * k + 4))) f2) rfl ⟨⟨(Nat.le_of_ble_eq_true rfl), (Nat.le_of_ble_eq_true rfl)⟩, by refine Nat.le_trans ?_ hce; (try simp only [Nat.add_assoc]); exact Nat.add_le_add_left (by decide) _, by refine Nat.le_trans ?_ hsl; (try simp only [Nat.add_assoc]); exact Nat.add_le_add_left (by decide) _⟩ rfl (Nat.le_of_ble_eq_true rfl) (by decide +kernel) (fun r G4 h4 => ?_)
    obtain ⟨G6, ⟨w9, rfl, hq⟩, hf4⟩ := h4
    obtain ⟨u2, u1, u3', u4, u6⟩ := fr_step hf4 f1 (dj_sym f3) f4 ho2
    have u3 := dj_sym u3'
    have hLB := a_rig_bad (z := 0) (ad := ad) (am := am) (nt := nt) (nf := nf) (nc := nc) (nn := nn) (T := T) (E := E) (Cu := Cu) (N := N) (KT := KT) (KF := KF) (KC := KC) (F := F) ⟨hM.2.2.1, hM.2.2.2.1⟩ hT hS hC hbn hp hq
    have hLB2 := hLB
    obtain ⟨ad2, am2, nt2, nf2, nc2, nn2, T2, E2, C2, N2, KT2, KF2, KC2, F2, hX2, hM2, -⟩ := hLB
    show PG κ 9 ((ce + kL_rig.cells) + kX5_rig.cells) ((sl + kL_rig.slots) + kX5_rig.slots) G4 [(5, .int (if e9 = "java/lang/IllegalArgumentException" then 1 else (if e9 = "java/lang/IllegalStateException" then 2 else 0))), (0, .ref b), (1, .ref x), (2, .ref m), (3, .ref o), (4, .int xi)] 191 [.int w9]
    refine g_seg [(191, .istore 6, 2), (193, .aload_n 2, 1)] 194 [(6, .int w9), (5, .int (if e9 = "java/lang/IllegalArgumentException" then 1 else (if e9 = "java/lang/IllegalStateException" then 2 else 0))), (0, .ref b), (1, .ref x), (2, .ref m), (3, .ref o), (4, .int xi)] [.ref m] C (by decide +kernel) rfl ?_
    refine g_callV (pc := 194) C mV_X5_thrown q697 (u2 _ _ hM2.1.1) rfl rfl (Ctr.frame (c_X5_thrown l D cy hM2) u2) rfl ⟨⟨(Nat.le_of_ble_eq_true rfl), (Nat.le_of_ble_eq_true rfl)⟩, by refine Nat.le_trans ?_ hce; (try simp only [Nat.add_assoc]); exact Nat.add_le_add_left (by decide) _, by refine Nat.le_trans ?_ hsl; (try simp only [Nat.add_assoc]); exact Nat.add_le_add_left (by decide) _⟩ rfl (Nat.le_of_ble_eq_true rfl) (by decide +kernel) (fun r G5 h5 => ?_)
    obtain ⟨G7, ⟨v7, rfl, rfl, rfl⟩, hf5⟩ := h5
    obtain ⟨v1, v2, v3, v4, v5⟩ := fr_step hf5 u1 (dj_sym u3) u4 u6
    show PG κ 9 (((ce + kL_rig.cells) + kX5_rig.cells) + kX5_thrown.cells) (((sl + kL_rig.slots) + kX5_rig.slots) + kX5_thrown.slots) G5 [(6, .int w9), (5, .int (if e9 = "java/lang/IllegalArgumentException" then 1 else (if e9 = "java/lang/IllegalStateException" then 2 else 0))), (0, .ref b), (1, .ref x), (2, .ref m), (3, .ref o), (4, .int xi)] 197 [.int (if e9 = "java/lang/IllegalArgumentException" then 1 else (if e9 = "java/lang/IllegalStateException" then 2 else 0))]
    refine g_seg [(197, .iload 5, 2)] 199 [(6, .int w9), (5, .int (if e9 = "java/lang/IllegalArgumentException" then 1 else (if e9 = "java/lang/IllegalStateException" then 2 else 0))), (0, .ref b), (1, .ref x), (2, .ref m), (3, .ref o), (4, .int xi)] [.int (if e9 = "java/lang/IllegalArgumentException" then 1 else (if e9 = "java/lang/IllegalStateException" then 2 else 0)), .int (if e9 = "java/lang/IllegalArgumentException" then 1 else (if e9 = "java/lang/IllegalStateException" then 2 else 0))] C (by decide +kernel) rfl ?_
    refine g_icmp_eq (pc := 199) (off := 5) 204 C (by decide +kernel) (by decide) (fun _ => ?_) (fun c9 => absurd rfl c9)
    refine g_seg [(204, .iload 5, 2)] 206 [(6, .int w9), (5, .int (if e9 = "java/lang/IllegalArgumentException" then 1 else (if e9 = "java/lang/IllegalStateException" then 2 else 0))), (0, .ref b), (1, .ref x), (2, .ref m), (3, .ref o), (4, .int xi)] [.int (if e9 = "java/lang/IllegalArgumentException" then 1 else (if e9 = "java/lang/IllegalStateException" then 2 else 0))] C (by decide +kernel) rfl ?_
    refine g_if_ne (pc := 206) (off := 15) 221 C (by decide +kernel) (by decide) (fun _ => ?_) (fun c9 => ?_)
    · refine g_seg [(221, .goto 1135, 3)] 1356 [(6, .int w9), (5, .int (if e9 = "java/lang/IllegalArgumentException" then 1 else (if e9 = "java/lang/IllegalStateException" then 2 else 0))), (0, .ref b), (1, .ref x), (2, .ref m), (3, .ref o), (4, .int xi)] [] C (by decide +kernel) rfl ?_
      refine g_subp [2, 3, 4, 5, 6] (lv' := [(0, .ref b), (1, .ref x), (2, .ref m), (3, .ref o), (4, .int xi)]) rfl ?_
      exact kk G5 bn _ _ (LW_mk hLB2 v2 v1 u3 v4 f5 u6) (by omega) (by (try simp only [Nat.add_assoc]); exact Nat.add_le_add_left (by decide) _) (by (try simp only [Nat.add_assoc]); exact Nat.add_le_add_left (by decide) _)
    · exfalso; rcases hp.2 with ⟨rfl, -⟩ | ⟨rfl, -⟩ <;> revert c9 <;> decide
set_option maxHeartbeats 4000000 in
set_option maxRecDepth 100000 in
theorem t_weigh {nm : String} {κ : Kx} {l : Launch} {D : va_G} {cy : Nat → ClassId} {b L x m o bn k ce sl : Nat} {xs : Nat → Int32} {xi : Int32} {G : GG} (C : g_OK κ l D cy (yLw nm) 9 code room_1 (some .boolean)) (hCX : g_CX κ) (hSC : g_SC κ b L xs) (hL : L ≤ 2560) (hk : 5 * k + 5 ≤ L) (hx : xi = nI (5 * k)) (hbn : bn + 200 < 2 ^ 31) (hce : ce + 16 ≤ room_1.cells) (hsl : sl + 400 ≤ room_1.slots) (hlw : LW cy x m o G bn) (kk : ∀ G' bn' ce' sl', LW cy x m o G' bn' → bn' ≤ bn + 200 → ce' ≤ ce + 16 → sl' ≤ sl + 400 → PG κ 9 ce' sl' G' [(0, .ref b), (1, .ref x), (2, .ref m), (3, .ref o), (4, .int xi)] 1356 []) : PG κ 9 ce sl G [(0, .ref b), (1, .ref x), (2, .ref m), (3, .ref o), (4, .int xi)] 224 [] := by
  obtain ⟨G1, G2, ad, am, th, nt, nf, nc, nn, T, E, Cu, N, KT, KF, KC, F, z0, hX, hM, ⟨s1, s2, dj⟩, ⟨ho, ho1, ho2⟩, hT, hS, hC⟩ := hlw
  refine g_pc (pc' := 224) rfl ?_
  refine g_seg [(224, .aload_n 1, 1), (225, .aload_n 0, 1), (226, .iload 4, 2), (228, .iconst 1, 1), (229, .iadd, 1)] 230 [(0, .ref b), (1, .ref x), (2, .ref m), (3, .ref o), (4, .int xi)] [.int (xi + 1), .ref b, .ref x] C (by decide +kernel) rfl ?_
  refine g_sald (pc := 230) (j := (5 * k + 1)) C hSC (by rw [hx]; exact nI_add (5 * k) 1) (by omega) (by omega) (by decide +kernel) ?_
  refine g_seg [(231, .aload_n 0, 1), (232, .iload 4, 2), (234, .iconst 2, 1), (235, .iadd, 1)] 236 [(0, .ref b), (1, .ref x), (2, .ref m), (3, .ref o), (4, .int xi)] [.int (xi + 2), .ref b, .int (xs (5 * k + 1)), .ref x] C (by decide +kernel) rfl ?_
  refine g_sald (pc := 236) (j := (5 * k + 2)) C hSC (by rw [hx]; exact nI_add (5 * k) 2) (by omega) (by omega) (by decide +kernel) ?_
  refine g_seg [(237, .aload_n 3, 1)] 238 [(0, .ref b), (1, .ref x), (2, .ref m), (3, .ref o), (4, .int xi)] [.ref o, .int (xs (5 * k + 2)), .int (xs (5 * k + 1)), .ref x] C (by decide +kernel) rfl ?_
  refine g_callSW (pc := 238) C hCX mW_L_weigh q320 (c_L_weigh l D cy (xs (5 * k + 1)) (xs (5 * k + 2)) (c_X4_weigh l D cy hX (xs (5 * k + 1)) (xs (5 * k + 2))) s1 hX.1.1 ho ho1 (fun E G' h => by rcases h.2 with ⟨rfl, -⟩ | ⟨rfl, -⟩ | ⟨rfl, -⟩ <;> simp)) rfl ⟨⟨(Nat.le_of_ble_eq_true rfl), (Nat.le_of_ble_eq_true rfl)⟩, by refine Nat.le_trans ?_ hce; (try simp only [Nat.add_assoc]); exact Nat.add_le_add_left (by decide) _, by refine Nat.le_trans ?_ hsl; (try simp only [Nat.add_assoc]); exact Nat.add_le_add_left (by decide) _⟩ rfl (Nat.le_of_ble_eq_true rfl) (by decide +kernel) (fun r G3 h9 => ?_)
  obtain ⟨v, rfl, h9⟩ := h9
  rcases h9 with ⟨rfl, z, G', hp, hf⟩ | ⟨e9, G', hp, hf, rfl⟩
  · obtain ⟨f1, f2, f3, f4, f5⟩ := fo_step hf s2 dj ⟨_, ho⟩ ho1 ho2
    show PG κ 9 (ce + kL_weigh.cells) (sl + kL_weigh.slots) G3 [(0, .ref b), (1, .ref x), (2, .ref m), (3, .ref o), (4, .int xi)] 241 [.int 0]
    refine g_seg [(241, .istore 5, 2), (243, .aload_n 2, 1), (244, .aload_n 0, 1), (245, .iload 4, 2), (247, .iconst 1, 1), (248, .iadd, 1)] 249 [(5, .int 0), (0, .ref b), (1, .ref x), (2, .ref m), (3, .ref o), (4, .int xi)] [.int (xi + 1), .ref b, .ref m] C (by decide +kernel) rfl ?_
    refine g_sald (pc := 249) (j := (5 * k + 1)) C hSC (by rw [hx]; exact nI_add (5 * k) 1) (by omega) (by omega) (by decide +kernel) ?_
    refine g_seg [(250, .aload_n 0, 1), (251, .iload 4, 2), (253, .iconst 2, 1), (254, .iadd, 1)] 255 [(5, .int 0), (0, .ref b), (1, .ref x), (2, .ref m), (3, .ref o), (4, .int xi)] [.int (xi + 2), .ref b, .int (xs (5 * k + 1)), .ref m] C (by decide +kernel) rfl ?_
    refine g_sald (pc := 255) (j := (5 * k + 2)) C hSC (by rw [hx]; exact nI_add (5 * k) 2) (by omega) (by omega) (by decide +kernel) ?_
    refine g_callV (pc := 256) C mV_X5_weigh q715 (f2 _ _ hM.1.1) rfl rfl (Ctr.frame (c_X5_weigh l D cy hM (xs (5 * k + 1)) (xs (5 * k + 2))) f2) rfl ⟨⟨(Nat.le_of_ble_eq_true rfl), (Nat.le_of_ble_eq_true rfl)⟩, by refine Nat.le_trans ?_ hce; (try simp only [Nat.add_assoc]); exact Nat.add_le_add_left (by decide) _, by refine Nat.le_trans ?_ hsl; (try simp only [Nat.add_assoc]); exact Nat.add_le_add_left (by decide) _⟩ rfl (Nat.le_of_ble_eq_true rfl) (by decide +kernel) (fun r G4 h4 => ?_)
    obtain ⟨G6, ⟨w9, rfl, hq⟩, hf4⟩ := h4
    obtain ⟨u2, u1, u3', u4, u6⟩ := fr_step hf4 f1 (dj_sym f3) f4 ho2
    have u3 := dj_sym u3'
    obtain ⟨hz, bn', hbn', hLB⟩ := a_weigh_ok (ad := ad) (am := am) (nt := nt) (nf := nf) (nc := nc) (nn := nn) (T := T) (E := E) (Cu := Cu) (N := N) (KT := KT) (KF := KF) (KC := KC) (F := F) ⟨hM.2.2.1, hM.2.2.2.1⟩ hT hS hC hbn hp hq
    have hLB2 := hLB
    obtain ⟨ad2, am2, nt2, nf2, nc2, nn2, T2, E2, C2, N2, KT2, KF2, KC2, F2, hX2, hM2, -⟩ := hLB
    show PG κ 9 ((ce + kL_weigh.cells) + kX5_weigh.cells) ((sl + kL_weigh.slots) + kX5_weigh.slots) G4 [(5, .int 0), (0, .ref b), (1, .ref x), (2, .ref m), (3, .ref o), (4, .int xi)] 259 [.int w9]
    refine g_seg [(259, .istore 6, 2), (261, .aload_n 2, 1)] 262 [(6, .int w9), (5, .int 0), (0, .ref b), (1, .ref x), (2, .ref m), (3, .ref o), (4, .int xi)] [.ref m] C (by decide +kernel) rfl ?_
    refine g_callV (pc := 262) C mV_X5_thrown q697 (u2 _ _ hM2.1.1) rfl rfl (Ctr.frame (c_X5_thrown l D cy hM2) u2) rfl ⟨⟨(Nat.le_of_ble_eq_true rfl), (Nat.le_of_ble_eq_true rfl)⟩, by refine Nat.le_trans ?_ hce; (try simp only [Nat.add_assoc]); exact Nat.add_le_add_left (by decide) _, by refine Nat.le_trans ?_ hsl; (try simp only [Nat.add_assoc]); exact Nat.add_le_add_left (by decide) _⟩ rfl (Nat.le_of_ble_eq_true rfl) (by decide +kernel) (fun r G5 h5 => ?_)
    obtain ⟨G7, ⟨v7, rfl, rfl, rfl⟩, hf5⟩ := h5
    obtain ⟨v1, v2, v3, v4, v5⟩ := fr_step hf5 u1 (dj_sym u3) u4 u6
    show PG κ 9 (((ce + kL_weigh.cells) + kX5_weigh.cells) + kX5_thrown.cells) (((sl + kL_weigh.slots) + kX5_weigh.slots) + kX5_thrown.slots) G5 [(6, .int w9), (5, .int 0), (0, .ref b), (1, .ref x), (2, .ref m), (3, .ref o), (4, .int xi)] 265 [.int 0]
    refine g_seg [(265, .iload 5, 2)] 267 [(6, .int w9), (5, .int 0), (0, .ref b), (1, .ref x), (2, .ref m), (3, .ref o), (4, .int xi)] [.int 0, .int 0] C (by decide +kernel) rfl ?_
    refine g_icmp_eq (pc := 267) (off := 5) 272 C (by decide +kernel) (by decide) (fun _ => ?_) (fun c9 => absurd rfl c9)
    refine g_seg [(272, .iload 5, 2)] 274 [(6, .int w9), (5, .int 0), (0, .ref b), (1, .ref x), (2, .ref m), (3, .ref o), (4, .int xi)] [.int 0] C (by decide +kernel) rfl ?_
    refine g_if_ne (pc := 274) (off := 15) 289 C (by decide +kernel) (by decide) (fun c9 => absurd rfl c9) (fun _ => ?_)
    refine g_seg [(277, .aload_n 3, 1), (278, .iconst 0, 1)] 279 [(6, .int w9), (5, .int 0), (0, .ref b), (1, .ref x), (2, .ref m), (3, .ref o), (4, .int xi)] [.int 0, .ref o] C (by decide +kernel) rfl ?_
    refine g_laldM (pc := 279) C v4 rfl (by decide +kernel) ?_
    refine g_seg [(280, .iload 6, 2), (282, .i2l, 1), (283, .lcmp, 1)] 284 [(6, .int w9), (5, .int 0), (0, .ref b), (1, .ref x), (2, .ref m), (3, .ref o), (4, .int xi)] [.int (lg_cmp z.toInt64 w9.toInt64)] C (by decide +kernel) rfl ?_
    refine g_if_eq (pc := 284) (off := 5) 289 C (by decide +kernel) (by decide) (fun _ => ?_) (fun c9 => absurd (by rw [hz]; exact lg_same _) c9)
    refine g_seg [(289, .goto 1067, 3)] 1356 [(6, .int w9), (5, .int 0), (0, .ref b), (1, .ref x), (2, .ref m), (3, .ref o), (4, .int xi)] [] C (by decide +kernel) rfl ?_
    refine g_subp [2, 3, 4, 5, 6] (lv' := [(0, .ref b), (1, .ref x), (2, .ref m), (3, .ref o), (4, .int xi)]) rfl ?_
    exact kk G5 bn' _ _ (LW_mk hLB2 v2 v1 u3 v4 f5 u6) hbn' (by (try simp only [Nat.add_assoc]); exact Nat.add_le_add_left (by decide) _) (by (try simp only [Nat.add_assoc]); exact Nat.add_le_add_left (by decide) _)
  · obtain ⟨f1, f2, f3, f4, f5⟩ := fr_step hf s2 dj ho ho1
    show PG κ 9 (ce + kL_weigh.cells) (sl + kL_weigh.slots) G3 [(0, .ref b), (1, .ref x), (2, .ref m), (3, .ref o), (4, .int xi)] 241 [.int (if e9 = "java/lang/IndexOutOfBoundsException" then 1 else (if e9 = "java/lang/IllegalArgumentException" then 2 else (if e9 = "java/lang/IllegalStateException" then 3 else 0)))]
    refine g_seg [(241, .istore 5, 2), (243, .aload_n 2, 1), (244, .aload_n 0, 1), (245, .iload 4, 2), (247, .iconst 1, 1), (248, .iadd, 1)] 249 [(5, .int (if e9 = "java/lang/IndexOutOfBoundsException" then 1 else (if e9 = "java/lang/IllegalArgumentException" then 2 else (if e9 = "java/lang/IllegalStateException" then 3 else 0)))), (0, .ref b), (1, .ref x), (2, .ref m), (3, .ref o), (4, .int xi)] [.int (xi + 1), .ref b, .ref m] C (by decide +kernel) rfl ?_
    refine g_sald (pc := 249) (j := (5 * k + 1)) C hSC (by rw [hx]; exact nI_add (5 * k) 1) (by omega) (by omega) (by decide +kernel) ?_
    refine g_seg [(250, .aload_n 0, 1), (251, .iload 4, 2), (253, .iconst 2, 1), (254, .iadd, 1)] 255 [(5, .int (if e9 = "java/lang/IndexOutOfBoundsException" then 1 else (if e9 = "java/lang/IllegalArgumentException" then 2 else (if e9 = "java/lang/IllegalStateException" then 3 else 0)))), (0, .ref b), (1, .ref x), (2, .ref m), (3, .ref o), (4, .int xi)] [.int (xi + 2), .ref b, .int (xs (5 * k + 1)), .ref m] C (by decide +kernel) rfl ?_
    refine g_sald (pc := 255) (j := (5 * k + 2)) C hSC (by rw [hx]; exact nI_add (5 * k) 2) (by omega) (by omega) (by decide +kernel) ?_
    refine g_callV (pc := 256) C mV_X5_weigh q715 (f2 _ _ hM.1.1) rfl rfl (Ctr.frame (c_X5_weigh l D cy hM (xs (5 * k + 1)) (xs (5 * k + 2))) f2) rfl ⟨⟨(Nat.le_of_ble_eq_true rfl), (Nat.le_of_ble_eq_true rfl)⟩, by refine Nat.le_trans ?_ hce; (try simp only [Nat.add_assoc]); exact Nat.add_le_add_left (by decide) _, by refine Nat.le_trans ?_ hsl; (try simp only [Nat.add_assoc]); exact Nat.add_le_add_left (by decide) _⟩ rfl (Nat.le_of_ble_eq_true rfl) (by decide +kernel) (fun r G4 h4 => ?_)
    obtain ⟨G6, ⟨w9, rfl, hq⟩, hf4⟩ := h4
    obtain ⟨u2, u1, u3', u4, u6⟩ := fr_step hf4 f1 (dj_sym f3) f4 ho2
    have u3 := dj_sym u3'
    have hLB := a_weigh_bad (z := 0) (ad := ad) (am := am) (nt := nt) (nf := nf) (nc := nc) (nn := nn) (T := T) (E := E) (Cu := Cu) (N := N) (KT := KT) (KF := KF) (KC := KC) (F := F) ⟨hM.2.2.1, hM.2.2.2.1⟩ hT hS hC hbn hp hq
    have hLB2 := hLB
    obtain ⟨ad2, am2, nt2, nf2, nc2, nn2, T2, E2, C2, N2, KT2, KF2, KC2, F2, hX2, hM2, -⟩ := hLB
    show PG κ 9 ((ce + kL_weigh.cells) + kX5_weigh.cells) ((sl + kL_weigh.slots) + kX5_weigh.slots) G4 [(5, .int (if e9 = "java/lang/IndexOutOfBoundsException" then 1 else (if e9 = "java/lang/IllegalArgumentException" then 2 else (if e9 = "java/lang/IllegalStateException" then 3 else 0)))), (0, .ref b), (1, .ref x), (2, .ref m), (3, .ref o), (4, .int xi)] 259 [.int w9]
    refine g_seg [(259, .istore 6, 2), (261, .aload_n 2, 1)] 262 [(6, .int w9), (5, .int (if e9 = "java/lang/IndexOutOfBoundsException" then 1 else (if e9 = "java/lang/IllegalArgumentException" then 2 else (if e9 = "java/lang/IllegalStateException" then 3 else 0)))), (0, .ref b), (1, .ref x), (2, .ref m), (3, .ref o), (4, .int xi)] [.ref m] C (by decide +kernel) rfl ?_
    refine g_callV (pc := 262) C mV_X5_thrown q697 (u2 _ _ hM2.1.1) rfl rfl (Ctr.frame (c_X5_thrown l D cy hM2) u2) rfl ⟨⟨(Nat.le_of_ble_eq_true rfl), (Nat.le_of_ble_eq_true rfl)⟩, by refine Nat.le_trans ?_ hce; (try simp only [Nat.add_assoc]); exact Nat.add_le_add_left (by decide) _, by refine Nat.le_trans ?_ hsl; (try simp only [Nat.add_assoc]); exact Nat.add_le_add_left (by decide) _⟩ rfl (Nat.le_of_ble_eq_true rfl) (by decide +kernel) (fun r G5 h5 => ?_)
    obtain ⟨G7, ⟨v7, rfl, rfl, rfl⟩, hf5⟩ := h5
    obtain ⟨v1, v2, v3, v4, v5⟩ := fr_step hf5 u1 (dj_sym u3) u4 u6
    show PG κ 9 (((ce + kL_weigh.cells) + kX5_weigh.cells) + kX5_thrown.cells) (((sl + kL_weigh.slots) + kX5_weigh.slots) + kX5_thrown.slots) G5 [(6, .int w9), (5, .int (if e9 = "java/lang/IndexOutOfBoundsException" then 1 else (if e9 = "java/lang/IllegalArgumentException" then 2 else (if e9 = "java/lang/IllegalStateException" then 3 else 0)))), (0, .ref b), (1, .ref x), (2, .ref m), (3, .ref o), (4, .int xi)] 265 [.int (if e9 = "java/lang/IndexOutOfBoundsException" then 1 else (if e9 = "java/lang/IllegalArgumentException" then 2 else (if e9 = "java/lang/IllegalStateException" then 3 else 0)))]
    refine g_seg [(265, .iload 5, 2)] 267 [(6, .int w9), (5, .int (if e9 = "java/lang/IndexOutOfBoundsException" then 1 else (if e9 = "java/lang/IllegalArgumentException" then 2 else (if e9 = "java/lang/IllegalStateException" then 3 else 0)))), (0, .ref b), (1, .ref x), (2, .ref m), (3, .ref o), (4, .int xi)] [.int (if e9 = "java/lang/IndexOutOfBoundsException" then 1 else (if e9 = "java/lang/IllegalArgumentException" then 2 else (if e9 = "java/lang/IllegalStateException" then 3 else 0))), .int (if e9 = "java/lang/IndexOutOfBoundsException" then 1 else (if e9 = "java/lang/IllegalArgumentException" then 2 else (if e9 = "java/lang/IllegalStateException" then 3 else 0)))] C (by decide +kernel) rfl ?_
    refine g_icmp_eq (pc := 267) (off := 5) 272 C (by decide +kernel) (by decide) (fun _ => ?_) (fun c9 => absurd rfl c9)
    refine g_seg [(272, .iload 5, 2)] 274 [(6, .int w9), (5, .int (if e9 = "java/lang/IndexOutOfBoundsException" then 1 else (if e9 = "java/lang/IllegalArgumentException" then 2 else (if e9 = "java/lang/IllegalStateException" then 3 else 0)))), (0, .ref b), (1, .ref x), (2, .ref m), (3, .ref o), (4, .int xi)] [.int (if e9 = "java/lang/IndexOutOfBoundsException" then 1 else (if e9 = "java/lang/IllegalArgumentException" then 2 else (if e9 = "java/lang/IllegalStateException" then 3 else 0)))] C (by decide +kernel) rfl ?_
    refine g_if_ne (pc := 274) (off := 15) 289 C (by decide +kernel) (by decide) (fun _ => ?_) (fun c9 => ?_)
    · refine g_seg [(289, .goto 1067, 3)] 1356 [(6, .int w9), (5, .int (if e9 = "java/lang/IndexOutOfBoundsException" then 1 else (if e9 = "java/lang/IllegalArgumentException" then 2 else (if e9 = "java/lang/IllegalStateException" then 3 else 0)))), (0, .ref b), (1, .ref x), (2, .ref m), (3, .ref o), (4, .int xi)] [] C (by decide +kernel) rfl ?_
      refine g_subp [2, 3, 4, 5, 6] (lv' := [(0, .ref b), (1, .ref x), (2, .ref m), (3, .ref o), (4, .int xi)]) rfl ?_
      exact kk G5 bn _ _ (LW_mk hLB2 v2 v1 u3 v4 f5 u6) (by omega) (by (try simp only [Nat.add_assoc]); exact Nat.add_le_add_left (by decide) _) (by (try simp only [Nat.add_assoc]); exact Nat.add_le_add_left (by decide) _)
    · exfalso; rcases hp.2 with ⟨rfl, -⟩ | ⟨rfl, -⟩ | ⟨rfl, -⟩ <;> revert c9 <;> decide
set_option maxHeartbeats 4000000 in
set_option maxRecDepth 100000 in
theorem t_mend {nm : String} {κ : Kx} {l : Launch} {D : va_G} {cy : Nat → ClassId} {b L x m o bn k ce sl : Nat} {xs : Nat → Int32} {xi : Int32} {G : GG} (C : g_OK κ l D cy (yLw nm) 9 code room_1 (some .boolean)) (hCX : g_CX κ) (hSC : g_SC κ b L xs) (hL : L ≤ 2560) (hk : 5 * k + 5 ≤ L) (hx : xi = nI (5 * k)) (hbn : bn + 200 < 2 ^ 31) (hce : ce + 16 ≤ room_1.cells) (hsl : sl + 400 ≤ room_1.slots) (hlw : LW cy x m o G bn) (kk : ∀ G' bn' ce' sl', LW cy x m o G' bn' → bn' ≤ bn + 200 → ce' ≤ ce + 16 → sl' ≤ sl + 400 → PG κ 9 ce' sl' G' [(0, .ref b), (1, .ref x), (2, .ref m), (3, .ref o), (4, .int xi)] 1356 []) : PG κ 9 ce sl G [(0, .ref b), (1, .ref x), (2, .ref m), (3, .ref o), (4, .int xi)] 292 [] := by
  obtain ⟨G1, G2, ad, am, th, nt, nf, nc, nn, T, E, Cu, N, KT, KF, KC, F, z0, hX, hM, ⟨s1, s2, dj⟩, ⟨ho, ho1, ho2⟩, hT, hS, hC⟩ := hlw
  refine g_pc (pc' := 292) rfl ?_
  refine g_seg [(292, .aload_n 1, 1), (293, .aload_n 0, 1), (294, .iload 4, 2), (296, .iconst 1, 1), (297, .iadd, 1)] 298 [(0, .ref b), (1, .ref x), (2, .ref m), (3, .ref o), (4, .int xi)] [.int (xi + 1), .ref b, .ref x] C (by decide +kernel) rfl ?_
  refine g_sald (pc := 298) (j := (5 * k + 1)) C hSC (by rw [hx]; exact nI_add (5 * k) 1) (by omega) (by omega) (by decide +kernel) ?_
  refine g_seg [(299, .aload_n 3, 1)] 300 [(0, .ref b), (1, .ref x), (2, .ref m), (3, .ref o), (4, .int xi)] [.ref o, .int (xs (5 * k + 1)), .ref x] C (by decide +kernel) rfl ?_
  refine g_callSW (pc := 300) C hCX mW_L_mend q354 (c_L_mend l D cy (xs (5 * k + 1)) (c_X4_mend l D cy hX (xs (5 * k + 1))) s1 hX.1.1 ho ho1 (fun E G' h => h.2.1)) rfl ⟨⟨(Nat.le_of_ble_eq_true rfl), (Nat.le_of_ble_eq_true rfl)⟩, by refine Nat.le_trans ?_ hce; (try simp only [Nat.add_assoc]); exact Nat.add_le_add_left (by decide) _, by refine Nat.le_trans ?_ hsl; (try simp only [Nat.add_assoc]); exact Nat.add_le_add_left (by decide) _⟩ rfl (Nat.le_of_ble_eq_true rfl) (by decide +kernel) (fun r G3 h9 => ?_)
  obtain ⟨v, rfl, h9⟩ := h9
  rcases h9 with ⟨rfl, z, G', hp, hf⟩ | ⟨e9, G', hp, hf, rfl⟩
  · obtain ⟨f1, f2, f3, f4, f5⟩ := fo_step hf s2 dj ⟨_, ho⟩ ho1 ho2
    show PG κ 9 (ce + kL_mend.cells) (sl + kL_mend.slots) G3 [(0, .ref b), (1, .ref x), (2, .ref m), (3, .ref o), (4, .int xi)] 303 [.int 0]
    refine g_seg [(303, .istore 5, 2), (305, .aload_n 2, 1), (306, .aload_n 0, 1), (307, .iload 4, 2), (309, .iconst 1, 1), (310, .iadd, 1)] 311 [(5, .int 0), (0, .ref b), (1, .ref x), (2, .ref m), (3, .ref o), (4, .int xi)] [.int (xi + 1), .ref b, .ref m] C (by decide +kernel) rfl ?_
    refine g_sald (pc := 311) (j := (5 * k + 1)) C hSC (by rw [hx]; exact nI_add (5 * k) 1) (by omega) (by omega) (by decide +kernel) ?_
    refine g_callV (pc := 312) C mV_X5_mend q731 (f2 _ _ hM.1.1) rfl rfl (Ctr.frame (c_X5_mend l D cy hM (xs (5 * k + 1))) f2) rfl ⟨⟨(Nat.le_of_ble_eq_true rfl), (Nat.le_of_ble_eq_true rfl)⟩, by refine Nat.le_trans ?_ hce; (try simp only [Nat.add_assoc]); exact Nat.add_le_add_left (by decide) _, by refine Nat.le_trans ?_ hsl; (try simp only [Nat.add_assoc]); exact Nat.add_le_add_left (by decide) _⟩ rfl (Nat.le_of_ble_eq_true rfl) (by decide +kernel) (fun r G4 h4 => ?_)
    obtain ⟨G6, ⟨w9, rfl, hq⟩, hf4⟩ := h4
    obtain ⟨u2, u1, u3', u4, u6⟩ := fr_step hf4 f1 (dj_sym f3) f4 ho2
    have u3 := dj_sym u3'
    obtain ⟨hz, bn', hbn', hLB⟩ := a_mend_ok (ad := ad) (am := am) (nt := nt) (nf := nf) (nc := nc) (nn := nn) (T := T) (E := E) (Cu := Cu) (N := N) (KT := KT) (KF := KF) (KC := KC) (F := F) ⟨hM.2.2.1, hM.2.2.2.1⟩ hT hS hC hbn hp hq
    have hLB2 := hLB
    obtain ⟨ad2, am2, nt2, nf2, nc2, nn2, T2, E2, C2, N2, KT2, KF2, KC2, F2, hX2, hM2, -⟩ := hLB
    show PG κ 9 ((ce + kL_mend.cells) + kX5_mend.cells) ((sl + kL_mend.slots) + kX5_mend.slots) G4 [(5, .int 0), (0, .ref b), (1, .ref x), (2, .ref m), (3, .ref o), (4, .int xi)] 315 [.int w9]
    refine g_seg [(315, .istore 6, 2), (317, .aload_n 2, 1)] 318 [(6, .int w9), (5, .int 0), (0, .ref b), (1, .ref x), (2, .ref m), (3, .ref o), (4, .int xi)] [.ref m] C (by decide +kernel) rfl ?_
    refine g_callV (pc := 318) C mV_X5_thrown q697 (u2 _ _ hM2.1.1) rfl rfl (Ctr.frame (c_X5_thrown l D cy hM2) u2) rfl ⟨⟨(Nat.le_of_ble_eq_true rfl), (Nat.le_of_ble_eq_true rfl)⟩, by refine Nat.le_trans ?_ hce; (try simp only [Nat.add_assoc]); exact Nat.add_le_add_left (by decide) _, by refine Nat.le_trans ?_ hsl; (try simp only [Nat.add_assoc]); exact Nat.add_le_add_left (by decide) _⟩ rfl (Nat.le_of_ble_eq_true rfl) (by decide +kernel) (fun r G5 h5 => ?_)
    obtain ⟨G7, ⟨v7, rfl, rfl, rfl⟩, hf5⟩ := h5
    obtain ⟨v1, v2, v3, v4, v5⟩ := fr_step hf5 u1 (dj_sym u3) u4 u6
    show PG κ 9 (((ce + kL_mend.cells) + kX5_mend.cells) + kX5_thrown.cells) (((sl + kL_mend.slots) + kX5_mend.slots) + kX5_thrown.slots) G5 [(6, .int w9), (5, .int 0), (0, .ref b), (1, .ref x), (2, .ref m), (3, .ref o), (4, .int xi)] 321 [.int 0]
    refine g_seg [(321, .iload 5, 2)] 323 [(6, .int w9), (5, .int 0), (0, .ref b), (1, .ref x), (2, .ref m), (3, .ref o), (4, .int xi)] [.int 0, .int 0] C (by decide +kernel) rfl ?_
    refine g_icmp_eq (pc := 323) (off := 5) 328 C (by decide +kernel) (by decide) (fun _ => ?_) (fun c9 => absurd rfl c9)
    refine g_seg [(328, .iload 5, 2)] 330 [(6, .int w9), (5, .int 0), (0, .ref b), (1, .ref x), (2, .ref m), (3, .ref o), (4, .int xi)] [.int 0] C (by decide +kernel) rfl ?_
    refine g_if_ne (pc := 330) (off := 15) 345 C (by decide +kernel) (by decide) (fun c9 => absurd rfl c9) (fun _ => ?_)
    refine g_seg [(333, .aload_n 3, 1), (334, .iconst 0, 1)] 335 [(6, .int w9), (5, .int 0), (0, .ref b), (1, .ref x), (2, .ref m), (3, .ref o), (4, .int xi)] [.int 0, .ref o] C (by decide +kernel) rfl ?_
    refine g_laldM (pc := 335) C v4 rfl (by decide +kernel) ?_
    refine g_seg [(336, .iload 6, 2), (338, .i2l, 1), (339, .lcmp, 1)] 340 [(6, .int w9), (5, .int 0), (0, .ref b), (1, .ref x), (2, .ref m), (3, .ref o), (4, .int xi)] [.int (lg_cmp z.toInt64 w9.toInt64)] C (by decide +kernel) rfl ?_
    refine g_if_eq (pc := 340) (off := 5) 345 C (by decide +kernel) (by decide) (fun _ => ?_) (fun c9 => absurd (by rw [hz]; exact lg_same _) c9)
    refine g_seg [(345, .goto 1011, 3)] 1356 [(6, .int w9), (5, .int 0), (0, .ref b), (1, .ref x), (2, .ref m), (3, .ref o), (4, .int xi)] [] C (by decide +kernel) rfl ?_
    refine g_subp [2, 3, 4, 5, 6] (lv' := [(0, .ref b), (1, .ref x), (2, .ref m), (3, .ref o), (4, .int xi)]) rfl ?_
    exact kk G5 bn' _ _ (LW_mk hLB2 v2 v1 u3 v4 f5 u6) hbn' (by (try simp only [Nat.add_assoc]); exact Nat.add_le_add_left (by decide) _) (by (try simp only [Nat.add_assoc]); exact Nat.add_le_add_left (by decide) _)
  · obtain ⟨f1, f2, f3, f4, f5⟩ := fr_step hf s2 dj ho ho1
    show PG κ 9 (ce + kL_mend.cells) (sl + kL_mend.slots) G3 [(0, .ref b), (1, .ref x), (2, .ref m), (3, .ref o), (4, .int xi)] 303 [.int (if e9 = "java/lang/IndexOutOfBoundsException" then 1 else 0)]
    refine g_seg [(303, .istore 5, 2), (305, .aload_n 2, 1), (306, .aload_n 0, 1), (307, .iload 4, 2), (309, .iconst 1, 1), (310, .iadd, 1)] 311 [(5, .int (if e9 = "java/lang/IndexOutOfBoundsException" then 1 else 0)), (0, .ref b), (1, .ref x), (2, .ref m), (3, .ref o), (4, .int xi)] [.int (xi + 1), .ref b, .ref m] C (by decide +kernel) rfl ?_
    refine g_sald (pc := 311) (j := (5 * k + 1)) C hSC (by rw [hx]; exact nI_add (5 * k) 1) (by omega) (by omega) (by decide +kernel) ?_
    refine g_callV (pc := 312) C mV_X5_mend q731 (f2 _ _ hM.1.1) rfl rfl (Ctr.frame (c_X5_mend l D cy hM (xs (5 * k + 1))) f2) rfl ⟨⟨(Nat.le_of_ble_eq_true rfl), (Nat.le_of_ble_eq_true rfl)⟩, by refine Nat.le_trans ?_ hce; (try simp only [Nat.add_assoc]); exact Nat.add_le_add_left (by decide) _, by refine Nat.le_trans ?_ hsl; (try simp only [Nat.add_assoc]); exact Nat.add_le_add_left (by decide) _⟩ rfl (Nat.le_of_ble_eq_true rfl) (by decide +kernel) (fun r G4 h4 => ?_)
    obtain ⟨G6, ⟨w9, rfl, hq⟩, hf4⟩ := h4
    obtain ⟨u2, u1, u3', u4, u6⟩ := fr_step hf4 f1 (dj_sym f3) f4 ho2
    have u3 := dj_sym u3'
    have hLB := a_mend_bad (z := 0) (ad := ad) (am := am) (nt := nt) (nf := nf) (nc := nc) (nn := nn) (T := T) (E := E) (Cu := Cu) (N := N) (KT := KT) (KF := KF) (KC := KC) (F := F) ⟨hM.2.2.1, hM.2.2.2.1⟩ hT hS hC hbn hp hq
    have hLB2 := hLB
    obtain ⟨ad2, am2, nt2, nf2, nc2, nn2, T2, E2, C2, N2, KT2, KF2, KC2, F2, hX2, hM2, -⟩ := hLB
    show PG κ 9 ((ce + kL_mend.cells) + kX5_mend.cells) ((sl + kL_mend.slots) + kX5_mend.slots) G4 [(5, .int (if e9 = "java/lang/IndexOutOfBoundsException" then 1 else 0)), (0, .ref b), (1, .ref x), (2, .ref m), (3, .ref o), (4, .int xi)] 315 [.int w9]
    refine g_seg [(315, .istore 6, 2), (317, .aload_n 2, 1)] 318 [(6, .int w9), (5, .int (if e9 = "java/lang/IndexOutOfBoundsException" then 1 else 0)), (0, .ref b), (1, .ref x), (2, .ref m), (3, .ref o), (4, .int xi)] [.ref m] C (by decide +kernel) rfl ?_
    refine g_callV (pc := 318) C mV_X5_thrown q697 (u2 _ _ hM2.1.1) rfl rfl (Ctr.frame (c_X5_thrown l D cy hM2) u2) rfl ⟨⟨(Nat.le_of_ble_eq_true rfl), (Nat.le_of_ble_eq_true rfl)⟩, by refine Nat.le_trans ?_ hce; (try simp only [Nat.add_assoc]); exact Nat.add_le_add_left (by decide) _, by refine Nat.le_trans ?_ hsl; (try simp only [Nat.add_assoc]); exact Nat.add_le_add_left (by decide) _⟩ rfl (Nat.le_of_ble_eq_true rfl) (by decide +kernel) (fun r G5 h5 => ?_)
    obtain ⟨G7, ⟨v7, rfl, rfl, rfl⟩, hf5⟩ := h5
    obtain ⟨v1, v2, v3, v4, v5⟩ := fr_step hf5 u1 (dj_sym u3) u4 u6
    show PG κ 9 (((ce + kL_mend.cells) + kX5_mend.cells) + kX5_thrown.cells) (((sl + kL_mend.slots) + kX5_mend.slots) + kX5_thrown.slots) G5 [(6, .int w9), (5, .int (if e9 = "java/lang/IndexOutOfBoundsException" then 1 else 0)), (0, .ref b), (1, .ref x), (2, .ref m), (3, .ref o), (4, .int xi)] 321 [.int (if e9 = "java/lang/IndexOutOfBoundsException" then 1 else 0)]
    refine g_seg [(321, .iload 5, 2)] 323 [(6, .int w9), (5, .int (if e9 = "java/lang/IndexOutOfBoundsException" then 1 else 0)), (0, .ref b), (1, .ref x), (2, .ref m), (3, .ref o), (4, .int xi)] [.int (if e9 = "java/lang/IndexOutOfBoundsException" then 1 else 0), .int (if e9 = "java/lang/IndexOutOfBoundsException" then 1 else 0)] C (by decide +kernel) rfl ?_
    refine g_icmp_eq (pc := 323) (off := 5) 328 C (by decide +kernel) (by decide) (fun _ => ?_) (fun c9 => absurd rfl c9)
    refine g_seg [(328, .iload 5, 2)] 330 [(6, .int w9), (5, .int (if e9 = "java/lang/IndexOutOfBoundsException" then 1 else 0)), (0, .ref b), (1, .ref x), (2, .ref m), (3, .ref o), (4, .int xi)] [.int (if e9 = "java/lang/IndexOutOfBoundsException" then 1 else 0)] C (by decide +kernel) rfl ?_
    refine g_if_ne (pc := 330) (off := 15) 345 C (by decide +kernel) (by decide) (fun _ => ?_) (fun c9 => ?_)
    · refine g_seg [(345, .goto 1011, 3)] 1356 [(6, .int w9), (5, .int (if e9 = "java/lang/IndexOutOfBoundsException" then 1 else 0)), (0, .ref b), (1, .ref x), (2, .ref m), (3, .ref o), (4, .int xi)] [] C (by decide +kernel) rfl ?_
      refine g_subp [2, 3, 4, 5, 6] (lv' := [(0, .ref b), (1, .ref x), (2, .ref m), (3, .ref o), (4, .int xi)]) rfl ?_
      exact kk G5 bn _ _ (LW_mk hLB2 v2 v1 u3 v4 f5 u6) (by omega) (by (try simp only [Nat.add_assoc]); exact Nat.add_le_add_left (by decide) _) (by (try simp only [Nat.add_assoc]); exact Nat.add_le_add_left (by decide) _)
    · exfalso; obtain ⟨rfl, -⟩ := hp.2; revert c9; decide
set_option maxHeartbeats 4000000 in
set_option maxRecDepth 100000 in
theorem t_spread {nm : String} {κ : Kx} {l : Launch} {D : va_G} {cy : Nat → ClassId} {b L x m o bn k ce sl : Nat} {xs : Nat → Int32} {xi : Int32} {G : GG} (C : g_OK κ l D cy (yLw nm) 9 code room_1 (some .boolean)) (hCX : g_CX κ) (hSC : g_SC κ b L xs) (hL : L ≤ 2560) (hk : 5 * k + 5 ≤ L) (hx : xi = nI (5 * k)) (hbn : bn + 200 < 2 ^ 31) (hce : ce + 16 ≤ room_1.cells) (hsl : sl + 400 ≤ room_1.slots) (hlw : LW cy x m o G bn) (kk : ∀ G' bn' ce' sl', LW cy x m o G' bn' → bn' ≤ bn + 200 → ce' ≤ ce + 16 → sl' ≤ sl + 400 → PG κ 9 ce' sl' G' [(0, .ref b), (1, .ref x), (2, .ref m), (3, .ref o), (4, .int xi)] 1356 []) : PG κ 9 ce sl G [(0, .ref b), (1, .ref x), (2, .ref m), (3, .ref o), (4, .int xi)] 348 [] := by
  obtain ⟨G1, G2, ad, am, th, nt, nf, nc, nn, T, E, Cu, N, KT, KF, KC, F, z0, hX, hM, ⟨s1, s2, dj⟩, ⟨ho, ho1, ho2⟩, hT, hS, hC⟩ := hlw
  refine g_pc (pc' := 348) rfl ?_
  refine g_seg [(348, .aload_n 1, 1), (349, .aload_n 0, 1), (350, .iload 4, 2), (352, .iconst 1, 1), (353, .iadd, 1)] 354 [(0, .ref b), (1, .ref x), (2, .ref m), (3, .ref o), (4, .int xi)] [.int (xi + 1), .ref b, .ref x] C (by decide +kernel) rfl ?_
  refine g_sald (pc := 354) (j := (5 * k + 1)) C hSC (by rw [hx]; exact nI_add (5 * k) 1) (by omega) (by omega) (by decide +kernel) ?_
  refine g_seg [(355, .aload_n 0, 1), (356, .iload 4, 2), (358, .iconst 2, 1), (359, .iadd, 1)] 360 [(0, .ref b), (1, .ref x), (2, .ref m), (3, .ref o), (4, .int xi)] [.int (xi + 2), .ref b, .int (xs (5 * k + 1)), .ref x] C (by decide +kernel) rfl ?_
  refine g_sald (pc := 360) (j := (5 * k + 2)) C hSC (by rw [hx]; exact nI_add (5 * k) 2) (by omega) (by omega) (by decide +kernel) ?_
  refine g_seg [(361, .aload_n 3, 1)] 362 [(0, .ref b), (1, .ref x), (2, .ref m), (3, .ref o), (4, .int xi)] [.ref o, .int (xs (5 * k + 2)), .int (xs (5 * k + 1)), .ref x] C (by decide +kernel) rfl ?_
  refine g_callSW (pc := 362) C hCX mW_L_spread q365 (c_L_spread l D cy (xs (5 * k + 1)) (xs (5 * k + 2)) (c_X4_spread l D cy hX (xs (5 * k + 1)) (xs (5 * k + 2))) s1 hX.1.1 ho ho1 (fun E G' h => by rcases h.2 with ⟨rfl, -⟩ | ⟨rfl, -⟩ <;> simp)) rfl ⟨⟨(Nat.le_of_ble_eq_true rfl), (Nat.le_of_ble_eq_true rfl)⟩, by refine Nat.le_trans ?_ hce; (try simp only [Nat.add_assoc]); exact Nat.add_le_add_left (by decide) _, by refine Nat.le_trans ?_ hsl; (try simp only [Nat.add_assoc]); exact Nat.add_le_add_left (by decide) _⟩ rfl (Nat.le_of_ble_eq_true rfl) (by decide +kernel) (fun r G3 h9 => ?_)
  obtain ⟨v, rfl, h9⟩ := h9
  rcases h9 with ⟨rfl, z, G', hp, hf⟩ | ⟨e9, G', hp, hf, rfl⟩
  · obtain ⟨f1, f2, f3, f4, f5⟩ := fo_step hf s2 dj ⟨_, ho⟩ ho1 ho2
    show PG κ 9 (ce + kL_spread.cells) (sl + kL_spread.slots) G3 [(0, .ref b), (1, .ref x), (2, .ref m), (3, .ref o), (4, .int xi)] 365 [.int 0]
    refine g_seg [(365, .istore 5, 2), (367, .aload_n 2, 1), (368, .aload_n 0, 1), (369, .iload 4, 2), (371, .iconst 1, 1), (372, .iadd, 1)] 373 [(5, .int 0), (0, .ref b), (1, .ref x), (2, .ref m), (3, .ref o), (4, .int xi)] [.int (xi + 1), .ref b, .ref m] C (by decide +kernel) rfl ?_
    refine g_sald (pc := 373) (j := (5 * k + 1)) C hSC (by rw [hx]; exact nI_add (5 * k) 1) (by omega) (by omega) (by decide +kernel) ?_
    refine g_seg [(374, .aload_n 0, 1), (375, .iload 4, 2), (377, .iconst 2, 1), (378, .iadd, 1)] 379 [(5, .int 0), (0, .ref b), (1, .ref x), (2, .ref m), (3, .ref o), (4, .int xi)] [.int (xi + 2), .ref b, .int (xs (5 * k + 1)), .ref m] C (by decide +kernel) rfl ?_
    refine g_sald (pc := 379) (j := (5 * k + 2)) C hSC (by rw [hx]; exact nI_add (5 * k) 2) (by omega) (by omega) (by decide +kernel) ?_
    refine g_callV (pc := 380) C mV_X5_spread q735 (f2 _ _ hM.1.1) rfl rfl (Ctr.frame (c_X5_spread l D cy hM (xs (5 * k + 1)) (xs (5 * k + 2))) f2) rfl ⟨⟨(Nat.le_of_ble_eq_true rfl), (Nat.le_of_ble_eq_true rfl)⟩, by refine Nat.le_trans ?_ hce; (try simp only [Nat.add_assoc]); exact Nat.add_le_add_left (by decide) _, by refine Nat.le_trans ?_ hsl; (try simp only [Nat.add_assoc]); exact Nat.add_le_add_left (by decide) _⟩ rfl (Nat.le_of_ble_eq_true rfl) (by decide +kernel) (fun r G4 h4 => ?_)
    obtain ⟨G6, ⟨w9, rfl, hq⟩, hf4⟩ := h4
    obtain ⟨u2, u1, u3', u4, u6⟩ := fr_step hf4 f1 (dj_sym f3) f4 ho2
    have u3 := dj_sym u3'
    obtain ⟨hz, bn', hbn', hLB⟩ := a_spread_ok (ad := ad) (am := am) (nt := nt) (nf := nf) (nc := nc) (nn := nn) (T := T) (E := E) (Cu := Cu) (N := N) (KT := KT) (KF := KF) (KC := KC) (F := F) ⟨hM.2.2.1, hM.2.2.2.1⟩ hT hS hC hbn hp hq
    have hLB2 := hLB
    obtain ⟨ad2, am2, nt2, nf2, nc2, nn2, T2, E2, C2, N2, KT2, KF2, KC2, F2, hX2, hM2, -⟩ := hLB
    show PG κ 9 ((ce + kL_spread.cells) + kX5_spread.cells) ((sl + kL_spread.slots) + kX5_spread.slots) G4 [(5, .int 0), (0, .ref b), (1, .ref x), (2, .ref m), (3, .ref o), (4, .int xi)] 383 [.int w9]
    refine g_seg [(383, .istore 6, 2), (385, .aload_n 2, 1)] 386 [(6, .int w9), (5, .int 0), (0, .ref b), (1, .ref x), (2, .ref m), (3, .ref o), (4, .int xi)] [.ref m] C (by decide +kernel) rfl ?_
    refine g_callV (pc := 386) C mV_X5_thrown q697 (u2 _ _ hM2.1.1) rfl rfl (Ctr.frame (c_X5_thrown l D cy hM2) u2) rfl ⟨⟨(Nat.le_of_ble_eq_true rfl), (Nat.le_of_ble_eq_true rfl)⟩, by refine Nat.le_trans ?_ hce; (try simp only [Nat.add_assoc]); exact Nat.add_le_add_left (by decide) _, by refine Nat.le_trans ?_ hsl; (try simp only [Nat.add_assoc]); exact Nat.add_le_add_left (by decide) _⟩ rfl (Nat.le_of_ble_eq_true rfl) (by decide +kernel) (fun r G5 h5 => ?_)
    obtain ⟨G7, ⟨v7, rfl, rfl, rfl⟩, hf5⟩ := h5
    obtain ⟨v1, v2, v3, v4, v5⟩ := fr_step hf5 u1 (dj_sym u3) u4 u6
    show PG κ 9 (((ce + kL_spread.cells) + kX5_spread.cells) + kX5_thrown.cells) (((sl + kL_spread.slots) + kX5_spread.slots) + kX5_thrown.slots) G5 [(6, .int w9), (5, .int 0), (0, .ref b), (1, .ref x), (2, .ref m), (3, .ref o), (4, .int xi)] 389 [.int 0]
    refine g_seg [(389, .iload 5, 2)] 391 [(6, .int w9), (5, .int 0), (0, .ref b), (1, .ref x), (2, .ref m), (3, .ref o), (4, .int xi)] [.int 0, .int 0] C (by decide +kernel) rfl ?_
    refine g_icmp_eq (pc := 391) (off := 5) 396 C (by decide +kernel) (by decide) (fun _ => ?_) (fun c9 => absurd rfl c9)
    refine g_seg [(396, .iload 5, 2)] 398 [(6, .int w9), (5, .int 0), (0, .ref b), (1, .ref x), (2, .ref m), (3, .ref o), (4, .int xi)] [.int 0] C (by decide +kernel) rfl ?_
    refine g_if_ne (pc := 398) (off := 15) 413 C (by decide +kernel) (by decide) (fun c9 => absurd rfl c9) (fun _ => ?_)
    refine g_seg [(401, .aload_n 3, 1), (402, .iconst 0, 1)] 403 [(6, .int w9), (5, .int 0), (0, .ref b), (1, .ref x), (2, .ref m), (3, .ref o), (4, .int xi)] [.int 0, .ref o] C (by decide +kernel) rfl ?_
    refine g_laldM (pc := 403) C v4 rfl (by decide +kernel) ?_
    refine g_seg [(404, .iload 6, 2), (406, .i2l, 1), (407, .lcmp, 1)] 408 [(6, .int w9), (5, .int 0), (0, .ref b), (1, .ref x), (2, .ref m), (3, .ref o), (4, .int xi)] [.int (lg_cmp z.toInt64 w9.toInt64)] C (by decide +kernel) rfl ?_
    refine g_if_eq (pc := 408) (off := 5) 413 C (by decide +kernel) (by decide) (fun _ => ?_) (fun c9 => absurd (by rw [hz]; exact lg_same _) c9)
    refine g_seg [(413, .goto 943, 3)] 1356 [(6, .int w9), (5, .int 0), (0, .ref b), (1, .ref x), (2, .ref m), (3, .ref o), (4, .int xi)] [] C (by decide +kernel) rfl ?_
    refine g_subp [2, 3, 4, 5, 6] (lv' := [(0, .ref b), (1, .ref x), (2, .ref m), (3, .ref o), (4, .int xi)]) rfl ?_
    exact kk G5 bn' _ _ (LW_mk hLB2 v2 v1 u3 v4 f5 u6) hbn' (by (try simp only [Nat.add_assoc]); exact Nat.add_le_add_left (by decide) _) (by (try simp only [Nat.add_assoc]); exact Nat.add_le_add_left (by decide) _)
  · obtain ⟨f1, f2, f3, f4, f5⟩ := fr_step hf s2 dj ho ho1
    show PG κ 9 (ce + kL_spread.cells) (sl + kL_spread.slots) G3 [(0, .ref b), (1, .ref x), (2, .ref m), (3, .ref o), (4, .int xi)] 365 [.int (if e9 = "java/lang/IllegalArgumentException" then 1 else (if e9 = "java/lang/IllegalStateException" then 2 else 0))]
    refine g_seg [(365, .istore 5, 2), (367, .aload_n 2, 1), (368, .aload_n 0, 1), (369, .iload 4, 2), (371, .iconst 1, 1), (372, .iadd, 1)] 373 [(5, .int (if e9 = "java/lang/IllegalArgumentException" then 1 else (if e9 = "java/lang/IllegalStateException" then 2 else 0))), (0, .ref b), (1, .ref x), (2, .ref m), (3, .ref o), (4, .int xi)] [.int (xi + 1), .ref b, .ref m] C (by decide +kernel) rfl ?_
    refine g_sald (pc := 373) (j := (5 * k + 1)) C hSC (by rw [hx]; exact nI_add (5 * k) 1) (by omega) (by omega) (by decide +kernel) ?_
    refine g_seg [(374, .aload_n 0, 1), (375, .iload 4, 2), (377, .iconst 2, 1), (378, .iadd, 1)] 379 [(5, .int (if e9 = "java/lang/IllegalArgumentException" then 1 else (if e9 = "java/lang/IllegalStateException" then 2 else 0))), (0, .ref b), (1, .ref x), (2, .ref m), (3, .ref o), (4, .int xi)] [.int (xi + 2), .ref b, .int (xs (5 * k + 1)), .ref m] C (by decide +kernel) rfl ?_
    refine g_sald (pc := 379) (j := (5 * k + 2)) C hSC (by rw [hx]; exact nI_add (5 * k) 2) (by omega) (by omega) (by decide +kernel) ?_
    refine g_callV (pc := 380) C mV_X5_spread q735 (f2 _ _ hM.1.1) rfl rfl (Ctr.frame (c_X5_spread l D cy hM (xs (5 * k + 1)) (xs (5 * k + 2))) f2) rfl ⟨⟨(Nat.le_of_ble_eq_true rfl), (Nat.le_of_ble_eq_true rfl)⟩, by refine Nat.le_trans ?_ hce; (try simp only [Nat.add_assoc]); exact Nat.add_le_add_left (by decide) _, by refine Nat.le_trans ?_ hsl; (try simp only [Nat.add_assoc]); exact Nat.add_le_add_left (by decide) _⟩ rfl (Nat.le_of_ble_eq_true rfl) (by decide +kernel) (fun r G4 h4 => ?_)
    obtain ⟨G6, ⟨w9, rfl, hq⟩, hf4⟩ := h4
    obtain ⟨u2, u1, u3', u4, u6⟩ := fr_step hf4 f1 (dj_sym f3) f4 ho2
    have u3 := dj_sym u3'
    have hLB := a_spread_bad (z := 0) (ad := ad) (am := am) (nt := nt) (nf := nf) (nc := nc) (nn := nn) (T := T) (E := E) (Cu := Cu) (N := N) (KT := KT) (KF := KF) (KC := KC) (F := F) ⟨hM.2.2.1, hM.2.2.2.1⟩ hT hS hC hbn hp hq
    have hLB2 := hLB
    obtain ⟨ad2, am2, nt2, nf2, nc2, nn2, T2, E2, C2, N2, KT2, KF2, KC2, F2, hX2, hM2, -⟩ := hLB
    show PG κ 9 ((ce + kL_spread.cells) + kX5_spread.cells) ((sl + kL_spread.slots) + kX5_spread.slots) G4 [(5, .int (if e9 = "java/lang/IllegalArgumentException" then 1 else (if e9 = "java/lang/IllegalStateException" then 2 else 0))), (0, .ref b), (1, .ref x), (2, .ref m), (3, .ref o), (4, .int xi)] 383 [.int w9]
    refine g_seg [(383, .istore 6, 2), (385, .aload_n 2, 1)] 386 [(6, .int w9), (5, .int (if e9 = "java/lang/IllegalArgumentException" then 1 else (if e9 = "java/lang/IllegalStateException" then 2 else 0))), (0, .ref b), (1, .ref x), (2, .ref m), (3, .ref o), (4, .int xi)] [.ref m] C (by decide +kernel) rfl ?_
    refine g_callV (pc := 386) C mV_X5_thrown q697 (u2 _ _ hM2.1.1) rfl rfl (Ctr.frame (c_X5_thrown l D cy hM2) u2) rfl ⟨⟨(Nat.le_of_ble_eq_true rfl), (Nat.le_of_ble_eq_true rfl)⟩, by refine Nat.le_trans ?_ hce; (try simp only [Nat.add_assoc]); exact Nat.add_le_add_left (by decide) _, by refine Nat.le_trans ?_ hsl; (try simp only [Nat.add_assoc]); exact Nat.add_le_add_left (by decide) _⟩ rfl (Nat.le_of_ble_eq_true rfl) (by decide +kernel) (fun r G5 h5 => ?_)
    obtain ⟨G7, ⟨v7, rfl, rfl, rfl⟩, hf5⟩ := h5
    obtain ⟨v1, v2, v3, v4, v5⟩ := fr_step hf5 u1 (dj_sym u3) u4 u6
    show PG κ 9 (((ce + kL_spread.cells) + kX5_spread.cells) + kX5_thrown.cells) (((sl + kL_spread.slots) + kX5_spread.slots) + kX5_thrown.slots) G5 [(6, .int w9), (5, .int (if e9 = "java/lang/IllegalArgumentException" then 1 else (if e9 = "java/lang/IllegalStateException" then 2 else 0))), (0, .ref b), (1, .ref x), (2, .ref m), (3, .ref o), (4, .int xi)] 389 [.int (if e9 = "java/lang/IllegalArgumentException" then 1 else (if e9 = "java/lang/IllegalStateException" then 2 else 0))]
    refine g_seg [(389, .iload 5, 2)] 391 [(6, .int w9), (5, .int (if e9 = "java/lang/IllegalArgumentException" then 1 else (if e9 = "java/lang/IllegalStateException" then 2 else 0))), (0, .ref b), (1, .ref x), (2, .ref m), (3, .ref o), (4, .int xi)] [.int (if e9 = "java/lang/IllegalArgumentException" then 1 else (if e9 = "java/lang/IllegalStateException" then 2 else 0)), .int (if e9 = "java/lang/IllegalArgumentException" then 1 else (if e9 = "java/lang/IllegalStateException" then 2 else 0))] C (by decide +kernel) rfl ?_
    refine g_icmp_eq (pc := 391) (off := 5) 396 C (by decide +kernel) (by decide) (fun _ => ?_) (fun c9 => absurd rfl c9)
    refine g_seg [(396, .iload 5, 2)] 398 [(6, .int w9), (5, .int (if e9 = "java/lang/IllegalArgumentException" then 1 else (if e9 = "java/lang/IllegalStateException" then 2 else 0))), (0, .ref b), (1, .ref x), (2, .ref m), (3, .ref o), (4, .int xi)] [.int (if e9 = "java/lang/IllegalArgumentException" then 1 else (if e9 = "java/lang/IllegalStateException" then 2 else 0))] C (by decide +kernel) rfl ?_
    refine g_if_ne (pc := 398) (off := 15) 413 C (by decide +kernel) (by decide) (fun _ => ?_) (fun c9 => ?_)
    · refine g_seg [(413, .goto 943, 3)] 1356 [(6, .int w9), (5, .int (if e9 = "java/lang/IllegalArgumentException" then 1 else (if e9 = "java/lang/IllegalStateException" then 2 else 0))), (0, .ref b), (1, .ref x), (2, .ref m), (3, .ref o), (4, .int xi)] [] C (by decide +kernel) rfl ?_
      refine g_subp [2, 3, 4, 5, 6] (lv' := [(0, .ref b), (1, .ref x), (2, .ref m), (3, .ref o), (4, .int xi)]) rfl ?_
      exact kk G5 bn _ _ (LW_mk hLB2 v2 v1 u3 v4 f5 u6) (by omega) (by (try simp only [Nat.add_assoc]); exact Nat.add_le_add_left (by decide) _) (by (try simp only [Nat.add_assoc]); exact Nat.add_le_add_left (by decide) _)
    · exfalso; rcases hp.2 with ⟨rfl, -⟩ | ⟨rfl, -⟩ <;> revert c9 <;> decide
set_option maxHeartbeats 4000000 in
set_option maxRecDepth 100000 in
theorem t_join {nm : String} {κ : Kx} {l : Launch} {D : va_G} {cy : Nat → ClassId} {b L x m o bn k ce sl : Nat} {xs : Nat → Int32} {xi : Int32} {G : GG} (C : g_OK κ l D cy (yLw nm) 9 code room_1 (some .boolean)) (hCX : g_CX κ) (hSC : g_SC κ b L xs) (hL : L ≤ 2560) (hk : 5 * k + 5 ≤ L) (hx : xi = nI (5 * k)) (hbn : bn + 200 < 2 ^ 31) (hce : ce + 16 ≤ room_1.cells) (hsl : sl + 400 ≤ room_1.slots) (hlw : LW cy x m o G bn) (kk : ∀ G' bn' ce' sl', LW cy x m o G' bn' → bn' ≤ bn + 200 → ce' ≤ ce + 16 → sl' ≤ sl + 400 → PG κ 9 ce' sl' G' [(0, .ref b), (1, .ref x), (2, .ref m), (3, .ref o), (4, .int xi)] 1356 []) : PG κ 9 ce sl G [(0, .ref b), (1, .ref x), (2, .ref m), (3, .ref o), (4, .int xi)] 416 [] := by
  obtain ⟨G1, G2, ad, am, th, nt, nf, nc, nn, T, E, Cu, N, KT, KF, KC, F, z0, hX, hM, ⟨s1, s2, dj⟩, ⟨ho, ho1, ho2⟩, hT, hS, hC⟩ := hlw
  refine g_pc (pc' := 416) rfl ?_
  refine g_seg [(416, .aload_n 1, 1), (417, .aload_n 3, 1)] 418 [(0, .ref b), (1, .ref x), (2, .ref m), (3, .ref o), (4, .int xi)] [.ref o, .ref x] C (by decide +kernel) rfl ?_
  refine g_callSW (pc := 418) C hCX mW_L_join q388 (c_L_join l D cy (c_X4_join l D cy hX ) s1 hX.1.1 ho ho1 (fun E G' h => h.2.1)) rfl ⟨⟨(Nat.le_of_ble_eq_true rfl), (Nat.le_of_ble_eq_true rfl)⟩, by refine Nat.le_trans ?_ hce; (try simp only [Nat.add_assoc]); exact Nat.add_le_add_left (by decide) _, by refine Nat.le_trans ?_ hsl; (try simp only [Nat.add_assoc]); exact Nat.add_le_add_left (by decide) _⟩ rfl (Nat.le_of_ble_eq_true rfl) (by decide +kernel) (fun r G3 h9 => ?_)
  obtain ⟨v, rfl, h9⟩ := h9
  rcases h9 with ⟨rfl, z, G', hp, hf⟩ | ⟨e9, G', hp, hf, rfl⟩
  · obtain ⟨f1, f2, f3, f4, f5⟩ := fo_step hf s2 dj ⟨_, ho⟩ ho1 ho2
    show PG κ 9 (ce + kL_join.cells) (sl + kL_join.slots) G3 [(0, .ref b), (1, .ref x), (2, .ref m), (3, .ref o), (4, .int xi)] 421 [.int 0]
    refine g_seg [(421, .istore 5, 2), (423, .aload_n 2, 1)] 424 [(5, .int 0), (0, .ref b), (1, .ref x), (2, .ref m), (3, .ref o), (4, .int xi)] [.ref m] C (by decide +kernel) rfl ?_
    refine g_callV (pc := 424) C mV_X5_join q739 (f2 _ _ hM.1.1) rfl rfl (Ctr.frame (c_X5_join l D cy hM ) f2) rfl ⟨⟨(Nat.le_of_ble_eq_true rfl), (Nat.le_of_ble_eq_true rfl)⟩, by refine Nat.le_trans ?_ hce; (try simp only [Nat.add_assoc]); exact Nat.add_le_add_left (by decide) _, by refine Nat.le_trans ?_ hsl; (try simp only [Nat.add_assoc]); exact Nat.add_le_add_left (by decide) _⟩ rfl (Nat.le_of_ble_eq_true rfl) (by decide +kernel) (fun r G4 h4 => ?_)
    obtain ⟨G6, ⟨w9, rfl, hq⟩, hf4⟩ := h4
    obtain ⟨u2, u1, u3', u4, u6⟩ := fr_step hf4 f1 (dj_sym f3) f4 ho2
    have u3 := dj_sym u3'
    obtain ⟨hz, bn', hbn', hLB⟩ := a_join_ok (ad := ad) (am := am) (nt := nt) (nf := nf) (nc := nc) (nn := nn) (T := T) (E := E) (Cu := Cu) (N := N) (KT := KT) (KF := KF) (KC := KC) (F := F) ⟨hM.2.2.1, hM.2.2.2.1⟩ hT hS hC hbn hp hq
    have hLB2 := hLB
    obtain ⟨ad2, am2, nt2, nf2, nc2, nn2, T2, E2, C2, N2, KT2, KF2, KC2, F2, hX2, hM2, -⟩ := hLB
    show PG κ 9 ((ce + kL_join.cells) + kX5_join.cells) ((sl + kL_join.slots) + kX5_join.slots) G4 [(5, .int 0), (0, .ref b), (1, .ref x), (2, .ref m), (3, .ref o), (4, .int xi)] 427 [.int w9]
    refine g_seg [(427, .istore 6, 2), (429, .aload_n 2, 1)] 430 [(6, .int w9), (5, .int 0), (0, .ref b), (1, .ref x), (2, .ref m), (3, .ref o), (4, .int xi)] [.ref m] C (by decide +kernel) rfl ?_
    refine g_callV (pc := 430) C mV_X5_thrown q697 (u2 _ _ hM2.1.1) rfl rfl (Ctr.frame (c_X5_thrown l D cy hM2) u2) rfl ⟨⟨(Nat.le_of_ble_eq_true rfl), (Nat.le_of_ble_eq_true rfl)⟩, by refine Nat.le_trans ?_ hce; (try simp only [Nat.add_assoc]); exact Nat.add_le_add_left (by decide) _, by refine Nat.le_trans ?_ hsl; (try simp only [Nat.add_assoc]); exact Nat.add_le_add_left (by decide) _⟩ rfl (Nat.le_of_ble_eq_true rfl) (by decide +kernel) (fun r G5 h5 => ?_)
    obtain ⟨G7, ⟨v7, rfl, rfl, rfl⟩, hf5⟩ := h5
    obtain ⟨v1, v2, v3, v4, v5⟩ := fr_step hf5 u1 (dj_sym u3) u4 u6
    show PG κ 9 (((ce + kL_join.cells) + kX5_join.cells) + kX5_thrown.cells) (((sl + kL_join.slots) + kX5_join.slots) + kX5_thrown.slots) G5 [(6, .int w9), (5, .int 0), (0, .ref b), (1, .ref x), (2, .ref m), (3, .ref o), (4, .int xi)] 433 [.int 0]
    refine g_seg [(433, .iload 5, 2)] 435 [(6, .int w9), (5, .int 0), (0, .ref b), (1, .ref x), (2, .ref m), (3, .ref o), (4, .int xi)] [.int 0, .int 0] C (by decide +kernel) rfl ?_
    refine g_icmp_eq (pc := 435) (off := 5) 440 C (by decide +kernel) (by decide) (fun _ => ?_) (fun c9 => absurd rfl c9)
    refine g_seg [(440, .iload 5, 2)] 442 [(6, .int w9), (5, .int 0), (0, .ref b), (1, .ref x), (2, .ref m), (3, .ref o), (4, .int xi)] [.int 0] C (by decide +kernel) rfl ?_
    refine g_if_ne (pc := 442) (off := 15) 457 C (by decide +kernel) (by decide) (fun c9 => absurd rfl c9) (fun _ => ?_)
    refine g_seg [(445, .aload_n 3, 1), (446, .iconst 0, 1)] 447 [(6, .int w9), (5, .int 0), (0, .ref b), (1, .ref x), (2, .ref m), (3, .ref o), (4, .int xi)] [.int 0, .ref o] C (by decide +kernel) rfl ?_
    refine g_laldM (pc := 447) C v4 rfl (by decide +kernel) ?_
    refine g_seg [(448, .iload 6, 2), (450, .i2l, 1), (451, .lcmp, 1)] 452 [(6, .int w9), (5, .int 0), (0, .ref b), (1, .ref x), (2, .ref m), (3, .ref o), (4, .int xi)] [.int (lg_cmp z.toInt64 w9.toInt64)] C (by decide +kernel) rfl ?_
    refine g_if_eq (pc := 452) (off := 5) 457 C (by decide +kernel) (by decide) (fun _ => ?_) (fun c9 => absurd (by rw [hz]; exact lg_same _) c9)
    refine g_seg [(457, .goto 899, 3)] 1356 [(6, .int w9), (5, .int 0), (0, .ref b), (1, .ref x), (2, .ref m), (3, .ref o), (4, .int xi)] [] C (by decide +kernel) rfl ?_
    refine g_subp [2, 3, 4, 5, 6] (lv' := [(0, .ref b), (1, .ref x), (2, .ref m), (3, .ref o), (4, .int xi)]) rfl ?_
    exact kk G5 bn' _ _ (LW_mk hLB2 v2 v1 u3 v4 f5 u6) hbn' (by (try simp only [Nat.add_assoc]); exact Nat.add_le_add_left (by decide) _) (by (try simp only [Nat.add_assoc]); exact Nat.add_le_add_left (by decide) _)
  · obtain ⟨f1, f2, f3, f4, f5⟩ := fr_step hf s2 dj ho ho1
    show PG κ 9 (ce + kL_join.cells) (sl + kL_join.slots) G3 [(0, .ref b), (1, .ref x), (2, .ref m), (3, .ref o), (4, .int xi)] 421 [.int (if e9 = "java/lang/IllegalStateException" then 1 else 0)]
    refine g_seg [(421, .istore 5, 2), (423, .aload_n 2, 1)] 424 [(5, .int (if e9 = "java/lang/IllegalStateException" then 1 else 0)), (0, .ref b), (1, .ref x), (2, .ref m), (3, .ref o), (4, .int xi)] [.ref m] C (by decide +kernel) rfl ?_
    refine g_callV (pc := 424) C mV_X5_join q739 (f2 _ _ hM.1.1) rfl rfl (Ctr.frame (c_X5_join l D cy hM ) f2) rfl ⟨⟨(Nat.le_of_ble_eq_true rfl), (Nat.le_of_ble_eq_true rfl)⟩, by refine Nat.le_trans ?_ hce; (try simp only [Nat.add_assoc]); exact Nat.add_le_add_left (by decide) _, by refine Nat.le_trans ?_ hsl; (try simp only [Nat.add_assoc]); exact Nat.add_le_add_left (by decide) _⟩ rfl (Nat.le_of_ble_eq_true rfl) (by decide +kernel) (fun r G4 h4 => ?_)
    obtain ⟨G6, ⟨w9, rfl, hq⟩, hf4⟩ := h4
    obtain ⟨u2, u1, u3', u4, u6⟩ := fr_step hf4 f1 (dj_sym f3) f4 ho2
    have u3 := dj_sym u3'
    have hLB := a_join_bad (z := 0) (ad := ad) (am := am) (nt := nt) (nf := nf) (nc := nc) (nn := nn) (T := T) (E := E) (Cu := Cu) (N := N) (KT := KT) (KF := KF) (KC := KC) (F := F) ⟨hM.2.2.1, hM.2.2.2.1⟩ hT hS hC hbn hp hq
    have hLB2 := hLB
    obtain ⟨ad2, am2, nt2, nf2, nc2, nn2, T2, E2, C2, N2, KT2, KF2, KC2, F2, hX2, hM2, -⟩ := hLB
    show PG κ 9 ((ce + kL_join.cells) + kX5_join.cells) ((sl + kL_join.slots) + kX5_join.slots) G4 [(5, .int (if e9 = "java/lang/IllegalStateException" then 1 else 0)), (0, .ref b), (1, .ref x), (2, .ref m), (3, .ref o), (4, .int xi)] 427 [.int w9]
    refine g_seg [(427, .istore 6, 2), (429, .aload_n 2, 1)] 430 [(6, .int w9), (5, .int (if e9 = "java/lang/IllegalStateException" then 1 else 0)), (0, .ref b), (1, .ref x), (2, .ref m), (3, .ref o), (4, .int xi)] [.ref m] C (by decide +kernel) rfl ?_
    refine g_callV (pc := 430) C mV_X5_thrown q697 (u2 _ _ hM2.1.1) rfl rfl (Ctr.frame (c_X5_thrown l D cy hM2) u2) rfl ⟨⟨(Nat.le_of_ble_eq_true rfl), (Nat.le_of_ble_eq_true rfl)⟩, by refine Nat.le_trans ?_ hce; (try simp only [Nat.add_assoc]); exact Nat.add_le_add_left (by decide) _, by refine Nat.le_trans ?_ hsl; (try simp only [Nat.add_assoc]); exact Nat.add_le_add_left (by decide) _⟩ rfl (Nat.le_of_ble_eq_true rfl) (by decide +kernel) (fun r G5 h5 => ?_)
    obtain ⟨G7, ⟨v7, rfl, rfl, rfl⟩, hf5⟩ := h5
    obtain ⟨v1, v2, v3, v4, v5⟩ := fr_step hf5 u1 (dj_sym u3) u4 u6
    show PG κ 9 (((ce + kL_join.cells) + kX5_join.cells) + kX5_thrown.cells) (((sl + kL_join.slots) + kX5_join.slots) + kX5_thrown.slots) G5 [(6, .int w9), (5, .int (if e9 = "java/lang/IllegalStateException" then 1 else 0)), (0, .ref b), (1, .ref x), (2, .ref m), (3, .ref o), (4, .int xi)] 433 [.int (if e9 = "java/lang/IllegalStateException" then 1 else 0)]
    refine g_seg [(433, .iload 5, 2)] 435 [(6, .int w9), (5, .int (if e9 = "java/lang/IllegalStateException" then 1 else 0)), (0, .ref b), (1, .ref x), (2, .ref m), (3, .ref o), (4, .int xi)] [.int (if e9 = "java/lang/IllegalStateException" then 1 else 0), .int (if e9 = "java/lang/IllegalStateException" then 1 else 0)] C (by decide +kernel) rfl ?_
    refine g_icmp_eq (pc := 435) (off := 5) 440 C (by decide +kernel) (by decide) (fun _ => ?_) (fun c9 => absurd rfl c9)
    refine g_seg [(440, .iload 5, 2)] 442 [(6, .int w9), (5, .int (if e9 = "java/lang/IllegalStateException" then 1 else 0)), (0, .ref b), (1, .ref x), (2, .ref m), (3, .ref o), (4, .int xi)] [.int (if e9 = "java/lang/IllegalStateException" then 1 else 0)] C (by decide +kernel) rfl ?_
    refine g_if_ne (pc := 442) (off := 15) 457 C (by decide +kernel) (by decide) (fun _ => ?_) (fun c9 => ?_)
    · refine g_seg [(457, .goto 899, 3)] 1356 [(6, .int w9), (5, .int (if e9 = "java/lang/IllegalStateException" then 1 else 0)), (0, .ref b), (1, .ref x), (2, .ref m), (3, .ref o), (4, .int xi)] [] C (by decide +kernel) rfl ?_
      refine g_subp [2, 3, 4, 5, 6] (lv' := [(0, .ref b), (1, .ref x), (2, .ref m), (3, .ref o), (4, .int xi)]) rfl ?_
      exact kk G5 bn _ _ (LW_mk hLB2 v2 v1 u3 v4 f5 u6) (by omega) (by (try simp only [Nat.add_assoc]); exact Nat.add_le_add_left (by decide) _) (by (try simp only [Nat.add_assoc]); exact Nat.add_le_add_left (by decide) _)
    · exfalso; obtain ⟨rfl, -⟩ := hp.2; revert c9; decide
set_option maxHeartbeats 4000000 in
set_option maxRecDepth 100000 in
theorem t_mount {nm : String} {κ : Kx} {l : Launch} {D : va_G} {cy : Nat → ClassId} {b L x m o bn k ce sl : Nat} {xs : Nat → Int32} {xi : Int32} {G : GG} (C : g_OK κ l D cy (yLw nm) 9 code room_1 (some .boolean)) (hCX : g_CX κ) (hSC : g_SC κ b L xs) (hL : L ≤ 2560) (hk : 5 * k + 5 ≤ L) (hx : xi = nI (5 * k)) (hbn : bn + 200 < 2 ^ 31) (hce : ce + 16 ≤ room_1.cells) (hsl : sl + 400 ≤ room_1.slots) (hlw : LW cy x m o G bn) (kk : ∀ G' bn' ce' sl', LW cy x m o G' bn' → bn' ≤ bn + 200 → ce' ≤ ce + 16 → sl' ≤ sl + 400 → PG κ 9 ce' sl' G' [(0, .ref b), (1, .ref x), (2, .ref m), (3, .ref o), (4, .int xi)] 1356 []) : PG κ 9 ce sl G [(0, .ref b), (1, .ref x), (2, .ref m), (3, .ref o), (4, .int xi)] 460 [] := by
  obtain ⟨G1, G2, ad, am, th, nt, nf, nc, nn, T, E, Cu, N, KT, KF, KC, F, z0, hX, hM, ⟨s1, s2, dj⟩, ⟨ho, ho1, ho2⟩, hT, hS, hC⟩ := hlw
  refine g_pc (pc' := 460) rfl ?_
  refine g_seg [(460, .aload_n 1, 1), (461, .aload_n 0, 1), (462, .iload 4, 2), (464, .iconst 1, 1), (465, .iadd, 1)] 466 [(0, .ref b), (1, .ref x), (2, .ref m), (3, .ref o), (4, .int xi)] [.int (xi + 1), .ref b, .ref x] C (by decide +kernel) rfl ?_
  refine g_sald (pc := 466) (j := (5 * k + 1)) C hSC (by rw [hx]; exact nI_add (5 * k) 1) (by omega) (by omega) (by decide +kernel) ?_
  refine g_seg [(467, .aload_n 0, 1), (468, .iload 4, 2), (470, .iconst 2, 1), (471, .iadd, 1)] 472 [(0, .ref b), (1, .ref x), (2, .ref m), (3, .ref o), (4, .int xi)] [.int (xi + 2), .ref b, .int (xs (5 * k + 1)), .ref x] C (by decide +kernel) rfl ?_
  refine g_sald (pc := 472) (j := (5 * k + 2)) C hSC (by rw [hx]; exact nI_add (5 * k) 2) (by omega) (by omega) (by decide +kernel) ?_
  refine g_seg [(473, .aload_n 3, 1)] 474 [(0, .ref b), (1, .ref x), (2, .ref m), (3, .ref o), (4, .int xi)] [.ref o, .int (xs (5 * k + 2)), .int (xs (5 * k + 1)), .ref x] C (by decide +kernel) rfl ?_
  refine g_callSW (pc := 474) C hCX mW_L_mount q437 (c_L_mount l D cy (xs (5 * k + 1)) (xs (5 * k + 2)) (c_X4_mount l D cy hX (xs (5 * k + 1)) (xs (5 * k + 2))) s1 hX.1.1 ho ho1 (fun E G' h => by rcases h.2 with ⟨rfl, -⟩ | ⟨rfl, -⟩ <;> simp)) rfl ⟨⟨(Nat.le_of_ble_eq_true rfl), (Nat.le_of_ble_eq_true rfl)⟩, by refine Nat.le_trans ?_ hce; (try simp only [Nat.add_assoc]); exact Nat.add_le_add_left (by decide) _, by refine Nat.le_trans ?_ hsl; (try simp only [Nat.add_assoc]); exact Nat.add_le_add_left (by decide) _⟩ rfl (Nat.le_of_ble_eq_true rfl) (by decide +kernel) (fun r G3 h9 => ?_)
  obtain ⟨v, rfl, h9⟩ := h9
  rcases h9 with ⟨rfl, z, G', hp, hf⟩ | ⟨e9, G', hp, hf, rfl⟩
  · obtain ⟨f1, f2, f3, f4, f5⟩ := fo_step hf s2 dj ⟨_, ho⟩ ho1 ho2
    show PG κ 9 (ce + kL_mount.cells) (sl + kL_mount.slots) G3 [(0, .ref b), (1, .ref x), (2, .ref m), (3, .ref o), (4, .int xi)] 477 [.int 0]
    refine g_seg [(477, .istore 5, 2), (479, .aload_n 2, 1), (480, .aload_n 0, 1), (481, .iload 4, 2), (483, .iconst 1, 1), (484, .iadd, 1)] 485 [(5, .int 0), (0, .ref b), (1, .ref x), (2, .ref m), (3, .ref o), (4, .int xi)] [.int (xi + 1), .ref b, .ref m] C (by decide +kernel) rfl ?_
    refine g_sald (pc := 485) (j := (5 * k + 1)) C hSC (by rw [hx]; exact nI_add (5 * k) 1) (by omega) (by omega) (by decide +kernel) ?_
    refine g_seg [(486, .aload_n 0, 1), (487, .iload 4, 2), (489, .iconst 2, 1), (490, .iadd, 1)] 491 [(5, .int 0), (0, .ref b), (1, .ref x), (2, .ref m), (3, .ref o), (4, .int xi)] [.int (xi + 2), .ref b, .int (xs (5 * k + 1)), .ref m] C (by decide +kernel) rfl ?_
    refine g_sald (pc := 491) (j := (5 * k + 2)) C hSC (by rw [hx]; exact nI_add (5 * k) 2) (by omega) (by omega) (by decide +kernel) ?_
    refine g_callV (pc := 492) C mV_X5_mount q747 (f2 _ _ hM.1.1) rfl rfl (Ctr.frame (c_X5_mount l D cy hM (xs (5 * k + 1)) (xs (5 * k + 2))) f2) rfl ⟨⟨(Nat.le_of_ble_eq_true rfl), (Nat.le_of_ble_eq_true rfl)⟩, by refine Nat.le_trans ?_ hce; (try simp only [Nat.add_assoc]); exact Nat.add_le_add_left (by decide) _, by refine Nat.le_trans ?_ hsl; (try simp only [Nat.add_assoc]); exact Nat.add_le_add_left (by decide) _⟩ rfl (Nat.le_of_ble_eq_true rfl) (by decide +kernel) (fun r G4 h4 => ?_)
    obtain ⟨G6, ⟨w9, rfl, hq⟩, hf4⟩ := h4
    obtain ⟨u2, u1, u3', u4, u6⟩ := fr_step hf4 f1 (dj_sym f3) f4 ho2
    have u3 := dj_sym u3'
    obtain ⟨hz, bn', hbn', hLB⟩ := a_mount_ok (ad := ad) (am := am) (nt := nt) (nf := nf) (nc := nc) (nn := nn) (T := T) (E := E) (Cu := Cu) (N := N) (KT := KT) (KF := KF) (KC := KC) (F := F) ⟨hM.2.2.1, hM.2.2.2.1⟩ hT hS hC hbn hp hq
    have hLB2 := hLB
    obtain ⟨ad2, am2, nt2, nf2, nc2, nn2, T2, E2, C2, N2, KT2, KF2, KC2, F2, hX2, hM2, -⟩ := hLB
    show PG κ 9 ((ce + kL_mount.cells) + kX5_mount.cells) ((sl + kL_mount.slots) + kX5_mount.slots) G4 [(5, .int 0), (0, .ref b), (1, .ref x), (2, .ref m), (3, .ref o), (4, .int xi)] 495 [.int w9]
    refine g_seg [(495, .istore 6, 2), (497, .aload_n 2, 1)] 498 [(6, .int w9), (5, .int 0), (0, .ref b), (1, .ref x), (2, .ref m), (3, .ref o), (4, .int xi)] [.ref m] C (by decide +kernel) rfl ?_
    refine g_callV (pc := 498) C mV_X5_thrown q697 (u2 _ _ hM2.1.1) rfl rfl (Ctr.frame (c_X5_thrown l D cy hM2) u2) rfl ⟨⟨(Nat.le_of_ble_eq_true rfl), (Nat.le_of_ble_eq_true rfl)⟩, by refine Nat.le_trans ?_ hce; (try simp only [Nat.add_assoc]); exact Nat.add_le_add_left (by decide) _, by refine Nat.le_trans ?_ hsl; (try simp only [Nat.add_assoc]); exact Nat.add_le_add_left (by decide) _⟩ rfl (Nat.le_of_ble_eq_true rfl) (by decide +kernel) (fun r G5 h5 => ?_)
    obtain ⟨G7, ⟨v7, rfl, rfl, rfl⟩, hf5⟩ := h5
    obtain ⟨v1, v2, v3, v4, v5⟩ := fr_step hf5 u1 (dj_sym u3) u4 u6
    show PG κ 9 (((ce + kL_mount.cells) + kX5_mount.cells) + kX5_thrown.cells) (((sl + kL_mount.slots) + kX5_mount.slots) + kX5_thrown.slots) G5 [(6, .int w9), (5, .int 0), (0, .ref b), (1, .ref x), (2, .ref m), (3, .ref o), (4, .int xi)] 501 [.int 0]
    refine g_seg [(501, .iload 5, 2)] 503 [(6, .int w9), (5, .int 0), (0, .ref b), (1, .ref x), (2, .ref m), (3, .ref o), (4, .int xi)] [.int 0, .int 0] C (by decide +kernel) rfl ?_
    refine g_icmp_eq (pc := 503) (off := 5) 508 C (by decide +kernel) (by decide) (fun _ => ?_) (fun c9 => absurd rfl c9)
    refine g_seg [(508, .iload 5, 2)] 510 [(6, .int w9), (5, .int 0), (0, .ref b), (1, .ref x), (2, .ref m), (3, .ref o), (4, .int xi)] [.int 0] C (by decide +kernel) rfl ?_
    refine g_if_ne (pc := 510) (off := 15) 525 C (by decide +kernel) (by decide) (fun c9 => absurd rfl c9) (fun _ => ?_)
    refine g_seg [(513, .aload_n 3, 1), (514, .iconst 0, 1)] 515 [(6, .int w9), (5, .int 0), (0, .ref b), (1, .ref x), (2, .ref m), (3, .ref o), (4, .int xi)] [.int 0, .ref o] C (by decide +kernel) rfl ?_
    refine g_laldM (pc := 515) C v4 rfl (by decide +kernel) ?_
    refine g_seg [(516, .iload 6, 2), (518, .i2l, 1), (519, .lcmp, 1)] 520 [(6, .int w9), (5, .int 0), (0, .ref b), (1, .ref x), (2, .ref m), (3, .ref o), (4, .int xi)] [.int (lg_cmp z.toInt64 w9.toInt64)] C (by decide +kernel) rfl ?_
    refine g_if_eq (pc := 520) (off := 5) 525 C (by decide +kernel) (by decide) (fun _ => ?_) (fun c9 => absurd (by rw [hz]; exact lg_same _) c9)
    refine g_seg [(525, .goto 831, 3)] 1356 [(6, .int w9), (5, .int 0), (0, .ref b), (1, .ref x), (2, .ref m), (3, .ref o), (4, .int xi)] [] C (by decide +kernel) rfl ?_
    refine g_subp [2, 3, 4, 5, 6] (lv' := [(0, .ref b), (1, .ref x), (2, .ref m), (3, .ref o), (4, .int xi)]) rfl ?_
    exact kk G5 bn' _ _ (LW_mk hLB2 v2 v1 u3 v4 f5 u6) hbn' (by (try simp only [Nat.add_assoc]); exact Nat.add_le_add_left (by decide) _) (by (try simp only [Nat.add_assoc]); exact Nat.add_le_add_left (by decide) _)
  · obtain ⟨f1, f2, f3, f4, f5⟩ := fr_step hf s2 dj ho ho1
    show PG κ 9 (ce + kL_mount.cells) (sl + kL_mount.slots) G3 [(0, .ref b), (1, .ref x), (2, .ref m), (3, .ref o), (4, .int xi)] 477 [.int (if e9 = "java/lang/IndexOutOfBoundsException" then 1 else (if e9 = "java/lang/IllegalStateException" then 2 else 0))]
    refine g_seg [(477, .istore 5, 2), (479, .aload_n 2, 1), (480, .aload_n 0, 1), (481, .iload 4, 2), (483, .iconst 1, 1), (484, .iadd, 1)] 485 [(5, .int (if e9 = "java/lang/IndexOutOfBoundsException" then 1 else (if e9 = "java/lang/IllegalStateException" then 2 else 0))), (0, .ref b), (1, .ref x), (2, .ref m), (3, .ref o), (4, .int xi)] [.int (xi + 1), .ref b, .ref m] C (by decide +kernel) rfl ?_
    refine g_sald (pc := 485) (j := (5 * k + 1)) C hSC (by rw [hx]; exact nI_add (5 * k) 1) (by omega) (by omega) (by decide +kernel) ?_
    refine g_seg [(486, .aload_n 0, 1), (487, .iload 4, 2), (489, .iconst 2, 1), (490, .iadd, 1)] 491 [(5, .int (if e9 = "java/lang/IndexOutOfBoundsException" then 1 else (if e9 = "java/lang/IllegalStateException" then 2 else 0))), (0, .ref b), (1, .ref x), (2, .ref m), (3, .ref o), (4, .int xi)] [.int (xi + 2), .ref b, .int (xs (5 * k + 1)), .ref m] C (by decide +kernel) rfl ?_
    refine g_sald (pc := 491) (j := (5 * k + 2)) C hSC (by rw [hx]; exact nI_add (5 * k) 2) (by omega) (by omega) (by decide +kernel) ?_
    refine g_callV (pc := 492) C mV_X5_mount q747 (f2 _ _ hM.1.1) rfl rfl (Ctr.frame (c_X5_mount l D cy hM (xs (5 * k + 1)) (xs (5 * k + 2))) f2) rfl ⟨⟨(Nat.le_of_ble_eq_true rfl), (Nat.le_of_ble_eq_true rfl)⟩, by refine Nat.le_trans ?_ hce; (try simp only [Nat.add_assoc]); exact Nat.add_le_add_left (by decide) _, by refine Nat.le_trans ?_ hsl; (try simp only [Nat.add_assoc]); exact Nat.add_le_add_left (by decide) _⟩ rfl (Nat.le_of_ble_eq_true rfl) (by decide +kernel) (fun r G4 h4 => ?_)
    obtain ⟨G6, ⟨w9, rfl, hq⟩, hf4⟩ := h4
    obtain ⟨u2, u1, u3', u4, u6⟩ := fr_step hf4 f1 (dj_sym f3) f4 ho2
    have u3 := dj_sym u3'
    have hLB := a_mount_bad (z := 0) (ad := ad) (am := am) (nt := nt) (nf := nf) (nc := nc) (nn := nn) (T := T) (E := E) (Cu := Cu) (N := N) (KT := KT) (KF := KF) (KC := KC) (F := F) ⟨hM.2.2.1, hM.2.2.2.1⟩ hT hS hC hbn hp hq
    have hLB2 := hLB
    obtain ⟨ad2, am2, nt2, nf2, nc2, nn2, T2, E2, C2, N2, KT2, KF2, KC2, F2, hX2, hM2, -⟩ := hLB
    show PG κ 9 ((ce + kL_mount.cells) + kX5_mount.cells) ((sl + kL_mount.slots) + kX5_mount.slots) G4 [(5, .int (if e9 = "java/lang/IndexOutOfBoundsException" then 1 else (if e9 = "java/lang/IllegalStateException" then 2 else 0))), (0, .ref b), (1, .ref x), (2, .ref m), (3, .ref o), (4, .int xi)] 495 [.int w9]
    refine g_seg [(495, .istore 6, 2), (497, .aload_n 2, 1)] 498 [(6, .int w9), (5, .int (if e9 = "java/lang/IndexOutOfBoundsException" then 1 else (if e9 = "java/lang/IllegalStateException" then 2 else 0))), (0, .ref b), (1, .ref x), (2, .ref m), (3, .ref o), (4, .int xi)] [.ref m] C (by decide +kernel) rfl ?_
    refine g_callV (pc := 498) C mV_X5_thrown q697 (u2 _ _ hM2.1.1) rfl rfl (Ctr.frame (c_X5_thrown l D cy hM2) u2) rfl ⟨⟨(Nat.le_of_ble_eq_true rfl), (Nat.le_of_ble_eq_true rfl)⟩, by refine Nat.le_trans ?_ hce; (try simp only [Nat.add_assoc]); exact Nat.add_le_add_left (by decide) _, by refine Nat.le_trans ?_ hsl; (try simp only [Nat.add_assoc]); exact Nat.add_le_add_left (by decide) _⟩ rfl (Nat.le_of_ble_eq_true rfl) (by decide +kernel) (fun r G5 h5 => ?_)
    obtain ⟨G7, ⟨v7, rfl, rfl, rfl⟩, hf5⟩ := h5
    obtain ⟨v1, v2, v3, v4, v5⟩ := fr_step hf5 u1 (dj_sym u3) u4 u6
    show PG κ 9 (((ce + kL_mount.cells) + kX5_mount.cells) + kX5_thrown.cells) (((sl + kL_mount.slots) + kX5_mount.slots) + kX5_thrown.slots) G5 [(6, .int w9), (5, .int (if e9 = "java/lang/IndexOutOfBoundsException" then 1 else (if e9 = "java/lang/IllegalStateException" then 2 else 0))), (0, .ref b), (1, .ref x), (2, .ref m), (3, .ref o), (4, .int xi)] 501 [.int (if e9 = "java/lang/IndexOutOfBoundsException" then 1 else (if e9 = "java/lang/IllegalStateException" then 2 else 0))]
    refine g_seg [(501, .iload 5, 2)] 503 [(6, .int w9), (5, .int (if e9 = "java/lang/IndexOutOfBoundsException" then 1 else (if e9 = "java/lang/IllegalStateException" then 2 else 0))), (0, .ref b), (1, .ref x), (2, .ref m), (3, .ref o), (4, .int xi)] [.int (if e9 = "java/lang/IndexOutOfBoundsException" then 1 else (if e9 = "java/lang/IllegalStateException" then 2 else 0)), .int (if e9 = "java/lang/IndexOutOfBoundsException" then 1 else (if e9 = "java/lang/IllegalStateException" then 2 else 0))] C (by decide +kernel) rfl ?_
    refine g_icmp_eq (pc := 503) (off := 5) 508 C (by decide +kernel) (by decide) (fun _ => ?_) (fun c9 => absurd rfl c9)
    refine g_seg [(508, .iload 5, 2)] 510 [(6, .int w9), (5, .int (if e9 = "java/lang/IndexOutOfBoundsException" then 1 else (if e9 = "java/lang/IllegalStateException" then 2 else 0))), (0, .ref b), (1, .ref x), (2, .ref m), (3, .ref o), (4, .int xi)] [.int (if e9 = "java/lang/IndexOutOfBoundsException" then 1 else (if e9 = "java/lang/IllegalStateException" then 2 else 0))] C (by decide +kernel) rfl ?_
    refine g_if_ne (pc := 510) (off := 15) 525 C (by decide +kernel) (by decide) (fun _ => ?_) (fun c9 => ?_)
    · refine g_seg [(525, .goto 831, 3)] 1356 [(6, .int w9), (5, .int (if e9 = "java/lang/IndexOutOfBoundsException" then 1 else (if e9 = "java/lang/IllegalStateException" then 2 else 0))), (0, .ref b), (1, .ref x), (2, .ref m), (3, .ref o), (4, .int xi)] [] C (by decide +kernel) rfl ?_
      refine g_subp [2, 3, 4, 5, 6] (lv' := [(0, .ref b), (1, .ref x), (2, .ref m), (3, .ref o), (4, .int xi)]) rfl ?_
      exact kk G5 bn _ _ (LW_mk hLB2 v2 v1 u3 v4 f5 u6) (by omega) (by (try simp only [Nat.add_assoc]); exact Nat.add_le_add_left (by decide) _) (by (try simp only [Nat.add_assoc]); exact Nat.add_le_add_left (by decide) _)
    · exfalso; rcases hp.2 with ⟨rfl, -⟩ | ⟨rfl, -⟩ <;> revert c9 <;> decide
set_option maxHeartbeats 4000000 in
set_option maxRecDepth 100000 in
theorem t_cue {nm : String} {κ : Kx} {l : Launch} {D : va_G} {cy : Nat → ClassId} {b L x m o bn k ce sl : Nat} {xs : Nat → Int32} {xi : Int32} {G : GG} (C : g_OK κ l D cy (yLw nm) 9 code room_1 (some .boolean)) (hCX : g_CX κ) (hSC : g_SC κ b L xs) (hL : L ≤ 2560) (hk : 5 * k + 5 ≤ L) (hx : xi = nI (5 * k)) (hbn : bn + 200 < 2 ^ 31) (hce : ce + 16 ≤ room_1.cells) (hsl : sl + 400 ≤ room_1.slots) (hlw : LW cy x m o G bn) (kk : ∀ G' bn' ce' sl', LW cy x m o G' bn' → bn' ≤ bn + 200 → ce' ≤ ce + 16 → sl' ≤ sl + 400 → PG κ 9 ce' sl' G' [(0, .ref b), (1, .ref x), (2, .ref m), (3, .ref o), (4, .int xi)] 1356 []) : PG κ 9 ce sl G [(0, .ref b), (1, .ref x), (2, .ref m), (3, .ref o), (4, .int xi)] 528 [] := by
  obtain ⟨G1, G2, ad, am, th, nt, nf, nc, nn, T, E, Cu, N, KT, KF, KC, F, z0, hX, hM, ⟨s1, s2, dj⟩, ⟨ho, ho1, ho2⟩, hT, hS, hC⟩ := hlw
  refine g_pc (pc' := 528) rfl ?_
  refine g_seg [(528, .aload_n 1, 1), (529, .aload_n 0, 1), (530, .iload 4, 2), (532, .iconst 1, 1), (533, .iadd, 1)] 534 [(0, .ref b), (1, .ref x), (2, .ref m), (3, .ref o), (4, .int xi)] [.int (xi + 1), .ref b, .ref x] C (by decide +kernel) rfl ?_
  refine g_sald (pc := 534) (j := (5 * k + 1)) C hSC (by rw [hx]; exact nI_add (5 * k) 1) (by omega) (by omega) (by decide +kernel) ?_
  refine g_seg [(535, .aload_n 0, 1), (536, .iload 4, 2), (538, .iconst 2, 1), (539, .iadd, 1)] 540 [(0, .ref b), (1, .ref x), (2, .ref m), (3, .ref o), (4, .int xi)] [.int (xi + 2), .ref b, .int (xs (5 * k + 1)), .ref x] C (by decide +kernel) rfl ?_
  refine g_sald (pc := 540) (j := (5 * k + 2)) C hSC (by rw [hx]; exact nI_add (5 * k) 2) (by omega) (by omega) (by decide +kernel) ?_
  refine g_seg [(541, .aload_n 0, 1), (542, .iload 4, 2), (544, .iconst 3, 1), (545, .iadd, 1)] 546 [(0, .ref b), (1, .ref x), (2, .ref m), (3, .ref o), (4, .int xi)] [.int (xi + 3), .ref b, .int (xs (5 * k + 2)), .int (xs (5 * k + 1)), .ref x] C (by decide +kernel) rfl ?_
  refine g_sald (pc := 546) (j := (5 * k + 3)) C hSC (by rw [hx]; exact nI_add (5 * k) 3) (by omega) (by omega) (by decide +kernel) ?_
  refine g_seg [(547, .aload_n 0, 1), (548, .iload 4, 2), (550, .iconst 4, 1), (551, .iadd, 1)] 552 [(0, .ref b), (1, .ref x), (2, .ref m), (3, .ref o), (4, .int xi)] [.int (xi + 4), .ref b, .int (xs (5 * k + 3)), .int (xs (5 * k + 2)), .int (xs (5 * k + 1)), .ref x] C (by decide +kernel) rfl ?_
  refine g_sald (pc := 552) (j := (5 * k + 4)) C hSC (by rw [hx]; exact nI_add (5 * k) 4) (by omega) (by omega) (by decide +kernel) ?_
  refine g_seg [(553, .aload_n 3, 1)] 554 [(0, .ref b), (1, .ref x), (2, .ref m), (3, .ref o), (4, .int xi)] [.ref o, .int (xs (5 * k + 4)), .int (xs (5 * k + 3)), .int (xs (5 * k + 2)), .int (xs (5 * k + 1)), .ref x] C (by decide +kernel) rfl ?_
  refine g_callSW (pc := 554) C hCX mW_L_cue q458 (c_L_cue l D cy (xs (5 * k + 1)) (xs (5 * k + 2)) (xs (5 * k + 3)) (xs (5 * k + 4)) (c_X4_cue l D cy hX (xs (5 * k + 1)) (xs (5 * k + 2)) (xs (5 * k + 3)) (xs (5 * k + 4))) s1 hX.1.1 ho ho1 (fun E G' h => by rcases h.2 with ⟨rfl, -⟩ | ⟨rfl, -⟩ | ⟨rfl, -⟩ <;> simp)) rfl ⟨⟨(Nat.le_of_ble_eq_true rfl), (Nat.le_of_ble_eq_true rfl)⟩, by refine Nat.le_trans ?_ hce; (try simp only [Nat.add_assoc]); exact Nat.add_le_add_left (by decide) _, by refine Nat.le_trans ?_ hsl; (try simp only [Nat.add_assoc]); exact Nat.add_le_add_left (by decide) _⟩ rfl (Nat.le_of_ble_eq_true rfl) (by decide +kernel) (fun r G3 h9 => ?_)
  obtain ⟨v, rfl, h9⟩ := h9
  rcases h9 with ⟨rfl, z, G', hp, hf⟩ | ⟨e9, G', hp, hf, rfl⟩
  · obtain ⟨f1, f2, f3, f4, f5⟩ := fo_step hf s2 dj ⟨_, ho⟩ ho1 ho2
    show PG κ 9 (ce + kL_cue.cells) (sl + kL_cue.slots) G3 [(0, .ref b), (1, .ref x), (2, .ref m), (3, .ref o), (4, .int xi)] 557 [.int 0]
    refine g_seg [(557, .istore 5, 2), (559, .aload_n 2, 1), (560, .aload_n 0, 1), (561, .iload 4, 2), (563, .iconst 1, 1), (564, .iadd, 1)] 565 [(5, .int 0), (0, .ref b), (1, .ref x), (2, .ref m), (3, .ref o), (4, .int xi)] [.int (xi + 1), .ref b, .ref m] C (by decide +kernel) rfl ?_
    refine g_sald (pc := 565) (j := (5 * k + 1)) C hSC (by rw [hx]; exact nI_add (5 * k) 1) (by omega) (by omega) (by decide +kernel) ?_
    refine g_seg [(566, .aload_n 0, 1), (567, .iload 4, 2), (569, .iconst 2, 1), (570, .iadd, 1)] 571 [(5, .int 0), (0, .ref b), (1, .ref x), (2, .ref m), (3, .ref o), (4, .int xi)] [.int (xi + 2), .ref b, .int (xs (5 * k + 1)), .ref m] C (by decide +kernel) rfl ?_
    refine g_sald (pc := 571) (j := (5 * k + 2)) C hSC (by rw [hx]; exact nI_add (5 * k) 2) (by omega) (by omega) (by decide +kernel) ?_
    refine g_seg [(572, .aload_n 0, 1), (573, .iload 4, 2), (575, .iconst 3, 1), (576, .iadd, 1)] 577 [(5, .int 0), (0, .ref b), (1, .ref x), (2, .ref m), (3, .ref o), (4, .int xi)] [.int (xi + 3), .ref b, .int (xs (5 * k + 2)), .int (xs (5 * k + 1)), .ref m] C (by decide +kernel) rfl ?_
    refine g_sald (pc := 577) (j := (5 * k + 3)) C hSC (by rw [hx]; exact nI_add (5 * k) 3) (by omega) (by omega) (by decide +kernel) ?_
    refine g_seg [(578, .aload_n 0, 1), (579, .iload 4, 2), (581, .iconst 4, 1), (582, .iadd, 1)] 583 [(5, .int 0), (0, .ref b), (1, .ref x), (2, .ref m), (3, .ref o), (4, .int xi)] [.int (xi + 4), .ref b, .int (xs (5 * k + 3)), .int (xs (5 * k + 2)), .int (xs (5 * k + 1)), .ref m] C (by decide +kernel) rfl ?_
    refine g_sald (pc := 583) (j := (5 * k + 4)) C hSC (by rw [hx]; exact nI_add (5 * k) 4) (by omega) (by omega) (by decide +kernel) ?_
    refine g_callV (pc := 584) C mV_X5_cue q767 (f2 _ _ hM.1.1) rfl rfl (Ctr.frame (c_X5_cue l D cy hM (xs (5 * k + 1)) (xs (5 * k + 2)) (xs (5 * k + 3)) (xs (5 * k + 4))) f2) rfl ⟨⟨(Nat.le_of_ble_eq_true rfl), (Nat.le_of_ble_eq_true rfl)⟩, by refine Nat.le_trans ?_ hce; (try simp only [Nat.add_assoc]); exact Nat.add_le_add_left (by decide) _, by refine Nat.le_trans ?_ hsl; (try simp only [Nat.add_assoc]); exact Nat.add_le_add_left (by decide) _⟩ rfl (Nat.le_of_ble_eq_true rfl) (by decide +kernel) (fun r G4 h4 => ?_)
    obtain ⟨G6, ⟨w9, rfl, hq⟩, hf4⟩ := h4
    obtain ⟨u2, u1, u3', u4, u6⟩ := fr_step hf4 f1 (dj_sym f3) f4 ho2
    have u3 := dj_sym u3'
    obtain ⟨hz, bn', hbn', hLB⟩ := a_cue_ok (ad := ad) (am := am) (nt := nt) (nf := nf) (nc := nc) (nn := nn) (T := T) (E := E) (Cu := Cu) (N := N) (KT := KT) (KF := KF) (KC := KC) (F := F) ⟨hM.2.2.1, hM.2.2.2.1⟩ hT hS hC hbn hp hq
    have hLB2 := hLB
    obtain ⟨ad2, am2, nt2, nf2, nc2, nn2, T2, E2, C2, N2, KT2, KF2, KC2, F2, hX2, hM2, -⟩ := hLB
    show PG κ 9 ((ce + kL_cue.cells) + kX5_cue.cells) ((sl + kL_cue.slots) + kX5_cue.slots) G4 [(5, .int 0), (0, .ref b), (1, .ref x), (2, .ref m), (3, .ref o), (4, .int xi)] 587 [.int w9]
    refine g_seg [(587, .istore 6, 2), (589, .aload_n 2, 1)] 590 [(6, .int w9), (5, .int 0), (0, .ref b), (1, .ref x), (2, .ref m), (3, .ref o), (4, .int xi)] [.ref m] C (by decide +kernel) rfl ?_
    refine g_callV (pc := 590) C mV_X5_thrown q697 (u2 _ _ hM2.1.1) rfl rfl (Ctr.frame (c_X5_thrown l D cy hM2) u2) rfl ⟨⟨(Nat.le_of_ble_eq_true rfl), (Nat.le_of_ble_eq_true rfl)⟩, by refine Nat.le_trans ?_ hce; (try simp only [Nat.add_assoc]); exact Nat.add_le_add_left (by decide) _, by refine Nat.le_trans ?_ hsl; (try simp only [Nat.add_assoc]); exact Nat.add_le_add_left (by decide) _⟩ rfl (Nat.le_of_ble_eq_true rfl) (by decide +kernel) (fun r G5 h5 => ?_)
    obtain ⟨G7, ⟨v7, rfl, rfl, rfl⟩, hf5⟩ := h5
    obtain ⟨v1, v2, v3, v4, v5⟩ := fr_step hf5 u1 (dj_sym u3) u4 u6
    show PG κ 9 (((ce + kL_cue.cells) + kX5_cue.cells) + kX5_thrown.cells) (((sl + kL_cue.slots) + kX5_cue.slots) + kX5_thrown.slots) G5 [(6, .int w9), (5, .int 0), (0, .ref b), (1, .ref x), (2, .ref m), (3, .ref o), (4, .int xi)] 593 [.int 0]
    refine g_seg [(593, .iload 5, 2)] 595 [(6, .int w9), (5, .int 0), (0, .ref b), (1, .ref x), (2, .ref m), (3, .ref o), (4, .int xi)] [.int 0, .int 0] C (by decide +kernel) rfl ?_
    refine g_icmp_eq (pc := 595) (off := 5) 600 C (by decide +kernel) (by decide) (fun _ => ?_) (fun c9 => absurd rfl c9)
    refine g_seg [(600, .iload 5, 2)] 602 [(6, .int w9), (5, .int 0), (0, .ref b), (1, .ref x), (2, .ref m), (3, .ref o), (4, .int xi)] [.int 0] C (by decide +kernel) rfl ?_
    refine g_if_ne (pc := 602) (off := 15) 617 C (by decide +kernel) (by decide) (fun c9 => absurd rfl c9) (fun _ => ?_)
    refine g_seg [(605, .aload_n 3, 1), (606, .iconst 0, 1)] 607 [(6, .int w9), (5, .int 0), (0, .ref b), (1, .ref x), (2, .ref m), (3, .ref o), (4, .int xi)] [.int 0, .ref o] C (by decide +kernel) rfl ?_
    refine g_laldM (pc := 607) C v4 rfl (by decide +kernel) ?_
    refine g_seg [(608, .iload 6, 2), (610, .i2l, 1), (611, .lcmp, 1)] 612 [(6, .int w9), (5, .int 0), (0, .ref b), (1, .ref x), (2, .ref m), (3, .ref o), (4, .int xi)] [.int (lg_cmp z.toInt64 w9.toInt64)] C (by decide +kernel) rfl ?_
    refine g_if_eq (pc := 612) (off := 5) 617 C (by decide +kernel) (by decide) (fun _ => ?_) (fun c9 => absurd (by rw [hz]; exact lg_same _) c9)
    refine g_seg [(617, .goto 739, 3)] 1356 [(6, .int w9), (5, .int 0), (0, .ref b), (1, .ref x), (2, .ref m), (3, .ref o), (4, .int xi)] [] C (by decide +kernel) rfl ?_
    refine g_subp [2, 3, 4, 5, 6] (lv' := [(0, .ref b), (1, .ref x), (2, .ref m), (3, .ref o), (4, .int xi)]) rfl ?_
    exact kk G5 bn' _ _ (LW_mk hLB2 v2 v1 u3 v4 f5 u6) hbn' (by (try simp only [Nat.add_assoc]); exact Nat.add_le_add_left (by decide) _) (by (try simp only [Nat.add_assoc]); exact Nat.add_le_add_left (by decide) _)
  · obtain ⟨f1, f2, f3, f4, f5⟩ := fr_step hf s2 dj ho ho1
    show PG κ 9 (ce + kL_cue.cells) (sl + kL_cue.slots) G3 [(0, .ref b), (1, .ref x), (2, .ref m), (3, .ref o), (4, .int xi)] 557 [.int (if e9 = "java/lang/IndexOutOfBoundsException" then 1 else (if e9 = "java/lang/IllegalArgumentException" then 2 else (if e9 = "java/lang/IllegalStateException" then 3 else 0)))]
    refine g_seg [(557, .istore 5, 2), (559, .aload_n 2, 1), (560, .aload_n 0, 1), (561, .iload 4, 2), (563, .iconst 1, 1), (564, .iadd, 1)] 565 [(5, .int (if e9 = "java/lang/IndexOutOfBoundsException" then 1 else (if e9 = "java/lang/IllegalArgumentException" then 2 else (if e9 = "java/lang/IllegalStateException" then 3 else 0)))), (0, .ref b), (1, .ref x), (2, .ref m), (3, .ref o), (4, .int xi)] [.int (xi + 1), .ref b, .ref m] C (by decide +kernel) rfl ?_
    refine g_sald (pc := 565) (j := (5 * k + 1)) C hSC (by rw [hx]; exact nI_add (5 * k) 1) (by omega) (by omega) (by decide +kernel) ?_
    refine g_seg [(566, .aload_n 0, 1), (567, .iload 4, 2), (569, .iconst 2, 1), (570, .iadd, 1)] 571 [(5, .int (if e9 = "java/lang/IndexOutOfBoundsException" then 1 else (if e9 = "java/lang/IllegalArgumentException" then 2 else (if e9 = "java/lang/IllegalStateException" then 3 else 0)))), (0, .ref b), (1, .ref x), (2, .ref m), (3, .ref o), (4, .int xi)] [.int (xi + 2), .ref b, .int (xs (5 * k + 1)), .ref m] C (by decide +kernel) rfl ?_
    refine g_sald (pc := 571) (j := (5 * k + 2)) C hSC (by rw [hx]; exact nI_add (5 * k) 2) (by omega) (by omega) (by decide +kernel) ?_
    refine g_seg [(572, .aload_n 0, 1), (573, .iload 4, 2), (575, .iconst 3, 1), (576, .iadd, 1)] 577 [(5, .int (if e9 = "java/lang/IndexOutOfBoundsException" then 1 else (if e9 = "java/lang/IllegalArgumentException" then 2 else (if e9 = "java/lang/IllegalStateException" then 3 else 0)))), (0, .ref b), (1, .ref x), (2, .ref m), (3, .ref o), (4, .int xi)] [.int (xi + 3), .ref b, .int (xs (5 * k + 2)), .int (xs (5 * k + 1)), .ref m] C (by decide +kernel) rfl ?_
    refine g_sald (pc := 577) (j := (5 * k + 3)) C hSC (by rw [hx]; exact nI_add (5 * k) 3) (by omega) (by omega) (by decide +kernel) ?_
    refine g_seg [(578, .aload_n 0, 1), (579, .iload 4, 2), (581, .iconst 4, 1), (582, .iadd, 1)] 583 [(5, .int (if e9 = "java/lang/IndexOutOfBoundsException" then 1 else (if e9 = "java/lang/IllegalArgumentException" then 2 else (if e9 = "java/lang/IllegalStateException" then 3 else 0)))), (0, .ref b), (1, .ref x), (2, .ref m), (3, .ref o), (4, .int xi)] [.int (xi + 4), .ref b, .int (xs (5 * k + 3)), .int (xs (5 * k + 2)), .int (xs (5 * k + 1)), .ref m] C (by decide +kernel) rfl ?_
    refine g_sald (pc := 583) (j := (5 * k + 4)) C hSC (by rw [hx]; exact nI_add (5 * k) 4) (by omega) (by omega) (by decide +kernel) ?_
    refine g_callV (pc := 584) C mV_X5_cue q767 (f2 _ _ hM.1.1) rfl rfl (Ctr.frame (c_X5_cue l D cy hM (xs (5 * k + 1)) (xs (5 * k + 2)) (xs (5 * k + 3)) (xs (5 * k + 4))) f2) rfl ⟨⟨(Nat.le_of_ble_eq_true rfl), (Nat.le_of_ble_eq_true rfl)⟩, by refine Nat.le_trans ?_ hce; (try simp only [Nat.add_assoc]); exact Nat.add_le_add_left (by decide) _, by refine Nat.le_trans ?_ hsl; (try simp only [Nat.add_assoc]); exact Nat.add_le_add_left (by decide) _⟩ rfl (Nat.le_of_ble_eq_true rfl) (by decide +kernel) (fun r G4 h4 => ?_)
    obtain ⟨G6, ⟨w9, rfl, hq⟩, hf4⟩ := h4
    obtain ⟨u2, u1, u3', u4, u6⟩ := fr_step hf4 f1 (dj_sym f3) f4 ho2
    have u3 := dj_sym u3'
    have hLB := a_cue_bad (z := 0) (ad := ad) (am := am) (nt := nt) (nf := nf) (nc := nc) (nn := nn) (T := T) (E := E) (Cu := Cu) (N := N) (KT := KT) (KF := KF) (KC := KC) (F := F) ⟨hM.2.2.1, hM.2.2.2.1⟩ hT hS hC hbn hp hq
    have hLB2 := hLB
    obtain ⟨ad2, am2, nt2, nf2, nc2, nn2, T2, E2, C2, N2, KT2, KF2, KC2, F2, hX2, hM2, -⟩ := hLB
    show PG κ 9 ((ce + kL_cue.cells) + kX5_cue.cells) ((sl + kL_cue.slots) + kX5_cue.slots) G4 [(5, .int (if e9 = "java/lang/IndexOutOfBoundsException" then 1 else (if e9 = "java/lang/IllegalArgumentException" then 2 else (if e9 = "java/lang/IllegalStateException" then 3 else 0)))), (0, .ref b), (1, .ref x), (2, .ref m), (3, .ref o), (4, .int xi)] 587 [.int w9]
    refine g_seg [(587, .istore 6, 2), (589, .aload_n 2, 1)] 590 [(6, .int w9), (5, .int (if e9 = "java/lang/IndexOutOfBoundsException" then 1 else (if e9 = "java/lang/IllegalArgumentException" then 2 else (if e9 = "java/lang/IllegalStateException" then 3 else 0)))), (0, .ref b), (1, .ref x), (2, .ref m), (3, .ref o), (4, .int xi)] [.ref m] C (by decide +kernel) rfl ?_
    refine g_callV (pc := 590) C mV_X5_thrown q697 (u2 _ _ hM2.1.1) rfl rfl (Ctr.frame (c_X5_thrown l D cy hM2) u2) rfl ⟨⟨(Nat.le_of_ble_eq_true rfl), (Nat.le_of_ble_eq_true rfl)⟩, by refine Nat.le_trans ?_ hce; (try simp only [Nat.add_assoc]); exact Nat.add_le_add_left (by decide) _, by refine Nat.le_trans ?_ hsl; (try simp only [Nat.add_assoc]); exact Nat.add_le_add_left (by decide) _⟩ rfl (Nat.le_of_ble_eq_true rfl) (by decide +kernel) (fun r G5 h5 => ?_)
    obtain ⟨G7, ⟨v7, rfl, rfl, rfl⟩, hf5⟩ := h5
    obtain ⟨v1, v2, v3, v4, v5⟩ := fr_step hf5 u1 (dj_sym u3) u4 u6
    show PG κ 9 (((ce + kL_cue.cells) + kX5_cue.cells) + kX5_thrown.cells) (((sl + kL_cue.slots) + kX5_cue.slots) + kX5_thrown.slots) G5 [(6, .int w9), (5, .int (if e9 = "java/lang/IndexOutOfBoundsException" then 1 else (if e9 = "java/lang/IllegalArgumentException" then 2 else (if e9 = "java/lang/IllegalStateException" then 3 else 0)))), (0, .ref b), (1, .ref x), (2, .ref m), (3, .ref o), (4, .int xi)] 593 [.int (if e9 = "java/lang/IndexOutOfBoundsException" then 1 else (if e9 = "java/lang/IllegalArgumentException" then 2 else (if e9 = "java/lang/IllegalStateException" then 3 else 0)))]
    refine g_seg [(593, .iload 5, 2)] 595 [(6, .int w9), (5, .int (if e9 = "java/lang/IndexOutOfBoundsException" then 1 else (if e9 = "java/lang/IllegalArgumentException" then 2 else (if e9 = "java/lang/IllegalStateException" then 3 else 0)))), (0, .ref b), (1, .ref x), (2, .ref m), (3, .ref o), (4, .int xi)] [.int (if e9 = "java/lang/IndexOutOfBoundsException" then 1 else (if e9 = "java/lang/IllegalArgumentException" then 2 else (if e9 = "java/lang/IllegalStateException" then 3 else 0))), .int (if e9 = "java/lang/IndexOutOfBoundsException" then 1 else (if e9 = "java/lang/IllegalArgumentException" then 2 else (if e9 = "java/lang/IllegalStateException" then 3 else 0)))] C (by decide +kernel) rfl ?_
    refine g_icmp_eq (pc := 595) (off := 5) 600 C (by decide +kernel) (by decide) (fun _ => ?_) (fun c9 => absurd rfl c9)
    refine g_seg [(600, .iload 5, 2)] 602 [(6, .int w9), (5, .int (if e9 = "java/lang/IndexOutOfBoundsException" then 1 else (if e9 = "java/lang/IllegalArgumentException" then 2 else (if e9 = "java/lang/IllegalStateException" then 3 else 0)))), (0, .ref b), (1, .ref x), (2, .ref m), (3, .ref o), (4, .int xi)] [.int (if e9 = "java/lang/IndexOutOfBoundsException" then 1 else (if e9 = "java/lang/IllegalArgumentException" then 2 else (if e9 = "java/lang/IllegalStateException" then 3 else 0)))] C (by decide +kernel) rfl ?_
    refine g_if_ne (pc := 602) (off := 15) 617 C (by decide +kernel) (by decide) (fun _ => ?_) (fun c9 => ?_)
    · refine g_seg [(617, .goto 739, 3)] 1356 [(6, .int w9), (5, .int (if e9 = "java/lang/IndexOutOfBoundsException" then 1 else (if e9 = "java/lang/IllegalArgumentException" then 2 else (if e9 = "java/lang/IllegalStateException" then 3 else 0)))), (0, .ref b), (1, .ref x), (2, .ref m), (3, .ref o), (4, .int xi)] [] C (by decide +kernel) rfl ?_
      refine g_subp [2, 3, 4, 5, 6] (lv' := [(0, .ref b), (1, .ref x), (2, .ref m), (3, .ref o), (4, .int xi)]) rfl ?_
      exact kk G5 bn _ _ (LW_mk hLB2 v2 v1 u3 v4 f5 u6) (by omega) (by (try simp only [Nat.add_assoc]); exact Nat.add_le_add_left (by decide) _) (by (try simp only [Nat.add_assoc]); exact Nat.add_le_add_left (by decide) _)
    · exfalso; rcases hp.2 with ⟨rfl, -⟩ | ⟨rfl, -⟩ | ⟨rfl, -⟩ <;> revert c9 <;> decide
set_option maxHeartbeats 4000000 in
set_option maxRecDepth 100000 in
theorem t_trapeze {nm : String} {κ : Kx} {l : Launch} {D : va_G} {cy : Nat → ClassId} {b L x m o bn k ce sl : Nat} {xs : Nat → Int32} {xi : Int32} {G : GG} (C : g_OK κ l D cy (yLw nm) 9 code room_1 (some .boolean)) (hCX : g_CX κ) (hSC : g_SC κ b L xs) (hL : L ≤ 2560) (hk : 5 * k + 5 ≤ L) (hx : xi = nI (5 * k)) (hbn : bn + 200 < 2 ^ 31) (hce : ce + 16 ≤ room_1.cells) (hsl : sl + 400 ≤ room_1.slots) (hlw : LW cy x m o G bn) (kk : ∀ G' bn' ce' sl', LW cy x m o G' bn' → bn' ≤ bn + 200 → ce' ≤ ce + 16 → sl' ≤ sl + 400 → PG κ 9 ce' sl' G' [(0, .ref b), (1, .ref x), (2, .ref m), (3, .ref o), (4, .int xi)] 1356 []) : PG κ 9 ce sl G [(0, .ref b), (1, .ref x), (2, .ref m), (3, .ref o), (4, .int xi)] 620 [] := by
  obtain ⟨G1, G2, ad, am, th, nt, nf, nc, nn, T, E, Cu, N, KT, KF, KC, F, z0, hX, hM, ⟨s1, s2, dj⟩, ⟨ho, ho1, ho2⟩, hT, hS, hC⟩ := hlw
  refine g_pc (pc' := 620) rfl ?_
  refine g_seg [(620, .aload_n 1, 1), (621, .aload_n 0, 1), (622, .iload 4, 2), (624, .iconst 1, 1), (625, .iadd, 1)] 626 [(0, .ref b), (1, .ref x), (2, .ref m), (3, .ref o), (4, .int xi)] [.int (xi + 1), .ref b, .ref x] C (by decide +kernel) rfl ?_
  refine g_sald (pc := 626) (j := (5 * k + 1)) C hSC (by rw [hx]; exact nI_add (5 * k) 1) (by omega) (by omega) (by decide +kernel) ?_
  refine g_seg [(627, .aload_n 0, 1), (628, .iload 4, 2), (630, .iconst 2, 1), (631, .iadd, 1)] 632 [(0, .ref b), (1, .ref x), (2, .ref m), (3, .ref o), (4, .int xi)] [.int (xi + 2), .ref b, .int (xs (5 * k + 1)), .ref x] C (by decide +kernel) rfl ?_
  refine g_sald (pc := 632) (j := (5 * k + 2)) C hSC (by rw [hx]; exact nI_add (5 * k) 2) (by omega) (by omega) (by decide +kernel) ?_
  refine g_seg [(633, .aload_n 3, 1)] 634 [(0, .ref b), (1, .ref x), (2, .ref m), (3, .ref o), (4, .int xi)] [.ref o, .int (xs (5 * k + 2)), .int (xs (5 * k + 1)), .ref x] C (by decide +kernel) rfl ?_
  refine g_callSW (pc := 634) C hCX mW_L_trapeze q497 (c_L_trapeze l D cy (xs (5 * k + 1)) (xs (5 * k + 2)) (c_X4_trapeze l D cy hX hT.1 (xs (5 * k + 1)) (xs (5 * k + 2))) s1 hX.1.1 ho ho1 (fun E G' h => h.2.1)) rfl ⟨⟨(Nat.le_of_ble_eq_true rfl), (Nat.le_of_ble_eq_true rfl)⟩, by refine Nat.le_trans ?_ hce; (try simp only [Nat.add_assoc]); exact Nat.add_le_add_left (by decide) _, by refine Nat.le_trans ?_ hsl; (try simp only [Nat.add_assoc]); exact Nat.add_le_add_left (by decide) _⟩ rfl (Nat.le_of_ble_eq_true rfl) (by decide +kernel) (fun r G3 h9 => ?_)
  obtain ⟨v, rfl, h9⟩ := h9
  rcases h9 with ⟨rfl, z, G', hp, hf⟩ | ⟨e9, G', hp, hf, rfl⟩
  · obtain ⟨f1, f2, f3, f4, f5⟩ := fo_step hf s2 dj ⟨_, ho⟩ ho1 ho2
    show PG κ 9 (ce + kL_trapeze.cells) (sl + kL_trapeze.slots) G3 [(0, .ref b), (1, .ref x), (2, .ref m), (3, .ref o), (4, .int xi)] 637 [.int 0]
    refine g_seg [(637, .istore 5, 2), (639, .aload_n 2, 1), (640, .aload_n 0, 1), (641, .iload 4, 2), (643, .iconst 1, 1), (644, .iadd, 1)] 645 [(5, .int 0), (0, .ref b), (1, .ref x), (2, .ref m), (3, .ref o), (4, .int xi)] [.int (xi + 1), .ref b, .ref m] C (by decide +kernel) rfl ?_
    refine g_sald (pc := 645) (j := (5 * k + 1)) C hSC (by rw [hx]; exact nI_add (5 * k) 1) (by omega) (by omega) (by decide +kernel) ?_
    refine g_seg [(646, .aload_n 0, 1), (647, .iload 4, 2), (649, .iconst 2, 1), (650, .iadd, 1)] 651 [(5, .int 0), (0, .ref b), (1, .ref x), (2, .ref m), (3, .ref o), (4, .int xi)] [.int (xi + 2), .ref b, .int (xs (5 * k + 1)), .ref m] C (by decide +kernel) rfl ?_
    refine g_sald (pc := 651) (j := (5 * k + 2)) C hSC (by rw [hx]; exact nI_add (5 * k) 2) (by omega) (by omega) (by decide +kernel) ?_
    refine g_callV (pc := 652) C mV_X5_trapeze q771 (f2 _ _ hM.1.1) rfl rfl (Ctr.frame (c_X5_trapeze l D cy hM hT.1 (xs (5 * k + 1)) (xs (5 * k + 2))) f2) rfl ⟨⟨(Nat.le_of_ble_eq_true rfl), (Nat.le_of_ble_eq_true rfl)⟩, by refine Nat.le_trans ?_ hce; (try simp only [Nat.add_assoc]); exact Nat.add_le_add_left (by decide) _, by refine Nat.le_trans ?_ hsl; (try simp only [Nat.add_assoc]); exact Nat.add_le_add_left (by decide) _⟩ rfl (Nat.le_of_ble_eq_true rfl) (by decide +kernel) (fun r G4 h4 => ?_)
    obtain ⟨G6, ⟨w9, rfl, hq⟩, hf4⟩ := h4
    obtain ⟨u2, u1, u3', u4, u6⟩ := fr_step hf4 f1 (dj_sym f3) f4 ho2
    have u3 := dj_sym u3'
    obtain ⟨hz, bn', hbn', hLB⟩ := a_trapeze_ok (ad := ad) (am := am) (nt := nt) (nf := nf) (nc := nc) (nn := nn) (T := T) (E := E) (Cu := Cu) (N := N) (KT := KT) (KF := KF) (KC := KC) (F := F) ⟨hM.2.2.1, hM.2.2.2.1⟩ hT hS hC hbn hp hq
    have hLB2 := hLB
    obtain ⟨ad2, am2, nt2, nf2, nc2, nn2, T2, E2, C2, N2, KT2, KF2, KC2, F2, hX2, hM2, -⟩ := hLB
    show PG κ 9 ((ce + kL_trapeze.cells) + kX5_trapeze.cells) ((sl + kL_trapeze.slots) + kX5_trapeze.slots) G4 [(5, .int 0), (0, .ref b), (1, .ref x), (2, .ref m), (3, .ref o), (4, .int xi)] 655 [.int w9]
    refine g_seg [(655, .istore 6, 2), (657, .aload_n 2, 1)] 658 [(6, .int w9), (5, .int 0), (0, .ref b), (1, .ref x), (2, .ref m), (3, .ref o), (4, .int xi)] [.ref m] C (by decide +kernel) rfl ?_
    refine g_callV (pc := 658) C mV_X5_thrown q697 (u2 _ _ hM2.1.1) rfl rfl (Ctr.frame (c_X5_thrown l D cy hM2) u2) rfl ⟨⟨(Nat.le_of_ble_eq_true rfl), (Nat.le_of_ble_eq_true rfl)⟩, by refine Nat.le_trans ?_ hce; (try simp only [Nat.add_assoc]); exact Nat.add_le_add_left (by decide) _, by refine Nat.le_trans ?_ hsl; (try simp only [Nat.add_assoc]); exact Nat.add_le_add_left (by decide) _⟩ rfl (Nat.le_of_ble_eq_true rfl) (by decide +kernel) (fun r G5 h5 => ?_)
    obtain ⟨G7, ⟨v7, rfl, rfl, rfl⟩, hf5⟩ := h5
    obtain ⟨v1, v2, v3, v4, v5⟩ := fr_step hf5 u1 (dj_sym u3) u4 u6
    show PG κ 9 (((ce + kL_trapeze.cells) + kX5_trapeze.cells) + kX5_thrown.cells) (((sl + kL_trapeze.slots) + kX5_trapeze.slots) + kX5_thrown.slots) G5 [(6, .int w9), (5, .int 0), (0, .ref b), (1, .ref x), (2, .ref m), (3, .ref o), (4, .int xi)] 661 [.int 0]
    refine g_seg [(661, .iload 5, 2)] 663 [(6, .int w9), (5, .int 0), (0, .ref b), (1, .ref x), (2, .ref m), (3, .ref o), (4, .int xi)] [.int 0, .int 0] C (by decide +kernel) rfl ?_
    refine g_icmp_eq (pc := 663) (off := 5) 668 C (by decide +kernel) (by decide) (fun _ => ?_) (fun c9 => absurd rfl c9)
    refine g_seg [(668, .iload 5, 2)] 670 [(6, .int w9), (5, .int 0), (0, .ref b), (1, .ref x), (2, .ref m), (3, .ref o), (4, .int xi)] [.int 0] C (by decide +kernel) rfl ?_
    refine g_if_ne (pc := 670) (off := 15) 685 C (by decide +kernel) (by decide) (fun c9 => absurd rfl c9) (fun _ => ?_)
    refine g_seg [(673, .aload_n 3, 1), (674, .iconst 0, 1)] 675 [(6, .int w9), (5, .int 0), (0, .ref b), (1, .ref x), (2, .ref m), (3, .ref o), (4, .int xi)] [.int 0, .ref o] C (by decide +kernel) rfl ?_
    refine g_laldM (pc := 675) C v4 rfl (by decide +kernel) ?_
    refine g_seg [(676, .iload 6, 2), (678, .i2l, 1), (679, .lcmp, 1)] 680 [(6, .int w9), (5, .int 0), (0, .ref b), (1, .ref x), (2, .ref m), (3, .ref o), (4, .int xi)] [.int (lg_cmp z.toInt64 w9.toInt64)] C (by decide +kernel) rfl ?_
    refine g_if_eq (pc := 680) (off := 5) 685 C (by decide +kernel) (by decide) (fun _ => ?_) (fun c9 => absurd (by rw [hz]; exact lg_same _) c9)
    refine g_seg [(685, .goto 671, 3)] 1356 [(6, .int w9), (5, .int 0), (0, .ref b), (1, .ref x), (2, .ref m), (3, .ref o), (4, .int xi)] [] C (by decide +kernel) rfl ?_
    refine g_subp [2, 3, 4, 5, 6] (lv' := [(0, .ref b), (1, .ref x), (2, .ref m), (3, .ref o), (4, .int xi)]) rfl ?_
    exact kk G5 bn' _ _ (LW_mk hLB2 v2 v1 u3 v4 f5 u6) hbn' (by (try simp only [Nat.add_assoc]); exact Nat.add_le_add_left (by decide) _) (by (try simp only [Nat.add_assoc]); exact Nat.add_le_add_left (by decide) _)
  · obtain ⟨f1, f2, f3, f4, f5⟩ := fr_step hf s2 dj ho ho1
    show PG κ 9 (ce + kL_trapeze.cells) (sl + kL_trapeze.slots) G3 [(0, .ref b), (1, .ref x), (2, .ref m), (3, .ref o), (4, .int xi)] 637 [.int (if e9 = "java/lang/IndexOutOfBoundsException" then 1 else 0)]
    refine g_seg [(637, .istore 5, 2), (639, .aload_n 2, 1), (640, .aload_n 0, 1), (641, .iload 4, 2), (643, .iconst 1, 1), (644, .iadd, 1)] 645 [(5, .int (if e9 = "java/lang/IndexOutOfBoundsException" then 1 else 0)), (0, .ref b), (1, .ref x), (2, .ref m), (3, .ref o), (4, .int xi)] [.int (xi + 1), .ref b, .ref m] C (by decide +kernel) rfl ?_
    refine g_sald (pc := 645) (j := (5 * k + 1)) C hSC (by rw [hx]; exact nI_add (5 * k) 1) (by omega) (by omega) (by decide +kernel) ?_
    refine g_seg [(646, .aload_n 0, 1), (647, .iload 4, 2), (649, .iconst 2, 1), (650, .iadd, 1)] 651 [(5, .int (if e9 = "java/lang/IndexOutOfBoundsException" then 1 else 0)), (0, .ref b), (1, .ref x), (2, .ref m), (3, .ref o), (4, .int xi)] [.int (xi + 2), .ref b, .int (xs (5 * k + 1)), .ref m] C (by decide +kernel) rfl ?_
    refine g_sald (pc := 651) (j := (5 * k + 2)) C hSC (by rw [hx]; exact nI_add (5 * k) 2) (by omega) (by omega) (by decide +kernel) ?_
    refine g_callV (pc := 652) C mV_X5_trapeze q771 (f2 _ _ hM.1.1) rfl rfl (Ctr.frame (c_X5_trapeze l D cy hM hT.1 (xs (5 * k + 1)) (xs (5 * k + 2))) f2) rfl ⟨⟨(Nat.le_of_ble_eq_true rfl), (Nat.le_of_ble_eq_true rfl)⟩, by refine Nat.le_trans ?_ hce; (try simp only [Nat.add_assoc]); exact Nat.add_le_add_left (by decide) _, by refine Nat.le_trans ?_ hsl; (try simp only [Nat.add_assoc]); exact Nat.add_le_add_left (by decide) _⟩ rfl (Nat.le_of_ble_eq_true rfl) (by decide +kernel) (fun r G4 h4 => ?_)
    obtain ⟨G6, ⟨w9, rfl, hq⟩, hf4⟩ := h4
    obtain ⟨u2, u1, u3', u4, u6⟩ := fr_step hf4 f1 (dj_sym f3) f4 ho2
    have u3 := dj_sym u3'
    have hLB := a_trapeze_bad (z := 0) (ad := ad) (am := am) (nt := nt) (nf := nf) (nc := nc) (nn := nn) (T := T) (E := E) (Cu := Cu) (N := N) (KT := KT) (KF := KF) (KC := KC) (F := F) ⟨hM.2.2.1, hM.2.2.2.1⟩ hT hS hC hbn hp hq
    have hLB2 := hLB
    obtain ⟨ad2, am2, nt2, nf2, nc2, nn2, T2, E2, C2, N2, KT2, KF2, KC2, F2, hX2, hM2, -⟩ := hLB
    show PG κ 9 ((ce + kL_trapeze.cells) + kX5_trapeze.cells) ((sl + kL_trapeze.slots) + kX5_trapeze.slots) G4 [(5, .int (if e9 = "java/lang/IndexOutOfBoundsException" then 1 else 0)), (0, .ref b), (1, .ref x), (2, .ref m), (3, .ref o), (4, .int xi)] 655 [.int w9]
    refine g_seg [(655, .istore 6, 2), (657, .aload_n 2, 1)] 658 [(6, .int w9), (5, .int (if e9 = "java/lang/IndexOutOfBoundsException" then 1 else 0)), (0, .ref b), (1, .ref x), (2, .ref m), (3, .ref o), (4, .int xi)] [.ref m] C (by decide +kernel) rfl ?_
    refine g_callV (pc := 658) C mV_X5_thrown q697 (u2 _ _ hM2.1.1) rfl rfl (Ctr.frame (c_X5_thrown l D cy hM2) u2) rfl ⟨⟨(Nat.le_of_ble_eq_true rfl), (Nat.le_of_ble_eq_true rfl)⟩, by refine Nat.le_trans ?_ hce; (try simp only [Nat.add_assoc]); exact Nat.add_le_add_left (by decide) _, by refine Nat.le_trans ?_ hsl; (try simp only [Nat.add_assoc]); exact Nat.add_le_add_left (by decide) _⟩ rfl (Nat.le_of_ble_eq_true rfl) (by decide +kernel) (fun r G5 h5 => ?_)
    obtain ⟨G7, ⟨v7, rfl, rfl, rfl⟩, hf5⟩ := h5
    obtain ⟨v1, v2, v3, v4, v5⟩ := fr_step hf5 u1 (dj_sym u3) u4 u6
    show PG κ 9 (((ce + kL_trapeze.cells) + kX5_trapeze.cells) + kX5_thrown.cells) (((sl + kL_trapeze.slots) + kX5_trapeze.slots) + kX5_thrown.slots) G5 [(6, .int w9), (5, .int (if e9 = "java/lang/IndexOutOfBoundsException" then 1 else 0)), (0, .ref b), (1, .ref x), (2, .ref m), (3, .ref o), (4, .int xi)] 661 [.int (if e9 = "java/lang/IndexOutOfBoundsException" then 1 else 0)]
    refine g_seg [(661, .iload 5, 2)] 663 [(6, .int w9), (5, .int (if e9 = "java/lang/IndexOutOfBoundsException" then 1 else 0)), (0, .ref b), (1, .ref x), (2, .ref m), (3, .ref o), (4, .int xi)] [.int (if e9 = "java/lang/IndexOutOfBoundsException" then 1 else 0), .int (if e9 = "java/lang/IndexOutOfBoundsException" then 1 else 0)] C (by decide +kernel) rfl ?_
    refine g_icmp_eq (pc := 663) (off := 5) 668 C (by decide +kernel) (by decide) (fun _ => ?_) (fun c9 => absurd rfl c9)
    refine g_seg [(668, .iload 5, 2)] 670 [(6, .int w9), (5, .int (if e9 = "java/lang/IndexOutOfBoundsException" then 1 else 0)), (0, .ref b), (1, .ref x), (2, .ref m), (3, .ref o), (4, .int xi)] [.int (if e9 = "java/lang/IndexOutOfBoundsException" then 1 else 0)] C (by decide +kernel) rfl ?_
    refine g_if_ne (pc := 670) (off := 15) 685 C (by decide +kernel) (by decide) (fun _ => ?_) (fun c9 => ?_)
    · refine g_seg [(685, .goto 671, 3)] 1356 [(6, .int w9), (5, .int (if e9 = "java/lang/IndexOutOfBoundsException" then 1 else 0)), (0, .ref b), (1, .ref x), (2, .ref m), (3, .ref o), (4, .int xi)] [] C (by decide +kernel) rfl ?_
      refine g_subp [2, 3, 4, 5, 6] (lv' := [(0, .ref b), (1, .ref x), (2, .ref m), (3, .ref o), (4, .int xi)]) rfl ?_
      exact kk G5 bn _ _ (LW_mk hLB2 v2 v1 u3 v4 f5 u6) (by omega) (by (try simp only [Nat.add_assoc]); exact Nat.add_le_add_left (by decide) _) (by (try simp only [Nat.add_assoc]); exact Nat.add_le_add_left (by decide) _)
    · exfalso; obtain ⟨rfl, -⟩ := hp.2; revert c9; decide
set_option maxHeartbeats 4000000 in
set_option maxRecDepth 100000 in
theorem t_flyer {nm : String} {κ : Kx} {l : Launch} {D : va_G} {cy : Nat → ClassId} {b L x m o bn k ce sl : Nat} {xs : Nat → Int32} {xi : Int32} {G : GG} (C : g_OK κ l D cy (yLw nm) 9 code room_1 (some .boolean)) (hCX : g_CX κ) (hSC : g_SC κ b L xs) (hL : L ≤ 2560) (hk : 5 * k + 5 ≤ L) (hx : xi = nI (5 * k)) (hbn : bn + 200 < 2 ^ 31) (hce : ce + 16 ≤ room_1.cells) (hsl : sl + 400 ≤ room_1.slots) (hlw : LW cy x m o G bn) (kk : ∀ G' bn' ce' sl', LW cy x m o G' bn' → bn' ≤ bn + 200 → ce' ≤ ce + 16 → sl' ≤ sl + 400 → PG κ 9 ce' sl' G' [(0, .ref b), (1, .ref x), (2, .ref m), (3, .ref o), (4, .int xi)] 1356 []) : PG κ 9 ce sl G [(0, .ref b), (1, .ref x), (2, .ref m), (3, .ref o), (4, .int xi)] 688 [] := by
  obtain ⟨G1, G2, ad, am, th, nt, nf, nc, nn, T, E, Cu, N, KT, KF, KC, F, z0, hX, hM, ⟨s1, s2, dj⟩, ⟨ho, ho1, ho2⟩, hT, hS, hC⟩ := hlw
  refine g_pc (pc' := 688) rfl ?_
  refine g_seg [(688, .aload_n 1, 1), (689, .aload_n 0, 1), (690, .iload 4, 2), (692, .iconst 1, 1), (693, .iadd, 1)] 694 [(0, .ref b), (1, .ref x), (2, .ref m), (3, .ref o), (4, .int xi)] [.int (xi + 1), .ref b, .ref x] C (by decide +kernel) rfl ?_
  refine g_sald (pc := 694) (j := (5 * k + 1)) C hSC (by rw [hx]; exact nI_add (5 * k) 1) (by omega) (by omega) (by decide +kernel) ?_
  refine g_seg [(695, .aload_n 0, 1), (696, .iload 4, 2), (698, .iconst 2, 1), (699, .iadd, 1)] 700 [(0, .ref b), (1, .ref x), (2, .ref m), (3, .ref o), (4, .int xi)] [.int (xi + 2), .ref b, .int (xs (5 * k + 1)), .ref x] C (by decide +kernel) rfl ?_
  refine g_sald (pc := 700) (j := (5 * k + 2)) C hSC (by rw [hx]; exact nI_add (5 * k) 2) (by omega) (by omega) (by decide +kernel) ?_
  refine g_seg [(701, .aload_n 3, 1)] 702 [(0, .ref b), (1, .ref x), (2, .ref m), (3, .ref o), (4, .int xi)] [.ref o, .int (xs (5 * k + 2)), .int (xs (5 * k + 1)), .ref x] C (by decide +kernel) rfl ?_
  refine g_callSW (pc := 702) C hCX mW_L_flyer q505 (c_L_flyer l D cy (xs (5 * k + 1)) (xs (5 * k + 2)) (c_X4_flyer l D cy hX (xs (5 * k + 1)) (xs (5 * k + 2))) s1 hX.1.1 ho ho1 (fun E G' h => h.2.1)) rfl ⟨⟨(Nat.le_of_ble_eq_true rfl), (Nat.le_of_ble_eq_true rfl)⟩, by refine Nat.le_trans ?_ hce; (try simp only [Nat.add_assoc]); exact Nat.add_le_add_left (by decide) _, by refine Nat.le_trans ?_ hsl; (try simp only [Nat.add_assoc]); exact Nat.add_le_add_left (by decide) _⟩ rfl (Nat.le_of_ble_eq_true rfl) (by decide +kernel) (fun r G3 h9 => ?_)
  obtain ⟨v, rfl, h9⟩ := h9
  rcases h9 with ⟨rfl, z, G', hp, hf⟩ | ⟨e9, G', hp, hf, rfl⟩
  · obtain ⟨f1, f2, f3, f4, f5⟩ := fo_step hf s2 dj ⟨_, ho⟩ ho1 ho2
    show PG κ 9 (ce + kL_flyer.cells) (sl + kL_flyer.slots) G3 [(0, .ref b), (1, .ref x), (2, .ref m), (3, .ref o), (4, .int xi)] 705 [.int 0]
    refine g_seg [(705, .istore 5, 2), (707, .aload_n 2, 1), (708, .aload_n 0, 1), (709, .iload 4, 2), (711, .iconst 1, 1), (712, .iadd, 1)] 713 [(5, .int 0), (0, .ref b), (1, .ref x), (2, .ref m), (3, .ref o), (4, .int xi)] [.int (xi + 1), .ref b, .ref m] C (by decide +kernel) rfl ?_
    refine g_sald (pc := 713) (j := (5 * k + 1)) C hSC (by rw [hx]; exact nI_add (5 * k) 1) (by omega) (by omega) (by decide +kernel) ?_
    refine g_seg [(714, .aload_n 0, 1), (715, .iload 4, 2), (717, .iconst 2, 1), (718, .iadd, 1)] 719 [(5, .int 0), (0, .ref b), (1, .ref x), (2, .ref m), (3, .ref o), (4, .int xi)] [.int (xi + 2), .ref b, .int (xs (5 * k + 1)), .ref m] C (by decide +kernel) rfl ?_
    refine g_sald (pc := 719) (j := (5 * k + 2)) C hSC (by rw [hx]; exact nI_add (5 * k) 2) (by omega) (by omega) (by decide +kernel) ?_
    refine g_callV (pc := 720) C mV_X5_flyer q786 (f2 _ _ hM.1.1) rfl rfl (Ctr.frame (c_X5_flyer l D cy hM (xs (5 * k + 1)) (xs (5 * k + 2))) f2) rfl ⟨⟨(Nat.le_of_ble_eq_true rfl), (Nat.le_of_ble_eq_true rfl)⟩, by refine Nat.le_trans ?_ hce; (try simp only [Nat.add_assoc]); exact Nat.add_le_add_left (by decide) _, by refine Nat.le_trans ?_ hsl; (try simp only [Nat.add_assoc]); exact Nat.add_le_add_left (by decide) _⟩ rfl (Nat.le_of_ble_eq_true rfl) (by decide +kernel) (fun r G4 h4 => ?_)
    obtain ⟨G6, ⟨w9, rfl, hq⟩, hf4⟩ := h4
    obtain ⟨u2, u1, u3', u4, u6⟩ := fr_step hf4 f1 (dj_sym f3) f4 ho2
    have u3 := dj_sym u3'
    obtain ⟨hz, bn', hbn', hLB⟩ := a_flyer_ok (ad := ad) (am := am) (nt := nt) (nf := nf) (nc := nc) (nn := nn) (T := T) (E := E) (Cu := Cu) (N := N) (KT := KT) (KF := KF) (KC := KC) (F := F) ⟨hM.2.2.1, hM.2.2.2.1⟩ hT hS hC hbn hp hq
    have hLB2 := hLB
    obtain ⟨ad2, am2, nt2, nf2, nc2, nn2, T2, E2, C2, N2, KT2, KF2, KC2, F2, hX2, hM2, -⟩ := hLB
    show PG κ 9 ((ce + kL_flyer.cells) + kX5_flyer.cells) ((sl + kL_flyer.slots) + kX5_flyer.slots) G4 [(5, .int 0), (0, .ref b), (1, .ref x), (2, .ref m), (3, .ref o), (4, .int xi)] 723 [.int w9]
    refine g_seg [(723, .istore 6, 2), (725, .aload_n 2, 1)] 726 [(6, .int w9), (5, .int 0), (0, .ref b), (1, .ref x), (2, .ref m), (3, .ref o), (4, .int xi)] [.ref m] C (by decide +kernel) rfl ?_
    refine g_callV (pc := 726) C mV_X5_thrown q697 (u2 _ _ hM2.1.1) rfl rfl (Ctr.frame (c_X5_thrown l D cy hM2) u2) rfl ⟨⟨(Nat.le_of_ble_eq_true rfl), (Nat.le_of_ble_eq_true rfl)⟩, by refine Nat.le_trans ?_ hce; (try simp only [Nat.add_assoc]); exact Nat.add_le_add_left (by decide) _, by refine Nat.le_trans ?_ hsl; (try simp only [Nat.add_assoc]); exact Nat.add_le_add_left (by decide) _⟩ rfl (Nat.le_of_ble_eq_true rfl) (by decide +kernel) (fun r G5 h5 => ?_)
    obtain ⟨G7, ⟨v7, rfl, rfl, rfl⟩, hf5⟩ := h5
    obtain ⟨v1, v2, v3, v4, v5⟩ := fr_step hf5 u1 (dj_sym u3) u4 u6
    show PG κ 9 (((ce + kL_flyer.cells) + kX5_flyer.cells) + kX5_thrown.cells) (((sl + kL_flyer.slots) + kX5_flyer.slots) + kX5_thrown.slots) G5 [(6, .int w9), (5, .int 0), (0, .ref b), (1, .ref x), (2, .ref m), (3, .ref o), (4, .int xi)] 729 [.int 0]
    refine g_seg [(729, .iload 5, 2)] 731 [(6, .int w9), (5, .int 0), (0, .ref b), (1, .ref x), (2, .ref m), (3, .ref o), (4, .int xi)] [.int 0, .int 0] C (by decide +kernel) rfl ?_
    refine g_icmp_eq (pc := 731) (off := 5) 736 C (by decide +kernel) (by decide) (fun _ => ?_) (fun c9 => absurd rfl c9)
    refine g_seg [(736, .iload 5, 2)] 738 [(6, .int w9), (5, .int 0), (0, .ref b), (1, .ref x), (2, .ref m), (3, .ref o), (4, .int xi)] [.int 0] C (by decide +kernel) rfl ?_
    refine g_if_ne (pc := 738) (off := 15) 753 C (by decide +kernel) (by decide) (fun c9 => absurd rfl c9) (fun _ => ?_)
    refine g_seg [(741, .aload_n 3, 1), (742, .iconst 0, 1)] 743 [(6, .int w9), (5, .int 0), (0, .ref b), (1, .ref x), (2, .ref m), (3, .ref o), (4, .int xi)] [.int 0, .ref o] C (by decide +kernel) rfl ?_
    refine g_laldM (pc := 743) C v4 rfl (by decide +kernel) ?_
    refine g_seg [(744, .iload 6, 2), (746, .i2l, 1), (747, .lcmp, 1)] 748 [(6, .int w9), (5, .int 0), (0, .ref b), (1, .ref x), (2, .ref m), (3, .ref o), (4, .int xi)] [.int (lg_cmp z.toInt64 w9.toInt64)] C (by decide +kernel) rfl ?_
    refine g_if_eq (pc := 748) (off := 5) 753 C (by decide +kernel) (by decide) (fun _ => ?_) (fun c9 => absurd (by rw [hz]; exact lg_same _) c9)
    refine g_seg [(753, .goto 603, 3)] 1356 [(6, .int w9), (5, .int 0), (0, .ref b), (1, .ref x), (2, .ref m), (3, .ref o), (4, .int xi)] [] C (by decide +kernel) rfl ?_
    refine g_subp [2, 3, 4, 5, 6] (lv' := [(0, .ref b), (1, .ref x), (2, .ref m), (3, .ref o), (4, .int xi)]) rfl ?_
    exact kk G5 bn' _ _ (LW_mk hLB2 v2 v1 u3 v4 f5 u6) hbn' (by (try simp only [Nat.add_assoc]); exact Nat.add_le_add_left (by decide) _) (by (try simp only [Nat.add_assoc]); exact Nat.add_le_add_left (by decide) _)
  · obtain ⟨f1, f2, f3, f4, f5⟩ := fr_step hf s2 dj ho ho1
    show PG κ 9 (ce + kL_flyer.cells) (sl + kL_flyer.slots) G3 [(0, .ref b), (1, .ref x), (2, .ref m), (3, .ref o), (4, .int xi)] 705 [.int (if e9 = "java/lang/IndexOutOfBoundsException" then 1 else 0)]
    refine g_seg [(705, .istore 5, 2), (707, .aload_n 2, 1), (708, .aload_n 0, 1), (709, .iload 4, 2), (711, .iconst 1, 1), (712, .iadd, 1)] 713 [(5, .int (if e9 = "java/lang/IndexOutOfBoundsException" then 1 else 0)), (0, .ref b), (1, .ref x), (2, .ref m), (3, .ref o), (4, .int xi)] [.int (xi + 1), .ref b, .ref m] C (by decide +kernel) rfl ?_
    refine g_sald (pc := 713) (j := (5 * k + 1)) C hSC (by rw [hx]; exact nI_add (5 * k) 1) (by omega) (by omega) (by decide +kernel) ?_
    refine g_seg [(714, .aload_n 0, 1), (715, .iload 4, 2), (717, .iconst 2, 1), (718, .iadd, 1)] 719 [(5, .int (if e9 = "java/lang/IndexOutOfBoundsException" then 1 else 0)), (0, .ref b), (1, .ref x), (2, .ref m), (3, .ref o), (4, .int xi)] [.int (xi + 2), .ref b, .int (xs (5 * k + 1)), .ref m] C (by decide +kernel) rfl ?_
    refine g_sald (pc := 719) (j := (5 * k + 2)) C hSC (by rw [hx]; exact nI_add (5 * k) 2) (by omega) (by omega) (by decide +kernel) ?_
    refine g_callV (pc := 720) C mV_X5_flyer q786 (f2 _ _ hM.1.1) rfl rfl (Ctr.frame (c_X5_flyer l D cy hM (xs (5 * k + 1)) (xs (5 * k + 2))) f2) rfl ⟨⟨(Nat.le_of_ble_eq_true rfl), (Nat.le_of_ble_eq_true rfl)⟩, by refine Nat.le_trans ?_ hce; (try simp only [Nat.add_assoc]); exact Nat.add_le_add_left (by decide) _, by refine Nat.le_trans ?_ hsl; (try simp only [Nat.add_assoc]); exact Nat.add_le_add_left (by decide) _⟩ rfl (Nat.le_of_ble_eq_true rfl) (by decide +kernel) (fun r G4 h4 => ?_)
    obtain ⟨G6, ⟨w9, rfl, hq⟩, hf4⟩ := h4
    obtain ⟨u2, u1, u3', u4, u6⟩ := fr_step hf4 f1 (dj_sym f3) f4 ho2
    have u3 := dj_sym u3'
    have hLB := a_flyer_bad (z := 0) (ad := ad) (am := am) (nt := nt) (nf := nf) (nc := nc) (nn := nn) (T := T) (E := E) (Cu := Cu) (N := N) (KT := KT) (KF := KF) (KC := KC) (F := F) ⟨hM.2.2.1, hM.2.2.2.1⟩ hT hS hC hbn hp hq
    have hLB2 := hLB
    obtain ⟨ad2, am2, nt2, nf2, nc2, nn2, T2, E2, C2, N2, KT2, KF2, KC2, F2, hX2, hM2, -⟩ := hLB
    show PG κ 9 ((ce + kL_flyer.cells) + kX5_flyer.cells) ((sl + kL_flyer.slots) + kX5_flyer.slots) G4 [(5, .int (if e9 = "java/lang/IndexOutOfBoundsException" then 1 else 0)), (0, .ref b), (1, .ref x), (2, .ref m), (3, .ref o), (4, .int xi)] 723 [.int w9]
    refine g_seg [(723, .istore 6, 2), (725, .aload_n 2, 1)] 726 [(6, .int w9), (5, .int (if e9 = "java/lang/IndexOutOfBoundsException" then 1 else 0)), (0, .ref b), (1, .ref x), (2, .ref m), (3, .ref o), (4, .int xi)] [.ref m] C (by decide +kernel) rfl ?_
    refine g_callV (pc := 726) C mV_X5_thrown q697 (u2 _ _ hM2.1.1) rfl rfl (Ctr.frame (c_X5_thrown l D cy hM2) u2) rfl ⟨⟨(Nat.le_of_ble_eq_true rfl), (Nat.le_of_ble_eq_true rfl)⟩, by refine Nat.le_trans ?_ hce; (try simp only [Nat.add_assoc]); exact Nat.add_le_add_left (by decide) _, by refine Nat.le_trans ?_ hsl; (try simp only [Nat.add_assoc]); exact Nat.add_le_add_left (by decide) _⟩ rfl (Nat.le_of_ble_eq_true rfl) (by decide +kernel) (fun r G5 h5 => ?_)
    obtain ⟨G7, ⟨v7, rfl, rfl, rfl⟩, hf5⟩ := h5
    obtain ⟨v1, v2, v3, v4, v5⟩ := fr_step hf5 u1 (dj_sym u3) u4 u6
    show PG κ 9 (((ce + kL_flyer.cells) + kX5_flyer.cells) + kX5_thrown.cells) (((sl + kL_flyer.slots) + kX5_flyer.slots) + kX5_thrown.slots) G5 [(6, .int w9), (5, .int (if e9 = "java/lang/IndexOutOfBoundsException" then 1 else 0)), (0, .ref b), (1, .ref x), (2, .ref m), (3, .ref o), (4, .int xi)] 729 [.int (if e9 = "java/lang/IndexOutOfBoundsException" then 1 else 0)]
    refine g_seg [(729, .iload 5, 2)] 731 [(6, .int w9), (5, .int (if e9 = "java/lang/IndexOutOfBoundsException" then 1 else 0)), (0, .ref b), (1, .ref x), (2, .ref m), (3, .ref o), (4, .int xi)] [.int (if e9 = "java/lang/IndexOutOfBoundsException" then 1 else 0), .int (if e9 = "java/lang/IndexOutOfBoundsException" then 1 else 0)] C (by decide +kernel) rfl ?_
    refine g_icmp_eq (pc := 731) (off := 5) 736 C (by decide +kernel) (by decide) (fun _ => ?_) (fun c9 => absurd rfl c9)
    refine g_seg [(736, .iload 5, 2)] 738 [(6, .int w9), (5, .int (if e9 = "java/lang/IndexOutOfBoundsException" then 1 else 0)), (0, .ref b), (1, .ref x), (2, .ref m), (3, .ref o), (4, .int xi)] [.int (if e9 = "java/lang/IndexOutOfBoundsException" then 1 else 0)] C (by decide +kernel) rfl ?_
    refine g_if_ne (pc := 738) (off := 15) 753 C (by decide +kernel) (by decide) (fun _ => ?_) (fun c9 => ?_)
    · refine g_seg [(753, .goto 603, 3)] 1356 [(6, .int w9), (5, .int (if e9 = "java/lang/IndexOutOfBoundsException" then 1 else 0)), (0, .ref b), (1, .ref x), (2, .ref m), (3, .ref o), (4, .int xi)] [] C (by decide +kernel) rfl ?_
      refine g_subp [2, 3, 4, 5, 6] (lv' := [(0, .ref b), (1, .ref x), (2, .ref m), (3, .ref o), (4, .int xi)]) rfl ?_
      exact kk G5 bn _ _ (LW_mk hLB2 v2 v1 u3 v4 f5 u6) (by omega) (by (try simp only [Nat.add_assoc]); exact Nat.add_le_add_left (by decide) _) (by (try simp only [Nat.add_assoc]); exact Nat.add_le_add_left (by decide) _)
    · exfalso; obtain ⟨rfl, -⟩ := hp.2; revert c9; decide
set_option maxHeartbeats 4000000 in
set_option maxRecDepth 100000 in
theorem t_called {nm : String} {κ : Kx} {l : Launch} {D : va_G} {cy : Nat → ClassId} {b L x m o bn k ce sl : Nat} {xs : Nat → Int32} {xi : Int32} {G : GG} (C : g_OK κ l D cy (yLw nm) 9 code room_1 (some .boolean)) (hCX : g_CX κ) (hSC : g_SC κ b L xs) (hL : L ≤ 2560) (hk : 5 * k + 5 ≤ L) (hx : xi = nI (5 * k)) (hbn : bn + 200 < 2 ^ 31) (hce : ce + 16 ≤ room_1.cells) (hsl : sl + 400 ≤ room_1.slots) (hlw : LW cy x m o G bn) (kk : ∀ G' bn' ce' sl', LW cy x m o G' bn' → bn' ≤ bn + 200 → ce' ≤ ce + 16 → sl' ≤ sl + 400 → PG κ 9 ce' sl' G' [(0, .ref b), (1, .ref x), (2, .ref m), (3, .ref o), (4, .int xi)] 1356 []) : PG κ 9 ce sl G [(0, .ref b), (1, .ref x), (2, .ref m), (3, .ref o), (4, .int xi)] 756 [] := by
  obtain ⟨G1, G2, ad, am, th, nt, nf, nc, nn, T, E, Cu, N, KT, KF, KC, F, z0, hX, hM, ⟨s1, s2, dj⟩, ⟨ho, ho1, ho2⟩, hT, hS, hC⟩ := hlw
  refine g_pc (pc' := 756) rfl ?_
  refine g_seg [(756, .aload_n 1, 1), (757, .aload_n 0, 1), (758, .iload 4, 2), (760, .iconst 1, 1), (761, .iadd, 1)] 762 [(0, .ref b), (1, .ref x), (2, .ref m), (3, .ref o), (4, .int xi)] [.int (xi + 1), .ref b, .ref x] C (by decide +kernel) rfl ?_
  refine g_sald (pc := 762) (j := (5 * k + 1)) C hSC (by rw [hx]; exact nI_add (5 * k) 1) (by omega) (by omega) (by decide +kernel) ?_
  refine g_seg [(763, .aload_n 0, 1), (764, .iload 4, 2), (766, .iconst 2, 1), (767, .iadd, 1)] 768 [(0, .ref b), (1, .ref x), (2, .ref m), (3, .ref o), (4, .int xi)] [.int (xi + 2), .ref b, .int (xs (5 * k + 1)), .ref x] C (by decide +kernel) rfl ?_
  refine g_sald (pc := 768) (j := (5 * k + 2)) C hSC (by rw [hx]; exact nI_add (5 * k) 2) (by omega) (by omega) (by decide +kernel) ?_
  refine g_seg [(769, .aload_n 3, 1)] 770 [(0, .ref b), (1, .ref x), (2, .ref m), (3, .ref o), (4, .int xi)] [.ref o, .int (xs (5 * k + 2)), .int (xs (5 * k + 1)), .ref x] C (by decide +kernel) rfl ?_
  refine g_callSW (pc := 770) C hCX mW_L_called q513 (c_L_called l D cy (xs (5 * k + 1)) (xs (5 * k + 2)) (c_X4_called l D cy hX (xs (5 * k + 1)) (xs (5 * k + 2))) s1 hX.1.1 ho ho1 (fun E G' h => h.2.1)) rfl ⟨⟨(Nat.le_of_ble_eq_true rfl), (Nat.le_of_ble_eq_true rfl)⟩, by refine Nat.le_trans ?_ hce; (try simp only [Nat.add_assoc]); exact Nat.add_le_add_left (by decide) _, by refine Nat.le_trans ?_ hsl; (try simp only [Nat.add_assoc]); exact Nat.add_le_add_left (by decide) _⟩ rfl (Nat.le_of_ble_eq_true rfl) (by decide +kernel) (fun r G3 h9 => ?_)
  obtain ⟨v, rfl, h9⟩ := h9
  rcases h9 with ⟨rfl, z, G', hp, hf⟩ | ⟨e9, G', hp, hf, rfl⟩
  · obtain ⟨f1, f2, f3, f4, f5⟩ := fo_step hf s2 dj ⟨_, ho⟩ ho1 ho2
    show PG κ 9 (ce + kL_called.cells) (sl + kL_called.slots) G3 [(0, .ref b), (1, .ref x), (2, .ref m), (3, .ref o), (4, .int xi)] 773 [.int 0]
    refine g_seg [(773, .istore 5, 2), (775, .aload_n 2, 1), (776, .aload_n 0, 1), (777, .iload 4, 2), (779, .iconst 1, 1), (780, .iadd, 1)] 781 [(5, .int 0), (0, .ref b), (1, .ref x), (2, .ref m), (3, .ref o), (4, .int xi)] [.int (xi + 1), .ref b, .ref m] C (by decide +kernel) rfl ?_
    refine g_sald (pc := 781) (j := (5 * k + 1)) C hSC (by rw [hx]; exact nI_add (5 * k) 1) (by omega) (by omega) (by decide +kernel) ?_
    refine g_seg [(782, .aload_n 0, 1), (783, .iload 4, 2), (785, .iconst 2, 1), (786, .iadd, 1)] 787 [(5, .int 0), (0, .ref b), (1, .ref x), (2, .ref m), (3, .ref o), (4, .int xi)] [.int (xi + 2), .ref b, .int (xs (5 * k + 1)), .ref m] C (by decide +kernel) rfl ?_
    refine g_sald (pc := 787) (j := (5 * k + 2)) C hSC (by rw [hx]; exact nI_add (5 * k) 2) (by omega) (by omega) (by decide +kernel) ?_
    refine g_callV (pc := 788) C mV_X5_called q794 (f2 _ _ hM.1.1) rfl rfl (Ctr.frame (c_X5_called l D cy hM (xs (5 * k + 1)) (xs (5 * k + 2))) f2) rfl ⟨⟨(Nat.le_of_ble_eq_true rfl), (Nat.le_of_ble_eq_true rfl)⟩, by refine Nat.le_trans ?_ hce; (try simp only [Nat.add_assoc]); exact Nat.add_le_add_left (by decide) _, by refine Nat.le_trans ?_ hsl; (try simp only [Nat.add_assoc]); exact Nat.add_le_add_left (by decide) _⟩ rfl (Nat.le_of_ble_eq_true rfl) (by decide +kernel) (fun r G4 h4 => ?_)
    obtain ⟨G6, ⟨w9, rfl, hq⟩, hf4⟩ := h4
    obtain ⟨u2, u1, u3', u4, u6⟩ := fr_step hf4 f1 (dj_sym f3) f4 ho2
    have u3 := dj_sym u3'
    obtain ⟨hz, bn', hbn', hLB⟩ := a_called_ok (ad := ad) (am := am) (nt := nt) (nf := nf) (nc := nc) (nn := nn) (T := T) (E := E) (Cu := Cu) (N := N) (KT := KT) (KF := KF) (KC := KC) (F := F) ⟨hM.2.2.1, hM.2.2.2.1⟩ hM.2.2.2.2.1 hT hS hC hbn hp hq
    have hLB2 := hLB
    obtain ⟨ad2, am2, nt2, nf2, nc2, nn2, T2, E2, C2, N2, KT2, KF2, KC2, F2, hX2, hM2, -⟩ := hLB
    show PG κ 9 ((ce + kL_called.cells) + kX5_called.cells) ((sl + kL_called.slots) + kX5_called.slots) G4 [(5, .int 0), (0, .ref b), (1, .ref x), (2, .ref m), (3, .ref o), (4, .int xi)] 791 [.int w9]
    refine g_seg [(791, .istore 6, 2), (793, .aload_n 2, 1)] 794 [(6, .int w9), (5, .int 0), (0, .ref b), (1, .ref x), (2, .ref m), (3, .ref o), (4, .int xi)] [.ref m] C (by decide +kernel) rfl ?_
    refine g_callV (pc := 794) C mV_X5_thrown q697 (u2 _ _ hM2.1.1) rfl rfl (Ctr.frame (c_X5_thrown l D cy hM2) u2) rfl ⟨⟨(Nat.le_of_ble_eq_true rfl), (Nat.le_of_ble_eq_true rfl)⟩, by refine Nat.le_trans ?_ hce; (try simp only [Nat.add_assoc]); exact Nat.add_le_add_left (by decide) _, by refine Nat.le_trans ?_ hsl; (try simp only [Nat.add_assoc]); exact Nat.add_le_add_left (by decide) _⟩ rfl (Nat.le_of_ble_eq_true rfl) (by decide +kernel) (fun r G5 h5 => ?_)
    obtain ⟨G7, ⟨v7, rfl, rfl, rfl⟩, hf5⟩ := h5
    obtain ⟨v1, v2, v3, v4, v5⟩ := fr_step hf5 u1 (dj_sym u3) u4 u6
    show PG κ 9 (((ce + kL_called.cells) + kX5_called.cells) + kX5_thrown.cells) (((sl + kL_called.slots) + kX5_called.slots) + kX5_thrown.slots) G5 [(6, .int w9), (5, .int 0), (0, .ref b), (1, .ref x), (2, .ref m), (3, .ref o), (4, .int xi)] 797 [.int 0]
    refine g_seg [(797, .iload 5, 2)] 799 [(6, .int w9), (5, .int 0), (0, .ref b), (1, .ref x), (2, .ref m), (3, .ref o), (4, .int xi)] [.int 0, .int 0] C (by decide +kernel) rfl ?_
    refine g_icmp_eq (pc := 799) (off := 5) 804 C (by decide +kernel) (by decide) (fun _ => ?_) (fun c9 => absurd rfl c9)
    refine g_seg [(804, .iload 5, 2)] 806 [(6, .int w9), (5, .int 0), (0, .ref b), (1, .ref x), (2, .ref m), (3, .ref o), (4, .int xi)] [.int 0] C (by decide +kernel) rfl ?_
    refine g_if_ne (pc := 806) (off := 15) 821 C (by decide +kernel) (by decide) (fun c9 => absurd rfl c9) (fun _ => ?_)
    refine g_seg [(809, .aload_n 3, 1), (810, .iconst 0, 1)] 811 [(6, .int w9), (5, .int 0), (0, .ref b), (1, .ref x), (2, .ref m), (3, .ref o), (4, .int xi)] [.int 0, .ref o] C (by decide +kernel) rfl ?_
    refine g_laldM (pc := 811) C v4 rfl (by decide +kernel) ?_
    refine g_seg [(812, .iload 6, 2), (814, .i2l, 1), (815, .lcmp, 1)] 816 [(6, .int w9), (5, .int 0), (0, .ref b), (1, .ref x), (2, .ref m), (3, .ref o), (4, .int xi)] [.int (lg_cmp z.toInt64 w9.toInt64)] C (by decide +kernel) rfl ?_
    refine g_if_eq (pc := 816) (off := 5) 821 C (by decide +kernel) (by decide) (fun _ => ?_) (fun c9 => absurd (by rw [hz]; exact lg_same _) c9)
    refine g_seg [(821, .goto 535, 3)] 1356 [(6, .int w9), (5, .int 0), (0, .ref b), (1, .ref x), (2, .ref m), (3, .ref o), (4, .int xi)] [] C (by decide +kernel) rfl ?_
    refine g_subp [2, 3, 4, 5, 6] (lv' := [(0, .ref b), (1, .ref x), (2, .ref m), (3, .ref o), (4, .int xi)]) rfl ?_
    exact kk G5 bn' _ _ (LW_mk hLB2 v2 v1 u3 v4 f5 u6) hbn' (by (try simp only [Nat.add_assoc]); exact Nat.add_le_add_left (by decide) _) (by (try simp only [Nat.add_assoc]); exact Nat.add_le_add_left (by decide) _)
  · obtain ⟨f1, f2, f3, f4, f5⟩ := fr_step hf s2 dj ho ho1
    show PG κ 9 (ce + kL_called.cells) (sl + kL_called.slots) G3 [(0, .ref b), (1, .ref x), (2, .ref m), (3, .ref o), (4, .int xi)] 773 [.int (if e9 = "java/lang/IndexOutOfBoundsException" then 1 else 0)]
    refine g_seg [(773, .istore 5, 2), (775, .aload_n 2, 1), (776, .aload_n 0, 1), (777, .iload 4, 2), (779, .iconst 1, 1), (780, .iadd, 1)] 781 [(5, .int (if e9 = "java/lang/IndexOutOfBoundsException" then 1 else 0)), (0, .ref b), (1, .ref x), (2, .ref m), (3, .ref o), (4, .int xi)] [.int (xi + 1), .ref b, .ref m] C (by decide +kernel) rfl ?_
    refine g_sald (pc := 781) (j := (5 * k + 1)) C hSC (by rw [hx]; exact nI_add (5 * k) 1) (by omega) (by omega) (by decide +kernel) ?_
    refine g_seg [(782, .aload_n 0, 1), (783, .iload 4, 2), (785, .iconst 2, 1), (786, .iadd, 1)] 787 [(5, .int (if e9 = "java/lang/IndexOutOfBoundsException" then 1 else 0)), (0, .ref b), (1, .ref x), (2, .ref m), (3, .ref o), (4, .int xi)] [.int (xi + 2), .ref b, .int (xs (5 * k + 1)), .ref m] C (by decide +kernel) rfl ?_
    refine g_sald (pc := 787) (j := (5 * k + 2)) C hSC (by rw [hx]; exact nI_add (5 * k) 2) (by omega) (by omega) (by decide +kernel) ?_
    refine g_callV (pc := 788) C mV_X5_called q794 (f2 _ _ hM.1.1) rfl rfl (Ctr.frame (c_X5_called l D cy hM (xs (5 * k + 1)) (xs (5 * k + 2))) f2) rfl ⟨⟨(Nat.le_of_ble_eq_true rfl), (Nat.le_of_ble_eq_true rfl)⟩, by refine Nat.le_trans ?_ hce; (try simp only [Nat.add_assoc]); exact Nat.add_le_add_left (by decide) _, by refine Nat.le_trans ?_ hsl; (try simp only [Nat.add_assoc]); exact Nat.add_le_add_left (by decide) _⟩ rfl (Nat.le_of_ble_eq_true rfl) (by decide +kernel) (fun r G4 h4 => ?_)
    obtain ⟨G6, ⟨w9, rfl, hq⟩, hf4⟩ := h4
    obtain ⟨u2, u1, u3', u4, u6⟩ := fr_step hf4 f1 (dj_sym f3) f4 ho2
    have u3 := dj_sym u3'
    have hLB := a_called_bad (z := 0) (ad := ad) (am := am) (nt := nt) (nf := nf) (nc := nc) (nn := nn) (T := T) (E := E) (Cu := Cu) (N := N) (KT := KT) (KF := KF) (KC := KC) (F := F) ⟨hM.2.2.1, hM.2.2.2.1⟩ hM.2.2.2.2.1 hT hS hC hbn hp hq
    have hLB2 := hLB
    obtain ⟨ad2, am2, nt2, nf2, nc2, nn2, T2, E2, C2, N2, KT2, KF2, KC2, F2, hX2, hM2, -⟩ := hLB
    show PG κ 9 ((ce + kL_called.cells) + kX5_called.cells) ((sl + kL_called.slots) + kX5_called.slots) G4 [(5, .int (if e9 = "java/lang/IndexOutOfBoundsException" then 1 else 0)), (0, .ref b), (1, .ref x), (2, .ref m), (3, .ref o), (4, .int xi)] 791 [.int w9]
    refine g_seg [(791, .istore 6, 2), (793, .aload_n 2, 1)] 794 [(6, .int w9), (5, .int (if e9 = "java/lang/IndexOutOfBoundsException" then 1 else 0)), (0, .ref b), (1, .ref x), (2, .ref m), (3, .ref o), (4, .int xi)] [.ref m] C (by decide +kernel) rfl ?_
    refine g_callV (pc := 794) C mV_X5_thrown q697 (u2 _ _ hM2.1.1) rfl rfl (Ctr.frame (c_X5_thrown l D cy hM2) u2) rfl ⟨⟨(Nat.le_of_ble_eq_true rfl), (Nat.le_of_ble_eq_true rfl)⟩, by refine Nat.le_trans ?_ hce; (try simp only [Nat.add_assoc]); exact Nat.add_le_add_left (by decide) _, by refine Nat.le_trans ?_ hsl; (try simp only [Nat.add_assoc]); exact Nat.add_le_add_left (by decide) _⟩ rfl (Nat.le_of_ble_eq_true rfl) (by decide +kernel) (fun r G5 h5 => ?_)
    obtain ⟨G7, ⟨v7, rfl, rfl, rfl⟩, hf5⟩ := h5
    obtain ⟨v1, v2, v3, v4, v5⟩ := fr_step hf5 u1 (dj_sym u3) u4 u6
    show PG κ 9 (((ce + kL_called.cells) + kX5_called.cells) + kX5_thrown.cells) (((sl + kL_called.slots) + kX5_called.slots) + kX5_thrown.slots) G5 [(6, .int w9), (5, .int (if e9 = "java/lang/IndexOutOfBoundsException" then 1 else 0)), (0, .ref b), (1, .ref x), (2, .ref m), (3, .ref o), (4, .int xi)] 797 [.int (if e9 = "java/lang/IndexOutOfBoundsException" then 1 else 0)]
    refine g_seg [(797, .iload 5, 2)] 799 [(6, .int w9), (5, .int (if e9 = "java/lang/IndexOutOfBoundsException" then 1 else 0)), (0, .ref b), (1, .ref x), (2, .ref m), (3, .ref o), (4, .int xi)] [.int (if e9 = "java/lang/IndexOutOfBoundsException" then 1 else 0), .int (if e9 = "java/lang/IndexOutOfBoundsException" then 1 else 0)] C (by decide +kernel) rfl ?_
    refine g_icmp_eq (pc := 799) (off := 5) 804 C (by decide +kernel) (by decide) (fun _ => ?_) (fun c9 => absurd rfl c9)
    refine g_seg [(804, .iload 5, 2)] 806 [(6, .int w9), (5, .int (if e9 = "java/lang/IndexOutOfBoundsException" then 1 else 0)), (0, .ref b), (1, .ref x), (2, .ref m), (3, .ref o), (4, .int xi)] [.int (if e9 = "java/lang/IndexOutOfBoundsException" then 1 else 0)] C (by decide +kernel) rfl ?_
    refine g_if_ne (pc := 806) (off := 15) 821 C (by decide +kernel) (by decide) (fun _ => ?_) (fun c9 => ?_)
    · refine g_seg [(821, .goto 535, 3)] 1356 [(6, .int w9), (5, .int (if e9 = "java/lang/IndexOutOfBoundsException" then 1 else 0)), (0, .ref b), (1, .ref x), (2, .ref m), (3, .ref o), (4, .int xi)] [] C (by decide +kernel) rfl ?_
      refine g_subp [2, 3, 4, 5, 6] (lv' := [(0, .ref b), (1, .ref x), (2, .ref m), (3, .ref o), (4, .int xi)]) rfl ?_
      exact kk G5 bn _ _ (LW_mk hLB2 v2 v1 u3 v4 f5 u6) (by omega) (by (try simp only [Nat.add_assoc]); exact Nat.add_le_add_left (by decide) _) (by (try simp only [Nat.add_assoc]); exact Nat.add_le_add_left (by decide) _)
    · exfalso; obtain ⟨rfl, -⟩ := hp.2; revert c9; decide
set_option maxHeartbeats 4000000 in
set_option maxRecDepth 100000 in
theorem t_count {nm : String} {κ : Kx} {l : Launch} {D : va_G} {cy : Nat → ClassId} {b L x m o bn k ce sl : Nat} {xs : Nat → Int32} {xi : Int32} {G : GG} (C : g_OK κ l D cy (yLw nm) 9 code room_1 (some .boolean)) (hCX : g_CX κ) (hSC : g_SC κ b L xs) (hL : L ≤ 2560) (hk : 5 * k + 5 ≤ L) (hx : xi = nI (5 * k)) (hbn : bn + 200 < 2 ^ 31) (hce : ce + 16 ≤ room_1.cells) (hsl : sl + 400 ≤ room_1.slots) (hlw : LW cy x m o G bn) (kk : ∀ G' bn' ce' sl', LW cy x m o G' bn' → bn' ≤ bn + 200 → ce' ≤ ce + 16 → sl' ≤ sl + 400 → PG κ 9 ce' sl' G' [(0, .ref b), (1, .ref x), (2, .ref m), (3, .ref o), (4, .int xi)] 1356 []) : PG κ 9 ce sl G [(0, .ref b), (1, .ref x), (2, .ref m), (3, .ref o), (4, .int xi)] 824 [] := by
  obtain ⟨G1, G2, ad, am, th, nt, nf, nc, nn, T, E, Cu, N, KT, KF, KC, F, z0, hX, hM, ⟨s1, s2, dj⟩, ⟨ho, ho1, ho2⟩, hT, hS, hC⟩ := hlw
  refine g_pc (pc' := 824) rfl ?_
  refine g_seg [(824, .aload_n 1, 1), (825, .aload_n 0, 1), (826, .iload 4, 2), (828, .iconst 1, 1), (829, .iadd, 1)] 830 [(0, .ref b), (1, .ref x), (2, .ref m), (3, .ref o), (4, .int xi)] [.int (xi + 1), .ref b, .ref x] C (by decide +kernel) rfl ?_
  refine g_sald (pc := 830) (j := (5 * k + 1)) C hSC (by rw [hx]; exact nI_add (5 * k) 1) (by omega) (by omega) (by decide +kernel) ?_
  refine g_seg [(831, .aload_n 3, 1)] 832 [(0, .ref b), (1, .ref x), (2, .ref m), (3, .ref o), (4, .int xi)] [.ref o, .int (xs (5 * k + 1)), .ref x] C (by decide +kernel) rfl ?_
  refine g_callSW (pc := 832) C hCX mW_L_count q521 (c_L_count l D cy (xs (5 * k + 1)) (c_X4_count l D cy hX (xs (5 * k + 1))) s1 hX.1.1 ho ho1 (fun E G' h => h.2.1)) rfl ⟨⟨(Nat.le_of_ble_eq_true rfl), (Nat.le_of_ble_eq_true rfl)⟩, by refine Nat.le_trans ?_ hce; (try simp only [Nat.add_assoc]); exact Nat.add_le_add_left (by decide) _, by refine Nat.le_trans ?_ hsl; (try simp only [Nat.add_assoc]); exact Nat.add_le_add_left (by decide) _⟩ rfl (Nat.le_of_ble_eq_true rfl) (by decide +kernel) (fun r G3 h9 => ?_)
  obtain ⟨v, rfl, h9⟩ := h9
  rcases h9 with ⟨rfl, z, G', hp, hf⟩ | ⟨e9, G', hp, hf, rfl⟩
  · obtain ⟨f1, f2, f3, f4, f5⟩ := fo_step hf s2 dj ⟨_, ho⟩ ho1 ho2
    show PG κ 9 (ce + kL_count.cells) (sl + kL_count.slots) G3 [(0, .ref b), (1, .ref x), (2, .ref m), (3, .ref o), (4, .int xi)] 835 [.int 0]
    refine g_seg [(835, .istore 5, 2), (837, .aload_n 2, 1), (838, .aload_n 0, 1), (839, .iload 4, 2), (841, .iconst 1, 1), (842, .iadd, 1)] 843 [(5, .int 0), (0, .ref b), (1, .ref x), (2, .ref m), (3, .ref o), (4, .int xi)] [.int (xi + 1), .ref b, .ref m] C (by decide +kernel) rfl ?_
    refine g_sald (pc := 843) (j := (5 * k + 1)) C hSC (by rw [hx]; exact nI_add (5 * k) 1) (by omega) (by omega) (by decide +kernel) ?_
    refine g_callV (pc := 844) C mV_X5_count q798 (f2 _ _ hM.1.1) rfl rfl (Ctr.frame (c_X5_count l D cy hM (xs (5 * k + 1))) f2) rfl ⟨⟨(Nat.le_of_ble_eq_true rfl), (Nat.le_of_ble_eq_true rfl)⟩, by refine Nat.le_trans ?_ hce; (try simp only [Nat.add_assoc]); exact Nat.add_le_add_left (by decide) _, by refine Nat.le_trans ?_ hsl; (try simp only [Nat.add_assoc]); exact Nat.add_le_add_left (by decide) _⟩ rfl (Nat.le_of_ble_eq_true rfl) (by decide +kernel) (fun r G4 h4 => ?_)
    obtain ⟨G6, ⟨w9, rfl, hq⟩, hf4⟩ := h4
    obtain ⟨u2, u1, u3', u4, u6⟩ := fr_step hf4 f1 (dj_sym f3) f4 ho2
    have u3 := dj_sym u3'
    obtain ⟨hz, bn', hbn', hLB⟩ := a_count_ok (ad := ad) (am := am) (nt := nt) (nf := nf) (nc := nc) (nn := nn) (T := T) (E := E) (Cu := Cu) (N := N) (KT := KT) (KF := KF) (KC := KC) (F := F) ⟨hM.2.2.1, hM.2.2.2.1⟩ hT hS hC hbn hp hq
    have hLB2 := hLB
    obtain ⟨ad2, am2, nt2, nf2, nc2, nn2, T2, E2, C2, N2, KT2, KF2, KC2, F2, hX2, hM2, -⟩ := hLB
    show PG κ 9 ((ce + kL_count.cells) + kX5_count.cells) ((sl + kL_count.slots) + kX5_count.slots) G4 [(5, .int 0), (0, .ref b), (1, .ref x), (2, .ref m), (3, .ref o), (4, .int xi)] 847 [.int w9]
    refine g_seg [(847, .istore 6, 2), (849, .aload_n 2, 1)] 850 [(6, .int w9), (5, .int 0), (0, .ref b), (1, .ref x), (2, .ref m), (3, .ref o), (4, .int xi)] [.ref m] C (by decide +kernel) rfl ?_
    refine g_callV (pc := 850) C mV_X5_thrown q697 (u2 _ _ hM2.1.1) rfl rfl (Ctr.frame (c_X5_thrown l D cy hM2) u2) rfl ⟨⟨(Nat.le_of_ble_eq_true rfl), (Nat.le_of_ble_eq_true rfl)⟩, by refine Nat.le_trans ?_ hce; (try simp only [Nat.add_assoc]); exact Nat.add_le_add_left (by decide) _, by refine Nat.le_trans ?_ hsl; (try simp only [Nat.add_assoc]); exact Nat.add_le_add_left (by decide) _⟩ rfl (Nat.le_of_ble_eq_true rfl) (by decide +kernel) (fun r G5 h5 => ?_)
    obtain ⟨G7, ⟨v7, rfl, rfl, rfl⟩, hf5⟩ := h5
    obtain ⟨v1, v2, v3, v4, v5⟩ := fr_step hf5 u1 (dj_sym u3) u4 u6
    show PG κ 9 (((ce + kL_count.cells) + kX5_count.cells) + kX5_thrown.cells) (((sl + kL_count.slots) + kX5_count.slots) + kX5_thrown.slots) G5 [(6, .int w9), (5, .int 0), (0, .ref b), (1, .ref x), (2, .ref m), (3, .ref o), (4, .int xi)] 853 [.int 0]
    refine g_seg [(853, .iload 5, 2)] 855 [(6, .int w9), (5, .int 0), (0, .ref b), (1, .ref x), (2, .ref m), (3, .ref o), (4, .int xi)] [.int 0, .int 0] C (by decide +kernel) rfl ?_
    refine g_icmp_eq (pc := 855) (off := 5) 860 C (by decide +kernel) (by decide) (fun _ => ?_) (fun c9 => absurd rfl c9)
    refine g_seg [(860, .iload 5, 2)] 862 [(6, .int w9), (5, .int 0), (0, .ref b), (1, .ref x), (2, .ref m), (3, .ref o), (4, .int xi)] [.int 0] C (by decide +kernel) rfl ?_
    refine g_if_ne (pc := 862) (off := 15) 877 C (by decide +kernel) (by decide) (fun c9 => absurd rfl c9) (fun _ => ?_)
    refine g_seg [(865, .aload_n 3, 1), (866, .iconst 0, 1)] 867 [(6, .int w9), (5, .int 0), (0, .ref b), (1, .ref x), (2, .ref m), (3, .ref o), (4, .int xi)] [.int 0, .ref o] C (by decide +kernel) rfl ?_
    refine g_laldM (pc := 867) C v4 rfl (by decide +kernel) ?_
    refine g_seg [(868, .iload 6, 2), (870, .i2l, 1), (871, .lcmp, 1)] 872 [(6, .int w9), (5, .int 0), (0, .ref b), (1, .ref x), (2, .ref m), (3, .ref o), (4, .int xi)] [.int (lg_cmp z.toInt64 w9.toInt64)] C (by decide +kernel) rfl ?_
    refine g_if_eq (pc := 872) (off := 5) 877 C (by decide +kernel) (by decide) (fun _ => ?_) (fun c9 => absurd (by rw [hz]; exact lg_same _) c9)
    refine g_seg [(877, .goto 479, 3)] 1356 [(6, .int w9), (5, .int 0), (0, .ref b), (1, .ref x), (2, .ref m), (3, .ref o), (4, .int xi)] [] C (by decide +kernel) rfl ?_
    refine g_subp [2, 3, 4, 5, 6] (lv' := [(0, .ref b), (1, .ref x), (2, .ref m), (3, .ref o), (4, .int xi)]) rfl ?_
    exact kk G5 bn' _ _ (LW_mk hLB2 v2 v1 u3 v4 f5 u6) hbn' (by (try simp only [Nat.add_assoc]); exact Nat.add_le_add_left (by decide) _) (by (try simp only [Nat.add_assoc]); exact Nat.add_le_add_left (by decide) _)
  · obtain ⟨f1, f2, f3, f4, f5⟩ := fr_step hf s2 dj ho ho1
    show PG κ 9 (ce + kL_count.cells) (sl + kL_count.slots) G3 [(0, .ref b), (1, .ref x), (2, .ref m), (3, .ref o), (4, .int xi)] 835 [.int (if e9 = "java/lang/IndexOutOfBoundsException" then 1 else 0)]
    refine g_seg [(835, .istore 5, 2), (837, .aload_n 2, 1), (838, .aload_n 0, 1), (839, .iload 4, 2), (841, .iconst 1, 1), (842, .iadd, 1)] 843 [(5, .int (if e9 = "java/lang/IndexOutOfBoundsException" then 1 else 0)), (0, .ref b), (1, .ref x), (2, .ref m), (3, .ref o), (4, .int xi)] [.int (xi + 1), .ref b, .ref m] C (by decide +kernel) rfl ?_
    refine g_sald (pc := 843) (j := (5 * k + 1)) C hSC (by rw [hx]; exact nI_add (5 * k) 1) (by omega) (by omega) (by decide +kernel) ?_
    refine g_callV (pc := 844) C mV_X5_count q798 (f2 _ _ hM.1.1) rfl rfl (Ctr.frame (c_X5_count l D cy hM (xs (5 * k + 1))) f2) rfl ⟨⟨(Nat.le_of_ble_eq_true rfl), (Nat.le_of_ble_eq_true rfl)⟩, by refine Nat.le_trans ?_ hce; (try simp only [Nat.add_assoc]); exact Nat.add_le_add_left (by decide) _, by refine Nat.le_trans ?_ hsl; (try simp only [Nat.add_assoc]); exact Nat.add_le_add_left (by decide) _⟩ rfl (Nat.le_of_ble_eq_true rfl) (by decide +kernel) (fun r G4 h4 => ?_)
    obtain ⟨G6, ⟨w9, rfl, hq⟩, hf4⟩ := h4
    obtain ⟨u2, u1, u3', u4, u6⟩ := fr_step hf4 f1 (dj_sym f3) f4 ho2
    have u3 := dj_sym u3'
    have hLB := a_count_bad (z := 0) (ad := ad) (am := am) (nt := nt) (nf := nf) (nc := nc) (nn := nn) (T := T) (E := E) (Cu := Cu) (N := N) (KT := KT) (KF := KF) (KC := KC) (F := F) ⟨hM.2.2.1, hM.2.2.2.1⟩ hT hS hC hbn hp hq
    have hLB2 := hLB
    obtain ⟨ad2, am2, nt2, nf2, nc2, nn2, T2, E2, C2, N2, KT2, KF2, KC2, F2, hX2, hM2, -⟩ := hLB
    show PG κ 9 ((ce + kL_count.cells) + kX5_count.cells) ((sl + kL_count.slots) + kX5_count.slots) G4 [(5, .int (if e9 = "java/lang/IndexOutOfBoundsException" then 1 else 0)), (0, .ref b), (1, .ref x), (2, .ref m), (3, .ref o), (4, .int xi)] 847 [.int w9]
    refine g_seg [(847, .istore 6, 2), (849, .aload_n 2, 1)] 850 [(6, .int w9), (5, .int (if e9 = "java/lang/IndexOutOfBoundsException" then 1 else 0)), (0, .ref b), (1, .ref x), (2, .ref m), (3, .ref o), (4, .int xi)] [.ref m] C (by decide +kernel) rfl ?_
    refine g_callV (pc := 850) C mV_X5_thrown q697 (u2 _ _ hM2.1.1) rfl rfl (Ctr.frame (c_X5_thrown l D cy hM2) u2) rfl ⟨⟨(Nat.le_of_ble_eq_true rfl), (Nat.le_of_ble_eq_true rfl)⟩, by refine Nat.le_trans ?_ hce; (try simp only [Nat.add_assoc]); exact Nat.add_le_add_left (by decide) _, by refine Nat.le_trans ?_ hsl; (try simp only [Nat.add_assoc]); exact Nat.add_le_add_left (by decide) _⟩ rfl (Nat.le_of_ble_eq_true rfl) (by decide +kernel) (fun r G5 h5 => ?_)
    obtain ⟨G7, ⟨v7, rfl, rfl, rfl⟩, hf5⟩ := h5
    obtain ⟨v1, v2, v3, v4, v5⟩ := fr_step hf5 u1 (dj_sym u3) u4 u6
    show PG κ 9 (((ce + kL_count.cells) + kX5_count.cells) + kX5_thrown.cells) (((sl + kL_count.slots) + kX5_count.slots) + kX5_thrown.slots) G5 [(6, .int w9), (5, .int (if e9 = "java/lang/IndexOutOfBoundsException" then 1 else 0)), (0, .ref b), (1, .ref x), (2, .ref m), (3, .ref o), (4, .int xi)] 853 [.int (if e9 = "java/lang/IndexOutOfBoundsException" then 1 else 0)]
    refine g_seg [(853, .iload 5, 2)] 855 [(6, .int w9), (5, .int (if e9 = "java/lang/IndexOutOfBoundsException" then 1 else 0)), (0, .ref b), (1, .ref x), (2, .ref m), (3, .ref o), (4, .int xi)] [.int (if e9 = "java/lang/IndexOutOfBoundsException" then 1 else 0), .int (if e9 = "java/lang/IndexOutOfBoundsException" then 1 else 0)] C (by decide +kernel) rfl ?_
    refine g_icmp_eq (pc := 855) (off := 5) 860 C (by decide +kernel) (by decide) (fun _ => ?_) (fun c9 => absurd rfl c9)
    refine g_seg [(860, .iload 5, 2)] 862 [(6, .int w9), (5, .int (if e9 = "java/lang/IndexOutOfBoundsException" then 1 else 0)), (0, .ref b), (1, .ref x), (2, .ref m), (3, .ref o), (4, .int xi)] [.int (if e9 = "java/lang/IndexOutOfBoundsException" then 1 else 0)] C (by decide +kernel) rfl ?_
    refine g_if_ne (pc := 862) (off := 15) 877 C (by decide +kernel) (by decide) (fun _ => ?_) (fun c9 => ?_)
    · refine g_seg [(877, .goto 479, 3)] 1356 [(6, .int w9), (5, .int (if e9 = "java/lang/IndexOutOfBoundsException" then 1 else 0)), (0, .ref b), (1, .ref x), (2, .ref m), (3, .ref o), (4, .int xi)] [] C (by decide +kernel) rfl ?_
      refine g_subp [2, 3, 4, 5, 6] (lv' := [(0, .ref b), (1, .ref x), (2, .ref m), (3, .ref o), (4, .int xi)]) rfl ?_
      exact kk G5 bn _ _ (LW_mk hLB2 v2 v1 u3 v4 f5 u6) (by omega) (by (try simp only [Nat.add_assoc]); exact Nat.add_le_add_left (by decide) _) (by (try simp only [Nat.add_assoc]); exact Nat.add_le_add_left (by decide) _)
    · exfalso; obtain ⟨rfl, -⟩ := hp.2; revert c9; decide
set_option maxHeartbeats 4000000 in
set_option maxRecDepth 100000 in
theorem t_place {nm : String} {κ : Kx} {l : Launch} {D : va_G} {cy : Nat → ClassId} {b L x m o bn k ce sl : Nat} {xs : Nat → Int32} {xi : Int32} {G : GG} (C : g_OK κ l D cy (yLw nm) 9 code room_1 (some .boolean)) (hCX : g_CX κ) (hSC : g_SC κ b L xs) (hL : L ≤ 2560) (hk : 5 * k + 5 ≤ L) (hx : xi = nI (5 * k)) (hbn : bn + 200 < 2 ^ 31) (hce : ce + 16 ≤ room_1.cells) (hsl : sl + 400 ≤ room_1.slots) (hlw : LW cy x m o G bn) (kk : ∀ G' bn' ce' sl', LW cy x m o G' bn' → bn' ≤ bn + 200 → ce' ≤ ce + 16 → sl' ≤ sl + 400 → PG κ 9 ce' sl' G' [(0, .ref b), (1, .ref x), (2, .ref m), (3, .ref o), (4, .int xi)] 1356 []) : PG κ 9 ce sl G [(0, .ref b), (1, .ref x), (2, .ref m), (3, .ref o), (4, .int xi)] 880 [] := by
  obtain ⟨G1, G2, ad, am, th, nt, nf, nc, nn, T, E, Cu, N, KT, KF, KC, F, z0, hX, hM, ⟨s1, s2, dj⟩, ⟨ho, ho1, ho2⟩, hT, hS, hC⟩ := hlw
  refine g_pc (pc' := 880) rfl ?_
  refine g_seg [(880, .aload_n 1, 1), (881, .aload_n 0, 1), (882, .iload 4, 2), (884, .iconst 1, 1), (885, .iadd, 1)] 886 [(0, .ref b), (1, .ref x), (2, .ref m), (3, .ref o), (4, .int xi)] [.int (xi + 1), .ref b, .ref x] C (by decide +kernel) rfl ?_
  refine g_sald (pc := 886) (j := (5 * k + 1)) C hSC (by rw [hx]; exact nI_add (5 * k) 1) (by omega) (by omega) (by decide +kernel) ?_
  refine g_seg [(887, .aload_n 0, 1), (888, .iload 4, 2), (890, .iconst 2, 1), (891, .iadd, 1)] 892 [(0, .ref b), (1, .ref x), (2, .ref m), (3, .ref o), (4, .int xi)] [.int (xi + 2), .ref b, .int (xs (5 * k + 1)), .ref x] C (by decide +kernel) rfl ?_
  refine g_sald (pc := 892) (j := (5 * k + 2)) C hSC (by rw [hx]; exact nI_add (5 * k) 2) (by omega) (by omega) (by decide +kernel) ?_
  refine g_seg [(893, .aload_n 3, 1)] 894 [(0, .ref b), (1, .ref x), (2, .ref m), (3, .ref o), (4, .int xi)] [.ref o, .int (xs (5 * k + 2)), .int (xs (5 * k + 1)), .ref x] C (by decide +kernel) rfl ?_
  refine g_callSW (pc := 894) C hCX mW_L_place q529 (c_L_place l D cy (xs (5 * k + 1)) (xs (5 * k + 2)) (c_X4_place l D cy hX hT.1 (xs (5 * k + 1)) (xs (5 * k + 2))) s1 hX.1.1 ho ho1 (fun E G' h => by rcases h.2 with ⟨rfl, -⟩ | ⟨rfl, -⟩ <;> simp)) rfl ⟨⟨(Nat.le_of_ble_eq_true rfl), (Nat.le_of_ble_eq_true rfl)⟩, by refine Nat.le_trans ?_ hce; (try simp only [Nat.add_assoc]); exact Nat.add_le_add_left (by decide) _, by refine Nat.le_trans ?_ hsl; (try simp only [Nat.add_assoc]); exact Nat.add_le_add_left (by decide) _⟩ rfl (Nat.le_of_ble_eq_true rfl) (by decide +kernel) (fun r G3 h9 => ?_)
  obtain ⟨v, rfl, h9⟩ := h9
  rcases h9 with ⟨rfl, z, G', hp, hf⟩ | ⟨e9, G', hp, hf, rfl⟩
  · obtain ⟨f1, f2, f3, f4, f5⟩ := fo_step hf s2 dj ⟨_, ho⟩ ho1 ho2
    show PG κ 9 (ce + kL_place.cells) (sl + kL_place.slots) G3 [(0, .ref b), (1, .ref x), (2, .ref m), (3, .ref o), (4, .int xi)] 897 [.int 0]
    refine g_seg [(897, .istore 5, 2), (899, .aload_n 2, 1), (900, .aload_n 0, 1), (901, .iload 4, 2), (903, .iconst 1, 1), (904, .iadd, 1)] 905 [(5, .int 0), (0, .ref b), (1, .ref x), (2, .ref m), (3, .ref o), (4, .int xi)] [.int (xi + 1), .ref b, .ref m] C (by decide +kernel) rfl ?_
    refine g_sald (pc := 905) (j := (5 * k + 1)) C hSC (by rw [hx]; exact nI_add (5 * k) 1) (by omega) (by omega) (by decide +kernel) ?_
    refine g_seg [(906, .aload_n 0, 1), (907, .iload 4, 2), (909, .iconst 2, 1), (910, .iadd, 1)] 911 [(5, .int 0), (0, .ref b), (1, .ref x), (2, .ref m), (3, .ref o), (4, .int xi)] [.int (xi + 2), .ref b, .int (xs (5 * k + 1)), .ref m] C (by decide +kernel) rfl ?_
    refine g_sald (pc := 911) (j := (5 * k + 2)) C hSC (by rw [hx]; exact nI_add (5 * k) 2) (by omega) (by omega) (by decide +kernel) ?_
    refine g_callV (pc := 912) C mV_X5_place q810 (f2 _ _ hM.1.1) rfl rfl (Ctr.frame (c_X5_place l D cy hM hT.1 (xs (5 * k + 1)) (xs (5 * k + 2))) f2) rfl ⟨⟨(Nat.le_of_ble_eq_true rfl), (Nat.le_of_ble_eq_true rfl)⟩, by refine Nat.le_trans ?_ hce; (try simp only [Nat.add_assoc]); exact Nat.add_le_add_left (by decide) _, by refine Nat.le_trans ?_ hsl; (try simp only [Nat.add_assoc]); exact Nat.add_le_add_left (by decide) _⟩ rfl (Nat.le_of_ble_eq_true rfl) (by decide +kernel) (fun r G4 h4 => ?_)
    obtain ⟨G6, ⟨w9, rfl, hq⟩, hf4⟩ := h4
    obtain ⟨u2, u1, u3', u4, u6⟩ := fr_step hf4 f1 (dj_sym f3) f4 ho2
    have u3 := dj_sym u3'
    obtain ⟨hz, bn', hbn', hLB⟩ := a_place_ok (ad := ad) (am := am) (nt := nt) (nf := nf) (nc := nc) (nn := nn) (T := T) (E := E) (Cu := Cu) (N := N) (KT := KT) (KF := KF) (KC := KC) (F := F) ⟨hM.2.2.1, hM.2.2.2.1⟩ hT hS hC hbn hp hq
    have hLB2 := hLB
    obtain ⟨ad2, am2, nt2, nf2, nc2, nn2, T2, E2, C2, N2, KT2, KF2, KC2, F2, hX2, hM2, -⟩ := hLB
    show PG κ 9 ((ce + kL_place.cells) + kX5_place.cells) ((sl + kL_place.slots) + kX5_place.slots) G4 [(5, .int 0), (0, .ref b), (1, .ref x), (2, .ref m), (3, .ref o), (4, .int xi)] 915 [.int w9]
    refine g_seg [(915, .istore 6, 2), (917, .aload_n 2, 1)] 918 [(6, .int w9), (5, .int 0), (0, .ref b), (1, .ref x), (2, .ref m), (3, .ref o), (4, .int xi)] [.ref m] C (by decide +kernel) rfl ?_
    refine g_callV (pc := 918) C mV_X5_thrown q697 (u2 _ _ hM2.1.1) rfl rfl (Ctr.frame (c_X5_thrown l D cy hM2) u2) rfl ⟨⟨(Nat.le_of_ble_eq_true rfl), (Nat.le_of_ble_eq_true rfl)⟩, by refine Nat.le_trans ?_ hce; (try simp only [Nat.add_assoc]); exact Nat.add_le_add_left (by decide) _, by refine Nat.le_trans ?_ hsl; (try simp only [Nat.add_assoc]); exact Nat.add_le_add_left (by decide) _⟩ rfl (Nat.le_of_ble_eq_true rfl) (by decide +kernel) (fun r G5 h5 => ?_)
    obtain ⟨G7, ⟨v7, rfl, rfl, rfl⟩, hf5⟩ := h5
    obtain ⟨v1, v2, v3, v4, v5⟩ := fr_step hf5 u1 (dj_sym u3) u4 u6
    show PG κ 9 (((ce + kL_place.cells) + kX5_place.cells) + kX5_thrown.cells) (((sl + kL_place.slots) + kX5_place.slots) + kX5_thrown.slots) G5 [(6, .int w9), (5, .int 0), (0, .ref b), (1, .ref x), (2, .ref m), (3, .ref o), (4, .int xi)] 921 [.int 0]
    refine g_seg [(921, .iload 5, 2)] 923 [(6, .int w9), (5, .int 0), (0, .ref b), (1, .ref x), (2, .ref m), (3, .ref o), (4, .int xi)] [.int 0, .int 0] C (by decide +kernel) rfl ?_
    refine g_icmp_eq (pc := 923) (off := 5) 928 C (by decide +kernel) (by decide) (fun _ => ?_) (fun c9 => absurd rfl c9)
    refine g_seg [(928, .iload 5, 2)] 930 [(6, .int w9), (5, .int 0), (0, .ref b), (1, .ref x), (2, .ref m), (3, .ref o), (4, .int xi)] [.int 0] C (by decide +kernel) rfl ?_
    refine g_if_ne (pc := 930) (off := 15) 945 C (by decide +kernel) (by decide) (fun c9 => absurd rfl c9) (fun _ => ?_)
    refine g_seg [(933, .aload_n 3, 1), (934, .iconst 0, 1)] 935 [(6, .int w9), (5, .int 0), (0, .ref b), (1, .ref x), (2, .ref m), (3, .ref o), (4, .int xi)] [.int 0, .ref o] C (by decide +kernel) rfl ?_
    refine g_laldM (pc := 935) C v4 rfl (by decide +kernel) ?_
    refine g_seg [(936, .iload 6, 2), (938, .i2l, 1), (939, .lcmp, 1)] 940 [(6, .int w9), (5, .int 0), (0, .ref b), (1, .ref x), (2, .ref m), (3, .ref o), (4, .int xi)] [.int (lg_cmp z.toInt64 w9.toInt64)] C (by decide +kernel) rfl ?_
    refine g_if_eq (pc := 940) (off := 5) 945 C (by decide +kernel) (by decide) (fun _ => ?_) (fun c9 => absurd (by rw [hz]; exact lg_same _) c9)
    refine g_seg [(945, .goto 411, 3)] 1356 [(6, .int w9), (5, .int 0), (0, .ref b), (1, .ref x), (2, .ref m), (3, .ref o), (4, .int xi)] [] C (by decide +kernel) rfl ?_
    refine g_subp [2, 3, 4, 5, 6] (lv' := [(0, .ref b), (1, .ref x), (2, .ref m), (3, .ref o), (4, .int xi)]) rfl ?_
    exact kk G5 bn' _ _ (LW_mk hLB2 v2 v1 u3 v4 f5 u6) hbn' (by (try simp only [Nat.add_assoc]); exact Nat.add_le_add_left (by decide) _) (by (try simp only [Nat.add_assoc]); exact Nat.add_le_add_left (by decide) _)
  · obtain ⟨f1, f2, f3, f4, f5⟩ := fr_step hf s2 dj ho ho1
    show PG κ 9 (ce + kL_place.cells) (sl + kL_place.slots) G3 [(0, .ref b), (1, .ref x), (2, .ref m), (3, .ref o), (4, .int xi)] 897 [.int (if e9 = "java/lang/IndexOutOfBoundsException" then 1 else (if e9 = "java/lang/IllegalArgumentException" then 2 else 0))]
    refine g_seg [(897, .istore 5, 2), (899, .aload_n 2, 1), (900, .aload_n 0, 1), (901, .iload 4, 2), (903, .iconst 1, 1), (904, .iadd, 1)] 905 [(5, .int (if e9 = "java/lang/IndexOutOfBoundsException" then 1 else (if e9 = "java/lang/IllegalArgumentException" then 2 else 0))), (0, .ref b), (1, .ref x), (2, .ref m), (3, .ref o), (4, .int xi)] [.int (xi + 1), .ref b, .ref m] C (by decide +kernel) rfl ?_
    refine g_sald (pc := 905) (j := (5 * k + 1)) C hSC (by rw [hx]; exact nI_add (5 * k) 1) (by omega) (by omega) (by decide +kernel) ?_
    refine g_seg [(906, .aload_n 0, 1), (907, .iload 4, 2), (909, .iconst 2, 1), (910, .iadd, 1)] 911 [(5, .int (if e9 = "java/lang/IndexOutOfBoundsException" then 1 else (if e9 = "java/lang/IllegalArgumentException" then 2 else 0))), (0, .ref b), (1, .ref x), (2, .ref m), (3, .ref o), (4, .int xi)] [.int (xi + 2), .ref b, .int (xs (5 * k + 1)), .ref m] C (by decide +kernel) rfl ?_
    refine g_sald (pc := 911) (j := (5 * k + 2)) C hSC (by rw [hx]; exact nI_add (5 * k) 2) (by omega) (by omega) (by decide +kernel) ?_
    refine g_callV (pc := 912) C mV_X5_place q810 (f2 _ _ hM.1.1) rfl rfl (Ctr.frame (c_X5_place l D cy hM hT.1 (xs (5 * k + 1)) (xs (5 * k + 2))) f2) rfl ⟨⟨(Nat.le_of_ble_eq_true rfl), (Nat.le_of_ble_eq_true rfl)⟩, by refine Nat.le_trans ?_ hce; (try simp only [Nat.add_assoc]); exact Nat.add_le_add_left (by decide) _, by refine Nat.le_trans ?_ hsl; (try simp only [Nat.add_assoc]); exact Nat.add_le_add_left (by decide) _⟩ rfl (Nat.le_of_ble_eq_true rfl) (by decide +kernel) (fun r G4 h4 => ?_)
    obtain ⟨G6, ⟨w9, rfl, hq⟩, hf4⟩ := h4
    obtain ⟨u2, u1, u3', u4, u6⟩ := fr_step hf4 f1 (dj_sym f3) f4 ho2
    have u3 := dj_sym u3'
    have hLB := a_place_bad (z := 0) (ad := ad) (am := am) (nt := nt) (nf := nf) (nc := nc) (nn := nn) (T := T) (E := E) (Cu := Cu) (N := N) (KT := KT) (KF := KF) (KC := KC) (F := F) ⟨hM.2.2.1, hM.2.2.2.1⟩ hT hS hC hbn hp hq
    have hLB2 := hLB
    obtain ⟨ad2, am2, nt2, nf2, nc2, nn2, T2, E2, C2, N2, KT2, KF2, KC2, F2, hX2, hM2, -⟩ := hLB
    show PG κ 9 ((ce + kL_place.cells) + kX5_place.cells) ((sl + kL_place.slots) + kX5_place.slots) G4 [(5, .int (if e9 = "java/lang/IndexOutOfBoundsException" then 1 else (if e9 = "java/lang/IllegalArgumentException" then 2 else 0))), (0, .ref b), (1, .ref x), (2, .ref m), (3, .ref o), (4, .int xi)] 915 [.int w9]
    refine g_seg [(915, .istore 6, 2), (917, .aload_n 2, 1)] 918 [(6, .int w9), (5, .int (if e9 = "java/lang/IndexOutOfBoundsException" then 1 else (if e9 = "java/lang/IllegalArgumentException" then 2 else 0))), (0, .ref b), (1, .ref x), (2, .ref m), (3, .ref o), (4, .int xi)] [.ref m] C (by decide +kernel) rfl ?_
    refine g_callV (pc := 918) C mV_X5_thrown q697 (u2 _ _ hM2.1.1) rfl rfl (Ctr.frame (c_X5_thrown l D cy hM2) u2) rfl ⟨⟨(Nat.le_of_ble_eq_true rfl), (Nat.le_of_ble_eq_true rfl)⟩, by refine Nat.le_trans ?_ hce; (try simp only [Nat.add_assoc]); exact Nat.add_le_add_left (by decide) _, by refine Nat.le_trans ?_ hsl; (try simp only [Nat.add_assoc]); exact Nat.add_le_add_left (by decide) _⟩ rfl (Nat.le_of_ble_eq_true rfl) (by decide +kernel) (fun r G5 h5 => ?_)
    obtain ⟨G7, ⟨v7, rfl, rfl, rfl⟩, hf5⟩ := h5
    obtain ⟨v1, v2, v3, v4, v5⟩ := fr_step hf5 u1 (dj_sym u3) u4 u6
    show PG κ 9 (((ce + kL_place.cells) + kX5_place.cells) + kX5_thrown.cells) (((sl + kL_place.slots) + kX5_place.slots) + kX5_thrown.slots) G5 [(6, .int w9), (5, .int (if e9 = "java/lang/IndexOutOfBoundsException" then 1 else (if e9 = "java/lang/IllegalArgumentException" then 2 else 0))), (0, .ref b), (1, .ref x), (2, .ref m), (3, .ref o), (4, .int xi)] 921 [.int (if e9 = "java/lang/IndexOutOfBoundsException" then 1 else (if e9 = "java/lang/IllegalArgumentException" then 2 else 0))]
    refine g_seg [(921, .iload 5, 2)] 923 [(6, .int w9), (5, .int (if e9 = "java/lang/IndexOutOfBoundsException" then 1 else (if e9 = "java/lang/IllegalArgumentException" then 2 else 0))), (0, .ref b), (1, .ref x), (2, .ref m), (3, .ref o), (4, .int xi)] [.int (if e9 = "java/lang/IndexOutOfBoundsException" then 1 else (if e9 = "java/lang/IllegalArgumentException" then 2 else 0)), .int (if e9 = "java/lang/IndexOutOfBoundsException" then 1 else (if e9 = "java/lang/IllegalArgumentException" then 2 else 0))] C (by decide +kernel) rfl ?_
    refine g_icmp_eq (pc := 923) (off := 5) 928 C (by decide +kernel) (by decide) (fun _ => ?_) (fun c9 => absurd rfl c9)
    refine g_seg [(928, .iload 5, 2)] 930 [(6, .int w9), (5, .int (if e9 = "java/lang/IndexOutOfBoundsException" then 1 else (if e9 = "java/lang/IllegalArgumentException" then 2 else 0))), (0, .ref b), (1, .ref x), (2, .ref m), (3, .ref o), (4, .int xi)] [.int (if e9 = "java/lang/IndexOutOfBoundsException" then 1 else (if e9 = "java/lang/IllegalArgumentException" then 2 else 0))] C (by decide +kernel) rfl ?_
    refine g_if_ne (pc := 930) (off := 15) 945 C (by decide +kernel) (by decide) (fun _ => ?_) (fun c9 => ?_)
    · refine g_seg [(945, .goto 411, 3)] 1356 [(6, .int w9), (5, .int (if e9 = "java/lang/IndexOutOfBoundsException" then 1 else (if e9 = "java/lang/IllegalArgumentException" then 2 else 0))), (0, .ref b), (1, .ref x), (2, .ref m), (3, .ref o), (4, .int xi)] [] C (by decide +kernel) rfl ?_
      refine g_subp [2, 3, 4, 5, 6] (lv' := [(0, .ref b), (1, .ref x), (2, .ref m), (3, .ref o), (4, .int xi)]) rfl ?_
      exact kk G5 bn _ _ (LW_mk hLB2 v2 v1 u3 v4 f5 u6) (by omega) (by (try simp only [Nat.add_assoc]); exact Nat.add_le_add_left (by decide) _) (by (try simp only [Nat.add_assoc]); exact Nat.add_le_add_left (by decide) _)
    · exfalso; rcases hp.2 with ⟨rfl, -⟩ | ⟨rfl, -⟩ <;> revert c9 <;> decide
set_option maxHeartbeats 4000000 in
set_option maxRecDepth 100000 in
theorem t_go {nm : String} {κ : Kx} {l : Launch} {D : va_G} {cy : Nat → ClassId} {b L x m o bn k ce sl : Nat} {xs : Nat → Int32} {xi : Int32} {G : GG} (C : g_OK κ l D cy (yLw nm) 9 code room_1 (some .boolean)) (hCX : g_CX κ) (hSC : g_SC κ b L xs) (hL : L ≤ 2560) (hk : 5 * k + 5 ≤ L) (hx : xi = nI (5 * k)) (hbn : bn + 200 < 2 ^ 31) (hce : ce + 16 ≤ room_1.cells) (hsl : sl + 400 ≤ room_1.slots) (hlw : LW cy x m o G bn) (kk : ∀ G' bn' ce' sl', LW cy x m o G' bn' → bn' ≤ bn + 200 → ce' ≤ ce + 16 → sl' ≤ sl + 400 → PG κ 9 ce' sl' G' [(0, .ref b), (1, .ref x), (2, .ref m), (3, .ref o), (4, .int xi)] 1356 []) : PG κ 9 ce sl G [(0, .ref b), (1, .ref x), (2, .ref m), (3, .ref o), (4, .int xi)] 973 [] := by
  obtain ⟨G1, G2, ad, am, th, nt, nf, nc, nn, T, E, Cu, N, KT, KF, KC, F, z0, hX, hM, ⟨s1, s2, dj⟩, ⟨ho, ho1, ho2⟩, hT, hS, hC⟩ := hlw
  refine g_pc (pc' := 973) rfl ?_
  refine g_seg [(973, .aload_n 1, 1), (974, .aload_n 0, 1), (975, .iload 4, 2), (977, .iconst 1, 1), (978, .iadd, 1)] 979 [(0, .ref b), (1, .ref x), (2, .ref m), (3, .ref o), (4, .int xi)] [.int (xi + 1), .ref b, .ref x] C (by decide +kernel) rfl ?_
  refine g_sald (pc := 979) (j := (5 * k + 1)) C hSC (by rw [hx]; exact nI_add (5 * k) 1) (by omega) (by omega) (by decide +kernel) ?_
  refine g_seg [(980, .aload_n 3, 1)] 981 [(0, .ref b), (1, .ref x), (2, .ref m), (3, .ref o), (4, .int xi)] [.ref o, .int (xs (5 * k + 1)), .ref x] C (by decide +kernel) rfl ?_
  refine g_callSW (pc := 981) C hCX mW_L_go q537 (c_L_go l D cy (xs (5 * k + 1)) (c_X4_go l D cy hX hT.1 (xs (5 * k + 1))) s1 hX.1.1 ho ho1 (fun E G' h => h.2.1)) rfl ⟨⟨(Nat.le_of_ble_eq_true rfl), (Nat.le_of_ble_eq_true rfl)⟩, by refine Nat.le_trans ?_ hce; (try simp only [Nat.add_assoc]); exact Nat.add_le_add_left (by decide) _, by refine Nat.le_trans ?_ hsl; (try simp only [Nat.add_assoc]); exact Nat.add_le_add_left (by decide) _⟩ rfl (Nat.le_of_ble_eq_true rfl) (by decide +kernel) (fun r G3 h9 => ?_)
  obtain ⟨v, rfl, h9⟩ := h9
  rcases h9 with ⟨rfl, z, G', hp, hf⟩ | ⟨e9, G', hp, hf, rfl⟩
  · obtain ⟨f1, f2, f3, f4, f5⟩ := fo_step hf s2 dj ⟨_, ho⟩ ho1 ho2
    show PG κ 9 (ce + kL_go.cells) (sl + kL_go.slots) G3 [(0, .ref b), (1, .ref x), (2, .ref m), (3, .ref o), (4, .int xi)] 984 [.int 0]
    refine g_seg [(984, .istore 5, 2), (986, .aload_n 2, 1), (987, .aload_n 0, 1), (988, .iload 4, 2), (990, .iconst 1, 1), (991, .iadd, 1)] 992 [(5, .int 0), (0, .ref b), (1, .ref x), (2, .ref m), (3, .ref o), (4, .int xi)] [.int (xi + 1), .ref b, .ref m] C (by decide +kernel) rfl ?_
    refine g_sald (pc := 992) (j := (5 * k + 1)) C hSC (by rw [hx]; exact nI_add (5 * k) 1) (by omega) (by omega) (by decide +kernel) ?_
    refine g_callV (pc := 993) C mV_X5_go q822 (f2 _ _ hM.1.1) rfl rfl (Ctr.frame (c_X5_go l D cy hM (wS_of hT hS hC) (xs (5 * k + 1))) f2) rfl ⟨⟨(Nat.le_of_ble_eq_true rfl), (Nat.le_of_ble_eq_true rfl)⟩, by refine Nat.le_trans ?_ hce; (try simp only [Nat.add_assoc]); exact Nat.add_le_add_left (by decide) _, by refine Nat.le_trans ?_ hsl; (try simp only [Nat.add_assoc]); exact Nat.add_le_add_left (by decide) _⟩ rfl (Nat.le_of_ble_eq_true rfl) (by decide +kernel) (fun r G4 h4 => ?_)
    obtain ⟨G6, ⟨w9, rfl, hq⟩, hf4⟩ := h4
    obtain ⟨u2, u1, u3', u4, u6⟩ := fr_step hf4 f1 (dj_sym f3) f4 ho2
    have u3 := dj_sym u3'
    obtain ⟨hz, bn', hbn', hLB⟩ := a_go_ok (ad := ad) (am := am) (nt := nt) (nf := nf) (nc := nc) (nn := nn) (T := T) (E := E) (Cu := Cu) (N := N) (KT := KT) (KF := KF) (KC := KC) (F := F) ⟨hM.2.2.1, hM.2.2.2.1⟩ hT hS hC hbn hp hq
    have hLB2 := hLB
    obtain ⟨ad2, am2, nt2, nf2, nc2, nn2, T2, E2, C2, N2, KT2, KF2, KC2, F2, hX2, hM2, -⟩ := hLB
    show PG κ 9 ((ce + kL_go.cells) + kX5_go.cells) ((sl + kL_go.slots) + kX5_go.slots) G4 [(5, .int 0), (0, .ref b), (1, .ref x), (2, .ref m), (3, .ref o), (4, .int xi)] 996 [.int w9]
    refine g_seg [(996, .istore 6, 2), (998, .aload_n 2, 1)] 999 [(6, .int w9), (5, .int 0), (0, .ref b), (1, .ref x), (2, .ref m), (3, .ref o), (4, .int xi)] [.ref m] C (by decide +kernel) rfl ?_
    refine g_callV (pc := 999) C mV_X5_thrown q697 (u2 _ _ hM2.1.1) rfl rfl (Ctr.frame (c_X5_thrown l D cy hM2) u2) rfl ⟨⟨(Nat.le_of_ble_eq_true rfl), (Nat.le_of_ble_eq_true rfl)⟩, by refine Nat.le_trans ?_ hce; (try simp only [Nat.add_assoc]); exact Nat.add_le_add_left (by decide) _, by refine Nat.le_trans ?_ hsl; (try simp only [Nat.add_assoc]); exact Nat.add_le_add_left (by decide) _⟩ rfl (Nat.le_of_ble_eq_true rfl) (by decide +kernel) (fun r G5 h5 => ?_)
    obtain ⟨G7, ⟨v7, rfl, rfl, rfl⟩, hf5⟩ := h5
    obtain ⟨v1, v2, v3, v4, v5⟩ := fr_step hf5 u1 (dj_sym u3) u4 u6
    show PG κ 9 (((ce + kL_go.cells) + kX5_go.cells) + kX5_thrown.cells) (((sl + kL_go.slots) + kX5_go.slots) + kX5_thrown.slots) G5 [(6, .int w9), (5, .int 0), (0, .ref b), (1, .ref x), (2, .ref m), (3, .ref o), (4, .int xi)] 1002 [.int 0]
    refine g_seg [(1002, .iload 5, 2)] 1004 [(6, .int w9), (5, .int 0), (0, .ref b), (1, .ref x), (2, .ref m), (3, .ref o), (4, .int xi)] [.int 0, .int 0] C (by decide +kernel) rfl ?_
    refine g_icmp_eq (pc := 1004) (off := 5) 1009 C (by decide +kernel) (by decide) (fun _ => ?_) (fun c9 => absurd rfl c9)
    refine g_seg [(1009, .iload 5, 2)] 1011 [(6, .int w9), (5, .int 0), (0, .ref b), (1, .ref x), (2, .ref m), (3, .ref o), (4, .int xi)] [.int 0] C (by decide +kernel) rfl ?_
    refine g_if_ne (pc := 1011) (off := 15) 1026 C (by decide +kernel) (by decide) (fun c9 => absurd rfl c9) (fun _ => ?_)
    refine g_seg [(1014, .aload_n 3, 1), (1015, .iconst 0, 1)] 1016 [(6, .int w9), (5, .int 0), (0, .ref b), (1, .ref x), (2, .ref m), (3, .ref o), (4, .int xi)] [.int 0, .ref o] C (by decide +kernel) rfl ?_
    refine g_laldM (pc := 1016) C v4 rfl (by decide +kernel) ?_
    refine g_seg [(1017, .iload 6, 2), (1019, .i2l, 1), (1020, .lcmp, 1)] 1021 [(6, .int w9), (5, .int 0), (0, .ref b), (1, .ref x), (2, .ref m), (3, .ref o), (4, .int xi)] [.int (lg_cmp z.toInt64 w9.toInt64)] C (by decide +kernel) rfl ?_
    refine g_if_eq (pc := 1021) (off := 5) 1026 C (by decide +kernel) (by decide) (fun _ => ?_) (fun c9 => absurd (by rw [hz]; exact lg_same _) c9)
    refine g_seg [(1026, .goto 330, 3)] 1356 [(6, .int w9), (5, .int 0), (0, .ref b), (1, .ref x), (2, .ref m), (3, .ref o), (4, .int xi)] [] C (by decide +kernel) rfl ?_
    refine g_subp [2, 3, 4, 5, 6] (lv' := [(0, .ref b), (1, .ref x), (2, .ref m), (3, .ref o), (4, .int xi)]) rfl ?_
    exact kk G5 bn' _ _ (LW_mk hLB2 v2 v1 u3 v4 f5 u6) hbn' (by (try simp only [Nat.add_assoc]); exact Nat.add_le_add_left (by decide) _) (by (try simp only [Nat.add_assoc]); exact Nat.add_le_add_left (by decide) _)
  · obtain ⟨f1, f2, f3, f4, f5⟩ := fr_step hf s2 dj ho ho1
    show PG κ 9 (ce + kL_go.cells) (sl + kL_go.slots) G3 [(0, .ref b), (1, .ref x), (2, .ref m), (3, .ref o), (4, .int xi)] 984 [.int (if e9 = "java/lang/IllegalArgumentException" then 1 else 0)]
    refine g_seg [(984, .istore 5, 2), (986, .aload_n 2, 1), (987, .aload_n 0, 1), (988, .iload 4, 2), (990, .iconst 1, 1), (991, .iadd, 1)] 992 [(5, .int (if e9 = "java/lang/IllegalArgumentException" then 1 else 0)), (0, .ref b), (1, .ref x), (2, .ref m), (3, .ref o), (4, .int xi)] [.int (xi + 1), .ref b, .ref m] C (by decide +kernel) rfl ?_
    refine g_sald (pc := 992) (j := (5 * k + 1)) C hSC (by rw [hx]; exact nI_add (5 * k) 1) (by omega) (by omega) (by decide +kernel) ?_
    refine g_callV (pc := 993) C mV_X5_go q822 (f2 _ _ hM.1.1) rfl rfl (Ctr.frame (c_X5_go l D cy hM (wS_of hT hS hC) (xs (5 * k + 1))) f2) rfl ⟨⟨(Nat.le_of_ble_eq_true rfl), (Nat.le_of_ble_eq_true rfl)⟩, by refine Nat.le_trans ?_ hce; (try simp only [Nat.add_assoc]); exact Nat.add_le_add_left (by decide) _, by refine Nat.le_trans ?_ hsl; (try simp only [Nat.add_assoc]); exact Nat.add_le_add_left (by decide) _⟩ rfl (Nat.le_of_ble_eq_true rfl) (by decide +kernel) (fun r G4 h4 => ?_)
    obtain ⟨G6, ⟨w9, rfl, hq⟩, hf4⟩ := h4
    obtain ⟨u2, u1, u3', u4, u6⟩ := fr_step hf4 f1 (dj_sym f3) f4 ho2
    have u3 := dj_sym u3'
    have hLB := a_go_bad (z := 0) (ad := ad) (am := am) (nt := nt) (nf := nf) (nc := nc) (nn := nn) (T := T) (E := E) (Cu := Cu) (N := N) (KT := KT) (KF := KF) (KC := KC) (F := F) ⟨hM.2.2.1, hM.2.2.2.1⟩ hT hS hC hbn hp hq
    have hLB2 := hLB
    obtain ⟨ad2, am2, nt2, nf2, nc2, nn2, T2, E2, C2, N2, KT2, KF2, KC2, F2, hX2, hM2, -⟩ := hLB
    show PG κ 9 ((ce + kL_go.cells) + kX5_go.cells) ((sl + kL_go.slots) + kX5_go.slots) G4 [(5, .int (if e9 = "java/lang/IllegalArgumentException" then 1 else 0)), (0, .ref b), (1, .ref x), (2, .ref m), (3, .ref o), (4, .int xi)] 996 [.int w9]
    refine g_seg [(996, .istore 6, 2), (998, .aload_n 2, 1)] 999 [(6, .int w9), (5, .int (if e9 = "java/lang/IllegalArgumentException" then 1 else 0)), (0, .ref b), (1, .ref x), (2, .ref m), (3, .ref o), (4, .int xi)] [.ref m] C (by decide +kernel) rfl ?_
    refine g_callV (pc := 999) C mV_X5_thrown q697 (u2 _ _ hM2.1.1) rfl rfl (Ctr.frame (c_X5_thrown l D cy hM2) u2) rfl ⟨⟨(Nat.le_of_ble_eq_true rfl), (Nat.le_of_ble_eq_true rfl)⟩, by refine Nat.le_trans ?_ hce; (try simp only [Nat.add_assoc]); exact Nat.add_le_add_left (by decide) _, by refine Nat.le_trans ?_ hsl; (try simp only [Nat.add_assoc]); exact Nat.add_le_add_left (by decide) _⟩ rfl (Nat.le_of_ble_eq_true rfl) (by decide +kernel) (fun r G5 h5 => ?_)
    obtain ⟨G7, ⟨v7, rfl, rfl, rfl⟩, hf5⟩ := h5
    obtain ⟨v1, v2, v3, v4, v5⟩ := fr_step hf5 u1 (dj_sym u3) u4 u6
    show PG κ 9 (((ce + kL_go.cells) + kX5_go.cells) + kX5_thrown.cells) (((sl + kL_go.slots) + kX5_go.slots) + kX5_thrown.slots) G5 [(6, .int w9), (5, .int (if e9 = "java/lang/IllegalArgumentException" then 1 else 0)), (0, .ref b), (1, .ref x), (2, .ref m), (3, .ref o), (4, .int xi)] 1002 [.int (if e9 = "java/lang/IllegalArgumentException" then 1 else 0)]
    refine g_seg [(1002, .iload 5, 2)] 1004 [(6, .int w9), (5, .int (if e9 = "java/lang/IllegalArgumentException" then 1 else 0)), (0, .ref b), (1, .ref x), (2, .ref m), (3, .ref o), (4, .int xi)] [.int (if e9 = "java/lang/IllegalArgumentException" then 1 else 0), .int (if e9 = "java/lang/IllegalArgumentException" then 1 else 0)] C (by decide +kernel) rfl ?_
    refine g_icmp_eq (pc := 1004) (off := 5) 1009 C (by decide +kernel) (by decide) (fun _ => ?_) (fun c9 => absurd rfl c9)
    refine g_seg [(1009, .iload 5, 2)] 1011 [(6, .int w9), (5, .int (if e9 = "java/lang/IllegalArgumentException" then 1 else 0)), (0, .ref b), (1, .ref x), (2, .ref m), (3, .ref o), (4, .int xi)] [.int (if e9 = "java/lang/IllegalArgumentException" then 1 else 0)] C (by decide +kernel) rfl ?_
    refine g_if_ne (pc := 1011) (off := 15) 1026 C (by decide +kernel) (by decide) (fun _ => ?_) (fun c9 => ?_)
    · refine g_seg [(1026, .goto 330, 3)] 1356 [(6, .int w9), (5, .int (if e9 = "java/lang/IllegalArgumentException" then 1 else 0)), (0, .ref b), (1, .ref x), (2, .ref m), (3, .ref o), (4, .int xi)] [] C (by decide +kernel) rfl ?_
      refine g_subp [2, 3, 4, 5, 6] (lv' := [(0, .ref b), (1, .ref x), (2, .ref m), (3, .ref o), (4, .int xi)]) rfl ?_
      exact kk G5 bn _ _ (LW_mk hLB2 v2 v1 u3 v4 f5 u6) (by omega) (by (try simp only [Nat.add_assoc]); exact Nat.add_le_add_left (by decide) _) (by (try simp only [Nat.add_assoc]); exact Nat.add_le_add_left (by decide) _)
    · exfalso; obtain ⟨rfl, -⟩ := hp.2; revert c9; decide
set_option maxHeartbeats 4000000 in
set_option maxRecDepth 100000 in
theorem t_meets {nm : String} {κ : Kx} {l : Launch} {D : va_G} {cy : Nat → ClassId} {b L x m o bn k ce sl : Nat} {xs : Nat → Int32} {xi : Int32} {G : GG} (C : g_OK κ l D cy (yLw nm) 9 code room_1 (some .boolean)) (hCX : g_CX κ) (hSC : g_SC κ b L xs) (hL : L ≤ 2560) (hk : 5 * k + 5 ≤ L) (hx : xi = nI (5 * k)) (hbn : bn + 200 < 2 ^ 31) (hce : ce + 16 ≤ room_1.cells) (hsl : sl + 400 ≤ room_1.slots) (hlw : LW cy x m o G bn) (kk : ∀ G' bn' ce' sl', LW cy x m o G' bn' → bn' ≤ bn + 200 → ce' ≤ ce + 16 → sl' ≤ sl + 400 → PG κ 9 ce' sl' G' [(0, .ref b), (1, .ref x), (2, .ref m), (3, .ref o), (4, .int xi)] 1356 []) : PG κ 9 ce sl G [(0, .ref b), (1, .ref x), (2, .ref m), (3, .ref o), (4, .int xi)] 1029 [] := by
  obtain ⟨G1, G2, ad, am, th, nt, nf, nc, nn, T, E, Cu, N, KT, KF, KC, F, z0, hX, hM, ⟨s1, s2, dj⟩, ⟨ho, ho1, ho2⟩, hT, hS, hC⟩ := hlw
  refine g_pc (pc' := 1029) rfl ?_
  refine g_seg [(1029, .aload_n 1, 1), (1030, .aload_n 0, 1), (1031, .iload 4, 2), (1033, .iconst 1, 1), (1034, .iadd, 1)] 1035 [(0, .ref b), (1, .ref x), (2, .ref m), (3, .ref o), (4, .int xi)] [.int (xi + 1), .ref b, .ref x] C (by decide +kernel) rfl ?_
  refine g_sald (pc := 1035) (j := (5 * k + 1)) C hSC (by rw [hx]; exact nI_add (5 * k) 1) (by omega) (by omega) (by decide +kernel) ?_
  refine g_seg [(1036, .aload_n 0, 1), (1037, .iload 4, 2), (1039, .iconst 2, 1), (1040, .iadd, 1)] 1041 [(0, .ref b), (1, .ref x), (2, .ref m), (3, .ref o), (4, .int xi)] [.int (xi + 2), .ref b, .int (xs (5 * k + 1)), .ref x] C (by decide +kernel) rfl ?_
  refine g_sald (pc := 1041) (j := (5 * k + 2)) C hSC (by rw [hx]; exact nI_add (5 * k) 2) (by omega) (by omega) (by decide +kernel) ?_
  refine g_seg [(1042, .aload_n 3, 1)] 1043 [(0, .ref b), (1, .ref x), (2, .ref m), (3, .ref o), (4, .int xi)] [.ref o, .int (xs (5 * k + 2)), .int (xs (5 * k + 1)), .ref x] C (by decide +kernel) rfl ?_
  refine g_callSW (pc := 1043) C hCX mW_L_meets q596 (c_L_meets l D cy (xs (5 * k + 1)) (xs (5 * k + 2)) (c_X4_meets l D cy hX hT.1 (xs (5 * k + 1)) (xs (5 * k + 2))) s1 hX.1.1 ho ho1 (fun E G' h => h.2.1)) rfl ⟨⟨(Nat.le_of_ble_eq_true rfl), (Nat.le_of_ble_eq_true rfl)⟩, by refine Nat.le_trans ?_ hce; (try simp only [Nat.add_assoc]); exact Nat.add_le_add_left (by decide) _, by refine Nat.le_trans ?_ hsl; (try simp only [Nat.add_assoc]); exact Nat.add_le_add_left (by decide) _⟩ rfl (Nat.le_of_ble_eq_true rfl) (by decide +kernel) (fun r G3 h9 => ?_)
  obtain ⟨v, rfl, h9⟩ := h9
  rcases h9 with ⟨rfl, z, G', hp, hf⟩ | ⟨e9, G', hp, hf, rfl⟩
  · obtain ⟨f1, f2, f3, f4, f5⟩ := fo_step hf s2 dj ⟨_, ho⟩ ho1 ho2
    show PG κ 9 (ce + kL_meets.cells) (sl + kL_meets.slots) G3 [(0, .ref b), (1, .ref x), (2, .ref m), (3, .ref o), (4, .int xi)] 1046 [.int 0]
    refine g_seg [(1046, .istore 5, 2), (1048, .aload_n 2, 1), (1049, .aload_n 0, 1), (1050, .iload 4, 2), (1052, .iconst 1, 1), (1053, .iadd, 1)] 1054 [(5, .int 0), (0, .ref b), (1, .ref x), (2, .ref m), (3, .ref o), (4, .int xi)] [.int (xi + 1), .ref b, .ref m] C (by decide +kernel) rfl ?_
    refine g_sald (pc := 1054) (j := (5 * k + 1)) C hSC (by rw [hx]; exact nI_add (5 * k) 1) (by omega) (by omega) (by decide +kernel) ?_
    refine g_seg [(1055, .aload_n 0, 1), (1056, .iload 4, 2), (1058, .iconst 2, 1), (1059, .iadd, 1)] 1060 [(5, .int 0), (0, .ref b), (1, .ref x), (2, .ref m), (3, .ref o), (4, .int xi)] [.int (xi + 2), .ref b, .int (xs (5 * k + 1)), .ref m] C (by decide +kernel) rfl ?_
    refine g_sald (pc := 1060) (j := (5 * k + 2)) C hSC (by rw [hx]; exact nI_add (5 * k) 2) (by omega) (by omega) (by decide +kernel) ?_
    refine g_callV (pc := 1061) C mV_X5_meets q860 (f2 _ _ hM.1.1) rfl rfl (Ctr.frame (c_X5_meets l D cy hM hT.1 (xs (5 * k + 1)) (xs (5 * k + 2))) f2) rfl ⟨⟨(Nat.le_of_ble_eq_true rfl), (Nat.le_of_ble_eq_true rfl)⟩, by refine Nat.le_trans ?_ hce; (try simp only [Nat.add_assoc]); exact Nat.add_le_add_left (by decide) _, by refine Nat.le_trans ?_ hsl; (try simp only [Nat.add_assoc]); exact Nat.add_le_add_left (by decide) _⟩ rfl (Nat.le_of_ble_eq_true rfl) (by decide +kernel) (fun r G4 h4 => ?_)
    obtain ⟨G6, ⟨w9, rfl, hq⟩, hf4⟩ := h4
    obtain ⟨u2, u1, u3', u4, u6⟩ := fr_step hf4 f1 (dj_sym f3) f4 ho2
    have u3 := dj_sym u3'
    obtain ⟨hz, bn', hbn', hLB⟩ := a_meets_ok (ad := ad) (am := am) (nt := nt) (nf := nf) (nc := nc) (nn := nn) (T := T) (E := E) (Cu := Cu) (N := N) (KT := KT) (KF := KF) (KC := KC) (F := F) ⟨hM.2.2.1, hM.2.2.2.1⟩ hT hS hC hbn hp hq
    have hLB2 := hLB
    obtain ⟨ad2, am2, nt2, nf2, nc2, nn2, T2, E2, C2, N2, KT2, KF2, KC2, F2, hX2, hM2, -⟩ := hLB
    show PG κ 9 ((ce + kL_meets.cells) + kX5_meets.cells) ((sl + kL_meets.slots) + kX5_meets.slots) G4 [(5, .int 0), (0, .ref b), (1, .ref x), (2, .ref m), (3, .ref o), (4, .int xi)] 1064 [.int w9]
    refine g_seg [(1064, .istore 6, 2), (1066, .aload_n 2, 1)] 1067 [(6, .int w9), (5, .int 0), (0, .ref b), (1, .ref x), (2, .ref m), (3, .ref o), (4, .int xi)] [.ref m] C (by decide +kernel) rfl ?_
    refine g_callV (pc := 1067) C mV_X5_thrown q697 (u2 _ _ hM2.1.1) rfl rfl (Ctr.frame (c_X5_thrown l D cy hM2) u2) rfl ⟨⟨(Nat.le_of_ble_eq_true rfl), (Nat.le_of_ble_eq_true rfl)⟩, by refine Nat.le_trans ?_ hce; (try simp only [Nat.add_assoc]); exact Nat.add_le_add_left (by decide) _, by refine Nat.le_trans ?_ hsl; (try simp only [Nat.add_assoc]); exact Nat.add_le_add_left (by decide) _⟩ rfl (Nat.le_of_ble_eq_true rfl) (by decide +kernel) (fun r G5 h5 => ?_)
    obtain ⟨G7, ⟨v7, rfl, rfl, rfl⟩, hf5⟩ := h5
    obtain ⟨v1, v2, v3, v4, v5⟩ := fr_step hf5 u1 (dj_sym u3) u4 u6
    show PG κ 9 (((ce + kL_meets.cells) + kX5_meets.cells) + kX5_thrown.cells) (((sl + kL_meets.slots) + kX5_meets.slots) + kX5_thrown.slots) G5 [(6, .int w9), (5, .int 0), (0, .ref b), (1, .ref x), (2, .ref m), (3, .ref o), (4, .int xi)] 1070 [.int 0]
    refine g_seg [(1070, .iload 5, 2)] 1072 [(6, .int w9), (5, .int 0), (0, .ref b), (1, .ref x), (2, .ref m), (3, .ref o), (4, .int xi)] [.int 0, .int 0] C (by decide +kernel) rfl ?_
    refine g_icmp_eq (pc := 1072) (off := 5) 1077 C (by decide +kernel) (by decide) (fun _ => ?_) (fun c9 => absurd rfl c9)
    refine g_seg [(1077, .iload 5, 2)] 1079 [(6, .int w9), (5, .int 0), (0, .ref b), (1, .ref x), (2, .ref m), (3, .ref o), (4, .int xi)] [.int 0] C (by decide +kernel) rfl ?_
    refine g_if_ne (pc := 1079) (off := 15) 1094 C (by decide +kernel) (by decide) (fun c9 => absurd rfl c9) (fun _ => ?_)
    refine g_seg [(1082, .aload_n 3, 1), (1083, .iconst 0, 1)] 1084 [(6, .int w9), (5, .int 0), (0, .ref b), (1, .ref x), (2, .ref m), (3, .ref o), (4, .int xi)] [.int 0, .ref o] C (by decide +kernel) rfl ?_
    refine g_laldM (pc := 1084) C v4 rfl (by decide +kernel) ?_
    refine g_seg [(1085, .iload 6, 2), (1087, .i2l, 1), (1088, .lcmp, 1)] 1089 [(6, .int w9), (5, .int 0), (0, .ref b), (1, .ref x), (2, .ref m), (3, .ref o), (4, .int xi)] [.int (lg_cmp z.toInt64 w9.toInt64)] C (by decide +kernel) rfl ?_
    refine g_if_eq (pc := 1089) (off := 5) 1094 C (by decide +kernel) (by decide) (fun _ => ?_) (fun c9 => absurd (by rw [hz]; exact lg_same _) c9)
    refine g_seg [(1094, .goto 262, 3)] 1356 [(6, .int w9), (5, .int 0), (0, .ref b), (1, .ref x), (2, .ref m), (3, .ref o), (4, .int xi)] [] C (by decide +kernel) rfl ?_
    refine g_subp [2, 3, 4, 5, 6] (lv' := [(0, .ref b), (1, .ref x), (2, .ref m), (3, .ref o), (4, .int xi)]) rfl ?_
    exact kk G5 bn' _ _ (LW_mk hLB2 v2 v1 u3 v4 f5 u6) hbn' (by (try simp only [Nat.add_assoc]); exact Nat.add_le_add_left (by decide) _) (by (try simp only [Nat.add_assoc]); exact Nat.add_le_add_left (by decide) _)
  · obtain ⟨f1, f2, f3, f4, f5⟩ := fr_step hf s2 dj ho ho1
    show PG κ 9 (ce + kL_meets.cells) (sl + kL_meets.slots) G3 [(0, .ref b), (1, .ref x), (2, .ref m), (3, .ref o), (4, .int xi)] 1046 [.int (if e9 = "java/lang/IndexOutOfBoundsException" then 1 else 0)]
    refine g_seg [(1046, .istore 5, 2), (1048, .aload_n 2, 1), (1049, .aload_n 0, 1), (1050, .iload 4, 2), (1052, .iconst 1, 1), (1053, .iadd, 1)] 1054 [(5, .int (if e9 = "java/lang/IndexOutOfBoundsException" then 1 else 0)), (0, .ref b), (1, .ref x), (2, .ref m), (3, .ref o), (4, .int xi)] [.int (xi + 1), .ref b, .ref m] C (by decide +kernel) rfl ?_
    refine g_sald (pc := 1054) (j := (5 * k + 1)) C hSC (by rw [hx]; exact nI_add (5 * k) 1) (by omega) (by omega) (by decide +kernel) ?_
    refine g_seg [(1055, .aload_n 0, 1), (1056, .iload 4, 2), (1058, .iconst 2, 1), (1059, .iadd, 1)] 1060 [(5, .int (if e9 = "java/lang/IndexOutOfBoundsException" then 1 else 0)), (0, .ref b), (1, .ref x), (2, .ref m), (3, .ref o), (4, .int xi)] [.int (xi + 2), .ref b, .int (xs (5 * k + 1)), .ref m] C (by decide +kernel) rfl ?_
    refine g_sald (pc := 1060) (j := (5 * k + 2)) C hSC (by rw [hx]; exact nI_add (5 * k) 2) (by omega) (by omega) (by decide +kernel) ?_
    refine g_callV (pc := 1061) C mV_X5_meets q860 (f2 _ _ hM.1.1) rfl rfl (Ctr.frame (c_X5_meets l D cy hM hT.1 (xs (5 * k + 1)) (xs (5 * k + 2))) f2) rfl ⟨⟨(Nat.le_of_ble_eq_true rfl), (Nat.le_of_ble_eq_true rfl)⟩, by refine Nat.le_trans ?_ hce; (try simp only [Nat.add_assoc]); exact Nat.add_le_add_left (by decide) _, by refine Nat.le_trans ?_ hsl; (try simp only [Nat.add_assoc]); exact Nat.add_le_add_left (by decide) _⟩ rfl (Nat.le_of_ble_eq_true rfl) (by decide +kernel) (fun r G4 h4 => ?_)
    obtain ⟨G6, ⟨w9, rfl, hq⟩, hf4⟩ := h4
    obtain ⟨u2, u1, u3', u4, u6⟩ := fr_step hf4 f1 (dj_sym f3) f4 ho2
    have u3 := dj_sym u3'
    have hLB := a_meets_bad (z := 0) (ad := ad) (am := am) (nt := nt) (nf := nf) (nc := nc) (nn := nn) (T := T) (E := E) (Cu := Cu) (N := N) (KT := KT) (KF := KF) (KC := KC) (F := F) ⟨hM.2.2.1, hM.2.2.2.1⟩ hT hS hC hbn hp hq
    have hLB2 := hLB
    obtain ⟨ad2, am2, nt2, nf2, nc2, nn2, T2, E2, C2, N2, KT2, KF2, KC2, F2, hX2, hM2, -⟩ := hLB
    show PG κ 9 ((ce + kL_meets.cells) + kX5_meets.cells) ((sl + kL_meets.slots) + kX5_meets.slots) G4 [(5, .int (if e9 = "java/lang/IndexOutOfBoundsException" then 1 else 0)), (0, .ref b), (1, .ref x), (2, .ref m), (3, .ref o), (4, .int xi)] 1064 [.int w9]
    refine g_seg [(1064, .istore 6, 2), (1066, .aload_n 2, 1)] 1067 [(6, .int w9), (5, .int (if e9 = "java/lang/IndexOutOfBoundsException" then 1 else 0)), (0, .ref b), (1, .ref x), (2, .ref m), (3, .ref o), (4, .int xi)] [.ref m] C (by decide +kernel) rfl ?_
    refine g_callV (pc := 1067) C mV_X5_thrown q697 (u2 _ _ hM2.1.1) rfl rfl (Ctr.frame (c_X5_thrown l D cy hM2) u2) rfl ⟨⟨(Nat.le_of_ble_eq_true rfl), (Nat.le_of_ble_eq_true rfl)⟩, by refine Nat.le_trans ?_ hce; (try simp only [Nat.add_assoc]); exact Nat.add_le_add_left (by decide) _, by refine Nat.le_trans ?_ hsl; (try simp only [Nat.add_assoc]); exact Nat.add_le_add_left (by decide) _⟩ rfl (Nat.le_of_ble_eq_true rfl) (by decide +kernel) (fun r G5 h5 => ?_)
    obtain ⟨G7, ⟨v7, rfl, rfl, rfl⟩, hf5⟩ := h5
    obtain ⟨v1, v2, v3, v4, v5⟩ := fr_step hf5 u1 (dj_sym u3) u4 u6
    show PG κ 9 (((ce + kL_meets.cells) + kX5_meets.cells) + kX5_thrown.cells) (((sl + kL_meets.slots) + kX5_meets.slots) + kX5_thrown.slots) G5 [(6, .int w9), (5, .int (if e9 = "java/lang/IndexOutOfBoundsException" then 1 else 0)), (0, .ref b), (1, .ref x), (2, .ref m), (3, .ref o), (4, .int xi)] 1070 [.int (if e9 = "java/lang/IndexOutOfBoundsException" then 1 else 0)]
    refine g_seg [(1070, .iload 5, 2)] 1072 [(6, .int w9), (5, .int (if e9 = "java/lang/IndexOutOfBoundsException" then 1 else 0)), (0, .ref b), (1, .ref x), (2, .ref m), (3, .ref o), (4, .int xi)] [.int (if e9 = "java/lang/IndexOutOfBoundsException" then 1 else 0), .int (if e9 = "java/lang/IndexOutOfBoundsException" then 1 else 0)] C (by decide +kernel) rfl ?_
    refine g_icmp_eq (pc := 1072) (off := 5) 1077 C (by decide +kernel) (by decide) (fun _ => ?_) (fun c9 => absurd rfl c9)
    refine g_seg [(1077, .iload 5, 2)] 1079 [(6, .int w9), (5, .int (if e9 = "java/lang/IndexOutOfBoundsException" then 1 else 0)), (0, .ref b), (1, .ref x), (2, .ref m), (3, .ref o), (4, .int xi)] [.int (if e9 = "java/lang/IndexOutOfBoundsException" then 1 else 0)] C (by decide +kernel) rfl ?_
    refine g_if_ne (pc := 1079) (off := 15) 1094 C (by decide +kernel) (by decide) (fun _ => ?_) (fun c9 => ?_)
    · refine g_seg [(1094, .goto 262, 3)] 1356 [(6, .int w9), (5, .int (if e9 = "java/lang/IndexOutOfBoundsException" then 1 else 0)), (0, .ref b), (1, .ref x), (2, .ref m), (3, .ref o), (4, .int xi)] [] C (by decide +kernel) rfl ?_
      refine g_subp [2, 3, 4, 5, 6] (lv' := [(0, .ref b), (1, .ref x), (2, .ref m), (3, .ref o), (4, .int xi)]) rfl ?_
      exact kk G5 bn _ _ (LW_mk hLB2 v2 v1 u3 v4 f5 u6) (by omega) (by (try simp only [Nat.add_assoc]); exact Nat.add_le_add_left (by decide) _) (by (try simp only [Nat.add_assoc]); exact Nat.add_le_add_left (by decide) _)
    · exfalso; obtain ⟨rfl, -⟩ := hp.2; revert c9; decide
set_option maxHeartbeats 4000000 in
set_option maxRecDepth 100000 in
theorem t_flight {nm : String} {κ : Kx} {l : Launch} {D : va_G} {cy : Nat → ClassId} {b L x m o bn k ce sl : Nat} {xs : Nat → Int32} {xi : Int32} {G : GG} (C : g_OK κ l D cy (yLw nm) 9 code room_1 (some .boolean)) (hCX : g_CX κ) (hSC : g_SC κ b L xs) (hL : L ≤ 2560) (hk : 5 * k + 5 ≤ L) (hx : xi = nI (5 * k)) (hbn : bn + 200 < 2 ^ 31) (hce : ce + 16 ≤ room_1.cells) (hsl : sl + 400 ≤ room_1.slots) (hlw : LW cy x m o G bn) (kk : ∀ G' bn' ce' sl', LW cy x m o G' bn' → bn' ≤ bn + 200 → ce' ≤ ce + 16 → sl' ≤ sl + 400 → PG κ 9 ce' sl' G' [(0, .ref b), (1, .ref x), (2, .ref m), (3, .ref o), (4, .int xi)] 1356 []) : PG κ 9 ce sl G [(0, .ref b), (1, .ref x), (2, .ref m), (3, .ref o), (4, .int xi)] 1097 [] := by
  obtain ⟨G1, G2, ad, am, th, nt, nf, nc, nn, T, E, Cu, N, KT, KF, KC, F, z0, hX, hM, ⟨s1, s2, dj⟩, ⟨ho, ho1, ho2⟩, hT, hS, hC⟩ := hlw
  refine g_pc (pc' := 1097) rfl ?_
  refine g_seg [(1097, .aload_n 1, 1), (1098, .aload_n 0, 1), (1099, .iload 4, 2), (1101, .iconst 1, 1), (1102, .iadd, 1)] 1103 [(0, .ref b), (1, .ref x), (2, .ref m), (3, .ref o), (4, .int xi)] [.int (xi + 1), .ref b, .ref x] C (by decide +kernel) rfl ?_
  refine g_sald (pc := 1103) (j := (5 * k + 1)) C hSC (by rw [hx]; exact nI_add (5 * k) 1) (by omega) (by omega) (by decide +kernel) ?_
  refine g_seg [(1104, .aload_n 0, 1), (1105, .iload 4, 2), (1107, .iconst 2, 1), (1108, .iadd, 1)] 1109 [(0, .ref b), (1, .ref x), (2, .ref m), (3, .ref o), (4, .int xi)] [.int (xi + 2), .ref b, .int (xs (5 * k + 1)), .ref x] C (by decide +kernel) rfl ?_
  refine g_sald (pc := 1109) (j := (5 * k + 2)) C hSC (by rw [hx]; exact nI_add (5 * k) 2) (by omega) (by omega) (by decide +kernel) ?_
  refine g_seg [(1110, .aload_n 3, 1)] 1111 [(0, .ref b), (1, .ref x), (2, .ref m), (3, .ref o), (4, .int xi)] [.ref o, .int (xs (5 * k + 2)), .int (xs (5 * k + 1)), .ref x] C (by decide +kernel) rfl ?_
  refine g_callSW (pc := 1111) C hCX mW_L_flight q603 (c_L_flight l D cy (xs (5 * k + 1)) (xs (5 * k + 2)) (c_X4_flight l D cy hX hT.1 (xs (5 * k + 1)) (xs (5 * k + 2))) s1 hX.1.1 ho ho1 (fun E G' h => h.2.1)) rfl ⟨⟨(Nat.le_of_ble_eq_true rfl), (Nat.le_of_ble_eq_true rfl)⟩, by refine Nat.le_trans ?_ hce; (try simp only [Nat.add_assoc]); exact Nat.add_le_add_left (by decide) _, by refine Nat.le_trans ?_ hsl; (try simp only [Nat.add_assoc]); exact Nat.add_le_add_left (by decide) _⟩ rfl (Nat.le_of_ble_eq_true rfl) (by decide +kernel) (fun r G3 h9 => ?_)
  obtain ⟨v, rfl, h9⟩ := h9
  rcases h9 with ⟨rfl, z, G', hp, hf⟩ | ⟨e9, G', hp, hf, rfl⟩
  · obtain ⟨f1, f2, f3, f4, f5⟩ := fo_step hf s2 dj ⟨_, ho⟩ ho1 ho2
    show PG κ 9 (ce + kL_flight.cells) (sl + kL_flight.slots) G3 [(0, .ref b), (1, .ref x), (2, .ref m), (3, .ref o), (4, .int xi)] 1114 [.int 0]
    refine g_seg [(1114, .istore 5, 2), (1116, .aload_n 2, 1), (1117, .aload_n 0, 1), (1118, .iload 4, 2), (1120, .iconst 1, 1), (1121, .iadd, 1)] 1122 [(5, .int 0), (0, .ref b), (1, .ref x), (2, .ref m), (3, .ref o), (4, .int xi)] [.int (xi + 1), .ref b, .ref m] C (by decide +kernel) rfl ?_
    refine g_sald (pc := 1122) (j := (5 * k + 1)) C hSC (by rw [hx]; exact nI_add (5 * k) 1) (by omega) (by omega) (by decide +kernel) ?_
    refine g_seg [(1123, .aload_n 0, 1), (1124, .iload 4, 2), (1126, .iconst 2, 1), (1127, .iadd, 1)] 1128 [(5, .int 0), (0, .ref b), (1, .ref x), (2, .ref m), (3, .ref o), (4, .int xi)] [.int (xi + 2), .ref b, .int (xs (5 * k + 1)), .ref m] C (by decide +kernel) rfl ?_
    refine g_sald (pc := 1128) (j := (5 * k + 2)) C hSC (by rw [hx]; exact nI_add (5 * k) 2) (by omega) (by omega) (by decide +kernel) ?_
    refine g_callV (pc := 1129) C mV_X5_flight q864 (f2 _ _ hM.1.1) rfl rfl (Ctr.frame (c_X5_flight l D cy hM hT.1 (wS_of hT hS hC).2.1 (xs (5 * k + 1)) (xs (5 * k + 2))) f2) rfl ⟨⟨(Nat.le_of_ble_eq_true rfl), (Nat.le_of_ble_eq_true rfl)⟩, by refine Nat.le_trans ?_ hce; (try simp only [Nat.add_assoc]); exact Nat.add_le_add_left (by decide) _, by refine Nat.le_trans ?_ hsl; (try simp only [Nat.add_assoc]); exact Nat.add_le_add_left (by decide) _⟩ rfl (Nat.le_of_ble_eq_true rfl) (by decide +kernel) (fun r G4 h4 => ?_)
    obtain ⟨G6, ⟨w9, rfl, hq⟩, hf4⟩ := h4
    obtain ⟨u2, u1, u3', u4, u6⟩ := fr_step hf4 f1 (dj_sym f3) f4 ho2
    have u3 := dj_sym u3'
    obtain ⟨hz, bn', hbn', hLB⟩ := a_flight_ok (ad := ad) (am := am) (nt := nt) (nf := nf) (nc := nc) (nn := nn) (T := T) (E := E) (Cu := Cu) (N := N) (KT := KT) (KF := KF) (KC := KC) (F := F) ⟨hM.2.2.1, hM.2.2.2.1⟩ hT hS hC hbn hp hq
    have hLB2 := hLB
    obtain ⟨ad2, am2, nt2, nf2, nc2, nn2, T2, E2, C2, N2, KT2, KF2, KC2, F2, hX2, hM2, -⟩ := hLB
    show PG κ 9 ((ce + kL_flight.cells) + kX5_flight.cells) ((sl + kL_flight.slots) + kX5_flight.slots) G4 [(5, .int 0), (0, .ref b), (1, .ref x), (2, .ref m), (3, .ref o), (4, .int xi)] 1132 [.int w9]
    refine g_seg [(1132, .istore 6, 2), (1134, .aload_n 2, 1)] 1135 [(6, .int w9), (5, .int 0), (0, .ref b), (1, .ref x), (2, .ref m), (3, .ref o), (4, .int xi)] [.ref m] C (by decide +kernel) rfl ?_
    refine g_callV (pc := 1135) C mV_X5_thrown q697 (u2 _ _ hM2.1.1) rfl rfl (Ctr.frame (c_X5_thrown l D cy hM2) u2) rfl ⟨⟨(Nat.le_of_ble_eq_true rfl), (Nat.le_of_ble_eq_true rfl)⟩, by refine Nat.le_trans ?_ hce; (try simp only [Nat.add_assoc]); exact Nat.add_le_add_left (by decide) _, by refine Nat.le_trans ?_ hsl; (try simp only [Nat.add_assoc]); exact Nat.add_le_add_left (by decide) _⟩ rfl (Nat.le_of_ble_eq_true rfl) (by decide +kernel) (fun r G5 h5 => ?_)
    obtain ⟨G7, ⟨v7, rfl, rfl, rfl⟩, hf5⟩ := h5
    obtain ⟨v1, v2, v3, v4, v5⟩ := fr_step hf5 u1 (dj_sym u3) u4 u6
    show PG κ 9 (((ce + kL_flight.cells) + kX5_flight.cells) + kX5_thrown.cells) (((sl + kL_flight.slots) + kX5_flight.slots) + kX5_thrown.slots) G5 [(6, .int w9), (5, .int 0), (0, .ref b), (1, .ref x), (2, .ref m), (3, .ref o), (4, .int xi)] 1138 [.int 0]
    refine g_seg [(1138, .iload 5, 2)] 1140 [(6, .int w9), (5, .int 0), (0, .ref b), (1, .ref x), (2, .ref m), (3, .ref o), (4, .int xi)] [.int 0, .int 0] C (by decide +kernel) rfl ?_
    refine g_icmp_eq (pc := 1140) (off := 5) 1145 C (by decide +kernel) (by decide) (fun _ => ?_) (fun c9 => absurd rfl c9)
    refine g_seg [(1145, .iload 5, 2)] 1147 [(6, .int w9), (5, .int 0), (0, .ref b), (1, .ref x), (2, .ref m), (3, .ref o), (4, .int xi)] [.int 0] C (by decide +kernel) rfl ?_
    refine g_if_ne (pc := 1147) (off := 15) 1162 C (by decide +kernel) (by decide) (fun c9 => absurd rfl c9) (fun _ => ?_)
    refine g_seg [(1150, .aload_n 3, 1), (1151, .iconst 0, 1)] 1152 [(6, .int w9), (5, .int 0), (0, .ref b), (1, .ref x), (2, .ref m), (3, .ref o), (4, .int xi)] [.int 0, .ref o] C (by decide +kernel) rfl ?_
    refine g_laldM (pc := 1152) C v4 rfl (by decide +kernel) ?_
    refine g_seg [(1153, .iload 6, 2), (1155, .i2l, 1), (1156, .lcmp, 1)] 1157 [(6, .int w9), (5, .int 0), (0, .ref b), (1, .ref x), (2, .ref m), (3, .ref o), (4, .int xi)] [.int (lg_cmp z.toInt64 w9.toInt64)] C (by decide +kernel) rfl ?_
    refine g_if_eq (pc := 1157) (off := 5) 1162 C (by decide +kernel) (by decide) (fun _ => ?_) (fun c9 => absurd (by rw [hz]; exact lg_same _) c9)
    refine g_seg [(1162, .goto 194, 3)] 1356 [(6, .int w9), (5, .int 0), (0, .ref b), (1, .ref x), (2, .ref m), (3, .ref o), (4, .int xi)] [] C (by decide +kernel) rfl ?_
    refine g_subp [2, 3, 4, 5, 6] (lv' := [(0, .ref b), (1, .ref x), (2, .ref m), (3, .ref o), (4, .int xi)]) rfl ?_
    exact kk G5 bn' _ _ (LW_mk hLB2 v2 v1 u3 v4 f5 u6) hbn' (by (try simp only [Nat.add_assoc]); exact Nat.add_le_add_left (by decide) _) (by (try simp only [Nat.add_assoc]); exact Nat.add_le_add_left (by decide) _)
  · obtain ⟨f1, f2, f3, f4, f5⟩ := fr_step hf s2 dj ho ho1
    show PG κ 9 (ce + kL_flight.cells) (sl + kL_flight.slots) G3 [(0, .ref b), (1, .ref x), (2, .ref m), (3, .ref o), (4, .int xi)] 1114 [.int (if e9 = "java/lang/IndexOutOfBoundsException" then 1 else 0)]
    refine g_seg [(1114, .istore 5, 2), (1116, .aload_n 2, 1), (1117, .aload_n 0, 1), (1118, .iload 4, 2), (1120, .iconst 1, 1), (1121, .iadd, 1)] 1122 [(5, .int (if e9 = "java/lang/IndexOutOfBoundsException" then 1 else 0)), (0, .ref b), (1, .ref x), (2, .ref m), (3, .ref o), (4, .int xi)] [.int (xi + 1), .ref b, .ref m] C (by decide +kernel) rfl ?_
    refine g_sald (pc := 1122) (j := (5 * k + 1)) C hSC (by rw [hx]; exact nI_add (5 * k) 1) (by omega) (by omega) (by decide +kernel) ?_
    refine g_seg [(1123, .aload_n 0, 1), (1124, .iload 4, 2), (1126, .iconst 2, 1), (1127, .iadd, 1)] 1128 [(5, .int (if e9 = "java/lang/IndexOutOfBoundsException" then 1 else 0)), (0, .ref b), (1, .ref x), (2, .ref m), (3, .ref o), (4, .int xi)] [.int (xi + 2), .ref b, .int (xs (5 * k + 1)), .ref m] C (by decide +kernel) rfl ?_
    refine g_sald (pc := 1128) (j := (5 * k + 2)) C hSC (by rw [hx]; exact nI_add (5 * k) 2) (by omega) (by omega) (by decide +kernel) ?_
    refine g_callV (pc := 1129) C mV_X5_flight q864 (f2 _ _ hM.1.1) rfl rfl (Ctr.frame (c_X5_flight l D cy hM hT.1 (wS_of hT hS hC).2.1 (xs (5 * k + 1)) (xs (5 * k + 2))) f2) rfl ⟨⟨(Nat.le_of_ble_eq_true rfl), (Nat.le_of_ble_eq_true rfl)⟩, by refine Nat.le_trans ?_ hce; (try simp only [Nat.add_assoc]); exact Nat.add_le_add_left (by decide) _, by refine Nat.le_trans ?_ hsl; (try simp only [Nat.add_assoc]); exact Nat.add_le_add_left (by decide) _⟩ rfl (Nat.le_of_ble_eq_true rfl) (by decide +kernel) (fun r G4 h4 => ?_)
    obtain ⟨G6, ⟨w9, rfl, hq⟩, hf4⟩ := h4
    obtain ⟨u2, u1, u3', u4, u6⟩ := fr_step hf4 f1 (dj_sym f3) f4 ho2
    have u3 := dj_sym u3'
    have hLB := a_flight_bad (z := 0) (ad := ad) (am := am) (nt := nt) (nf := nf) (nc := nc) (nn := nn) (T := T) (E := E) (Cu := Cu) (N := N) (KT := KT) (KF := KF) (KC := KC) (F := F) ⟨hM.2.2.1, hM.2.2.2.1⟩ hT hS hC hbn hp hq
    have hLB2 := hLB
    obtain ⟨ad2, am2, nt2, nf2, nc2, nn2, T2, E2, C2, N2, KT2, KF2, KC2, F2, hX2, hM2, -⟩ := hLB
    show PG κ 9 ((ce + kL_flight.cells) + kX5_flight.cells) ((sl + kL_flight.slots) + kX5_flight.slots) G4 [(5, .int (if e9 = "java/lang/IndexOutOfBoundsException" then 1 else 0)), (0, .ref b), (1, .ref x), (2, .ref m), (3, .ref o), (4, .int xi)] 1132 [.int w9]
    refine g_seg [(1132, .istore 6, 2), (1134, .aload_n 2, 1)] 1135 [(6, .int w9), (5, .int (if e9 = "java/lang/IndexOutOfBoundsException" then 1 else 0)), (0, .ref b), (1, .ref x), (2, .ref m), (3, .ref o), (4, .int xi)] [.ref m] C (by decide +kernel) rfl ?_
    refine g_callV (pc := 1135) C mV_X5_thrown q697 (u2 _ _ hM2.1.1) rfl rfl (Ctr.frame (c_X5_thrown l D cy hM2) u2) rfl ⟨⟨(Nat.le_of_ble_eq_true rfl), (Nat.le_of_ble_eq_true rfl)⟩, by refine Nat.le_trans ?_ hce; (try simp only [Nat.add_assoc]); exact Nat.add_le_add_left (by decide) _, by refine Nat.le_trans ?_ hsl; (try simp only [Nat.add_assoc]); exact Nat.add_le_add_left (by decide) _⟩ rfl (Nat.le_of_ble_eq_true rfl) (by decide +kernel) (fun r G5 h5 => ?_)
    obtain ⟨G7, ⟨v7, rfl, rfl, rfl⟩, hf5⟩ := h5
    obtain ⟨v1, v2, v3, v4, v5⟩ := fr_step hf5 u1 (dj_sym u3) u4 u6
    show PG κ 9 (((ce + kL_flight.cells) + kX5_flight.cells) + kX5_thrown.cells) (((sl + kL_flight.slots) + kX5_flight.slots) + kX5_thrown.slots) G5 [(6, .int w9), (5, .int (if e9 = "java/lang/IndexOutOfBoundsException" then 1 else 0)), (0, .ref b), (1, .ref x), (2, .ref m), (3, .ref o), (4, .int xi)] 1138 [.int (if e9 = "java/lang/IndexOutOfBoundsException" then 1 else 0)]
    refine g_seg [(1138, .iload 5, 2)] 1140 [(6, .int w9), (5, .int (if e9 = "java/lang/IndexOutOfBoundsException" then 1 else 0)), (0, .ref b), (1, .ref x), (2, .ref m), (3, .ref o), (4, .int xi)] [.int (if e9 = "java/lang/IndexOutOfBoundsException" then 1 else 0), .int (if e9 = "java/lang/IndexOutOfBoundsException" then 1 else 0)] C (by decide +kernel) rfl ?_
    refine g_icmp_eq (pc := 1140) (off := 5) 1145 C (by decide +kernel) (by decide) (fun _ => ?_) (fun c9 => absurd rfl c9)
    refine g_seg [(1145, .iload 5, 2)] 1147 [(6, .int w9), (5, .int (if e9 = "java/lang/IndexOutOfBoundsException" then 1 else 0)), (0, .ref b), (1, .ref x), (2, .ref m), (3, .ref o), (4, .int xi)] [.int (if e9 = "java/lang/IndexOutOfBoundsException" then 1 else 0)] C (by decide +kernel) rfl ?_
    refine g_if_ne (pc := 1147) (off := 15) 1162 C (by decide +kernel) (by decide) (fun _ => ?_) (fun c9 => ?_)
    · refine g_seg [(1162, .goto 194, 3)] 1356 [(6, .int w9), (5, .int (if e9 = "java/lang/IndexOutOfBoundsException" then 1 else 0)), (0, .ref b), (1, .ref x), (2, .ref m), (3, .ref o), (4, .int xi)] [] C (by decide +kernel) rfl ?_
      refine g_subp [2, 3, 4, 5, 6] (lv' := [(0, .ref b), (1, .ref x), (2, .ref m), (3, .ref o), (4, .int xi)]) rfl ?_
      exact kk G5 bn _ _ (LW_mk hLB2 v2 v1 u3 v4 f5 u6) (by omega) (by (try simp only [Nat.add_assoc]); exact Nat.add_le_add_left (by decide) _) (by (try simp only [Nat.add_assoc]); exact Nat.add_le_add_left (by decide) _)
    · exfalso; obtain ⟨rfl, -⟩ := hp.2; revert c9; decide
set_option maxHeartbeats 4000000 in
set_option maxRecDepth 100000 in
theorem t_advise {nm : String} {κ : Kx} {l : Launch} {D : va_G} {cy : Nat → ClassId} {b L x m o bn k ce sl : Nat} {xs : Nat → Int32} {xi : Int32} {G : GG} (C : g_OK κ l D cy (yLw nm) 9 code room_1 (some .boolean)) (hCX : g_CX κ) (hSC : g_SC κ b L xs) (hL : L ≤ 2560) (hk : 5 * k + 5 ≤ L) (hx : xi = nI (5 * k)) (hbn : bn + 200 < 2 ^ 31) (hce : ce + 16 ≤ room_1.cells) (hsl : sl + 400 ≤ room_1.slots) (hlw : LW cy x m o G bn) (kk : ∀ G' bn' ce' sl', LW cy x m o G' bn' → bn' ≤ bn + 200 → ce' ≤ ce + 16 → sl' ≤ sl + 400 → PG κ 9 ce' sl' G' [(0, .ref b), (1, .ref x), (2, .ref m), (3, .ref o), (4, .int xi)] 1356 []) : PG κ 9 ce sl G [(0, .ref b), (1, .ref x), (2, .ref m), (3, .ref o), (4, .int xi)] 1165 [] := by
  obtain ⟨G1, G2, ad, am, th, nt, nf, nc, nn, T, E, Cu, N, KT, KF, KC, F, z0, hX, hM, ⟨s1, s2, dj⟩, ⟨ho, ho1, ho2⟩, hT, hS, hC⟩ := hlw
  refine g_pc (pc' := 1165) rfl ?_
  refine g_seg [(1165, .aload_n 1, 1), (1166, .aload_n 0, 1), (1167, .iload 4, 2), (1169, .iconst 1, 1), (1170, .iadd, 1)] 1171 [(0, .ref b), (1, .ref x), (2, .ref m), (3, .ref o), (4, .int xi)] [.int (xi + 1), .ref b, .ref x] C (by decide +kernel) rfl ?_
  refine g_sald (pc := 1171) (j := (5 * k + 1)) C hSC (by rw [hx]; exact nI_add (5 * k) 1) (by omega) (by omega) (by decide +kernel) ?_
  refine g_seg [(1172, .aload_n 0, 1), (1173, .iload 4, 2), (1175, .iconst 2, 1), (1176, .iadd, 1)] 1177 [(0, .ref b), (1, .ref x), (2, .ref m), (3, .ref o), (4, .int xi)] [.int (xi + 2), .ref b, .int (xs (5 * k + 1)), .ref x] C (by decide +kernel) rfl ?_
  refine g_sald (pc := 1177) (j := (5 * k + 2)) C hSC (by rw [hx]; exact nI_add (5 * k) 2) (by omega) (by omega) (by decide +kernel) ?_
  refine g_seg [(1178, .aload_n 3, 1)] 1179 [(0, .ref b), (1, .ref x), (2, .ref m), (3, .ref o), (4, .int xi)] [.ref o, .int (xs (5 * k + 2)), .int (xs (5 * k + 1)), .ref x] C (by decide +kernel) rfl ?_
  refine g_callSW (pc := 1179) C hCX mW_L_advise q610 (c_L_advise l D cy (xs (5 * k + 1)) (xs (5 * k + 2)) (c_X4_advise l D cy hX hT.1 (xs (5 * k + 1)) (xs (5 * k + 2))) s1 hX.1.1 ho ho1 (fun E G' h => by rcases h.2 with ⟨rfl, -⟩ | ⟨rfl, -⟩ <;> simp)) rfl ⟨⟨(Nat.le_of_ble_eq_true rfl), (Nat.le_of_ble_eq_true rfl)⟩, by refine Nat.le_trans ?_ hce; (try simp only [Nat.add_assoc]); exact Nat.add_le_add_left (by decide) _, by refine Nat.le_trans ?_ hsl; (try simp only [Nat.add_assoc]); exact Nat.add_le_add_left (by decide) _⟩ rfl (Nat.le_of_ble_eq_true rfl) (by decide +kernel) (fun r G3 h9 => ?_)
  obtain ⟨v, rfl, h9⟩ := h9
  rcases h9 with ⟨rfl, z, G', hp, hf⟩ | ⟨e9, G', hp, hf, rfl⟩
  · obtain ⟨f1, f2, f3, f4, f5⟩ := fo_step hf s2 dj ⟨_, ho⟩ ho1 ho2
    show PG κ 9 (ce + kL_advise.cells) (sl + kL_advise.slots) G3 [(0, .ref b), (1, .ref x), (2, .ref m), (3, .ref o), (4, .int xi)] 1182 [.int 0]
    refine g_seg [(1182, .istore 5, 2), (1184, .aload_n 2, 1), (1185, .aload_n 0, 1), (1186, .iload 4, 2), (1188, .iconst 1, 1), (1189, .iadd, 1)] 1190 [(5, .int 0), (0, .ref b), (1, .ref x), (2, .ref m), (3, .ref o), (4, .int xi)] [.int (xi + 1), .ref b, .ref m] C (by decide +kernel) rfl ?_
    refine g_sald (pc := 1190) (j := (5 * k + 1)) C hSC (by rw [hx]; exact nI_add (5 * k) 1) (by omega) (by omega) (by decide +kernel) ?_
    refine g_seg [(1191, .aload_n 0, 1), (1192, .iload 4, 2), (1194, .iconst 2, 1), (1195, .iadd, 1)] 1196 [(5, .int 0), (0, .ref b), (1, .ref x), (2, .ref m), (3, .ref o), (4, .int xi)] [.int (xi + 2), .ref b, .int (xs (5 * k + 1)), .ref m] C (by decide +kernel) rfl ?_
    refine g_sald (pc := 1196) (j := (5 * k + 2)) C hSC (by rw [hx]; exact nI_add (5 * k) 2) (by omega) (by omega) (by decide +kernel) ?_
    refine g_callV (pc := 1197) C mV_X5_advise q868 (f2 _ _ hM.1.1) rfl rfl (Ctr.frame (c_X5_advise l D cy hM hT.1 (xs (5 * k + 1)) (xs (5 * k + 2))) f2) rfl ⟨⟨(Nat.le_of_ble_eq_true rfl), (Nat.le_of_ble_eq_true rfl)⟩, by refine Nat.le_trans ?_ hce; (try simp only [Nat.add_assoc]); exact Nat.add_le_add_left (by decide) _, by refine Nat.le_trans ?_ hsl; (try simp only [Nat.add_assoc]); exact Nat.add_le_add_left (by decide) _⟩ rfl (Nat.le_of_ble_eq_true rfl) (by decide +kernel) (fun r G4 h4 => ?_)
    obtain ⟨G6, ⟨w9, rfl, hq⟩, hf4⟩ := h4
    obtain ⟨u2, u1, u3', u4, u6⟩ := fr_step hf4 f1 (dj_sym f3) f4 ho2
    have u3 := dj_sym u3'
    obtain ⟨hz, bn', hbn', hLB⟩ := a_advise_ok (ad := ad) (am := am) (nt := nt) (nf := nf) (nc := nc) (nn := nn) (T := T) (E := E) (Cu := Cu) (N := N) (KT := KT) (KF := KF) (KC := KC) (F := F) ⟨hM.2.2.1, hM.2.2.2.1⟩ hT hS hC hbn hp hq
    have hLB2 := hLB
    obtain ⟨ad2, am2, nt2, nf2, nc2, nn2, T2, E2, C2, N2, KT2, KF2, KC2, F2, hX2, hM2, -⟩ := hLB
    show PG κ 9 ((ce + kL_advise.cells) + kX5_advise.cells) ((sl + kL_advise.slots) + kX5_advise.slots) G4 [(5, .int 0), (0, .ref b), (1, .ref x), (2, .ref m), (3, .ref o), (4, .int xi)] 1200 [.int w9]
    refine g_seg [(1200, .istore 6, 2), (1202, .aload_n 2, 1)] 1203 [(6, .int w9), (5, .int 0), (0, .ref b), (1, .ref x), (2, .ref m), (3, .ref o), (4, .int xi)] [.ref m] C (by decide +kernel) rfl ?_
    refine g_callV (pc := 1203) C mV_X5_thrown q697 (u2 _ _ hM2.1.1) rfl rfl (Ctr.frame (c_X5_thrown l D cy hM2) u2) rfl ⟨⟨(Nat.le_of_ble_eq_true rfl), (Nat.le_of_ble_eq_true rfl)⟩, by refine Nat.le_trans ?_ hce; (try simp only [Nat.add_assoc]); exact Nat.add_le_add_left (by decide) _, by refine Nat.le_trans ?_ hsl; (try simp only [Nat.add_assoc]); exact Nat.add_le_add_left (by decide) _⟩ rfl (Nat.le_of_ble_eq_true rfl) (by decide +kernel) (fun r G5 h5 => ?_)
    obtain ⟨G7, ⟨v7, rfl, rfl, rfl⟩, hf5⟩ := h5
    obtain ⟨v1, v2, v3, v4, v5⟩ := fr_step hf5 u1 (dj_sym u3) u4 u6
    show PG κ 9 (((ce + kL_advise.cells) + kX5_advise.cells) + kX5_thrown.cells) (((sl + kL_advise.slots) + kX5_advise.slots) + kX5_thrown.slots) G5 [(6, .int w9), (5, .int 0), (0, .ref b), (1, .ref x), (2, .ref m), (3, .ref o), (4, .int xi)] 1206 [.int 0]
    refine g_seg [(1206, .iload 5, 2)] 1208 [(6, .int w9), (5, .int 0), (0, .ref b), (1, .ref x), (2, .ref m), (3, .ref o), (4, .int xi)] [.int 0, .int 0] C (by decide +kernel) rfl ?_
    refine g_icmp_eq (pc := 1208) (off := 5) 1213 C (by decide +kernel) (by decide) (fun _ => ?_) (fun c9 => absurd rfl c9)
    refine g_seg [(1213, .iload 5, 2)] 1215 [(6, .int w9), (5, .int 0), (0, .ref b), (1, .ref x), (2, .ref m), (3, .ref o), (4, .int xi)] [.int 0] C (by decide +kernel) rfl ?_
    refine g_if_ne (pc := 1215) (off := 15) 1230 C (by decide +kernel) (by decide) (fun c9 => absurd rfl c9) (fun _ => ?_)
    refine g_seg [(1218, .aload_n 3, 1), (1219, .iconst 0, 1)] 1220 [(6, .int w9), (5, .int 0), (0, .ref b), (1, .ref x), (2, .ref m), (3, .ref o), (4, .int xi)] [.int 0, .ref o] C (by decide +kernel) rfl ?_
    refine g_laldM (pc := 1220) C v4 rfl (by decide +kernel) ?_
    refine g_seg [(1221, .iload 6, 2), (1223, .i2l, 1), (1224, .lcmp, 1)] 1225 [(6, .int w9), (5, .int 0), (0, .ref b), (1, .ref x), (2, .ref m), (3, .ref o), (4, .int xi)] [.int (lg_cmp z.toInt64 w9.toInt64)] C (by decide +kernel) rfl ?_
    refine g_if_eq (pc := 1225) (off := 5) 1230 C (by decide +kernel) (by decide) (fun _ => ?_) (fun c9 => absurd (by rw [hz]; exact lg_same _) c9)
    refine g_seg [(1230, .goto 126, 3)] 1356 [(6, .int w9), (5, .int 0), (0, .ref b), (1, .ref x), (2, .ref m), (3, .ref o), (4, .int xi)] [] C (by decide +kernel) rfl ?_
    refine g_subp [2, 3, 4, 5, 6] (lv' := [(0, .ref b), (1, .ref x), (2, .ref m), (3, .ref o), (4, .int xi)]) rfl ?_
    exact kk G5 bn' _ _ (LW_mk hLB2 v2 v1 u3 v4 f5 u6) hbn' (by (try simp only [Nat.add_assoc]); exact Nat.add_le_add_left (by decide) _) (by (try simp only [Nat.add_assoc]); exact Nat.add_le_add_left (by decide) _)
  · obtain ⟨f1, f2, f3, f4, f5⟩ := fr_step hf s2 dj ho ho1
    show PG κ 9 (ce + kL_advise.cells) (sl + kL_advise.slots) G3 [(0, .ref b), (1, .ref x), (2, .ref m), (3, .ref o), (4, .int xi)] 1182 [.int (if e9 = "java/lang/IndexOutOfBoundsException" then 1 else (if e9 = "java/lang/IllegalArgumentException" then 2 else 0))]
    refine g_seg [(1182, .istore 5, 2), (1184, .aload_n 2, 1), (1185, .aload_n 0, 1), (1186, .iload 4, 2), (1188, .iconst 1, 1), (1189, .iadd, 1)] 1190 [(5, .int (if e9 = "java/lang/IndexOutOfBoundsException" then 1 else (if e9 = "java/lang/IllegalArgumentException" then 2 else 0))), (0, .ref b), (1, .ref x), (2, .ref m), (3, .ref o), (4, .int xi)] [.int (xi + 1), .ref b, .ref m] C (by decide +kernel) rfl ?_
    refine g_sald (pc := 1190) (j := (5 * k + 1)) C hSC (by rw [hx]; exact nI_add (5 * k) 1) (by omega) (by omega) (by decide +kernel) ?_
    refine g_seg [(1191, .aload_n 0, 1), (1192, .iload 4, 2), (1194, .iconst 2, 1), (1195, .iadd, 1)] 1196 [(5, .int (if e9 = "java/lang/IndexOutOfBoundsException" then 1 else (if e9 = "java/lang/IllegalArgumentException" then 2 else 0))), (0, .ref b), (1, .ref x), (2, .ref m), (3, .ref o), (4, .int xi)] [.int (xi + 2), .ref b, .int (xs (5 * k + 1)), .ref m] C (by decide +kernel) rfl ?_
    refine g_sald (pc := 1196) (j := (5 * k + 2)) C hSC (by rw [hx]; exact nI_add (5 * k) 2) (by omega) (by omega) (by decide +kernel) ?_
    refine g_callV (pc := 1197) C mV_X5_advise q868 (f2 _ _ hM.1.1) rfl rfl (Ctr.frame (c_X5_advise l D cy hM hT.1 (xs (5 * k + 1)) (xs (5 * k + 2))) f2) rfl ⟨⟨(Nat.le_of_ble_eq_true rfl), (Nat.le_of_ble_eq_true rfl)⟩, by refine Nat.le_trans ?_ hce; (try simp only [Nat.add_assoc]); exact Nat.add_le_add_left (by decide) _, by refine Nat.le_trans ?_ hsl; (try simp only [Nat.add_assoc]); exact Nat.add_le_add_left (by decide) _⟩ rfl (Nat.le_of_ble_eq_true rfl) (by decide +kernel) (fun r G4 h4 => ?_)
    obtain ⟨G6, ⟨w9, rfl, hq⟩, hf4⟩ := h4
    obtain ⟨u2, u1, u3', u4, u6⟩ := fr_step hf4 f1 (dj_sym f3) f4 ho2
    have u3 := dj_sym u3'
    have hLB := a_advise_bad (z := 0) (ad := ad) (am := am) (nt := nt) (nf := nf) (nc := nc) (nn := nn) (T := T) (E := E) (Cu := Cu) (N := N) (KT := KT) (KF := KF) (KC := KC) (F := F) ⟨hM.2.2.1, hM.2.2.2.1⟩ hT hS hC hbn hp hq
    have hLB2 := hLB
    obtain ⟨ad2, am2, nt2, nf2, nc2, nn2, T2, E2, C2, N2, KT2, KF2, KC2, F2, hX2, hM2, -⟩ := hLB
    show PG κ 9 ((ce + kL_advise.cells) + kX5_advise.cells) ((sl + kL_advise.slots) + kX5_advise.slots) G4 [(5, .int (if e9 = "java/lang/IndexOutOfBoundsException" then 1 else (if e9 = "java/lang/IllegalArgumentException" then 2 else 0))), (0, .ref b), (1, .ref x), (2, .ref m), (3, .ref o), (4, .int xi)] 1200 [.int w9]
    refine g_seg [(1200, .istore 6, 2), (1202, .aload_n 2, 1)] 1203 [(6, .int w9), (5, .int (if e9 = "java/lang/IndexOutOfBoundsException" then 1 else (if e9 = "java/lang/IllegalArgumentException" then 2 else 0))), (0, .ref b), (1, .ref x), (2, .ref m), (3, .ref o), (4, .int xi)] [.ref m] C (by decide +kernel) rfl ?_
    refine g_callV (pc := 1203) C mV_X5_thrown q697 (u2 _ _ hM2.1.1) rfl rfl (Ctr.frame (c_X5_thrown l D cy hM2) u2) rfl ⟨⟨(Nat.le_of_ble_eq_true rfl), (Nat.le_of_ble_eq_true rfl)⟩, by refine Nat.le_trans ?_ hce; (try simp only [Nat.add_assoc]); exact Nat.add_le_add_left (by decide) _, by refine Nat.le_trans ?_ hsl; (try simp only [Nat.add_assoc]); exact Nat.add_le_add_left (by decide) _⟩ rfl (Nat.le_of_ble_eq_true rfl) (by decide +kernel) (fun r G5 h5 => ?_)
    obtain ⟨G7, ⟨v7, rfl, rfl, rfl⟩, hf5⟩ := h5
    obtain ⟨v1, v2, v3, v4, v5⟩ := fr_step hf5 u1 (dj_sym u3) u4 u6
    show PG κ 9 (((ce + kL_advise.cells) + kX5_advise.cells) + kX5_thrown.cells) (((sl + kL_advise.slots) + kX5_advise.slots) + kX5_thrown.slots) G5 [(6, .int w9), (5, .int (if e9 = "java/lang/IndexOutOfBoundsException" then 1 else (if e9 = "java/lang/IllegalArgumentException" then 2 else 0))), (0, .ref b), (1, .ref x), (2, .ref m), (3, .ref o), (4, .int xi)] 1206 [.int (if e9 = "java/lang/IndexOutOfBoundsException" then 1 else (if e9 = "java/lang/IllegalArgumentException" then 2 else 0))]
    refine g_seg [(1206, .iload 5, 2)] 1208 [(6, .int w9), (5, .int (if e9 = "java/lang/IndexOutOfBoundsException" then 1 else (if e9 = "java/lang/IllegalArgumentException" then 2 else 0))), (0, .ref b), (1, .ref x), (2, .ref m), (3, .ref o), (4, .int xi)] [.int (if e9 = "java/lang/IndexOutOfBoundsException" then 1 else (if e9 = "java/lang/IllegalArgumentException" then 2 else 0)), .int (if e9 = "java/lang/IndexOutOfBoundsException" then 1 else (if e9 = "java/lang/IllegalArgumentException" then 2 else 0))] C (by decide +kernel) rfl ?_
    refine g_icmp_eq (pc := 1208) (off := 5) 1213 C (by decide +kernel) (by decide) (fun _ => ?_) (fun c9 => absurd rfl c9)
    refine g_seg [(1213, .iload 5, 2)] 1215 [(6, .int w9), (5, .int (if e9 = "java/lang/IndexOutOfBoundsException" then 1 else (if e9 = "java/lang/IllegalArgumentException" then 2 else 0))), (0, .ref b), (1, .ref x), (2, .ref m), (3, .ref o), (4, .int xi)] [.int (if e9 = "java/lang/IndexOutOfBoundsException" then 1 else (if e9 = "java/lang/IllegalArgumentException" then 2 else 0))] C (by decide +kernel) rfl ?_
    refine g_if_ne (pc := 1215) (off := 15) 1230 C (by decide +kernel) (by decide) (fun _ => ?_) (fun c9 => ?_)
    · refine g_seg [(1230, .goto 126, 3)] 1356 [(6, .int w9), (5, .int (if e9 = "java/lang/IndexOutOfBoundsException" then 1 else (if e9 = "java/lang/IllegalArgumentException" then 2 else 0))), (0, .ref b), (1, .ref x), (2, .ref m), (3, .ref o), (4, .int xi)] [] C (by decide +kernel) rfl ?_
      refine g_subp [2, 3, 4, 5, 6] (lv' := [(0, .ref b), (1, .ref x), (2, .ref m), (3, .ref o), (4, .int xi)]) rfl ?_
      exact kk G5 bn _ _ (LW_mk hLB2 v2 v1 u3 v4 f5 u6) (by omega) (by (try simp only [Nat.add_assoc]); exact Nat.add_le_add_left (by decide) _) (by (try simp only [Nat.add_assoc]); exact Nat.add_le_add_left (by decide) _)
    · exfalso; rcases hp.2 with ⟨rfl, -⟩ | ⟨rfl, -⟩ <;> revert c9 <;> decide
set_option maxHeartbeats 4000000 in
set_option maxRecDepth 100000 in
theorem t_foresee {nm : String} {κ : Kx} {l : Launch} {D : va_G} {cy : Nat → ClassId} {b L x m o bn k ce sl : Nat} {xs : Nat → Int32} {xi : Int32} {G : GG} (C : g_OK κ l D cy (yLw nm) 9 code room_1 (some .boolean)) (hCX : g_CX κ) (hSC : g_SC κ b L xs) (hL : L ≤ 2560) (hk : 5 * k + 5 ≤ L) (hx : xi = nI (5 * k)) (hbn : bn + 200 < 2 ^ 31) (hce : ce + 16 ≤ room_1.cells) (hsl : sl + 400 ≤ room_1.slots) (hlw : LW cy x m o G bn) (kk : ∀ G' bn' ce' sl', LW cy x m o G' bn' → bn' ≤ bn + 200 → ce' ≤ ce + 16 → sl' ≤ sl + 400 → PG κ 9 ce' sl' G' [(0, .ref b), (1, .ref x), (2, .ref m), (3, .ref o), (4, .int xi)] 1356 []) : PG κ 9 ce sl G [(0, .ref b), (1, .ref x), (2, .ref m), (3, .ref o), (4, .int xi)] 1233 [] := by
  obtain ⟨G1, G2, ad, am, th, nt, nf, nc, nn, T, E, Cu, N, KT, KF, KC, F, z0, hX, hM, ⟨s1, s2, dj⟩, ⟨ho, ho1, ho2⟩, hT, hS, hC⟩ := hlw
  refine g_pc (pc' := 1233) rfl ?_
  refine g_seg [(1233, .aload_n 1, 1), (1234, .aload_n 0, 1), (1235, .iload 4, 2), (1237, .iconst 1, 1), (1238, .iadd, 1)] 1239 [(0, .ref b), (1, .ref x), (2, .ref m), (3, .ref o), (4, .int xi)] [.int (xi + 1), .ref b, .ref x] C (by decide +kernel) rfl ?_
  refine g_sald (pc := 1239) (j := (5 * k + 1)) C hSC (by rw [hx]; exact nI_add (5 * k) 1) (by omega) (by omega) (by decide +kernel) ?_
  refine g_seg [(1240, .aload_n 0, 1), (1241, .iload 4, 2), (1243, .iconst 2, 1), (1244, .iadd, 1)] 1245 [(0, .ref b), (1, .ref x), (2, .ref m), (3, .ref o), (4, .int xi)] [.int (xi + 2), .ref b, .int (xs (5 * k + 1)), .ref x] C (by decide +kernel) rfl ?_
  refine g_sald (pc := 1245) (j := (5 * k + 2)) C hSC (by rw [hx]; exact nI_add (5 * k) 2) (by omega) (by omega) (by decide +kernel) ?_
  refine g_seg [(1246, .aload_n 3, 1)] 1247 [(0, .ref b), (1, .ref x), (2, .ref m), (3, .ref o), (4, .int xi)] [.ref o, .int (xs (5 * k + 2)), .int (xs (5 * k + 1)), .ref x] C (by decide +kernel) rfl ?_
  refine g_callSW (pc := 1247) C hCX mW_L_foresee q619 (c_L_foresee l D cy (xs (5 * k + 1)) (xs (5 * k + 2)) (c_X4_foresee l D cy hX hT.1 hT.2 (xs (5 * k + 1)) (xs (5 * k + 2))) s1 hX.1.1 ho ho1 (fun E G' h => by rcases h.2 with ⟨rfl, -⟩ | ⟨rfl, -⟩ <;> simp)) rfl ⟨⟨(Nat.le_of_ble_eq_true rfl), (Nat.le_of_ble_eq_true rfl)⟩, by refine Nat.le_trans ?_ hce; (try simp only [Nat.add_assoc]); exact Nat.add_le_add_left (by decide) _, by refine Nat.le_trans ?_ hsl; (try simp only [Nat.add_assoc]); exact Nat.add_le_add_left (by decide) _⟩ rfl (Nat.le_of_ble_eq_true rfl) (by decide +kernel) (fun r G3 h9 => ?_)
  obtain ⟨v, rfl, h9⟩ := h9
  rcases h9 with ⟨rfl, z, G', hp, hf⟩ | ⟨e9, G', hp, hf, rfl⟩
  · obtain ⟨f1, f2, f3, f4, f5⟩ := fo_step hf s2 dj ⟨_, ho⟩ ho1 ho2
    show PG κ 9 (ce + kL_foresee.cells) (sl + kL_foresee.slots) G3 [(0, .ref b), (1, .ref x), (2, .ref m), (3, .ref o), (4, .int xi)] 1250 [.int 0]
    refine g_seg [(1250, .istore 5, 2), (1252, .aload_n 2, 1), (1253, .aload_n 0, 1), (1254, .iload 4, 2), (1256, .iconst 1, 1), (1257, .iadd, 1)] 1258 [(5, .int 0), (0, .ref b), (1, .ref x), (2, .ref m), (3, .ref o), (4, .int xi)] [.int (xi + 1), .ref b, .ref m] C (by decide +kernel) rfl ?_
    refine g_sald (pc := 1258) (j := (5 * k + 1)) C hSC (by rw [hx]; exact nI_add (5 * k) 1) (by omega) (by omega) (by decide +kernel) ?_
    refine g_seg [(1259, .aload_n 0, 1), (1260, .iload 4, 2), (1262, .iconst 2, 1), (1263, .iadd, 1)] 1264 [(5, .int 0), (0, .ref b), (1, .ref x), (2, .ref m), (3, .ref o), (4, .int xi)] [.int (xi + 2), .ref b, .int (xs (5 * k + 1)), .ref m] C (by decide +kernel) rfl ?_
    refine g_sald (pc := 1264) (j := (5 * k + 2)) C hSC (by rw [hx]; exact nI_add (5 * k) 2) (by omega) (by omega) (by decide +kernel) ?_
    refine g_callV (pc := 1265) C mV_X5_foresee q872 (f2 _ _ hM.1.1) rfl rfl (Ctr.frame (c_X5_foresee l D cy hM (wS_of hT hS hC) (xs (5 * k + 1)) (xs (5 * k + 2))) f2) rfl ⟨⟨(Nat.le_of_ble_eq_true rfl), (Nat.le_of_ble_eq_true rfl)⟩, by refine Nat.le_trans ?_ hce; (try simp only [Nat.add_assoc]); exact Nat.add_le_add_left (by decide) _, by refine Nat.le_trans ?_ hsl; (try simp only [Nat.add_assoc]); exact Nat.add_le_add_left (by decide) _⟩ rfl (Nat.le_of_ble_eq_true rfl) (by decide +kernel) (fun r G4 h4 => ?_)
    obtain ⟨G6, ⟨w9, rfl, hq⟩, hf4⟩ := h4
    obtain ⟨u2, u1, u3', u4, u6⟩ := fr_step hf4 f1 (dj_sym f3) f4 ho2
    have u3 := dj_sym u3'
    obtain ⟨hz, bn', hbn', hLB⟩ := a_foresee_ok (ad := ad) (am := am) (nt := nt) (nf := nf) (nc := nc) (nn := nn) (T := T) (E := E) (Cu := Cu) (N := N) (KT := KT) (KF := KF) (KC := KC) (F := F) ⟨hM.2.2.1, hM.2.2.2.1⟩ hT hS hC hbn hp hq
    have hLB2 := hLB
    obtain ⟨ad2, am2, nt2, nf2, nc2, nn2, T2, E2, C2, N2, KT2, KF2, KC2, F2, hX2, hM2, -⟩ := hLB
    show PG κ 9 ((ce + kL_foresee.cells) + kX5_foresee.cells) ((sl + kL_foresee.slots) + kX5_foresee.slots) G4 [(5, .int 0), (0, .ref b), (1, .ref x), (2, .ref m), (3, .ref o), (4, .int xi)] 1268 [.int w9]
    refine g_seg [(1268, .istore 6, 2), (1270, .aload_n 2, 1)] 1271 [(6, .int w9), (5, .int 0), (0, .ref b), (1, .ref x), (2, .ref m), (3, .ref o), (4, .int xi)] [.ref m] C (by decide +kernel) rfl ?_
    refine g_callV (pc := 1271) C mV_X5_thrown q697 (u2 _ _ hM2.1.1) rfl rfl (Ctr.frame (c_X5_thrown l D cy hM2) u2) rfl ⟨⟨(Nat.le_of_ble_eq_true rfl), (Nat.le_of_ble_eq_true rfl)⟩, by refine Nat.le_trans ?_ hce; (try simp only [Nat.add_assoc]); exact Nat.add_le_add_left (by decide) _, by refine Nat.le_trans ?_ hsl; (try simp only [Nat.add_assoc]); exact Nat.add_le_add_left (by decide) _⟩ rfl (Nat.le_of_ble_eq_true rfl) (by decide +kernel) (fun r G5 h5 => ?_)
    obtain ⟨G7, ⟨v7, rfl, rfl, rfl⟩, hf5⟩ := h5
    obtain ⟨v1, v2, v3, v4, v5⟩ := fr_step hf5 u1 (dj_sym u3) u4 u6
    show PG κ 9 (((ce + kL_foresee.cells) + kX5_foresee.cells) + kX5_thrown.cells) (((sl + kL_foresee.slots) + kX5_foresee.slots) + kX5_thrown.slots) G5 [(6, .int w9), (5, .int 0), (0, .ref b), (1, .ref x), (2, .ref m), (3, .ref o), (4, .int xi)] 1274 [.int 0]
    refine g_seg [(1274, .iload 5, 2)] 1276 [(6, .int w9), (5, .int 0), (0, .ref b), (1, .ref x), (2, .ref m), (3, .ref o), (4, .int xi)] [.int 0, .int 0] C (by decide +kernel) rfl ?_
    refine g_icmp_eq (pc := 1276) (off := 5) 1281 C (by decide +kernel) (by decide) (fun _ => ?_) (fun c9 => absurd rfl c9)
    refine g_seg [(1281, .iload 5, 2)] 1283 [(6, .int w9), (5, .int 0), (0, .ref b), (1, .ref x), (2, .ref m), (3, .ref o), (4, .int xi)] [.int 0] C (by decide +kernel) rfl ?_
    refine g_if_ne (pc := 1283) (off := 15) 1298 C (by decide +kernel) (by decide) (fun c9 => absurd rfl c9) (fun _ => ?_)
    refine g_seg [(1286, .aload_n 3, 1), (1287, .iconst 0, 1)] 1288 [(6, .int w9), (5, .int 0), (0, .ref b), (1, .ref x), (2, .ref m), (3, .ref o), (4, .int xi)] [.int 0, .ref o] C (by decide +kernel) rfl ?_
    refine g_laldM (pc := 1288) C v4 rfl (by decide +kernel) ?_
    refine g_seg [(1289, .iload 6, 2), (1291, .i2l, 1), (1292, .lcmp, 1)] 1293 [(6, .int w9), (5, .int 0), (0, .ref b), (1, .ref x), (2, .ref m), (3, .ref o), (4, .int xi)] [.int (lg_cmp z.toInt64 w9.toInt64)] C (by decide +kernel) rfl ?_
    refine g_if_eq (pc := 1293) (off := 5) 1298 C (by decide +kernel) (by decide) (fun _ => ?_) (fun c9 => absurd (by rw [hz]; exact lg_same _) c9)
    refine g_seg [(1298, .goto 58, 3)] 1356 [(6, .int w9), (5, .int 0), (0, .ref b), (1, .ref x), (2, .ref m), (3, .ref o), (4, .int xi)] [] C (by decide +kernel) rfl ?_
    refine g_subp [2, 3, 4, 5, 6] (lv' := [(0, .ref b), (1, .ref x), (2, .ref m), (3, .ref o), (4, .int xi)]) rfl ?_
    exact kk G5 bn' _ _ (LW_mk hLB2 v2 v1 u3 v4 f5 u6) hbn' (by (try simp only [Nat.add_assoc]); exact Nat.add_le_add_left (by decide) _) (by (try simp only [Nat.add_assoc]); exact Nat.add_le_add_left (by decide) _)
  · obtain ⟨f1, f2, f3, f4, f5⟩ := fr_step hf s2 dj ho ho1
    show PG κ 9 (ce + kL_foresee.cells) (sl + kL_foresee.slots) G3 [(0, .ref b), (1, .ref x), (2, .ref m), (3, .ref o), (4, .int xi)] 1250 [.int (if e9 = "java/lang/IllegalArgumentException" then 1 else (if e9 = "java/lang/IndexOutOfBoundsException" then 2 else 0))]
    refine g_seg [(1250, .istore 5, 2), (1252, .aload_n 2, 1), (1253, .aload_n 0, 1), (1254, .iload 4, 2), (1256, .iconst 1, 1), (1257, .iadd, 1)] 1258 [(5, .int (if e9 = "java/lang/IllegalArgumentException" then 1 else (if e9 = "java/lang/IndexOutOfBoundsException" then 2 else 0))), (0, .ref b), (1, .ref x), (2, .ref m), (3, .ref o), (4, .int xi)] [.int (xi + 1), .ref b, .ref m] C (by decide +kernel) rfl ?_
    refine g_sald (pc := 1258) (j := (5 * k + 1)) C hSC (by rw [hx]; exact nI_add (5 * k) 1) (by omega) (by omega) (by decide +kernel) ?_
    refine g_seg [(1259, .aload_n 0, 1), (1260, .iload 4, 2), (1262, .iconst 2, 1), (1263, .iadd, 1)] 1264 [(5, .int (if e9 = "java/lang/IllegalArgumentException" then 1 else (if e9 = "java/lang/IndexOutOfBoundsException" then 2 else 0))), (0, .ref b), (1, .ref x), (2, .ref m), (3, .ref o), (4, .int xi)] [.int (xi + 2), .ref b, .int (xs (5 * k + 1)), .ref m] C (by decide +kernel) rfl ?_
    refine g_sald (pc := 1264) (j := (5 * k + 2)) C hSC (by rw [hx]; exact nI_add (5 * k) 2) (by omega) (by omega) (by decide +kernel) ?_
    refine g_callV (pc := 1265) C mV_X5_foresee q872 (f2 _ _ hM.1.1) rfl rfl (Ctr.frame (c_X5_foresee l D cy hM (wS_of hT hS hC) (xs (5 * k + 1)) (xs (5 * k + 2))) f2) rfl ⟨⟨(Nat.le_of_ble_eq_true rfl), (Nat.le_of_ble_eq_true rfl)⟩, by refine Nat.le_trans ?_ hce; (try simp only [Nat.add_assoc]); exact Nat.add_le_add_left (by decide) _, by refine Nat.le_trans ?_ hsl; (try simp only [Nat.add_assoc]); exact Nat.add_le_add_left (by decide) _⟩ rfl (Nat.le_of_ble_eq_true rfl) (by decide +kernel) (fun r G4 h4 => ?_)
    obtain ⟨G6, ⟨w9, rfl, hq⟩, hf4⟩ := h4
    obtain ⟨u2, u1, u3', u4, u6⟩ := fr_step hf4 f1 (dj_sym f3) f4 ho2
    have u3 := dj_sym u3'
    have hLB := a_foresee_bad (z := 0) (ad := ad) (am := am) (nt := nt) (nf := nf) (nc := nc) (nn := nn) (T := T) (E := E) (Cu := Cu) (N := N) (KT := KT) (KF := KF) (KC := KC) (F := F) ⟨hM.2.2.1, hM.2.2.2.1⟩ hT hS hC hbn hp hq
    have hLB2 := hLB
    obtain ⟨ad2, am2, nt2, nf2, nc2, nn2, T2, E2, C2, N2, KT2, KF2, KC2, F2, hX2, hM2, -⟩ := hLB
    show PG κ 9 ((ce + kL_foresee.cells) + kX5_foresee.cells) ((sl + kL_foresee.slots) + kX5_foresee.slots) G4 [(5, .int (if e9 = "java/lang/IllegalArgumentException" then 1 else (if e9 = "java/lang/IndexOutOfBoundsException" then 2 else 0))), (0, .ref b), (1, .ref x), (2, .ref m), (3, .ref o), (4, .int xi)] 1268 [.int w9]
    refine g_seg [(1268, .istore 6, 2), (1270, .aload_n 2, 1)] 1271 [(6, .int w9), (5, .int (if e9 = "java/lang/IllegalArgumentException" then 1 else (if e9 = "java/lang/IndexOutOfBoundsException" then 2 else 0))), (0, .ref b), (1, .ref x), (2, .ref m), (3, .ref o), (4, .int xi)] [.ref m] C (by decide +kernel) rfl ?_
    refine g_callV (pc := 1271) C mV_X5_thrown q697 (u2 _ _ hM2.1.1) rfl rfl (Ctr.frame (c_X5_thrown l D cy hM2) u2) rfl ⟨⟨(Nat.le_of_ble_eq_true rfl), (Nat.le_of_ble_eq_true rfl)⟩, by refine Nat.le_trans ?_ hce; (try simp only [Nat.add_assoc]); exact Nat.add_le_add_left (by decide) _, by refine Nat.le_trans ?_ hsl; (try simp only [Nat.add_assoc]); exact Nat.add_le_add_left (by decide) _⟩ rfl (Nat.le_of_ble_eq_true rfl) (by decide +kernel) (fun r G5 h5 => ?_)
    obtain ⟨G7, ⟨v7, rfl, rfl, rfl⟩, hf5⟩ := h5
    obtain ⟨v1, v2, v3, v4, v5⟩ := fr_step hf5 u1 (dj_sym u3) u4 u6
    show PG κ 9 (((ce + kL_foresee.cells) + kX5_foresee.cells) + kX5_thrown.cells) (((sl + kL_foresee.slots) + kX5_foresee.slots) + kX5_thrown.slots) G5 [(6, .int w9), (5, .int (if e9 = "java/lang/IllegalArgumentException" then 1 else (if e9 = "java/lang/IndexOutOfBoundsException" then 2 else 0))), (0, .ref b), (1, .ref x), (2, .ref m), (3, .ref o), (4, .int xi)] 1274 [.int (if e9 = "java/lang/IllegalArgumentException" then 1 else (if e9 = "java/lang/IndexOutOfBoundsException" then 2 else 0))]
    refine g_seg [(1274, .iload 5, 2)] 1276 [(6, .int w9), (5, .int (if e9 = "java/lang/IllegalArgumentException" then 1 else (if e9 = "java/lang/IndexOutOfBoundsException" then 2 else 0))), (0, .ref b), (1, .ref x), (2, .ref m), (3, .ref o), (4, .int xi)] [.int (if e9 = "java/lang/IllegalArgumentException" then 1 else (if e9 = "java/lang/IndexOutOfBoundsException" then 2 else 0)), .int (if e9 = "java/lang/IllegalArgumentException" then 1 else (if e9 = "java/lang/IndexOutOfBoundsException" then 2 else 0))] C (by decide +kernel) rfl ?_
    refine g_icmp_eq (pc := 1276) (off := 5) 1281 C (by decide +kernel) (by decide) (fun _ => ?_) (fun c9 => absurd rfl c9)
    refine g_seg [(1281, .iload 5, 2)] 1283 [(6, .int w9), (5, .int (if e9 = "java/lang/IllegalArgumentException" then 1 else (if e9 = "java/lang/IndexOutOfBoundsException" then 2 else 0))), (0, .ref b), (1, .ref x), (2, .ref m), (3, .ref o), (4, .int xi)] [.int (if e9 = "java/lang/IllegalArgumentException" then 1 else (if e9 = "java/lang/IndexOutOfBoundsException" then 2 else 0))] C (by decide +kernel) rfl ?_
    refine g_if_ne (pc := 1283) (off := 15) 1298 C (by decide +kernel) (by decide) (fun _ => ?_) (fun c9 => ?_)
    · refine g_seg [(1298, .goto 58, 3)] 1356 [(6, .int w9), (5, .int (if e9 = "java/lang/IllegalArgumentException" then 1 else (if e9 = "java/lang/IndexOutOfBoundsException" then 2 else 0))), (0, .ref b), (1, .ref x), (2, .ref m), (3, .ref o), (4, .int xi)] [] C (by decide +kernel) rfl ?_
      refine g_subp [2, 3, 4, 5, 6] (lv' := [(0, .ref b), (1, .ref x), (2, .ref m), (3, .ref o), (4, .int xi)]) rfl ?_
      exact kk G5 bn _ _ (LW_mk hLB2 v2 v1 u3 v4 f5 u6) (by omega) (by (try simp only [Nat.add_assoc]); exact Nat.add_le_add_left (by decide) _) (by (try simp only [Nat.add_assoc]); exact Nat.add_le_add_left (by decide) _)
    · exfalso; rcases hp.2 with ⟨rfl, -⟩ | ⟨rfl, -⟩ <;> revert c9 <;> decide
