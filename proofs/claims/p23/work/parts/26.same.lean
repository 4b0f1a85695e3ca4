/-! Sim's words, as the class's words give them -/
def zT (b : Int32) (T : Rw) : Rw := fun i k => if k = 6 then b - T i 6 else T i k
def zF (b : Int32) (E : Rw) : Rw := fun i k => match k with | 0 => E i 0 | 1 => E i 1 | 2 => if E i 0 = 2 then E i 2 else 0 | 3 => if E i 0 = 2 then E i 3 - b else -1 | _ => E i 4
theorem wb {w : Int32} {k m : Nat} {M : Int32} (h : w = nI k) (hk : k ≤ m) (hm : m < 1000) (hM : M = nI m := by rfl) : 0 ≤ w ∧ w ≤ M := by
  rw [h, hM]
  exact ⟨nI_pos' (by omega), nI_le hk (by omega)⟩
theorem told8 {a0 a1 a2 a3 a4 a5 a6 a7 : Int32} {g : Nat → Int32} (h0 : a0 = g 0) (h1 : a1 = g 1) (h2 : a2 = g 2) (h3 : a3 = g 3) (h4 : a4 = g 4) (h5 : a5 = g 5) (h6 : a6 = g 6) (h7 : a7 = g 7) : upd (upd (upd (upd (upd (upd (upd (upd (fun _ => 0) 0 a0) 1 a1) 2 a2) 3 a3) 4 a4) 5 a5) 6 a6) 7 a7 = cut 8 g := by
  funext j
  unfold cut upd
  match j with
  | 0 => simp [h0]
  | 1 => simp [h1]
  | 2 => simp [h2]
  | 3 => simp [h3]
  | 4 => simp [h4]
  | 5 => simp [h5]
  | 6 => simp [h6]
  | 7 => simp [h7]
  | j + 8 => simp; omega
theorem told9 {a0 a1 a2 a3 a4 a5 a6 a7 a8 : Int32} {g : Nat → Int32} (h0 : a0 = g 0) (h1 : a1 = g 1) (h2 : a2 = g 2) (h3 : a3 = g 3) (h4 : a4 = g 4) (h5 : a5 = g 5) (h6 : a6 = g 6) (h7 : a7 = g 7) (h8 : a8 = g 8) : upd (upd (upd (upd (upd (upd (upd (upd (upd (fun _ => 0) 0 a0) 1 a1) 2 a2) 3 a3) 4 a4) 5 a5) 6 a6) 7 a7) 8 a8 = cut 9 g := by
  funext j
  unfold cut upd
  match j with
  | 0 => simp [h0]
  | 1 => simp [h1]
  | 2 => simp [h2]
  | 3 => simp [h3]
  | 4 => simp [h4]
  | 5 => simp [h5]
  | 6 => simp [h6]
  | 7 => simp [h7]
  | 8 => simp [h8]
  | j + 9 => simp; omega
theorem zF_told {b : Int32} {E : Rw} {i k : Nat} (hk : k < 5) : zF b E i k = s_toldFX E b i (nI k) := by
  match k, hk with
  | 0, _ => rfl
  | 1, _ => rfl
  | 2, _ => rfl
  | 3, _ => rfl
  | 4, _ => rfl
theorem zC_told {C : Rw} {i k : Nat} (hk : k < 5) : C i k = s_toldC C i (nI k) := by
  match k, hk with
  | 0, _ => rfl
  | 1, _ => rfl
  | 2, _ => rfl
  | 3, _ => rfl
  | 4, _ => rfl
theorem cnt_5 {T : Rw} {b z : Int32} {k : Nat} (hs : z = nI (cnt (fun t => decide (¬ T t 5 = 0)) k)) (h : T k 5 = 0 ∨ T k 5 = 1) : z + zT b T k 5 = nI (cnt (fun t => decide (¬ T t 5 = 0)) (k + 1)) := by
  have e : zT b T k 5 = T k 5 := rfl
  rw [e]
  rcases h with h | h
  · rw [h]; exact cntU_n hs (by simp [h])
  · rw [h]; exact cntU_y hs (by simp [h])
theorem mean_cmp {a c : Int32} (hc : c ≠ 0) : Op.cmpValue (FP.dcmp (FP.ddiv (FP.i2d a) (FP.i2d c)) (FP.ddiv (FP.i2d a) (FP.i2d c))) .l = 0 := by
  have h1 : FP.Core.dIsNaN (FP.Core.ddiv (FP.Core.i2d a) (FP.Core.i2d c)) = false := FP.Core.ddiv_out (dn_fin (FP.Core.i2d_fin a)) (FP.Core.i2d_fin c) (by rw [FP.Core.zero_bits2]; exact FP.Core.i2d_ne_zero hc)
  have h2 : FP.dcmp (FP.ddiv (FP.i2d a) (FP.i2d c)) (FP.ddiv (FP.i2d a) (FP.i2d c)) = some .eq := FP.Core.dcmp_self ((FP.Core.notNaN_iff _).mp h1)
  rw [h2]
  rfl
theorem mean_cmp0 : Op.cmpValue (FP.dcmp FP.dconst0 FP.dconst0) .l = 0 := by decide +kernel

theorem z5 {v : Int32} (h : v = 0 ∨ v = 1) : v = if v = 0 then 0 else 1 := by
  rcases h with h | h <;> rw [h] <;> decide
set_option maxHeartbeats 4000000 in
set_option maxRecDepth 100000 in
theorem c_X5_isSame (l : Launch) (D : va_G) (cy : Nat → ClassId) {G G2 G3 : GG} {x s : Nat} {rt : Nat → Nat} {rd : Nat → Nat → Nat} {b : Int32} {nt nf nc nn : Nat} {T E Cu N : Rw} (hL : LX cy x b nt nf nc nn T E Cu N G2 G3 G) (hS : RS cy s rt rd b nt nf nc nn (zT b T) (zF b E) Cu N G2) (hwok : s_wok T nt) (hyS : y_wS nt (zT b T)) (hb5 : ∀ t, t < nt → T t 5 = 0 ∨ T t 5 = 1) : CtrN l D cy yX5_isSame prog_7_method_13_code 8 (some .boolean) kX5_isSame [.ref s, .ref x] G (pI (fun v G' => v = 1)) := by
  refine CtrN.mk (by decide +kernel) (Nat.le_of_ble_eq_true rfl) ?_
  intro κ C R X
  have hbd := LX.bd hL
  refine g_pc (pc' := 0) rfl ?_
  have hL0 := LX.x3 hL
  refine g_seg [(0, .iconst 0, 1), (1, .istore_n 2, 1), (2, .iconst 0, 1), (3, .istore_n 3, 1), (4, .iconst 0, 1), (5, .istore 4, 2)] 7 [(4, .int 0), (3, .int 0), (2, .int 0), (0, .ref s), (1, .ref x)] [] C (by decide +kernel) rfl ?_
  refine g_widen (k := (0 + 9 * 0)) (n := (0 + 56 * 0)) (by show 0 ≤ (0 + 9 * 0); omega) (by show 0 ≤ (0 + 56 * 0); omega) ?_
  refine g_subp [3, 4, 2, 1, 0] (lv' := [(0, .ref s), (1, .ref x), (2, .int 0), (3, .int 0), (4, .int 0)]) rfl ?_
  have lp1 : ∀ (m k : Nat) (G1 : GG) (z xk : Int32), nt + 1 ≤ k + m → k ≤ nt → xk = nI k → z = nI (cnt (fun t => decide (¬ T t 5 = 0)) k) → LX cy x b nt nf nc nn T E Cu N G2 nG G1 → PG κ 8 (0 + 9 * k) (0 + 56 * k) G1 [(0, .ref s), (1, .ref x), (2, .int z), (3, .int 0), (4, .int xk)] 7 [] := by
    intro m
    induction m with
    | zero => intro k G1 z xk h1 h2; intros; exact absurd h1 (by omega)
    | succ m ih =>
      intro k G1 z xk hm hk hx hs hL1
      refine g_seg [(7, .iload 4, 2), (9, .aload_n 0, 1)] 10 [(0, .ref s), (1, .ref x), (2, .int z), (3, .int 0), (4, .int xk)] [.ref s, .int xk] C (by decide +kernel) rfl ?_
      refine g_getf (pc := 10) (k := 0) (v := .ref (rt 0)) C fl_X5_9 ((LX.rs hL1 hS).1.1) rfl (by decide +kernel) ?_
      refine g_alenI (pc := 13) C ((LX.rs hL1 hS).1.2.1) (by decide +kernel) ?_
      refine g_icmp_ge (pc := 14) (off := 131) 145 C (by decide +kernel) (by decide) (fun c2 => ?_) (fun c2 => ?_)
      · have hk8 : k = nt := by have := lp_ge (n := nt) hx (by omega) (by omega) c2; omega
        rw [hk8] at hs
        refine g_seg [(145, .iconst 0, 1), (146, .istore 4, 2)] 148 [(4, .int 0), (0, .ref s), (1, .ref x), (2, .int z), (3, .int 0)] [] C (by decide +kernel) rfl ?_
        refine g_widen (k := ((0 + 9 * k) + 5 * 0)) (n := ((0 + 56 * k) + 30 * 0)) (by show (0 + 9 * k) ≤ ((0 + 9 * k) + 5 * 0); omega) (by show (0 + 56 * k) ≤ ((0 + 56 * k) + 30 * 0); omega) ?_
        refine g_subp [1, 2, 3, 4, 0] (lv' := [(0, .ref s), (1, .ref x), (2, .int z), (3, .int 0), (4, .int 0)]) rfl ?_
        have lp3 : ∀ (m3 k3 : Nat) (G13 : GG) (zc x3 : Int32), nf + 1 ≤ k3 + m3 → k3 ≤ nf → x3 = nI k3 → zc = s_caught E k3 → LX cy x b nt nf nc nn T E Cu N G2 nG G13 → PG κ 8 ((0 + 9 * k) + 5 * k3) ((0 + 56 * k) + 30 * k3) G13 [(0, .ref s), (1, .ref x), (2, .int z), (3, .int zc), (4, .int x3)] 148 [] := by
          intro m3
          induction m3 with
          | zero => intro k3 G13 zc x3 h1 h2; intros; exact absurd h1 (by omega)
          | succ m3 ih3 =>
            intro k3 G13 zc x3 hm3 hk3 hx3 hs3 hL13
            refine g_seg [(148, .iload 4, 2), (150, .aload_n 0, 1)] 151 [(0, .ref s), (1, .ref x), (2, .int z), (3, .int zc), (4, .int x3)] [.ref s, .int x3] C (by decide +kernel) rfl ?_
            refine g_getf (pc := 151) (k := 1) (v := .ref (rt 1)) C fl_X5_15 ((LX.rs hL13 hS).1.1) rfl (by decide +kernel) ?_
            refine g_alenI (pc := 154) C ((LX.rs hL13 hS).1.2.2.1) (by decide +kernel) ?_
            refine g_icmp_ge (pc := 155) (off := 59) 214 C (by decide +kernel) (by decide) (fun c4 => ?_) (fun c4 => ?_)
            · have hm8 : k3 = nf := by have := lp_ge (n := nf) hx3 (by omega) (by omega) c4; omega
              rw [hm8] at hs3
              refine g_seg [(214, .iconst 0, 1), (215, .istore 4, 2)] 217 [(4, .int 0), (0, .ref s), (1, .ref x), (2, .int z), (3, .int zc)] [] C (by decide +kernel) rfl ?_
              refine g_widen (k := (((0 + 9 * k) + 5 * k3) + 5 * 0)) (n := (((0 + 56 * k) + 30 * k3) + 30 * 0)) (by show ((0 + 9 * k) + 5 * k3) ≤ (((0 + 9 * k) + 5 * k3) + 5 * 0); omega) (by show ((0 + 56 * k) + 30 * k3) ≤ (((0 + 56 * k) + 30 * k3) + 30 * 0); omega) ?_
              refine g_subp [1, 2, 3, 4, 0] (lv' := [(0, .ref s), (1, .ref x), (2, .int z), (3, .int zc), (4, .int 0)]) rfl ?_
              have lp5 : ∀ (m5 k5 : Nat) (G15 : GG) (x5 : Int32), nc + 1 ≤ k5 + m5 → k5 ≤ nc → x5 = nI k5 → LX cy x b nt nf nc nn T E Cu N G2 nG G15 → PG κ 8 (((0 + 9 * k) + 5 * k3) + 5 * k5) (((0 + 56 * k) + 30 * k3) + 30 * k5) G15 [(0, .ref s), (1, .ref x), (2, .int z), (3, .int zc), (4, .int x5)] 217 [] := by
                intro m5
                induction m5 with
                | zero => intro k5 G15 x5 h1 h2; intros; exact absurd h1 (by omega)
                | succ m5 ih5 =>
                  intro k5 G15 x5 hm5 hk5 hx5 hL15
                  refine g_seg [(217, .iload 4, 2), (219, .aload_n 0, 1)] 220 [(0, .ref s), (1, .ref x), (2, .int z), (3, .int zc), (4, .int x5)] [.ref s, .int x5] C (by decide +kernel) rfl ?_
                  refine g_getf (pc := 220) (k := 2) (v := .ref (rt 2)) C fl_X5_18 ((LX.rs hL15 hS).1.1) rfl (by decide +kernel) ?_
                  refine g_alenI (pc := 223) C ((LX.rs hL15 hS).1.2.2.2.1) (by decide +kernel) ?_
                  refine g_icmp_ge (pc := 224) (off := 47) 271 C (by decide +kernel) (by decide) (fun c6 => ?_) (fun c6 => ?_)
                  · have ho8 : k5 = nc := by have := lp_ge (n := nc) hx5 (by omega) (by omega) c6; omega
                    refine g_seg [(271, .bipush 9, 2)] 273 [(0, .ref s), (1, .ref x), (2, .int z), (3, .int zc), (4, .int x5)] [.int 9] C (by decide +kernel) rfl ?_
                    refine g_newi (pc := 273) (N' := 9) C q394 (by decide) (by decide) (by decide) (by show (((0 + 9 * k) + 5 * k3) + 5 * k5) + 1 ≤ 204; omega) (by show (((0 + 56 * k) + 30 * k3) + 30 * k5) + 9 ≤ 1239; omega) (by decide +kernel) (fun q7 hq8 => ?_)
                    have hn_q7 := LX.g3n hL15 hq8
                    refine g_abs (P := fun G9 => ∃ G39 : GG, LX cy x b nt nf nc nn T E Cu N G2 G39 G9 ∧ G39 q7 = some (.inl (cy 0, 9, .inl (fun _ => 0)))) ⟨_, LX.n3 hL15 hq8, g_up_self ..⟩ (fun G9 hg => ?_)
                    obtain ⟨G310, hL11, ha12⟩ := hg
                    refine g_seg [(275, .dup, 1), (276, .iconst 0, 1), (277, .aload_n 0, 1)] 278 [(0, .ref s), (1, .ref x), (2, .int z), (3, .int zc), (4, .int x5)] [.ref s, .int 0, .ref q7, .ref q7] C (by decide +kernel) rfl ?_
                    refine g_getf (pc := 278) (k := 4) (v := .int b) C fl_X5_33 ((LX.rs hL11 hS).1.1) rfl (by decide +kernel) ?_
                    refine g_iastM (pc := 281) (n := 9) 0 (upd (fun _ => 0) 0 b) C (LX.g3 hL11 ha12) (rfl) (by decide) (by omega) (rfl) (by decide +kernel) ?_
                    refine g_abs (P := fun G9 => ∃ G39 : GG, LX cy x b nt nf nc nn T E Cu N G2 G39 G9 ∧ G39 q7 = some (.inl (cy 0, 9, .inl (upd (fun _ => 0) 0 b)))) ⟨_, LX.p3 hL11 ha12, g_up_self ..⟩ (fun G13 hg => ?_)
                    obtain ⟨G314, hL15, ha16⟩ := hg
                    refine g_seg [(282, .dup, 1), (283, .iconst 1, 1), (284, .aload_n 0, 1)] 285 [(0, .ref s), (1, .ref x), (2, .int z), (3, .int zc), (4, .int x5)] [.ref s, .int 1, .ref q7, .ref q7] C (by decide +kernel) rfl ?_
                    refine g_getf (pc := 285) (k := 0) (v := .ref (rt 0)) C fl_X5_9 ((LX.rs hL15 hS).1.1) rfl (by decide +kernel) ?_
                    refine g_alenI (pc := 288) C ((LX.rs hL15 hS).1.2.1) (by decide +kernel) ?_
                    refine g_iastM (pc := 289) (n := 9) 1 (upd (upd (fun _ => 0) 0 b) 1 (nI nt)) C (LX.g3 hL15 ha16) (rfl) (by decide) (by omega) (rfl) (by decide +kernel) ?_
                    refine g_abs (P := fun G9 => ∃ G39 : GG, LX cy x b nt nf nc nn T E Cu N G2 G39 G9 ∧ G39 q7 = some (.inl (cy 0, 9, .inl (upd (upd (fun _ => 0) 0 b) 1 (nI nt))))) ⟨_, LX.p3 hL15 ha16, g_up_self ..⟩ (fun G17 hg => ?_)
                    obtain ⟨G318, hL19, ha20⟩ := hg
                    refine g_seg [(290, .dup, 1), (291, .iconst 2, 1), (292, .iload_n 2, 1)] 293 [(0, .ref s), (1, .ref x), (2, .int z), (3, .int zc), (4, .int x5)] [.int z, .int 2, .ref q7, .ref q7] C (by decide +kernel) rfl ?_
                    refine g_iastM (pc := 293) (n := 9) 2 (upd (upd (upd (fun _ => 0) 0 b) 1 (nI nt)) 2 z) C (LX.g3 hL19 ha20) (rfl) (by decide) (by omega) (rfl) (by decide +kernel) ?_
                    refine g_abs (P := fun G9 => ∃ G39 : GG, LX cy x b nt nf nc nn T E Cu N G2 G39 G9 ∧ G39 q7 = some (.inl (cy 0, 9, .inl (upd (upd (upd (fun _ => 0) 0 b) 1 (nI nt)) 2 z)))) ⟨_, LX.p3 hL19 ha20, g_up_self ..⟩ (fun G21 hg => ?_)
                    obtain ⟨G322, hL23, ha24⟩ := hg
                    refine g_seg [(294, .dup, 1), (295, .iconst 3, 1), (296, .aload_n 0, 1)] 297 [(0, .ref s), (1, .ref x), (2, .int z), (3, .int zc), (4, .int x5)] [.ref s, .int 3, .ref q7, .ref q7] C (by decide +kernel) rfl ?_
                    refine g_getf (pc := 297) (k := 1) (v := .ref (rt 1)) C fl_X5_15 ((LX.rs hL23 hS).1.1) rfl (by decide +kernel) ?_
                    refine g_alenI (pc := 300) C ((LX.rs hL23 hS).1.2.2.1) (by decide +kernel) ?_
                    refine g_iastM (pc := 301) (n := 9) 3 (upd (upd (upd (upd (fun _ => 0) 0 b) 1 (nI nt)) 2 z) 3 (nI nf)) C (LX.g3 hL23 ha24) (rfl) (by decide) (by omega) (rfl) (by decide +kernel) ?_
                    refine g_abs (P := fun G9 => ∃ G39 : GG, LX cy x b nt nf nc nn T E Cu N G2 G39 G9 ∧ G39 q7 = some (.inl (cy 0, 9, .inl (upd (upd (upd (upd (fun _ => 0) 0 b) 1 (nI nt)) 2 z) 3 (nI nf))))) ⟨_, LX.p3 hL23 ha24, g_up_self ..⟩ (fun G25 hg => ?_)
                    obtain ⟨G326, hL27, ha28⟩ := hg
                    refine g_seg [(302, .dup, 1), (303, .iconst 4, 1), (304, .aload_n 0, 1), (305, .iconst 1, 1)] 306 [(0, .ref s), (1, .ref x), (2, .int z), (3, .int zc), (4, .int x5)] [.int 1, .ref s, .int 4, .ref q7, .ref q7] C (by decide +kernel) rfl ?_
                    refine g_rI (pc := 306) C hL27 hS q381 ⟨⟨(Nat.le_of_ble_eq_true rfl), (Nat.le_of_ble_eq_true rfl)⟩, (by show ((((0 + 9 * k) + 5 * k3) + 5 * k5) + 1) + 0 ≤ 204; omega), (by show ((((0 + 56 * k) + 30 * k3) + 30 * k5) + 9) + 0 ≤ 1239; omega)⟩ (Nat.le_of_ble_eq_true rfl) (by decide +kernel) (fun G29 hL30 => ?_)
                    refine g_iastM (pc := 309) (n := 9) 4 (upd (upd (upd (upd (upd (fun _ => 0) 0 b) 1 (nI nt)) 2 z) 3 (nI nf)) 4 (nI (cnt (fun k => decide ((zF b E) k 0 = 1)) nf))) C (LX.g3 hL30 ha28) (rfl) (by decide) (by omega) (rfl) (by decide +kernel) ?_
                    refine g_abs (P := fun G9 => ∃ G39 : GG, LX cy x b nt nf nc nn T E Cu N G2 G39 G9 ∧ G39 q7 = some (.inl (cy 0, 9, .inl (upd (upd (upd (upd (upd (fun _ => 0) 0 b) 1 (nI nt)) 2 z) 3 (nI nf)) 4 (nI (cnt (fun k => decide ((zF b E) k 0 = 1)) nf)))))) ⟨_, LX.p3 hL30 ha28, g_up_self ..⟩ (fun G31 hg => ?_)
                    obtain ⟨G332, hL33, ha34⟩ := hg
                    refine g_seg [(310, .dup, 1), (311, .iconst 5, 1), (312, .aload_n 0, 1), (313, .iconst 2, 1)] 314 [(0, .ref s), (1, .ref x), (2, .int z), (3, .int zc), (4, .int x5)] [.int 2, .ref s, .int 5, .ref q7, .ref q7] C (by decide +kernel) rfl ?_
                    refine g_rI (pc := 314) C hL33 hS q381 ⟨⟨(Nat.le_of_ble_eq_true rfl), (Nat.le_of_ble_eq_true rfl)⟩, (by show (((((0 + 9 * k) + 5 * k3) + 5 * k5) + 1) + 0) + 0 ≤ 204; omega), (by show (((((0 + 56 * k) + 30 * k3) + 30 * k5) + 9) + 0) + 0 ≤ 1239; omega)⟩ (Nat.le_of_ble_eq_true rfl) (by decide +kernel) (fun G35 hL36 => ?_)
                    refine g_iastM (pc := 317) (n := 9) 5 (upd (upd (upd (upd (upd (upd (fun _ => 0) 0 b) 1 (nI nt)) 2 z) 3 (nI nf)) 4 (nI (cnt (fun k => decide ((zF b E) k 0 = 1)) nf))) 5 (nI (cnt (fun k => decide ((zF b E) k 0 = 2)) nf))) C (LX.g3 hL36 ha34) (rfl) (by decide) (by omega) (rfl) (by decide +kernel) ?_
                    refine g_abs (P := fun G9 => ∃ G39 : GG, LX cy x b nt nf nc nn T E Cu N G2 G39 G9 ∧ G39 q7 = some (.inl (cy 0, 9, .inl (upd (upd (upd (upd (upd (upd (fun _ => 0) 0 b) 1 (nI nt)) 2 z) 3 (nI nf)) 4 (nI (cnt (fun k => decide ((zF b E) k 0 = 1)) nf))) 5 (nI (cnt (fun k => decide ((zF b E) k 0 = 2)) nf)))))) ⟨_, LX.p3 hL36 ha34, g_up_self ..⟩ (fun G37 hg => ?_)
                    obtain ⟨G338, hL39, ha40⟩ := hg
                    refine g_seg [(318, .dup, 1), (319, .bipush 6, 2), (321, .aload_n 0, 1), (322, .iconst 3, 1)] 323 [(0, .ref s), (1, .ref x), (2, .int z), (3, .int zc), (4, .int x5)] [.int 3, .ref s, .int 6, .ref q7, .ref q7] C (by decide +kernel) rfl ?_
                    refine g_rI (pc := 323) C hL39 hS q381 ⟨⟨(Nat.le_of_ble_eq_true rfl), (Nat.le_of_ble_eq_true rfl)⟩, (by show ((((((0 + 9 * k) + 5 * k3) + 5 * k5) + 1) + 0) + 0) + 0 ≤ 204; omega), (by show ((((((0 + 56 * k) + 30 * k3) + 30 * k5) + 9) + 0) + 0) + 0 ≤ 1239; omega)⟩ (Nat.le_of_ble_eq_true rfl) (by decide +kernel) (fun G41 hL42 => ?_)
                    refine g_iastM (pc := 326) (n := 9) 6 (upd (upd (upd (upd (upd (upd (upd (fun _ => 0) 0 b) 1 (nI nt)) 2 z) 3 (nI nf)) 4 (nI (cnt (fun k => decide ((zF b E) k 0 = 1)) nf))) 5 (nI (cnt (fun k => decide ((zF b E) k 0 = 2)) nf))) 6 (nI (cnt (fun k => decide ((zF b E) k 0 = 3)) nf))) C (LX.g3 hL42 ha40) (rfl) (by decide) (by omega) (rfl) (by decide +kernel) ?_
                    refine g_abs (P := fun G9 => ∃ G39 : GG, LX cy x b nt nf nc nn T E Cu N G2 G39 G9 ∧ G39 q7 = some (.inl (cy 0, 9, .inl (upd (upd (upd (upd (upd (upd (upd (fun _ => 0) 0 b) 1 (nI nt)) 2 z) 3 (nI nf)) 4 (nI (cnt (fun k => decide ((zF b E) k 0 = 1)) nf))) 5 (nI (cnt (fun k => decide ((zF b E) k 0 = 2)) nf))) 6 (nI (cnt (fun k => decide ((zF b E) k 0 = 3)) nf)))))) ⟨_, LX.p3 hL42 ha40, g_up_self ..⟩ (fun G43 hg => ?_)
                    obtain ⟨G344, hL45, ha46⟩ := hg
                    refine g_seg [(327, .dup, 1), (328, .bipush 7, 2), (330, .aload_n 0, 1), (331, .iconst 4, 1)] 332 [(0, .ref s), (1, .ref x), (2, .int z), (3, .int zc), (4, .int x5)] [.int 4, .ref s, .int 7, .ref q7, .ref q7] C (by decide +kernel) rfl ?_
                    refine g_rI (pc := 332) C hL45 hS q381 ⟨⟨(Nat.le_of_ble_eq_true rfl), (Nat.le_of_ble_eq_true rfl)⟩, (by show (((((((0 + 9 * k) + 5 * k3) + 5 * k5) + 1) + 0) + 0) + 0) + 0 ≤ 204; omega), (by show (((((((0 + 56 * k) + 30 * k3) + 30 * k5) + 9) + 0) + 0) + 0) + 0 ≤ 1239; omega)⟩ (Nat.le_of_ble_eq_true rfl) (by decide +kernel) (fun G47 hL48 => ?_)
                    refine g_iastM (pc := 335) (n := 9) 7 (upd (upd (upd (upd (upd (upd (upd (upd (fun _ => 0) 0 b) 1 (nI nt)) 2 z) 3 (nI nf)) 4 (nI (cnt (fun k => decide ((zF b E) k 0 = 1)) nf))) 5 (nI (cnt (fun k => decide ((zF b E) k 0 = 2)) nf))) 6 (nI (cnt (fun k => decide ((zF b E) k 0 = 3)) nf))) 7 (nI (cnt (fun k => decide ((zF b E) k 0 = 4)) nf))) C (LX.g3 hL48 ha46) (rfl) (by decide) (by omega) (rfl) (by decide +kernel) ?_
                    refine g_abs (P := fun G9 => ∃ G39 : GG, LX cy x b nt nf nc nn T E Cu N G2 G39 G9 ∧ G39 q7 = some (.inl (cy 0, 9, .inl (upd (upd (upd (upd (upd (upd (upd (upd (fun _ => 0) 0 b) 1 (nI nt)) 2 z) 3 (nI nf)) 4 (nI (cnt (fun k => decide ((zF b E) k 0 = 1)) nf))) 5 (nI (cnt (fun k => decide ((zF b E) k 0 = 2)) nf))) 6 (nI (cnt (fun k => decide ((zF b E) k 0 = 3)) nf))) 7 (nI (cnt (fun k => decide ((zF b E) k 0 = 4)) nf)))))) ⟨_, LX.p3 hL48 ha46, g_up_self ..⟩ (fun G49 hg => ?_)
                    obtain ⟨G350, hL51, ha52⟩ := hg
                    refine g_seg [(336, .dup, 1), (337, .bipush 8, 2), (339, .aload_n 0, 1)] 340 [(0, .ref s), (1, .ref x), (2, .int z), (3, .int zc), (4, .int x5)] [.ref s, .int 8, .ref q7, .ref q7] C (by decide +kernel) rfl ?_
                    refine g_rO (pc := 340) C hL51 hS q385 ⟨⟨(Nat.le_of_ble_eq_true rfl), (Nat.le_of_ble_eq_true rfl)⟩, (by show ((((((((0 + 9 * k) + 5 * k3) + 5 * k5) + 1) + 0) + 0) + 0) + 0) + 0 ≤ 204; omega), (by show ((((((((0 + 56 * k) + 30 * k3) + 30 * k5) + 9) + 0) + 0) + 0) + 0) + 0 ≤ 1239; omega)⟩ (Nat.le_of_ble_eq_true rfl) (by decide +kernel) (fun G53 hL54 => ?_)
                    refine g_iastM (pc := 343) (n := 9) 8 (upd (upd (upd (upd (upd (upd (upd (upd (upd (fun _ => 0) 0 b) 1 (nI nt)) 2 z) 3 (nI nf)) 4 (nI (cnt (fun k => decide ((zF b E) k 0 = 1)) nf))) 5 (nI (cnt (fun k => decide ((zF b E) k 0 = 2)) nf))) 6 (nI (cnt (fun k => decide ((zF b E) k 0 = 3)) nf))) 7 (nI (cnt (fun k => decide ((zF b E) k 0 = 4)) nf))) 8 (nI (cnt (fun k => decide (Cu k 4 = 0)) nc))) C (LX.g3 hL54 ha52) (rfl) (by decide) (by omega) (rfl) (by decide +kernel) ?_
                    refine g_abs (P := fun G9 => ∃ G39 : GG, LX cy x b nt nf nc nn T E Cu N G2 G39 G9 ∧ G39 q7 = some (.inl (cy 0, 9, .inl (upd (upd (upd (upd (upd (upd (upd (upd (upd (fun _ => 0) 0 b) 1 (nI nt)) 2 z) 3 (nI nf)) 4 (nI (cnt (fun k => decide ((zF b E) k 0 = 1)) nf))) 5 (nI (cnt (fun k => decide ((zF b E) k 0 = 2)) nf))) 6 (nI (cnt (fun k => decide ((zF b E) k 0 = 3)) nf))) 7 (nI (cnt (fun k => decide ((zF b E) k 0 = 4)) nf))) 8 (nI (cnt (fun k => decide (Cu k 4 = 0)) nc)))))) ⟨_, LX.p3 hL54 ha52, g_up_self ..⟩ (fun G55 hg => ?_)
                    obtain ⟨G356, hL57, ha58⟩ := hg
                    have ha59c : (upd (upd (upd (upd (upd (upd (upd (upd (upd (fun _ => 0) 0 b) 1 (nI nt)) 2 z) 3 (nI nf)) 4 (nI (cnt (fun k => decide ((zF b E) k 0 = 1)) nf))) 5 (nI (cnt (fun k => decide ((zF b E) k 0 = 2)) nf))) 6 (nI (cnt (fun k => decide ((zF b E) k 0 = 3)) nf))) 7 (nI (cnt (fun k => decide ((zF b E) k 0 = 4)) nf))) 8 (nI (cnt (fun k => decide (Cu k 4 = 0)) nc))) = cut 9 (fun j => s_countX b nt nf nc T E Cu (nI j)) := told9 (g := (fun j => s_countX b nt nf nc T E Cu (nI j))) rfl rfl hs rfl rfl rfl rfl rfl rfl
                    have ha59 : G356 q7 = some (.inl (cy 0, 9, .inl (cut 9 (fun j => s_countX b nt nf nc T E Cu (nI j))))) := by rw [← ha59c]; exact ha58
                    refine g_seg [(344, .astore 4, 2), (346, .iconst 0, 1), (347, .istore 5, 2)] 349 [(5, .int 0), (4, .ref q7), (0, .ref s), (1, .ref x), (2, .int z), (3, .int zc)] [] C (by decide +kernel) rfl ?_
                    refine g_widen (k := ((((((((((0 + 9 * k) + 5 * k3) + 5 * k5) + 1) + 0) + 0) + 0) + 0) + 0) + 1 * 0)) (n := ((((((((((0 + 56 * k) + 30 * k3) + 30 * k5) + 9) + 0) + 0) + 0) + 0) + 0) + 6 * 0)) (by show (((((((((0 + 9 * k) + 5 * k3) + 5 * k5) + 1) + 0) + 0) + 0) + 0) + 0) ≤ ((((((((((0 + 9 * k) + 5 * k3) + 5 * k5) + 1) + 0) + 0) + 0) + 0) + 0) + 1 * 0); omega) (by show (((((((((0 + 56 * k) + 30 * k3) + 30 * k5) + 9) + 0) + 0) + 0) + 0) + 0) ≤ ((((((((((0 + 56 * k) + 30 * k3) + 30 * k5) + 9) + 0) + 0) + 0) + 0) + 0) + 6 * 0); omega) ?_
                    refine g_subp [2, 3, 4, 5, 1, 0] (lv' := [(0, .ref s), (1, .ref x), (2, .int z), (3, .int zc), (4, .ref q7), (5, .int 0)]) rfl ?_
                    have lp60 : ∀ (m7 k7 : Nat) (G17 : GG) (x7 : Int32), 9 + 1 ≤ k7 + m7 → k7 ≤ 9 → x7 = nI k7 → LX cy x b nt nf nc nn T E Cu N G2 G356 G17 → PG κ 8 ((((((((((0 + 9 * k) + 5 * k3) + 5 * k5) + 1) + 0) + 0) + 0) + 0) + 0) + 1 * k7) ((((((((((0 + 56 * k) + 30 * k3) + 30 * k5) + 9) + 0) + 0) + 0) + 0) + 0) + 6 * k7) G17 [(0, .ref s), (1, .ref x), (2, .int z), (3, .int zc), (4, .ref q7), (5, .int x7)] 349 [] := by
                      intro m7
                      induction m7 with
                      | zero => intro k7 G17 x7 h1 h2; intros; exact absurd h1 (by omega)
                      | succ m7 ih7 =>
                        intro k7 G17 x7 hm7 hk7 hx7 hL17
                        refine g_seg [(349, .iload 5, 2), (351, .bipush 9, 2)] 353 [(0, .ref s), (1, .ref x), (2, .int z), (3, .int zc), (4, .ref q7), (5, .int x7)] [.int 9, .int x7] C (by decide +kernel) rfl ?_
                        refine g_icmp_ge (pc := 353) (off := 25) 378 C (by decide +kernel) (by decide) (fun c61 => ?_) (fun c61 => ?_)
                        · have hy8 : k7 = 9 := by have := lp_ge (n := 9) hx7 (by omega) (by omega) c61; omega
                          refine g_seg [(378, .aload_n 1, 1)] 379 [(0, .ref s), (1, .ref x), (2, .int z), (3, .int zc), (4, .ref q7), (5, .int x7)] [.ref x] C (by decide +kernel) rfl ?_
                          refine g_rE (pc := 379) C hL17  q390 ⟨⟨(Nat.le_of_ble_eq_true rfl), (Nat.le_of_ble_eq_true rfl)⟩, (by show ((((((((((0 + 9 * k) + 5 * k3) + 5 * k5) + 1) + 0) + 0) + 0) + 0) + 0) + 1 * k7) + 0 ≤ 204; omega), (by show ((((((((((0 + 56 * k) + 30 * k3) + 30 * k5) + 9) + 0) + 0) + 0) + 0) + 0) + 6 * k7) + 0 ≤ 1239; omega)⟩ (Nat.le_of_ble_eq_true rfl) (by decide +kernel) (fun G62 hL63 => ?_)
                          refine g_seg [(382, .aload_n 0, 1)] 383 [(0, .ref s), (1, .ref x), (2, .int z), (3, .int zc), (4, .ref q7), (5, .int x7)] [.ref s, .double (s_mean E nf)] C (by decide +kernel) rfl ?_
                          refine g_getf (pc := 383) (k := 1) (v := .ref (rt 1)) C fl_X5_15 ((LX.rs hL63 hS).1.1) rfl (by decide +kernel) ?_
                          refine g_alenI (pc := 386) C ((LX.rs hL63 hS).1.2.2.1) (by decide +kernel) ?_
                          refine g_if_ne (pc := 387) (off := 7) 394 C (by decide +kernel) (by decide) (fun c64 => ?_) (fun c64 => ?_)
                          · have hnf : ¬ nf = 0 := fun h9 => c64 (by rw [h9]; rfl)
                            refine g_seg [(394, .iload_n 3, 1), (395, .i2d, 1), (396, .aload_n 0, 1)] 397 [(0, .ref s), (1, .ref x), (2, .int z), (3, .int zc), (4, .ref q7), (5, .int x7)] [.ref s, .double (FP.i2d zc), .double (s_mean E nf)] C (by decide +kernel) rfl ?_
                            refine g_getf (pc := 397) (k := 1) (v := .ref (rt 1)) C fl_X5_15 ((LX.rs hL63 hS).1.1) rfl (by decide +kernel) ?_
                            refine g_alenI (pc := 400) C ((LX.rs hL63 hS).1.2.2.1) (by decide +kernel) ?_
                            refine g_seg [(401, .i2d, 1)] 402 [(0, .ref s), (1, .ref x), (2, .int z), (3, .int zc), (4, .ref q7), (5, .int x7)] [.double (FP.i2d (nI nf)), .double (FP.i2d zc), .double (s_mean E nf)] C (by decide +kernel) rfl ?_
                            refine g_ddiv (pc := 402) C (by decide +kernel) (dn_ok (fun h9 => hnf ((nI_eq (by omega) (by decide)).mp h9))) ?_
                            refine g_seg [(403, .dcmp .l, 1)] 404 [(0, .ref s), (1, .ref x), (2, .int z), (3, .int zc), (4, .ref q7), (5, .int x7)] [.int (Op.cmpValue (FP.dcmp (s_mean E nf) (FP.ddiv (FP.i2d zc) (FP.i2d (nI nf)))) .l)] C (by decide +kernel) rfl ?_
                            refine g_if_ne (pc := 404) (off := 7) 411 C (by decide +kernel) (by decide) (fun c9 => absurd (by rw [s_mean, if_neg hnf, hs3]; exact mean_cmp (fun h9 => hnf ((nI_eq (by omega) (by decide)).mp h9))) c9) (fun _ => ?_)
                            refine g_seg [(407, .iconst 1, 1), (408, .goto 4, 3)] 412 [(0, .ref s), (1, .ref x), (2, .int z), (3, .int zc), (4, .ref q7), (5, .int x7)] [.int 1] C (by decide +kernel) rfl ?_
                            exact g_zret (pc := 412) C R (by first | rfl | decide) (⟨_, rfl, rfl⟩) (by show (((((((((((0 + 9 * k) + 5 * k3) + 5 * k5) + 1) + 0) + 0) + 0) + 0) + 0) + 1 * k7) + 0) ≤ 204; omega) (by show (((((((((((0 + 56 * k) + 30 * k3) + 30 * k5) + 9) + 0) + 0) + 0) + 0) + 0) + 6 * k7) + 0) ≤ 1239; omega) (by decide +kernel)
                          · have hnf : nf = 0 := (nI_eq (by omega) (by decide)).mp c64
                            refine g_seg [(390, .dconst 0, 1), (391, .goto 12, 3), (403, .dcmp .l, 1)] 404 [(0, .ref s), (1, .ref x), (2, .int z), (3, .int zc), (4, .ref q7), (5, .int x7)] [.int (Op.cmpValue (FP.dcmp (s_mean E nf) FP.dconst0) .l)] C (by decide +kernel) rfl ?_
                            refine g_if_ne (pc := 404) (off := 7) 411 C (by decide +kernel) (by decide) (fun c9 => absurd (by rw [s_mean, if_pos hnf]; exact mean_cmp0) c9) (fun _ => ?_)
                            refine g_seg [(407, .iconst 1, 1), (408, .goto 4, 3)] 412 [(0, .ref s), (1, .ref x), (2, .int z), (3, .int zc), (4, .ref q7), (5, .int x7)] [.int 1] C (by decide +kernel) rfl ?_
                            exact g_zret (pc := 412) C R (by first | rfl | decide) (⟨_, rfl, rfl⟩) (by show (((((((((((0 + 9 * k) + 5 * k3) + 5 * k5) + 1) + 0) + 0) + 0) + 0) + 0) + 1 * k7) + 0) ≤ 204; omega) (by show (((((((((((0 + 56 * k) + 30 * k3) + 30 * k5) + 9) + 0) + 0) + 0) + 0) + 0) + 6 * k7) + 0) ≤ 1239; omega) (by decide +kernel)
                        · have hy8 : k7 < 9 := lp_lt (n := 9) hx7 (by omega) (by omega) c61
                          refine g_seg [(356, .aload_n 1, 1), (357, .iload 5, 2)] 359 [(0, .ref s), (1, .ref x), (2, .int z), (3, .int zc), (4, .ref q7), (5, .int x7)] [.int x7, .ref x] C (by decide +kernel) rfl ?_
                          refine g_rK (pc := 359) C X hL17 (wb (m := 8) (hx7) (by omega) (by omega)) q389 ⟨⟨(Nat.le_of_ble_eq_true rfl), (Nat.le_of_ble_eq_true rfl)⟩, (by show ((((((((((0 + 9 * k) + 5 * k3) + 5 * k5) + 1) + 0) + 0) + 0) + 0) + 0) + 1 * k7) + 1 ≤ 204; omega), (by show ((((((((((0 + 56 * k) + 30 * k3) + 30 * k5) + 9) + 0) + 0) + 0) + 0) + 0) + 6 * k7) + 6 ≤ 1239; omega)⟩ (Nat.le_of_ble_eq_true rfl) (by decide +kernel) (fun G65 hL66 => ?_)
                          refine g_seg [(362, .aload 4, 2), (364, .iload 5, 2)] 366 [(0, .ref s), (1, .ref x), (2, .int z), (3, .int zc), (4, .ref q7), (5, .int x7)] [.int x7, .ref q7, .int (s_countX b nt nf nc T E Cu x7)] C (by decide +kernel) rfl ?_
                          refine g_ialdM (pc := 366) (n := 9) k7 (s_countX b nt nf nc T E Cu x7) C (LX.g3 hL66 ha59) (hx7) (hy8) (by omega) (by rw [cut_lt hy8, hx7]) (by decide +kernel) ?_
                          refine g_icmp_eq (pc := 367) (off := 5) 372 C (by decide +kernel) (by decide) (fun _ => ?_) (fun c9 => absurd (rfl) c9)
                          refine g_seg [(372, .iinc 5 1, 3), (375, .goto (-26), 3)] 349 [(5, .int (x7 + 1)), (0, .ref s), (1, .ref x), (2, .int z), (3, .int zc), (4, .ref q7)] [] C (by decide +kernel) rfl ?_
                          refine g_subp [1, 2, 3, 4, 5, 0] (lv' := [(0, .ref s), (1, .ref x), (2, .int z), (3, .int zc), (4, .ref q7), (5, .int (x7 + 1))]) rfl ?_
                          refine g_widen (k := ((((((((((0 + 9 * k) + 5 * k3) + 5 * k5) + 1) + 0) + 0) + 0) + 0) + 0) + 1 * (k7 + 1))) (n := ((((((((((0 + 56 * k) + 30 * k3) + 30 * k5) + 9) + 0) + 0) + 0) + 0) + 0) + 6 * (k7 + 1))) (by show (((((((((((0 + 9 * k) + 5 * k3) + 5 * k5) + 1) + 0) + 0) + 0) + 0) + 0) + 1 * k7) + 1) ≤ ((((((((((0 + 9 * k) + 5 * k3) + 5 * k5) + 1) + 0) + 0) + 0) + 0) + 0) + 1 * (k7 + 1)); omega) (by show (((((((((((0 + 56 * k) + 30 * k3) + 30 * k5) + 9) + 0) + 0) + 0) + 0) + 0) + 6 * k7) + 6) ≤ ((((((((((0 + 56 * k) + 30 * k3) + 30 * k5) + 9) + 0) + 0) + 0) + 0) + 0) + 6 * (k7 + 1)); omega) ?_
                          exact ih7 (k7 + 1) G65 (x7 + 1) (by omega) (by omega) (lp_s hx7) (hL66)
                    exact lp60 (9 + 1) 0 G55 0 (by omega) (by omega) (nI_0.symm) (hL57)
                  · have ho8 : k5 < nc := lp_lt (n := nc) hx5 (by omega) (by omega) c6
                    refine g_seg [(227, .iconst 0, 1), (228, .istore 5, 2)] 230 [(5, .int 0), (0, .ref s), (1, .ref x), (2, .int z), (3, .int zc), (4, .int x5)] [] C (by decide +kernel) rfl ?_
                    refine g_widen (k := ((((0 + 9 * k) + 5 * k3) + 5 * k5) + 1 * 0)) (n := ((((0 + 56 * k) + 30 * k3) + 30 * k5) + 6 * 0)) (by show (((0 + 9 * k) + 5 * k3) + 5 * k5) ≤ ((((0 + 9 * k) + 5 * k3) + 5 * k5) + 1 * 0); omega) (by show (((0 + 56 * k) + 30 * k3) + 30 * k5) ≤ ((((0 + 56 * k) + 30 * k3) + 30 * k5) + 6 * 0); omega) ?_
                    refine g_subp [1, 2, 3, 4, 5, 0] (lv' := [(0, .ref s), (1, .ref x), (2, .int z), (3, .int zc), (4, .int x5), (5, .int 0)]) rfl ?_
                    have lp67 : ∀ (m6 k6 : Nat) (G16 : GG) (x6 : Int32), 5 + 1 ≤ k6 + m6 → k6 ≤ 5 → x6 = nI k6 → LX cy x b nt nf nc nn T E Cu N G2 nG G16 → PG κ 8 ((((0 + 9 * k) + 5 * k3) + 5 * k5) + 1 * k6) ((((0 + 56 * k) + 30 * k3) + 30 * k5) + 6 * k6) G16 [(0, .ref s), (1, .ref x), (2, .int z), (3, .int zc), (4, .int x5), (5, .int x6)] 230 [] := by
                      intro m6
                      induction m6 with
                      | zero => intro k6 G16 x6 h1 h2; intros; exact absurd h1 (by omega)
                      | succ m6 ih6 =>
                        intro k6 G16 x6 hm6 hk6 hx6 hL16
                        refine g_seg [(230, .iload 5, 2), (232, .iconst 5, 1)] 233 [(0, .ref s), (1, .ref x), (2, .int z), (3, .int zc), (4, .int x5), (5, .int x6)] [.int 5, .int x6] C (by decide +kernel) rfl ?_
                        refine g_icmp_ge (pc := 233) (off := 32) 265 C (by decide +kernel) (by decide) (fun c68 => ?_) (fun c68 => ?_)
                        · have hp8 : k6 = 5 := by have := lp_ge (n := 5) hx6 (by omega) (by omega) c68; omega
                          refine g_seg [(265, .iinc 4 1, 3), (268, .goto (-51), 3)] 217 [(4, .int (x5 + 1)), (0, .ref s), (1, .ref x), (2, .int z), (3, .int zc), (5, .int x6)] [] C (by decide +kernel) rfl ?_
                          refine g_subp [1, 2, 3, 4, 0] (lv' := [(0, .ref s), (1, .ref x), (2, .int z), (3, .int zc), (4, .int (x5 + 1))]) rfl ?_
                          refine g_widen (k := (((0 + 9 * k) + 5 * k3) + 5 * (k5 + 1))) (n := (((0 + 56 * k) + 30 * k3) + 30 * (k5 + 1))) (by show ((((0 + 9 * k) + 5 * k3) + 5 * k5) + 1 * k6) ≤ (((0 + 9 * k) + 5 * k3) + 5 * (k5 + 1)); omega) (by show ((((0 + 56 * k) + 30 * k3) + 30 * k5) + 6 * k6) ≤ (((0 + 56 * k) + 30 * k3) + 30 * (k5 + 1)); omega) ?_
                          exact ih5 (k5 + 1) G16 (x5 + 1) (by omega) (by omega) (lp_s hx5) (hL16)
                        · have hp8 : k6 < 5 := lp_lt (n := 5) hx6 (by omega) (by omega) c68
                          refine g_seg [(236, .aload_n 1, 1), (237, .iload 4, 2), (239, .iload 5, 2)] 241 [(0, .ref s), (1, .ref x), (2, .int z), (3, .int zc), (4, .int x5), (5, .int x6)] [.int x6, .int x5, .ref x] C (by decide +kernel) rfl ?_
                          refine g_rC (pc := 241) C X hL16 (hx5) (ho8) (wb (m := 4) (hx6) (by omega) (by omega)) q380 ⟨⟨(Nat.le_of_ble_eq_true rfl), (Nat.le_of_ble_eq_true rfl)⟩, (by show ((((0 + 9 * k) + 5 * k3) + 5 * k5) + 1 * k6) + 1 ≤ 204; omega), (by show ((((0 + 56 * k) + 30 * k3) + 30 * k5) + 6 * k6) + 6 ≤ 1239; omega)⟩ (Nat.le_of_ble_eq_true rfl) (by decide +kernel) (fun G69 hL70 => ?_)
                          refine g_seg [(244, .aload_n 0, 1)] 245 [(0, .ref s), (1, .ref x), (2, .int z), (3, .int zc), (4, .int x5), (5, .int x6)] [.ref s, .int (s_toldC Cu k5 x6)] C (by decide +kernel) rfl ?_
                          refine g_getf (pc := 245) (k := 2) (v := .ref (rt 2)) C fl_X5_18 ((LX.rs hL70 hS).1.1) rfl (by decide +kernel) ?_
                          refine g_seg [(248, .iload 4, 2)] 250 [(0, .ref s), (1, .ref x), (2, .int z), (3, .int zc), (4, .int x5), (5, .int x6)] [.int x5, .ref (rt 2), .int (s_toldC Cu k5 x6)] C (by decide +kernel) rfl ?_
                          refine g_aaldS (pc := 250) (j := k5) C ((LX.rs hL70 hS).1.2.2.2.1) (hx5) (ho8) (by omega) (by decide +kernel) ?_
                          refine g_seg [(251, .iload 5, 2)] 253 [(0, .ref s), (1, .ref x), (2, .int z), (3, .int zc), (4, .int x5), (5, .int x6)] [.int x6, .ref (rd 2 k5), .int (s_toldC Cu k5 x6)] C (by decide +kernel) rfl ?_
                          refine g_ialdM (pc := 253) (n := 5) k6 (s_toldC Cu k5 x6) C ((LX.rs hL70 hS).2.1.2.2.1 k5 ho8) (hx6) (hp8) (by decide) (by rw [cut_lt hp8, zC_told (C := Cu) (i := k5) hp8, hx6]) (by decide +kernel) ?_
                          refine g_icmp_eq (pc := 254) (off := 5) 259 C (by decide +kernel) (by decide) (fun _ => ?_) (fun c9 => absurd (rfl) c9)
                          refine g_seg [(259, .iinc 5 1, 3), (262, .goto (-32), 3)] 230 [(5, .int (x6 + 1)), (0, .ref s), (1, .ref x), (2, .int z), (3, .int zc), (4, .int x5)] [] C (by decide +kernel) rfl ?_
                          refine g_subp [1, 2, 3, 4, 5, 0] (lv' := [(0, .ref s), (1, .ref x), (2, .int z), (3, .int zc), (4, .int x5), (5, .int (x6 + 1))]) rfl ?_
                          refine g_widen (k := ((((0 + 9 * k) + 5 * k3) + 5 * k5) + 1 * (k6 + 1))) (n := ((((0 + 56 * k) + 30 * k3) + 30 * k5) + 6 * (k6 + 1))) (by show (((((0 + 9 * k) + 5 * k3) + 5 * k5) + 1 * k6) + 1) ≤ ((((0 + 9 * k) + 5 * k3) + 5 * k5) + 1 * (k6 + 1)); omega) (by show (((((0 + 56 * k) + 30 * k3) + 30 * k5) + 6 * k6) + 6) ≤ ((((0 + 56 * k) + 30 * k3) + 30 * k5) + 6 * (k6 + 1)); omega) ?_
                          exact ih6 (k6 + 1) G69 (x6 + 1) (by omega) (by omega) (lp_s hx6) (hL70)
                    exact lp67 (5 + 1) 0 G15 0 (by omega) (by omega) (nI_0.symm) (hL15)
              exact lp5 (nc + 1) 0 G13 0 (by omega) (by omega) (nI_0.symm) (hL13)
            · have hm8 : k3 < nf := lp_lt (n := nf) hx3 (by omega) (by omega) c4
              refine g_seg [(158, .iconst 0, 1), (159, .istore 5, 2)] 161 [(5, .int 0), (0, .ref s), (1, .ref x), (2, .int z), (3, .int zc), (4, .int x3)] [] C (by decide +kernel) rfl ?_
              refine g_widen (k := (((0 + 9 * k) + 5 * k3) + 1 * 0)) (n := (((0 + 56 * k) + 30 * k3) + 6 * 0)) (by show ((0 + 9 * k) + 5 * k3) ≤ (((0 + 9 * k) + 5 * k3) + 1 * 0); omega) (by show ((0 + 56 * k) + 30 * k3) ≤ (((0 + 56 * k) + 30 * k3) + 6 * 0); omega) ?_
              refine g_subp [1, 2, 3, 4, 5, 0] (lv' := [(0, .ref s), (1, .ref x), (2, .int z), (3, .int zc), (4, .int x3), (5, .int 0)]) rfl ?_
              have lp71 : ∀ (m4 k4 : Nat) (G14 : GG) (x4 : Int32), 5 + 1 ≤ k4 + m4 → k4 ≤ 5 → x4 = nI k4 → LX cy x b nt nf nc nn T E Cu N G2 nG G14 → PG κ 8 (((0 + 9 * k) + 5 * k3) + 1 * k4) (((0 + 56 * k) + 30 * k3) + 6 * k4) G14 [(0, .ref s), (1, .ref x), (2, .int z), (3, .int zc), (4, .int x3), (5, .int x4)] 161 [] := by
                intro m4
                induction m4 with
                | zero => intro k4 G14 x4 h1 h2; intros; exact absurd h1 (by omega)
                | succ m4 ih4 =>
                  intro k4 G14 x4 hm4 hk4 hx4 hL14
                  refine g_seg [(161, .iload 5, 2), (163, .iconst 5, 1)] 164 [(0, .ref s), (1, .ref x), (2, .int z), (3, .int zc), (4, .int x3), (5, .int x4)] [.int 5, .int x4] C (by decide +kernel) rfl ?_
                  refine g_icmp_ge (pc := 164) (off := 32) 196 C (by decide +kernel) (by decide) (fun c72 => ?_) (fun c72 => ?_)
                  · have hn8 : k4 = 5 := by have := lp_ge (n := 5) hx4 (by omega) (by omega) c72; omega
                    refine g_seg [(196, .iload_n 3, 1), (197, .aload_n 0, 1)] 198 [(0, .ref s), (1, .ref x), (2, .int z), (3, .int zc), (4, .int x3), (5, .int x4)] [.ref s, .int zc] C (by decide +kernel) rfl ?_
                    refine g_getf (pc := 198) (k := 1) (v := .ref (rt 1)) C fl_X5_15 ((LX.rs hL14 hS).1.1) rfl (by decide +kernel) ?_
                    refine g_seg [(201, .iload 4, 2)] 203 [(0, .ref s), (1, .ref x), (2, .int z), (3, .int zc), (4, .int x3), (5, .int x4)] [.int x3, .ref (rt 1), .int zc] C (by decide +kernel) rfl ?_
                    refine g_aaldS (pc := 203) (j := k3) C ((LX.rs hL14 hS).1.2.2.1) (hx3) (hm8) (by omega) (by decide +kernel) ?_
                    refine g_seg [(204, .iconst 4, 1)] 205 [(0, .ref s), (1, .ref x), (2, .int z), (3, .int zc), (4, .int x3), (5, .int x4)] [.int 4, .ref (rd 1 k3), .int zc] C (by decide +kernel) rfl ?_
                    refine g_ialdM (pc := 205) (n := 5) 4 ((zF b E) k3 4) C ((LX.rs hL14 hS).2.1.2.1 k3 hm8) rfl (by decide) (by decide) (cut_lt (by decide)) (by decide +kernel) ?_
                    refine g_seg [(206, .iadd, 1), (207, .istore_n 3, 1), (208, .iinc 4 1, 3), (211, .goto (-63), 3)] 148 [(4, .int (x3 + 1)), (3, .int (zc + ((zF b E) k3 4))), (0, .ref s), (1, .ref x), (2, .int z), (5, .int x4)] [] C (by decide +kernel) rfl ?_
                    refine g_subp [2, 3, 4, 1, 0] (lv' := [(0, .ref s), (1, .ref x), (2, .int z), (3, .int (zc + ((zF b E) k3 4))), (4, .int (x3 + 1))]) rfl ?_
                    refine g_widen (k := ((0 + 9 * k) + 5 * (k3 + 1))) (n := ((0 + 56 * k) + 30 * (k3 + 1))) (by show (((0 + 9 * k) + 5 * k3) + 1 * k4) ≤ ((0 + 9 * k) + 5 * (k3 + 1)); omega) (by show (((0 + 56 * k) + 30 * k3) + 6 * k4) ≤ ((0 + 56 * k) + 30 * (k3 + 1)); omega) ?_
                    exact ih3 (k3 + 1) G14 (zc + ((zF b E) k3 4)) (x3 + 1) (by omega) (by omega) (lp_s hx3) (by rw [hs3]; rfl) (hL14)
                  · have hn8 : k4 < 5 := lp_lt (n := 5) hx4 (by omega) (by omega) c72
                    refine g_seg [(167, .aload_n 1, 1), (168, .iload 4, 2), (170, .iload 5, 2)] 172 [(0, .ref s), (1, .ref x), (2, .int z), (3, .int zc), (4, .int x3), (5, .int x4)] [.int x4, .int x3, .ref x] C (by decide +kernel) rfl ?_
                    refine g_rF (pc := 172) C X hL14 (hx3) (hm8) (wb (m := 4) (hx4) (by omega) (by omega)) q379 ⟨⟨(Nat.le_of_ble_eq_true rfl), (Nat.le_of_ble_eq_true rfl)⟩, (by show (((0 + 9 * k) + 5 * k3) + 1 * k4) + 1 ≤ 204; omega), (by show (((0 + 56 * k) + 30 * k3) + 6 * k4) + 6 ≤ 1239; omega)⟩ (Nat.le_of_ble_eq_true rfl) (by decide +kernel) (fun G73 hL74 => ?_)
                    refine g_seg [(175, .aload_n 0, 1)] 176 [(0, .ref s), (1, .ref x), (2, .int z), (3, .int zc), (4, .int x3), (5, .int x4)] [.ref s, .int (s_toldFX E b k3 x4)] C (by decide +kernel) rfl ?_
                    refine g_getf (pc := 176) (k := 1) (v := .ref (rt 1)) C fl_X5_15 ((LX.rs hL74 hS).1.1) rfl (by decide +kernel) ?_
                    refine g_seg [(179, .iload 4, 2)] 181 [(0, .ref s), (1, .ref x), (2, .int z), (3, .int zc), (4, .int x3), (5, .int x4)] [.int x3, .ref (rt 1), .int (s_toldFX E b k3 x4)] C (by decide +kernel) rfl ?_
                    refine g_aaldS (pc := 181) (j := k3) C ((LX.rs hL74 hS).1.2.2.1) (hx3) (hm8) (by omega) (by decide +kernel) ?_
                    refine g_seg [(182, .iload 5, 2)] 184 [(0, .ref s), (1, .ref x), (2, .int z), (3, .int zc), (4, .int x3), (5, .int x4)] [.int x4, .ref (rd 1 k3), .int (s_toldFX E b k3 x4)] C (by decide +kernel) rfl ?_
                    refine g_ialdM (pc := 184) (n := 5) k4 (s_toldFX E b k3 x4) C ((LX.rs hL74 hS).2.1.2.1 k3 hm8) (hx4) (hn8) (by decide) (by rw [cut_lt hn8, zF_told hn8, hx4]) (by decide +kernel) ?_
                    refine g_icmp_eq (pc := 185) (off := 5) 190 C (by decide +kernel) (by decide) (fun _ => ?_) (fun c9 => absurd (rfl) c9)
                    refine g_seg [(190, .iinc 5 1, 3), (193, .goto (-32), 3)] 161 [(5, .int (x4 + 1)), (0, .ref s), (1, .ref x), (2, .int z), (3, .int zc), (4, .int x3)] [] C (by decide +kernel) rfl ?_
                    refine g_subp [1, 2, 3, 4, 5, 0] (lv' := [(0, .ref s), (1, .ref x), (2, .int z), (3, .int zc), (4, .int x3), (5, .int (x4 + 1))]) rfl ?_
                    refine g_widen (k := (((0 + 9 * k) + 5 * k3) + 1 * (k4 + 1))) (n := (((0 + 56 * k) + 30 * k3) + 6 * (k4 + 1))) (by show ((((0 + 9 * k) + 5 * k3) + 1 * k4) + 1) ≤ (((0 + 9 * k) + 5 * k3) + 1 * (k4 + 1)); omega) (by show ((((0 + 56 * k) + 30 * k3) + 6 * k4) + 6) ≤ (((0 + 56 * k) + 30 * k3) + 6 * (k4 + 1)); omega) ?_
                    exact ih4 (k4 + 1) G73 (x4 + 1) (by omega) (by omega) (lp_s hx4) (hL74)
              exact lp71 (5 + 1) 0 G13 0 (by omega) (by omega) (nI_0.symm) (hL13)
        exact lp3 (nf + 1) 0 G1 0 0 (by omega) (by omega) (nI_0.symm) (rfl) (hL1)
      · have hk8 : k < nt := lp_lt (n := nt) hx (by omega) (by omega) c2
        refine g_seg [(17, .aload_n 0, 1)] 18 [(0, .ref s), (1, .ref x), (2, .int z), (3, .int 0), (4, .int xk)] [.ref s] C (by decide +kernel) rfl ?_
        refine g_getf (pc := 18) (k := 0) (v := .ref (rt 0)) C fl_X5_9 ((LX.rs hL1 hS).1.1) rfl (by decide +kernel) ?_
        refine g_seg [(21, .iload 4, 2)] 23 [(0, .ref s), (1, .ref x), (2, .int z), (3, .int 0), (4, .int xk)] [.int xk, .ref (rt 0)] C (by decide +kernel) rfl ?_
        refine g_aaldS (pc := 23) (j := k) C ((LX.rs hL1 hS).1.2.1) (hx) (hk8) (by omega) (by decide +kernel) ?_
        refine g_seg [(24, .astore 5, 2), (26, .bipush 8, 2)] 28 [(5, .ref (rd 0 k)), (0, .ref s), (1, .ref x), (2, .int z), (3, .int 0), (4, .int xk)] [.int 8] C (by decide +kernel) rfl ?_
        refine g_newi (pc := 28) (N' := 8) C q394 (by decide) (by decide) (by decide) (by show (0 + 9 * k) + 1 ≤ 204; omega) (by show (0 + 56 * k) + 8 ≤ 1239; omega) (by decide +kernel) (fun q75 hq76 => ?_)
        have hn_q75 := LX.g3n hL1 hq76
        refine g_abs (P := fun G9 => ∃ G39 : GG, LX cy x b nt nf nc nn T E Cu N G2 G39 G9 ∧ G39 q75 = some (.inl (cy 0, 8, .inl (fun _ => 0)))) ⟨_, LX.n3 hL1 hq76, g_up_self ..⟩ (fun G77 hg => ?_)
        obtain ⟨G378, hL79, ha80⟩ := hg
        refine g_seg [(30, .dup, 1), (31, .iconst 0, 1), (32, .aload 5, 2), (34, .iconst 0, 1)] 35 [(5, .ref (rd 0 k)), (0, .ref s), (1, .ref x), (2, .int z), (3, .int 0), (4, .int xk)] [.int 0, .ref (rd 0 k), .int 0, .ref q75, .ref q75] C (by decide +kernel) rfl ?_
        refine g_ialdM (pc := 35) (n := 7) 0 ((zT b T) k 0) C ((LX.rs hL79 hS).2.1.1 k hk8) rfl (by decide) (by decide) (cut_lt (by decide)) (by decide +kernel) ?_
        refine g_iastM (pc := 36) (n := 8) 0 (upd (fun _ => 0) 0 ((zT b T) k 0)) C (LX.g3 hL79 ha80) (rfl) (by decide) (by omega) (rfl) (by decide +kernel) ?_
        refine g_abs (P := fun G9 => ∃ G39 : GG, LX cy x b nt nf nc nn T E Cu N G2 G39 G9 ∧ G39 q75 = some (.inl (cy 0, 8, .inl (upd (fun _ => 0) 0 ((zT b T) k 0))))) ⟨_, LX.p3 hL79 ha80, g_up_self ..⟩ (fun G81 hg => ?_)
        obtain ⟨G382, hL83, ha84⟩ := hg
        refine g_seg [(37, .dup, 1), (38, .iconst 1, 1), (39, .aload 5, 2), (41, .iconst 1, 1)] 42 [(5, .ref (rd 0 k)), (0, .ref s), (1, .ref x), (2, .int z), (3, .int 0), (4, .int xk)] [.int 1, .ref (rd 0 k), .int 1, .ref q75, .ref q75] C (by decide +kernel) rfl ?_
        refine g_ialdM (pc := 42) (n := 7) 1 ((zT b T) k 1) C ((LX.rs hL83 hS).2.1.1 k hk8) rfl (by decide) (by decide) (cut_lt (by decide)) (by decide +kernel) ?_
        refine g_iastM (pc := 43) (n := 8) 1 (upd (upd (fun _ => 0) 0 ((zT b T) k 0)) 1 ((zT b T) k 1)) C (LX.g3 hL83 ha84) (rfl) (by decide) (by omega) (rfl) (by decide +kernel) ?_
        refine g_abs (P := fun G9 => ∃ G39 : GG, LX cy x b nt nf nc nn T E Cu N G2 G39 G9 ∧ G39 q75 = some (.inl (cy 0, 8, .inl (upd (upd (fun _ => 0) 0 ((zT b T) k 0)) 1 ((zT b T) k 1))))) ⟨_, LX.p3 hL83 ha84, g_up_self ..⟩ (fun G85 hg => ?_)
        obtain ⟨G386, hL87, ha88⟩ := hg
        refine g_seg [(44, .dup, 1), (45, .iconst 2, 1), (46, .aload 5, 2), (48, .iconst 2, 1)] 49 [(5, .ref (rd 0 k)), (0, .ref s), (1, .ref x), (2, .int z), (3, .int 0), (4, .int xk)] [.int 2, .ref (rd 0 k), .int 2, .ref q75, .ref q75] C (by decide +kernel) rfl ?_
        refine g_ialdM (pc := 49) (n := 7) 2 ((zT b T) k 2) C ((LX.rs hL87 hS).2.1.1 k hk8) rfl (by decide) (by decide) (cut_lt (by decide)) (by decide +kernel) ?_
        refine g_iastM (pc := 50) (n := 8) 2 (upd (upd (upd (fun _ => 0) 0 ((zT b T) k 0)) 1 ((zT b T) k 1)) 2 ((zT b T) k 2)) C (LX.g3 hL87 ha88) (rfl) (by decide) (by omega) (rfl) (by decide +kernel) ?_
        refine g_abs (P := fun G9 => ∃ G39 : GG, LX cy x b nt nf nc nn T E Cu N G2 G39 G9 ∧ G39 q75 = some (.inl (cy 0, 8, .inl (upd (upd (upd (fun _ => 0) 0 ((zT b T) k 0)) 1 ((zT b T) k 1)) 2 ((zT b T) k 2))))) ⟨_, LX.p3 hL87 ha88, g_up_self ..⟩ (fun G89 hg => ?_)
        obtain ⟨G390, hL91, ha92⟩ := hg
        refine g_seg [(51, .dup, 1), (52, .iconst 3, 1), (53, .aload 5, 2), (55, .iconst 3, 1)] 56 [(5, .ref (rd 0 k)), (0, .ref s), (1, .ref x), (2, .int z), (3, .int 0), (4, .int xk)] [.int 3, .ref (rd 0 k), .int 3, .ref q75, .ref q75] C (by decide +kernel) rfl ?_
        refine g_ialdM (pc := 56) (n := 7) 3 ((zT b T) k 3) C ((LX.rs hL91 hS).2.1.1 k hk8) rfl (by decide) (by decide) (cut_lt (by decide)) (by decide +kernel) ?_
        refine g_iastM (pc := 57) (n := 8) 3 (upd (upd (upd (upd (fun _ => 0) 0 ((zT b T) k 0)) 1 ((zT b T) k 1)) 2 ((zT b T) k 2)) 3 ((zT b T) k 3)) C (LX.g3 hL91 ha92) (rfl) (by decide) (by omega) (rfl) (by decide +kernel) ?_
        refine g_abs (P := fun G9 => ∃ G39 : GG, LX cy x b nt nf nc nn T E Cu N G2 G39 G9 ∧ G39 q75 = some (.inl (cy 0, 8, .inl (upd (upd (upd (upd (fun _ => 0) 0 ((zT b T) k 0)) 1 ((zT b T) k 1)) 2 ((zT b T) k 2)) 3 ((zT b T) k 3))))) ⟨_, LX.p3 hL91 ha92, g_up_self ..⟩ (fun G93 hg => ?_)
        obtain ⟨G394, hL95, ha96⟩ := hg
        refine g_seg [(58, .dup, 1), (59, .iconst 4, 1), (60, .aload 5, 2), (62, .iconst 4, 1)] 63 [(5, .ref (rd 0 k)), (0, .ref s), (1, .ref x), (2, .int z), (3, .int 0), (4, .int xk)] [.int 4, .ref (rd 0 k), .int 4, .ref q75, .ref q75] C (by decide +kernel) rfl ?_
        refine g_ialdM (pc := 63) (n := 7) 4 ((zT b T) k 4) C ((LX.rs hL95 hS).2.1.1 k hk8) rfl (by decide) (by decide) (cut_lt (by decide)) (by decide +kernel) ?_
        refine g_iastM (pc := 64) (n := 8) 4 (upd (upd (upd (upd (upd (fun _ => 0) 0 ((zT b T) k 0)) 1 ((zT b T) k 1)) 2 ((zT b T) k 2)) 3 ((zT b T) k 3)) 4 ((zT b T) k 4)) C (LX.g3 hL95 ha96) (rfl) (by decide) (by omega) (rfl) (by decide +kernel) ?_
        refine g_abs (P := fun G9 => ∃ G39 : GG, LX cy x b nt nf nc nn T E Cu N G2 G39 G9 ∧ G39 q75 = some (.inl (cy 0, 8, .inl (upd (upd (upd (upd (upd (fun _ => 0) 0 ((zT b T) k 0)) 1 ((zT b T) k 1)) 2 ((zT b T) k 2)) 3 ((zT b T) k 3)) 4 ((zT b T) k 4))))) ⟨_, LX.p3 hL95 ha96, g_up_self ..⟩ (fun G97 hg => ?_)
        obtain ⟨G398, hL99, ha100⟩ := hg
        refine g_seg [(65, .dup, 1), (66, .iconst 5, 1), (67, .aload 5, 2), (69, .iconst 5, 1)] 70 [(5, .ref (rd 0 k)), (0, .ref s), (1, .ref x), (2, .int z), (3, .int 0), (4, .int xk)] [.int 5, .ref (rd 0 k), .int 5, .ref q75, .ref q75] C (by decide +kernel) rfl ?_
        refine g_ialdM (pc := 70) (n := 7) 5 ((zT b T) k 5) C ((LX.rs hL99 hS).2.1.1 k hk8) rfl (by decide) (by decide) (cut_lt (by decide)) (by decide +kernel) ?_
        refine g_iastM (pc := 71) (n := 8) 5 (upd (upd (upd (upd (upd (upd (fun _ => 0) 0 ((zT b T) k 0)) 1 ((zT b T) k 1)) 2 ((zT b T) k 2)) 3 ((zT b T) k 3)) 4 ((zT b T) k 4)) 5 ((zT b T) k 5)) C (LX.g3 hL99 ha100) (rfl) (by decide) (by omega) (rfl) (by decide +kernel) ?_
        refine g_abs (P := fun G9 => ∃ G39 : GG, LX cy x b nt nf nc nn T E Cu N G2 G39 G9 ∧ G39 q75 = some (.inl (cy 0, 8, .inl (upd (upd (upd (upd (upd (upd (fun _ => 0) 0 ((zT b T) k 0)) 1 ((zT b T) k 1)) 2 ((zT b T) k 2)) 3 ((zT b T) k 3)) 4 ((zT b T) k 4)) 5 ((zT b T) k 5))))) ⟨_, LX.p3 hL99 ha100, g_up_self ..⟩ (fun G101 hg => ?_)
        obtain ⟨G3102, hL103, ha104⟩ := hg
        refine g_seg [(72, .dup, 1), (73, .bipush 6, 2), (75, .aload 5, 2), (77, .aload 5, 2), (79, .bipush 6, 2)] 81 [(5, .ref (rd 0 k)), (0, .ref s), (1, .ref x), (2, .int z), (3, .int 0), (4, .int xk)] [.int 6, .ref (rd 0 k), .ref (rd 0 k), .int 6, .ref q75, .ref q75] C (by decide +kernel) rfl ?_
        refine g_ialdM (pc := 81) (n := 7) 6 ((zT b T) k 6) C ((LX.rs hL103 hS).2.1.1 k hk8) rfl (by decide) (by decide) (cut_lt (by decide)) (by decide +kernel) ?_
        refine g_rL (pc := 82) C hL103 hS (hk8) hyS q355 ⟨⟨(Nat.le_of_ble_eq_true rfl), (Nat.le_of_ble_eq_true rfl)⟩, (by show ((0 + 9 * k) + 1) + 0 ≤ 204; omega), (by show ((0 + 56 * k) + 8) + 0 ≤ 1239; omega)⟩ (Nat.le_of_ble_eq_true rfl) (by decide +kernel) (fun G105 hL106 => ?_)
        refine g_iastM (pc := 85) (n := 8) 6 (upd (upd (upd (upd (upd (upd (upd (fun _ => 0) 0 ((zT b T) k 0)) 1 ((zT b T) k 1)) 2 ((zT b T) k 2)) 3 ((zT b T) k 3)) 4 ((zT b T) k 4)) 5 ((zT b T) k 5)) 6 (y_pl (zT b T) k)) C (LX.g3 hL106 ha104) (rfl) (by decide) (by omega) (rfl) (by decide +kernel) ?_
        refine g_abs (P := fun G9 => ∃ G39 : GG, LX cy x b nt nf nc nn T E Cu N G2 G39 G9 ∧ G39 q75 = some (.inl (cy 0, 8, .inl (upd (upd (upd (upd (upd (upd (upd (fun _ => 0) 0 ((zT b T) k 0)) 1 ((zT b T) k 1)) 2 ((zT b T) k 2)) 3 ((zT b T) k 3)) 4 ((zT b T) k 4)) 5 ((zT b T) k 5)) 6 (y_pl (zT b T) k))))) ⟨_, LX.p3 hL106 ha104, g_up_self ..⟩ (fun G107 hg => ?_)
        obtain ⟨G3108, hL109, ha110⟩ := hg
        refine g_seg [(86, .dup, 1), (87, .bipush 7, 2), (89, .aload_n 0, 1), (90, .iload 4, 2)] 92 [(5, .ref (rd 0 k)), (0, .ref s), (1, .ref x), (2, .int z), (3, .int 0), (4, .int xk)] [.int xk, .ref s, .int 7, .ref q75, .ref q75] C (by decide +kernel) rfl ?_
        refine g_rH (pc := 92) C hL109 hS q362 ⟨⟨(Nat.le_of_ble_eq_true rfl), (Nat.le_of_ble_eq_true rfl)⟩, (by show (((0 + 9 * k) + 1) + 0) + 0 ≤ 204; omega), (by show (((0 + 56 * k) + 8) + 0) + 0 ≤ 1239; omega)⟩ (Nat.le_of_ble_eq_true rfl) (by decide +kernel) (fun G111 hL112 => ?_)
        refine g_iastM (pc := 95) (n := 8) 7 (upd (upd (upd (upd (upd (upd (upd (upd (fun _ => 0) 0 ((zT b T) k 0)) 1 ((zT b T) k 1)) 2 ((zT b T) k 2)) 3 ((zT b T) k 3)) 4 ((zT b T) k 4)) 5 ((zT b T) k 5)) 6 (y_pl (zT b T) k)) 7 (nI (s_hangE (zF b E) nf xk))) C (LX.g3 hL112 ha110) (rfl) (by decide) (by omega) (rfl) (by decide +kernel) ?_
        refine g_abs (P := fun G9 => ∃ G39 : GG, LX cy x b nt nf nc nn T E Cu N G2 G39 G9 ∧ G39 q75 = some (.inl (cy 0, 8, .inl (upd (upd (upd (upd (upd (upd (upd (upd (fun _ => 0) 0 ((zT b T) k 0)) 1 ((zT b T) k 1)) 2 ((zT b T) k 2)) 3 ((zT b T) k 3)) 4 ((zT b T) k 4)) 5 ((zT b T) k 5)) 6 (y_pl (zT b T) k)) 7 (nI (s_hangE (zF b E) nf xk)))))) ⟨_, LX.p3 hL112 ha110, g_up_self ..⟩ (fun G113 hg => ?_)
        obtain ⟨G3114, hL115, ha116⟩ := hg
        have ha117c : (upd (upd (upd (upd (upd (upd (upd (upd (fun _ => 0) 0 ((zT b T) k 0)) 1 ((zT b T) k 1)) 2 ((zT b T) k 2)) 3 ((zT b T) k 3)) 4 ((zT b T) k 4)) 5 ((zT b T) k 5)) 6 (y_pl (zT b T) k)) 7 (nI (s_hangE (zF b E) nf xk))) = cut 8 (fun j => s_toldX T E nf b k (nI j)) := told8 (g := (fun j => s_toldX T E nf b k (nI j))) rfl rfl rfl rfl rfl (z5 (hb5 k hk8)) rfl (by rw [hx]; rfl)
        have ha117 : G3114 q75 = some (.inl (cy 0, 8, .inl (cut 8 (fun j => s_toldX T E nf b k (nI j))))) := by rw [← ha117c]; exact ha116
        refine g_seg [(96, .astore 6, 2), (98, .iconst 0, 1), (99, .istore 7, 2)] 101 [(7, .int 0), (6, .ref q75), (5, .ref (rd 0 k)), (0, .ref s), (1, .ref x), (2, .int z), (3, .int 0), (4, .int xk)] [] C (by decide +kernel) rfl ?_
        refine g_widen (k := (((((0 + 9 * k) + 1) + 0) + 0) + 1 * 0)) (n := (((((0 + 56 * k) + 8) + 0) + 0) + 6 * 0)) (by show ((((0 + 9 * k) + 1) + 0) + 0) ≤ (((((0 + 9 * k) + 1) + 0) + 0) + 1 * 0); omega) (by show ((((0 + 56 * k) + 8) + 0) + 0) ≤ (((((0 + 56 * k) + 8) + 0) + 0) + 6 * 0); omega) ?_
        refine g_subp [3, 4, 5, 6, 7, 2, 1, 0] (lv' := [(0, .ref s), (1, .ref x), (2, .int z), (3, .int 0), (4, .int xk), (5, .ref (rd 0 k)), (6, .ref q75), (7, .int 0)]) rfl ?_
        have lp118 : ∀ (m2 k2 : Nat) (G12 : GG) (x2 : Int32), 8 + 1 ≤ k2 + m2 → k2 ≤ 8 → x2 = nI k2 → LX cy x b nt nf nc nn T E Cu N G2 G3114 G12 → PG κ 8 (((((0 + 9 * k) + 1) + 0) + 0) + 1 * k2) (((((0 + 56 * k) + 8) + 0) + 0) + 6 * k2) G12 [(0, .ref s), (1, .ref x), (2, .int z), (3, .int 0), (4, .int xk), (5, .ref (rd 0 k)), (6, .ref q75), (7, .int x2)] 101 [] := by
          intro m2
          induction m2 with
          | zero => intro k2 G12 x2 h1 h2; intros; exact absurd h1 (by omega)
          | succ m2 ih2 =>
            intro k2 G12 x2 hm2 hk2 hx2 hL12
            refine g_seg [(101, .iload 7, 2), (103, .bipush 8, 2)] 105 [(0, .ref s), (1, .ref x), (2, .int z), (3, .int 0), (4, .int xk), (5, .ref (rd 0 k)), (6, .ref q75), (7, .int x2)] [.int 8, .int x2] C (by decide +kernel) rfl ?_
            refine g_icmp_ge (pc := 105) (off := 27) 132 C (by decide +kernel) (by decide) (fun c119 => ?_) (fun c119 => ?_)
            · have hl8 : k2 = 8 := by have := lp_ge (n := 8) hx2 (by omega) (by omega) c119; omega
              refine g_seg [(132, .iload_n 2, 1), (133, .aload 5, 2), (135, .iconst 5, 1)] 136 [(0, .ref s), (1, .ref x), (2, .int z), (3, .int 0), (4, .int xk), (5, .ref (rd 0 k)), (6, .ref q75), (7, .int x2)] [.int 5, .ref (rd 0 k), .int z] C (by decide +kernel) rfl ?_
              refine g_ialdM (pc := 136) (n := 7) 5 ((zT b T) k 5) C ((LX.rs hL12 hS).2.1.1 k hk8) rfl (by decide) (by decide) (cut_lt (by decide)) (by decide +kernel) ?_
              refine g_seg [(137, .iadd, 1), (138, .istore_n 2, 1), (139, .iinc 4 1, 3), (142, .goto (-135), 3)] 7 [(4, .int (xk + 1)), (2, .int (z + ((zT b T) k 5))), (0, .ref s), (1, .ref x), (3, .int 0), (5, .ref (rd 0 k)), (6, .ref q75), (7, .int x2)] [] C (by decide +kernel) rfl ?_
              refine g_subp [2, 3, 1, 4, 0] (lv' := [(0, .ref s), (1, .ref x), (2, .int (z + ((zT b T) k 5))), (3, .int 0), (4, .int (xk + 1))]) rfl ?_
              refine g_widen (k := (0 + 9 * (k + 1))) (n := (0 + 56 * (k + 1))) (by show (((((0 + 9 * k) + 1) + 0) + 0) + 1 * k2) ≤ (0 + 9 * (k + 1)); omega) (by show (((((0 + 56 * k) + 8) + 0) + 0) + 6 * k2) ≤ (0 + 56 * (k + 1)); omega) ?_
              exact ih (k + 1) G12 (z + ((zT b T) k 5)) (xk + 1) (by omega) (by omega) (lp_s hx) (cnt_5 hs (hb5 k hk8)) ((LX.x3 hL12))
            · have hl8 : k2 < 8 := lp_lt (n := 8) hx2 (by omega) (by omega) c119
              refine g_seg [(108, .aload_n 1, 1), (109, .iload 4, 2), (111, .iload 7, 2)] 113 [(0, .ref s), (1, .ref x), (2, .int z), (3, .int 0), (4, .int xk), (5, .ref (rd 0 k)), (6, .ref q75), (7, .int x2)] [.int x2, .int xk, .ref x] C (by decide +kernel) rfl ?_
              refine g_rT (pc := 113) C X hL12 hwok (hx) (hk8) (wb (m := 7) (hx2) (by omega) (by omega)) q378 ⟨⟨(Nat.le_of_ble_eq_true rfl), (Nat.le_of_ble_eq_true rfl)⟩, (by show (((((0 + 9 * k) + 1) + 0) + 0) + 1 * k2) + 1 ≤ 204; omega), (by show (((((0 + 56 * k) + 8) + 0) + 0) + 6 * k2) + 6 ≤ 1239; omega)⟩ (Nat.le_of_ble_eq_true rfl) (by decide +kernel) (fun G120 hL121 => ?_)
              refine g_seg [(116, .aload 6, 2), (118, .iload 7, 2)] 120 [(0, .ref s), (1, .ref x), (2, .int z), (3, .int 0), (4, .int xk), (5, .ref (rd 0 k)), (6, .ref q75), (7, .int x2)] [.int x2, .ref q75, .int (s_toldX T E nf b k x2)] C (by decide +kernel) rfl ?_
              refine g_ialdM (pc := 120) (n := 8) k2 (s_toldX T E nf b k x2) C (LX.g3 hL121 ha117) (hx2) (hl8) (by omega) (by rw [cut_lt hl8, hx2]) (by decide +kernel) ?_
              refine g_icmp_eq (pc := 121) (off := 5) 126 C (by decide +kernel) (by decide) (fun _ => ?_) (fun c9 => absurd (rfl) c9)
              refine g_seg [(126, .iinc 7 1, 3), (129, .goto (-28), 3)] 101 [(7, .int (x2 + 1)), (0, .ref s), (1, .ref x), (2, .int z), (3, .int 0), (4, .int xk), (5, .ref (rd 0 k)), (6, .ref q75)] [] C (by decide +kernel) rfl ?_
              refine g_subp [1, 2, 3, 4, 5, 6, 7, 0] (lv' := [(0, .ref s), (1, .ref x), (2, .int z), (3, .int 0), (4, .int xk), (5, .ref (rd 0 k)), (6, .ref q75), (7, .int (x2 + 1))]) rfl ?_
              refine g_widen (k := (((((0 + 9 * k) + 1) + 0) + 0) + 1 * (k2 + 1))) (n := (((((0 + 56 * k) + 8) + 0) + 0) + 6 * (k2 + 1))) (by show ((((((0 + 9 * k) + 1) + 0) + 0) + 1 * k2) + 1) ≤ (((((0 + 9 * k) + 1) + 0) + 0) + 1 * (k2 + 1)); omega) (by show ((((((0 + 56 * k) + 8) + 0) + 0) + 6 * k2) + 6) ≤ (((((0 + 56 * k) + 8) + 0) + 0) + 6 * (k2 + 1)); omega) ?_
              exact ih2 (k2 + 1) G120 (x2 + 1) (by omega) (by omega) (lp_s hx2) (hL121)
        exact lp118 (8 + 1) 0 G113 0 (by omega) (by omega) (nI_0.symm) (hL115)
  exact lp1 (nt + 1) 0 G 0 0 (by omega) (by omega) (nI_0.symm) (rfl) (hL0)
