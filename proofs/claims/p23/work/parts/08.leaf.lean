/-! an object that is written again and again -/
section PGU
variable {κ : Kx} {l0 : Launch} {D0 : va_G} {cy0 : Nat → ClassId} {y : MethodName} {nL ce sl index : Nat} {cc : ByteArray} {rm : Room} {ret : Option FieldType} {G : GG} {lv lv' : LV} {pc : Nat} {st rest : List Value} {a : Nat}
theorem g_getU {ci k : Nat} {fs : List Value} (v : Value) (C : g_OK κ l0 D0 cy0 y nL cc rm ret) (hf : g_fl y.cls index ci k) (hv : fs[k]? = some v) (hd : decode cc pc = .ok (.getfield index, 3)) (kk : PG κ nL ce sl (g_up G a (.inr (ci, fs))) lv (pc + 3) (v :: rest)) : PG κ nL ce sl (g_up G a (.inr (ci, fs))) lv pc (.ref a :: rest) :=
  g_getf C hf (g_up_self ..) hv hd kk
theorem g_putU {ci k : Nat} {fs : List Value} {v : Value} {ty : FieldType} (fs' : List Value) (C : g_OK κ l0 D0 cy0 y nL cc rm ret) (hf : g_fl y.cls index ci k) (hp : g_fp ci k ty false) (hn : narrow ty v = v) (hfit : fits ty v = true) (hl0 : k < fs.length) (hs : fs.set k v = fs') (hd : decode cc pc = .ok (.putfield index, 3)) (kk : PG κ nL ce sl (g_up G a (.inr (ci, fs'))) lv (pc + 3) rest) : PG κ nL ce sl (g_up G a (.inr (ci, fs))) lv pc (v :: .ref a :: rest) := by
  refine g_putf C hf hp (g_up_self ..) hn hfit hl0 hd ?_
  rw [g_up_up, hs]
  exact kk
theorem g_putFU {ci k : Nat} {fs : List Value} {v : Value} {ty : FieldType} (fs' : List Value) (C : g_OK κ l0 D0 cy0 y nL cc rm ret) (hf : g_fl y.cls index ci k) (hp : g_fp ci k ty true) (hy : y.name = "<init>") (hdecl : ∀ q, vwCl[ci]? = some q → q.1 = y.cls) (hn : narrow ty v = v) (hfit : fits ty v = true) (hl0 : k < fs.length) (hs : fs.set k v = fs') (hd : decode cc pc = .ok (.putfield index, 3)) (kk : PG κ nL ce sl (g_up G a (.inr (ci, fs'))) lv (pc + 3) rest) : PG κ nL ce sl (g_up G a (.inr (ci, fs))) lv pc (v :: .ref a :: rest) := by
  refine g_putF C hf hp hy hdecl (g_up_self ..) hn hfit hl0 hd ?_
  rw [g_up_up, hs]
  exact kk
theorem g_start {e : va_E} (ha : G a = some e) (k : PG κ nL ce sl (g_up G a e) lv pc st) : PG κ nL ce sl G lv pc st := by
  rw [← g_up_id ha]; exact k
theorem g_eqG {G' : GG} (h : G = G') (k : PG κ nL ce sl G' lv pc st) : PG κ nL ce sl G lv pc st := h ▸ k
end PGU
theorem nar_b {x : Int32} (h : x = 0 ∨ x = 1) : narrow .boolean (.int x) = .int x := by rcases h with rfl | rfl <;> rfl
theorem fit_b {x : Int32} (h : x = 0 ∨ x = 1) : fits .boolean (.int x) = true := by rcases h with rfl | rfl <;> first | rfl | decide

set_option maxHeartbeats 4000000 in
set_option maxRecDepth 100000 in
theorem c_X0_init (l : Launch) (D : va_G) (cy : Nat → ClassId) (G : GG) (a : Nat) (b0 f0 r0 t0 : Int32) (ha : G a = some (.inr (0, [.int 0, .int 0, .int 0, .int 0, .int 0, .int 0]))) : Ctr l D cy yX0_init prog_2_method_1_code 5 none kX0_init [.ref a, .int b0, .int f0, .int r0, .int t0] G (pV (fun G' => G' = g_up G a (.inr (0, [.int b0, .int f0, .int r0, .int t0, .int 0, .int 0])))) := by
  refine Ctr.mk (by decide +kernel) (Nat.le_of_ble_eq_true rfl) ?_
  intro κ C R
  refine g_start ha ?_
  refine g_pc (pc' := 0) rfl ?_
  refine g_seg [(0, .aload_n 0, 1)] 1 [(0, .ref a), (1, .int b0), (2, .int f0), (3, .int r0), (4, .int t0)] [.ref a] C (by decide +kernel) rfl ?_
  refine g_obj (pc := 1) C q581 q40 q41 (Nat.le_of_ble_eq_true rfl) (Nat.le_of_ble_eq_true rfl) (by decide +kernel) ?_
  refine g_seg [(4, .aload_n 0, 1), (5, .iconst 0, 1)] 6 [(0, .ref a), (1, .int b0), (2, .int f0), (3, .int r0), (4, .int t0)] [.int 0, .ref a] C (by decide +kernel) rfl ?_
  refine g_putU (pc := 6) (k := 4) (ty := .int) [.int 0, .int 0, .int 0, .int 0, .int 0, .int 0] C fl_X0_9 fp_X0_4 (by first | rfl | decide) (by first | rfl | decide) (Nat.le_of_ble_eq_true rfl) rfl (by decide +kernel) ?_
  refine g_seg [(9, .aload_n 0, 1), (10, .iload_n 1, 1)] 11 [(0, .ref a), (1, .int b0), (2, .int f0), (3, .int r0), (4, .int t0)] [.int b0, .ref a] C (by decide +kernel) rfl ?_
  refine g_putFU (pc := 11) (k := 0) (ty := .int) [.int b0, .int 0, .int 0, .int 0, .int 0, .int 0] C fl_X0_15 fp_X0_0 rfl (fun q hq => by cases hq; rfl) rfl (by first | rfl | decide) (Nat.le_of_ble_eq_true rfl) rfl (by decide +kernel) ?_
  refine g_seg [(14, .aload_n 0, 1), (15, .iload_n 2, 1)] 16 [(0, .ref a), (1, .int b0), (2, .int f0), (3, .int r0), (4, .int t0)] [.int f0, .ref a] C (by decide +kernel) rfl ?_
  refine g_putFU (pc := 16) (k := 1) (ty := .int) [.int b0, .int f0, .int 0, .int 0, .int 0, .int 0] C fl_X0_18 fp_X0_1 rfl (fun q hq => by cases hq; rfl) rfl (by first | rfl | decide) (Nat.le_of_ble_eq_true rfl) rfl (by decide +kernel) ?_
  refine g_seg [(19, .aload_n 0, 1), (20, .iload_n 3, 1)] 21 [(0, .ref a), (1, .int b0), (2, .int f0), (3, .int r0), (4, .int t0)] [.int r0, .ref a] C (by decide +kernel) rfl ?_
  refine g_putFU (pc := 21) (k := 2) (ty := .int) [.int b0, .int f0, .int r0, .int 0, .int 0, .int 0] C fl_X0_21 fp_X0_2 rfl (fun q hq => by cases hq; rfl) rfl (by first | rfl | decide) (Nat.le_of_ble_eq_true rfl) rfl (by decide +kernel) ?_
  refine g_seg [(24, .aload_n 0, 1), (25, .iload 4, 2)] 27 [(0, .ref a), (1, .int b0), (2, .int f0), (3, .int r0), (4, .int t0)] [.int t0, .ref a] C (by decide +kernel) rfl ?_
  refine g_putFU (pc := 27) (k := 3) (ty := .int) [.int b0, .int f0, .int r0, .int t0, .int 0, .int 0] C fl_X0_24 fp_X0_3 rfl (fun q hq => by cases hq; rfl) rfl (by first | rfl | decide) (Nat.le_of_ble_eq_true rfl) rfl (by decide +kernel) ?_
  exact g_vret (pc := 30) C R (⟨rfl, rfl⟩) (Nat.le_of_ble_eq_true rfl) (Nat.le_of_ble_eq_true rfl) (by decide +kernel)
set_option maxHeartbeats 4000000 in
set_option maxRecDepth 100000 in
theorem c_X0_keep (l : Launch) (D : va_G) (cy : Nat → ClassId) (G : GG) (a : Nat) (b0 f0 r0 t0 s0 k0 : Int32) (ha : G a = some (.inr (0, [.int b0, .int f0, .int r0, .int t0, .int s0, .int k0]))) : Ctr l D cy yX0_keep prog_2_method_2_code 1 none kX0_keep [.ref a] G (pV (fun G' => G' = g_up G a (.inr (0, [.int b0, .int f0, .int r0, .int t0, .int s0, .int s0])))) := by
  refine Ctr.mk (by decide +kernel) (Nat.le_of_ble_eq_true rfl) ?_
  intro κ C R
  refine g_start ha ?_
  refine g_pc (pc' := 0) rfl ?_
  refine g_seg [(0, .aload_n 0, 1), (1, .aload_n 0, 1)] 2 [(0, .ref a)] [.ref a, .ref a] C (by decide +kernel) rfl ?_
  refine g_getU (pc := 2) (k := 4) (.int s0) C fl_X0_9 rfl (by decide +kernel) ?_
  refine g_putU (pc := 5) (k := 5) (ty := .int) [.int b0, .int f0, .int r0, .int t0, .int s0, .int s0] C fl_X0_27 fp_X0_5 (by first | rfl | decide) (by first | rfl | decide) (Nat.le_of_ble_eq_true rfl) rfl (by decide +kernel) ?_
  exact g_vret (pc := 8) C R (⟨rfl, rfl⟩) (Nat.le_of_ble_eq_true rfl) (Nat.le_of_ble_eq_true rfl) (by decide +kernel)
set_option maxHeartbeats 4000000 in
set_option maxRecDepth 100000 in
theorem c_X0_takeBack (l : Launch) (D : va_G) (cy : Nat → ClassId) (G : GG) (a : Nat) (b0 f0 r0 t0 s0 k0 : Int32) (ha : G a = some (.inr (0, [.int b0, .int f0, .int r0, .int t0, .int s0, .int k0]))) : Ctr l D cy yX0_takeBack prog_2_method_3_code 1 none kX0_takeBack [.ref a] G (pV (fun G' => G' = g_up G a (.inr (0, [.int b0, .int f0, .int r0, .int t0, .int k0, .int k0])))) := by
  refine Ctr.mk (by decide +kernel) (Nat.le_of_ble_eq_true rfl) ?_
  intro κ C R
  refine g_start ha ?_
  refine g_pc (pc' := 0) rfl ?_
  refine g_seg [(0, .aload_n 0, 1), (1, .aload_n 0, 1)] 2 [(0, .ref a)] [.ref a, .ref a] C (by decide +kernel) rfl ?_
  refine g_getU (pc := 2) (k := 5) (.int k0) C fl_X0_27 rfl (by decide +kernel) ?_
  refine g_putU (pc := 5) (k := 4) (ty := .int) [.int b0, .int f0, .int r0, .int t0, .int k0, .int k0] C fl_X0_9 fp_X0_4 (by first | rfl | decide) (by first | rfl | decide) (Nat.le_of_ble_eq_true rfl) rfl (by decide +kernel) ?_
  exact g_vret (pc := 8) C R (⟨rfl, rfl⟩) (Nat.le_of_ble_eq_true rfl) (Nat.le_of_ble_eq_true rfl) (by decide +kernel)
set_option maxHeartbeats 4000000 in
set_option maxRecDepth 100000 in
theorem c_X2_init (l : Launch) (D : va_G) (cy : Nat → ClassId) (G : GG) (a : Nat) (p0 p1 : Int32) (ha : G a = some (.inr (2, [.int 0, .int 0]))) : Ctr l D cy yX2_init prog_4_method_1_code 3 none kX2_init [.ref a, .int p0, .int p1] G (pV (fun G' => G' = g_up G a (.inr (2, [.int p0, .int p1])))) := by
  refine Ctr.mk (by decide +kernel) (Nat.le_of_ble_eq_true rfl) ?_
  intro κ C R
  refine g_start ha ?_
  refine g_pc (pc' := 0) rfl ?_
  refine g_seg [(0, .aload_n 0, 1)] 1 [(0, .ref a), (1, .int p0), (2, .int p1)] [.ref a] C (by decide +kernel) rfl ?_
  refine g_obj (pc := 1) C q560 q40 q41 (Nat.le_of_ble_eq_true rfl) (Nat.le_of_ble_eq_true rfl) (by decide +kernel) ?_
  refine g_seg [(4, .aload_n 0, 1), (5, .iload_n 1, 1)] 6 [(0, .ref a), (1, .int p0), (2, .int p1)] [.int p0, .ref a] C (by decide +kernel) rfl ?_
  refine g_putFU (pc := 6) (k := 0) (ty := .int) [.int p0, .int 0] C fl_X2_7 fp_X2_0 rfl (fun q hq => by cases hq; rfl) rfl (by first | rfl | decide) (Nat.le_of_ble_eq_true rfl) rfl (by decide +kernel) ?_
  refine g_seg [(9, .aload_n 0, 1), (10, .iload_n 2, 1)] 11 [(0, .ref a), (1, .int p0), (2, .int p1)] [.int p1, .ref a] C (by decide +kernel) rfl ?_
  refine g_putFU (pc := 11) (k := 1) (ty := .int) [.int p0, .int p1] C fl_X2_13 fp_X2_1 rfl (fun q hq => by cases hq; rfl) rfl (by first | rfl | decide) (Nat.le_of_ble_eq_true rfl) rfl (by decide +kernel) ?_
  exact g_vret (pc := 14) C R (⟨rfl, rfl⟩) (Nat.le_of_ble_eq_true rfl) (Nat.le_of_ble_eq_true rfl) (by decide +kernel)
set_option maxHeartbeats 4000000 in
set_option maxRecDepth 100000 in
theorem c_X3_init (l : Launch) (D : va_G) (cy : Nat → ClassId) (G : GG) (a : Nat) (m wd wt sg lb : Int32) (ha : G a = some (.inr (3, [.int 0, .int 0, .int 0, .int 0, .int 0, .int 0, .int 0, .int 0, .int 0]))) : Ctr l D cy yX3_init prog_5_method_1_code 6 none kX3_init [.ref a, .int m, .int wd, .int wt, .int sg, .int lb] G (pV (fun G' => G' = g_up G a (.inr (3, [.int m, .int wd, .int sg, .int wt, .int lb, .int 0, .int 1, .int 0, .int 0])))) := by
  refine Ctr.mk (by decide +kernel) (Nat.le_of_ble_eq_true rfl) ?_
  intro κ C R
  refine g_start ha ?_
  refine g_pc (pc' := 0) rfl ?_
  refine g_seg [(0, .aload_n 0, 1)] 1 [(0, .ref a), (1, .int m), (2, .int wd), (3, .int wt), (4, .int sg), (5, .int lb)] [.ref a] C (by decide +kernel) rfl ?_
  refine g_obj (pc := 1) C q436 q40 q41 (Nat.le_of_ble_eq_true rfl) (Nat.le_of_ble_eq_true rfl) (by decide +kernel) ?_
  refine g_seg [(4, .aload_n 0, 1), (5, .iload_n 1, 1)] 6 [(0, .ref a), (1, .int m), (2, .int wd), (3, .int wt), (4, .int sg), (5, .int lb)] [.int m, .ref a] C (by decide +kernel) rfl ?_
  refine g_putFU (pc := 6) (k := 0) (ty := .int) [.int m, .int 0, .int 0, .int 0, .int 0, .int 0, .int 0, .int 0, .int 0] C fl_X3_7 fp_X3_0 rfl (fun q hq => by cases hq; rfl) rfl (by first | rfl | decide) (Nat.le_of_ble_eq_true rfl) rfl (by decide +kernel) ?_
  refine g_seg [(9, .aload_n 0, 1), (10, .iload_n 2, 1)] 11 [(0, .ref a), (1, .int m), (2, .int wd), (3, .int wt), (4, .int sg), (5, .int lb)] [.int wd, .ref a] C (by decide +kernel) rfl ?_
  refine g_putFU (pc := 11) (k := 1) (ty := .int) [.int m, .int wd, .int 0, .int 0, .int 0, .int 0, .int 0, .int 0, .int 0] C fl_X3_13 fp_X3_1 rfl (fun q hq => by cases hq; rfl) rfl (by first | rfl | decide) (Nat.le_of_ble_eq_true rfl) rfl (by decide +kernel) ?_
  refine g_seg [(14, .aload_n 0, 1), (15, .iload_n 3, 1)] 16 [(0, .ref a), (1, .int m), (2, .int wd), (3, .int wt), (4, .int sg), (5, .int lb)] [.int wt, .ref a] C (by decide +kernel) rfl ?_
  refine g_putU (pc := 16) (k := 3) (ty := .int) [.int m, .int wd, .int 0, .int wt, .int 0, .int 0, .int 0, .int 0, .int 0] C fl_X3_16 fp_X3_3 (by first | rfl | decide) (by first | rfl | decide) (Nat.le_of_ble_eq_true rfl) rfl (by decide +kernel) ?_
  refine g_seg [(19, .aload_n 0, 1), (20, .iload 4, 2)] 22 [(0, .ref a), (1, .int m), (2, .int wd), (3, .int wt), (4, .int sg), (5, .int lb)] [.int sg, .ref a] C (by decide +kernel) rfl ?_
  refine g_putFU (pc := 22) (k := 2) (ty := .int) [.int m, .int wd, .int sg, .int wt, .int 0, .int 0, .int 0, .int 0, .int 0] C fl_X3_19 fp_X3_2 rfl (fun q hq => by cases hq; rfl) rfl (by first | rfl | decide) (Nat.le_of_ble_eq_true rfl) rfl (by decide +kernel) ?_
  refine g_seg [(25, .aload_n 0, 1), (26, .iload 5, 2)] 28 [(0, .ref a), (1, .int m), (2, .int wd), (3, .int wt), (4, .int sg), (5, .int lb)] [.int lb, .ref a] C (by decide +kernel) rfl ?_
  refine g_putU (pc := 28) (k := 4) (ty := .int) [.int m, .int wd, .int sg, .int wt, .int lb, .int 0, .int 0, .int 0, .int 0] C fl_X3_22 fp_X3_4 (by first | rfl | decide) (by first | rfl | decide) (Nat.le_of_ble_eq_true rfl) rfl (by decide +kernel) ?_
  refine g_seg [(31, .aload_n 0, 1), (32, .iconst 1, 1)] 33 [(0, .ref a), (1, .int m), (2, .int wd), (3, .int wt), (4, .int sg), (5, .int lb)] [.int 1, .ref a] C (by decide +kernel) rfl ?_
  refine g_putU (pc := 33) (k := 6) (ty := .boolean) [.int m, .int wd, .int sg, .int wt, .int lb, .int 0, .int 1, .int 0, .int 0] C fl_X3_25 fp_X3_6 (by first | rfl | decide) (by first | rfl | decide) (Nat.le_of_ble_eq_true rfl) rfl (by decide +kernel) ?_
  exact g_vret (pc := 36) C R (⟨rfl, rfl⟩) (Nat.le_of_ble_eq_true rfl) (Nat.le_of_ble_eq_true rfl) (by decide +kernel)
set_option maxHeartbeats 4000000 in
set_option maxRecDepth 100000 in
theorem c_X3_setWeight (l : Launch) (D : va_G) (cy : Nat → ClassId) (G : GG) (a : Nat) (m wd sg wt lb wo wh kw kh : Int32) (p0 p1 : Int32) (ha : G a = some (.inr (3, [.int m, .int wd, .int sg, .int wt, .int lb, .int wo, .int wh, .int kw, .int kh]))) : Ctr l D cy yX3_setWeight prog_5_method_2_code 3 none kX3_setWeight [.ref a, .int p0, .int p1] G (pV (fun G' => G' = g_up G a (.inr (3, [.int m, .int wd, .int sg, .int p0, .int p1, .int wo, .int wh, .int kw, .int kh])))) := by
  refine Ctr.mk (by decide +kernel) (Nat.le_of_ble_eq_true rfl) ?_
  intro κ C R
  refine g_start ha ?_
  refine g_pc (pc' := 0) rfl ?_
  refine g_seg [(0, .aload_n 0, 1), (1, .iload_n 1, 1)] 2 [(0, .ref a), (1, .int p0), (2, .int p1)] [.int p0, .ref a] C (by decide +kernel) rfl ?_
  refine g_putU (pc := 2) (k := 3) (ty := .int) [.int m, .int wd, .int sg, .int p0, .int lb, .int wo, .int wh, .int kw, .int kh] C fl_X3_16 fp_X3_3 (by first | rfl | decide) (by first | rfl | decide) (Nat.le_of_ble_eq_true rfl) rfl (by decide +kernel) ?_
  refine g_seg [(5, .aload_n 0, 1), (6, .iload_n 2, 1)] 7 [(0, .ref a), (1, .int p0), (2, .int p1)] [.int p1, .ref a] C (by decide +kernel) rfl ?_
  refine g_putU (pc := 7) (k := 4) (ty := .int) [.int m, .int wd, .int sg, .int p0, .int p1, .int wo, .int wh, .int kw, .int kh] C fl_X3_22 fp_X3_4 (by first | rfl | decide) (by first | rfl | decide) (Nat.le_of_ble_eq_true rfl) rfl (by decide +kernel) ?_
  exact g_vret (pc := 10) C R (⟨rfl, rfl⟩) (Nat.le_of_ble_eq_true rfl) (Nat.le_of_ble_eq_true rfl) (by decide +kernel)
set_option maxHeartbeats 4000000 in
set_option maxRecDepth 100000 in
theorem c_X3_renewRope (l : Launch) (D : va_G) (cy : Nat → ClassId) (G : GG) (a : Nat) (m wd sg wt lb wo wh kw kh : Int32) (ha : G a = some (.inr (3, [.int m, .int wd, .int sg, .int wt, .int lb, .int wo, .int wh, .int kw, .int kh]))) : Ctr l D cy yX3_renewRope prog_5_method_3_code 1 none kX3_renewRope [.ref a] G (pV (fun G' => G' = g_up G a (.inr (3, [.int m, .int wd, .int sg, .int wt, .int lb, .int 0, .int 1, .int kw, .int kh])))) := by
  refine Ctr.mk (by decide +kernel) (Nat.le_of_ble_eq_true rfl) ?_
  intro κ C R
  refine g_start ha ?_
  refine g_pc (pc' := 0) rfl ?_
  refine g_seg [(0, .aload_n 0, 1), (1, .iconst 0, 1)] 2 [(0, .ref a)] [.int 0, .ref a] C (by decide +kernel) rfl ?_
  refine g_putU (pc := 2) (k := 5) (ty := .int) [.int m, .int wd, .int sg, .int wt, .int lb, .int 0, .int wh, .int kw, .int kh] C fl_X3_29 fp_X3_5 (by first | rfl | decide) (by first | rfl | decide) (Nat.le_of_ble_eq_true rfl) rfl (by decide +kernel) ?_
  refine g_seg [(5, .aload_n 0, 1), (6, .iconst 1, 1)] 7 [(0, .ref a)] [.int 1, .ref a] C (by decide +kernel) rfl ?_
  refine g_putU (pc := 7) (k := 6) (ty := .boolean) [.int m, .int wd, .int sg, .int wt, .int lb, .int 0, .int 1, .int kw, .int kh] C fl_X3_25 fp_X3_6 (by first | rfl | decide) (by first | rfl | decide) (Nat.le_of_ble_eq_true rfl) rfl (by decide +kernel) ?_
  exact g_vret (pc := 10) C R (⟨rfl, rfl⟩) (Nat.le_of_ble_eq_true rfl) (Nat.le_of_ble_eq_true rfl) (by decide +kernel)
set_option maxHeartbeats 4000000 in
set_option maxRecDepth 100000 in
theorem c_X3_keep (l : Launch) (D : va_G) (cy : Nat → ClassId) (G : GG) (a : Nat) (m wd sg wt lb wo wh kw kh : Int32) (ha : G a = some (.inr (3, [.int m, .int wd, .int sg, .int wt, .int lb, .int wo, .int wh, .int kw, .int kh]))) (h1 : wh = 0 ∨ wh = 1) : Ctr l D cy yX3_keep prog_5_method_9_code 1 none kX3_keep [.ref a] G (pV (fun G' => G' = g_up G a (.inr (3, [.int m, .int wd, .int sg, .int wt, .int lb, .int wo, .int wh, .int wo, .int wh])))) := by
  refine Ctr.mk (by decide +kernel) (Nat.le_of_ble_eq_true rfl) ?_
  intro κ C R
  refine g_start ha ?_
  refine g_pc (pc' := 0) rfl ?_
  refine g_seg [(0, .aload_n 0, 1), (1, .aload_n 0, 1)] 2 [(0, .ref a)] [.ref a, .ref a] C (by decide +kernel) rfl ?_
  refine g_getU (pc := 2) (k := 5) (.int wo) C fl_X3_29 rfl (by decide +kernel) ?_
  refine g_putU (pc := 5) (k := 7) (ty := .int) [.int m, .int wd, .int sg, .int wt, .int lb, .int wo, .int wh, .int wo, .int kh] C fl_X3_45 fp_X3_7 (by first | rfl | decide) (by first | rfl | decide) (Nat.le_of_ble_eq_true rfl) rfl (by decide +kernel) ?_
  refine g_seg [(8, .aload_n 0, 1), (9, .aload_n 0, 1)] 10 [(0, .ref a)] [.ref a, .ref a] C (by decide +kernel) rfl ?_
  refine g_getU (pc := 10) (k := 6) (.int wh) C fl_X3_25 rfl (by decide +kernel) ?_
  refine g_putU (pc := 13) (k := 8) (ty := .boolean) [.int m, .int wd, .int sg, .int wt, .int lb, .int wo, .int wh, .int wo, .int wh] C fl_X3_48 fp_X3_8 (nar_b h1) (fit_b h1) (Nat.le_of_ble_eq_true rfl) rfl (by decide +kernel) ?_
  exact g_vret (pc := 16) C R (⟨rfl, rfl⟩) (Nat.le_of_ble_eq_true rfl) (Nat.le_of_ble_eq_true rfl) (by decide +kernel)
set_option maxHeartbeats 4000000 in
set_option maxRecDepth 100000 in
theorem c_X3_takeBack (l : Launch) (D : va_G) (cy : Nat → ClassId) (G : GG) (a : Nat) (m wd sg wt lb wo wh kw kh : Int32) (ha : G a = some (.inr (3, [.int m, .int wd, .int sg, .int wt, .int lb, .int wo, .int wh, .int kw, .int kh]))) (h1 : kh = 0 ∨ kh = 1) : Ctr l D cy yX3_takeBack prog_5_method_10_code 1 none kX3_takeBack [.ref a] G (pV (fun G' => G' = g_up G a (.inr (3, [.int m, .int wd, .int sg, .int wt, .int lb, .int kw, .int kh, .int kw, .int kh])))) := by
  refine Ctr.mk (by decide +kernel) (Nat.le_of_ble_eq_true rfl) ?_
  intro κ C R
  refine g_start ha ?_
  refine g_pc (pc' := 0) rfl ?_
  refine g_seg [(0, .aload_n 0, 1), (1, .aload_n 0, 1)] 2 [(0, .ref a)] [.ref a, .ref a] C (by decide +kernel) rfl ?_
  refine g_getU (pc := 2) (k := 7) (.int kw) C fl_X3_45 rfl (by decide +kernel) ?_
  refine g_putU (pc := 5) (k := 5) (ty := .int) [.int m, .int wd, .int sg, .int wt, .int lb, .int kw, .int wh, .int kw, .int kh] C fl_X3_29 fp_X3_5 (by first | rfl | decide) (by first | rfl | decide) (Nat.le_of_ble_eq_true rfl) rfl (by decide +kernel) ?_
  refine g_seg [(8, .aload_n 0, 1), (9, .aload_n 0, 1)] 10 [(0, .ref a)] [.ref a, .ref a] C (by decide +kernel) rfl ?_
  refine g_getU (pc := 10) (k := 8) (.int kh) C fl_X3_48 rfl (by decide +kernel) ?_
  refine g_putU (pc := 13) (k := 6) (ty := .boolean) [.int m, .int wd, .int sg, .int wt, .int lb, .int kw, .int kh, .int kw, .int kh] C fl_X3_25 fp_X3_6 (nar_b h1) (fit_b h1) (Nat.le_of_ble_eq_true rfl) rfl (by decide +kernel) ?_
  exact g_vret (pc := 16) C R (⟨rfl, rfl⟩) (Nat.le_of_ble_eq_true rfl) (Nat.le_of_ble_eq_true rfl) (by decide +kernel)
set_option maxHeartbeats 4000000 in
set_option maxRecDepth 100000 in
theorem c_X3_wear (l : Launch) (D : va_G) (cy : Nat → ClassId) (G : GG) (a : Nat) (m wd sg wt lb wo wh kw kh : Int32) (p0 : Int32) (ha : G a = some (.inr (3, [.int m, .int wd, .int sg, .int wt, .int lb, .int wo, .int wh, .int kw, .int kh]))) : Ctr l D cy yX3_wear prog_5_method_4_code 2 none kX3_wear [.ref a, .int p0] G (pV (fun G' => G' = g_up G a (.inr (3, [.int m, .int wd, .int sg, .int wt, .int lb, .int (wo + p0), .int (if wo + p0 ≤ sg then 1 else 0), .int kw, .int kh])))) := by
  refine Ctr.mk (by decide +kernel) (Nat.le_of_ble_eq_true rfl) ?_
  intro κ C R
  refine g_start ha ?_
  refine g_pc (pc' := 0) rfl ?_
  refine g_seg [(0, .aload_n 0, 1), (1, .dup, 1)] 2 [(0, .ref a), (1, .int p0)] [.ref a, .ref a] C (by decide +kernel) rfl ?_
  refine g_getU (pc := 2) (k := 5) (.int wo) C fl_X3_29 rfl (by decide +kernel) ?_
  refine g_seg [(5, .iload_n 1, 1), (6, .iadd, 1)] 7 [(0, .ref a), (1, .int p0)] [.int (wo + p0), .ref a] C (by decide +kernel) rfl ?_
  refine g_putU (pc := 7) (k := 5) (ty := .int) [.int m, .int wd, .int sg, .int wt, .int lb, .int (wo + p0), .int wh, .int kw, .int kh] C fl_X3_29 fp_X3_5 (by first | rfl | decide) (by first | rfl | decide) (Nat.le_of_ble_eq_true rfl) rfl (by decide +kernel) ?_
  refine g_seg [(10, .aload_n 0, 1), (11, .aload_n 0, 1)] 12 [(0, .ref a), (1, .int p0)] [.ref a, .ref a] C (by decide +kernel) rfl ?_
  refine g_getU (pc := 12) (k := 5) (.int (wo + p0)) C fl_X3_29 rfl (by decide +kernel) ?_
  refine g_seg [(15, .aload_n 0, 1)] 16 [(0, .ref a), (1, .int p0)] [.ref a, .int (wo + p0), .ref a] C (by decide +kernel) rfl ?_
  refine g_getU (pc := 16) (k := 2) (.int sg) C fl_X3_19 rfl (by decide +kernel) ?_
  refine g_icmp_gt (pc := 19) (off := 7) 26 C (by decide +kernel) (by decide) (fun c1 => ?_) (fun c1 => ?_)
  · refine g_seg [(26, .iconst 0, 1)] 27 [(0, .ref a), (1, .int p0)] [.int 0, .ref a] C (by decide +kernel) rfl ?_
    refine g_putU (pc := 27) (k := 6) (ty := .boolean) [.int m, .int wd, .int sg, .int wt, .int lb, .int (wo + p0), .int 0, .int kw, .int kh] C fl_X3_25 fp_X3_6 (by first | rfl | decide) (by first | rfl | decide) (Nat.le_of_ble_eq_true rfl) rfl (by decide +kernel) ?_
    exact g_vret (pc := 30) C R (⟨rfl, by first | rw [if_pos (by first | assumption | exact Int32.not_lt.mp (by assumption) | exact Int32.le_of_lt (by assumption))] | rw [if_neg (by first | assumption | exact Int32.not_le.mpr (by assumption))]⟩) (Nat.le_of_ble_eq_true rfl) (Nat.le_of_ble_eq_true rfl) (by decide +kernel)
  · refine g_seg [(22, .iconst 1, 1), (23, .goto 4, 3)] 27 [(0, .ref a), (1, .int p0)] [.int 1, .ref a] C (by decide +kernel) rfl ?_
    refine g_putU (pc := 27) (k := 6) (ty := .boolean) [.int m, .int wd, .int sg, .int wt, .int lb, .int (wo + p0), .int 1, .int kw, .int kh] C fl_X3_25 fp_X3_6 (by first | rfl | decide) (by first | rfl | decide) (Nat.le_of_ble_eq_true rfl) rfl (by decide +kernel) ?_
    exact g_vret (pc := 30) C R (⟨rfl, by first | rw [if_pos (by first | assumption | exact Int32.not_lt.mp (by assumption) | exact Int32.le_of_lt (by assumption))] | rw [if_neg (by first | assumption | exact Int32.not_le.mpr (by assumption))]⟩) (Nat.le_of_ble_eq_true rfl) (Nat.le_of_ble_eq_true rfl) (by decide +kernel)
set_option maxHeartbeats 4000000 in
set_option maxRecDepth 100000 in
theorem c_X1_init (l : Launch) (D : va_G) (cy : Nat → ClassId) (G : GG) (a : Nat) (ha : G a = some (.inr (1, [.int 0, .int 0, .int 0, .int 0, .int 0, .int 0, .int 0, .int 0, .int 0, .int 0]))) : Ctr l D cy yX1_init prog_3_method_1_code 1 none kX1_init [.ref a] G (pV (fun G' => G' = g_up G a (.inr (1, [.int 0, .int (-1), .int 0, .int 0, .int 0, .int 0, .int 0, .int 0, .int 0, .int 0])))) := by
  refine Ctr.mk (by decide +kernel) (Nat.le_of_ble_eq_true rfl) ?_
  intro κ C R
  refine g_start ha ?_
  refine g_pc (pc' := 0) rfl ?_
  refine g_seg [(0, .aload_n 0, 1)] 1 [(0, .ref a)] [.ref a] C (by decide +kernel) rfl ?_
  refine g_obj (pc := 1) C q498 q40 q41 (Nat.le_of_ble_eq_true rfl) (Nat.le_of_ble_eq_true rfl) (by decide +kernel) ?_
  refine g_seg [(4, .aload_n 0, 1), (5, .iconst 0, 1)] 6 [(0, .ref a)] [.int 0, .ref a] C (by decide +kernel) rfl ?_
  refine g_putU (pc := 6) (k := 0) (ty := .int) [.int 0, .int 0, .int 0, .int 0, .int 0, .int 0, .int 0, .int 0, .int 0, .int 0] C fl_X1_9 fp_X1_0 (by first | rfl | decide) (by first | rfl | decide) (Nat.le_of_ble_eq_true rfl) rfl (by decide +kernel) ?_
  refine g_seg [(9, .aload_n 0, 1), (10, .iconst (-1), 1)] 11 [(0, .ref a)] [.int (-1), .ref a] C (by decide +kernel) rfl ?_
  refine g_putU (pc := 11) (k := 1) (ty := .int) [.int 0, .int (-1), .int 0, .int 0, .int 0, .int 0, .int 0, .int 0, .int 0, .int 0] C fl_X1_15 fp_X1_1 (by first | rfl | decide) (by first | rfl | decide) (Nat.le_of_ble_eq_true rfl) rfl (by decide +kernel) ?_
  exact g_vret (pc := 14) C R (⟨rfl, rfl⟩) (Nat.le_of_ble_eq_true rfl) (Nat.le_of_ble_eq_true rfl) (by decide +kernel)
set_option maxHeartbeats 4000000 in
set_option maxRecDepth 100000 in
theorem c_X1_hangFrom (l : Launch) (D : va_G) (cy : Nat → ClassId) (G : GG) (a : Nat) (s0 s1 s2 s3 s4 k0 k1 k2 k3 k4 : Int32) (p0 : Int32) (ha : G a = some (.inr (1, [.int s0, .int s1, .int s2, .int s3, .int s4, .int k0, .int k1, .int k2, .int k3, .int k4]))) : Ctr l D cy yX1_hangFrom prog_3_method_5_code 2 none kX1_hangFrom [.ref a, .int p0] G (pV (fun G' => G' = g_up G a (.inr (1, [.int 1, .int p0, .int s2, .int s3, .int s4, .int k0, .int k1, .int k2, .int k3, .int k4])))) := by
  refine Ctr.mk (by decide +kernel) (Nat.le_of_ble_eq_true rfl) ?_
  intro κ C R
  refine g_start ha ?_
  refine g_pc (pc' := 0) rfl ?_
  refine g_seg [(0, .aload_n 0, 1), (1, .iconst 1, 1)] 2 [(0, .ref a), (1, .int p0)] [.int 1, .ref a] C (by decide +kernel) rfl ?_
  refine g_putU (pc := 2) (k := 0) (ty := .int) [.int 1, .int s1, .int s2, .int s3, .int s4, .int k0, .int k1, .int k2, .int k3, .int k4] C fl_X1_9 fp_X1_0 (by first | rfl | decide) (by first | rfl | decide) (Nat.le_of_ble_eq_true rfl) rfl (by decide +kernel) ?_
  refine g_seg [(5, .aload_n 0, 1), (6, .iload_n 1, 1)] 7 [(0, .ref a), (1, .int p0)] [.int p0, .ref a] C (by decide +kernel) rfl ?_
  refine g_putU (pc := 7) (k := 1) (ty := .int) [.int 1, .int p0, .int s2, .int s3, .int s4, .int k0, .int k1, .int k2, .int k3, .int k4] C fl_X1_15 fp_X1_1 (by first | rfl | decide) (by first | rfl | decide) (Nat.le_of_ble_eq_true rfl) rfl (by decide +kernel) ?_
  exact g_vret (pc := 10) C R (⟨rfl, rfl⟩) (Nat.le_of_ble_eq_true rfl) (Nat.le_of_ble_eq_true rfl) (by decide +kernel)
set_option maxHeartbeats 4000000 in
set_option maxRecDepth 100000 in
theorem c_X1_flyTo (l : Launch) (D : va_G) (cy : Nat → ClassId) (G : GG) (a : Nat) (s0 s1 s2 s3 s4 k0 k1 k2 k3 k4 : Int32) (p0 p1 : Int32) (ha : G a = some (.inr (1, [.int s0, .int s1, .int s2, .int s3, .int s4, .int k0, .int k1, .int k2, .int k3, .int k4]))) : Ctr l D cy yX1_flyTo prog_3_method_6_code 3 none kX1_flyTo [.ref a, .int p0, .int p1] G (pV (fun G' => G' = g_up G a (.inr (1, [.int 2, .int (-1), .int p0, .int p1, .int s4, .int k0, .int k1, .int k2, .int k3, .int k4])))) := by
  refine Ctr.mk (by decide +kernel) (Nat.le_of_ble_eq_true rfl) ?_
  intro κ C R
  refine g_start ha ?_
  refine g_pc (pc' := 0) rfl ?_
  refine g_seg [(0, .aload_n 0, 1), (1, .iconst 2, 1)] 2 [(0, .ref a), (1, .int p0), (2, .int p1)] [.int 2, .ref a] C (by decide +kernel) rfl ?_
  refine g_putU (pc := 2) (k := 0) (ty := .int) [.int 2, .int s1, .int s2, .int s3, .int s4, .int k0, .int k1, .int k2, .int k3, .int k4] C fl_X1_9 fp_X1_0 (by first | rfl | decide) (by first | rfl | decide) (Nat.le_of_ble_eq_true rfl) rfl (by decide +kernel) ?_
  refine g_seg [(5, .aload_n 0, 1), (6, .iconst (-1), 1)] 7 [(0, .ref a), (1, .int p0), (2, .int p1)] [.int (-1), .ref a] C (by decide +kernel) rfl ?_
  refine g_putU (pc := 7) (k := 1) (ty := .int) [.int 2, .int (-1), .int s2, .int s3, .int s4, .int k0, .int k1, .int k2, .int k3, .int k4] C fl_X1_15 fp_X1_1 (by first | rfl | decide) (by first | rfl | decide) (Nat.le_of_ble_eq_true rfl) rfl (by decide +kernel) ?_
  refine g_seg [(10, .aload_n 0, 1), (11, .iload_n 1, 1)] 12 [(0, .ref a), (1, .int p0), (2, .int p1)] [.int p0, .ref a] C (by decide +kernel) rfl ?_
  refine g_putU (pc := 12) (k := 2) (ty := .int) [.int 2, .int (-1), .int p0, .int s3, .int s4, .int k0, .int k1, .int k2, .int k3, .int k4] C fl_X1_21 fp_X1_2 (by first | rfl | decide) (by first | rfl | decide) (Nat.le_of_ble_eq_true rfl) rfl (by decide +kernel) ?_
  refine g_seg [(15, .aload_n 0, 1), (16, .iload_n 2, 1)] 17 [(0, .ref a), (1, .int p0), (2, .int p1)] [.int p1, .ref a] C (by decide +kernel) rfl ?_
  refine g_putU (pc := 17) (k := 3) (ty := .int) [.int 2, .int (-1), .int p0, .int p1, .int s4, .int k0, .int k1, .int k2, .int k3, .int k4] C fl_X1_18 fp_X1_3 (by first | rfl | decide) (by first | rfl | decide) (Nat.le_of_ble_eq_true rfl) rfl (by decide +kernel) ?_
  exact g_vret (pc := 20) C R (⟨rfl, rfl⟩) (Nat.le_of_ble_eq_true rfl) (Nat.le_of_ble_eq_true rfl) (by decide +kernel)
set_option maxHeartbeats 4000000 in
set_option maxRecDepth 100000 in
theorem c_X1_keep (l : Launch) (D : va_G) (cy : Nat → ClassId) (G : GG) (a : Nat) (s0 s1 s2 s3 s4 k0 k1 k2 k3 k4 : Int32) (ha : G a = some (.inr (1, [.int s0, .int s1, .int s2, .int s3, .int s4, .int k0, .int k1, .int k2, .int k3, .int k4]))) : Ctr l D cy yX1_keep prog_3_method_8_code 1 none kX1_keep [.ref a] G (pV (fun G' => G' = g_up G a (.inr (1, [.int s0, .int s1, .int s2, .int s3, .int s4, .int s0, .int s1, .int s2, .int s3, .int s4])))) := by
  refine Ctr.mk (by decide +kernel) (Nat.le_of_ble_eq_true rfl) ?_
  intro κ C R
  refine g_start ha ?_
  refine g_pc (pc' := 0) rfl ?_
  refine g_seg [(0, .aload_n 0, 1), (1, .aload_n 0, 1)] 2 [(0, .ref a)] [.ref a, .ref a] C (by decide +kernel) rfl ?_
  refine g_getU (pc := 2) (k := 0) (.int s0) C fl_X1_9 rfl (by decide +kernel) ?_
  refine g_putU (pc := 5) (k := 5) (ty := .int) [.int s0, .int s1, .int s2, .int s3, .int s4, .int s0, .int k1, .int k2, .int k3, .int k4] C fl_X1_24 fp_X1_5 (by first | rfl | decide) (by first | rfl | decide) (Nat.le_of_ble_eq_true rfl) rfl (by decide +kernel) ?_
  refine g_seg [(8, .aload_n 0, 1), (9, .aload_n 0, 1)] 10 [(0, .ref a)] [.ref a, .ref a] C (by decide +kernel) rfl ?_
  refine g_getU (pc := 10) (k := 1) (.int s1) C fl_X1_15 rfl (by decide +kernel) ?_
  refine g_putU (pc := 13) (k := 6) (ty := .int) [.int s0, .int s1, .int s2, .int s3, .int s4, .int s0, .int s1, .int k2, .int k3, .int k4] C fl_X1_27 fp_X1_6 (by first | rfl | decide) (by first | rfl | decide) (Nat.le_of_ble_eq_true rfl) rfl (by decide +kernel) ?_
  refine g_seg [(16, .aload_n 0, 1), (17, .aload_n 0, 1)] 18 [(0, .ref a)] [.ref a, .ref a] C (by decide +kernel) rfl ?_
  refine g_getU (pc := 18) (k := 2) (.int s2) C fl_X1_21 rfl (by decide +kernel) ?_
  refine g_putU (pc := 21) (k := 7) (ty := .int) [.int s0, .int s1, .int s2, .int s3, .int s4, .int s0, .int s1, .int s2, .int k3, .int k4] C fl_X1_30 fp_X1_7 (by first | rfl | decide) (by first | rfl | decide) (Nat.le_of_ble_eq_true rfl) rfl (by decide +kernel) ?_
  refine g_seg [(24, .aload_n 0, 1), (25, .aload_n 0, 1)] 26 [(0, .ref a)] [.ref a, .ref a] C (by decide +kernel) rfl ?_
  refine g_getU (pc := 26) (k := 3) (.int s3) C fl_X1_18 rfl (by decide +kernel) ?_
  refine g_putU (pc := 29) (k := 8) (ty := .int) [.int s0, .int s1, .int s2, .int s3, .int s4, .int s0, .int s1, .int s2, .int s3, .int k4] C fl_X1_33 fp_X1_8 (by first | rfl | decide) (by first | rfl | decide) (Nat.le_of_ble_eq_true rfl) rfl (by decide +kernel) ?_
  refine g_seg [(32, .aload_n 0, 1), (33, .aload_n 0, 1)] 34 [(0, .ref a)] [.ref a, .ref a] C (by decide +kernel) rfl ?_
  refine g_getU (pc := 34) (k := 4) (.int s4) C fl_X1_36 rfl (by decide +kernel) ?_
  refine g_putU (pc := 37) (k := 9) (ty := .int) [.int s0, .int s1, .int s2, .int s3, .int s4, .int s0, .int s1, .int s2, .int s3, .int s4] C fl_X1_39 fp_X1_9 (by first | rfl | decide) (by first | rfl | decide) (Nat.le_of_ble_eq_true rfl) rfl (by decide +kernel) ?_
  exact g_vret (pc := 40) C R (⟨rfl, rfl⟩) (Nat.le_of_ble_eq_true rfl) (Nat.le_of_ble_eq_true rfl) (by decide +kernel)
set_option maxHeartbeats 4000000 in
set_option maxRecDepth 100000 in
theorem c_X1_takeBack (l : Launch) (D : va_G) (cy : Nat → ClassId) (G : GG) (a : Nat) (s0 s1 s2 s3 s4 k0 k1 k2 k3 k4 : Int32) (ha : G a = some (.inr (1, [.int s0, .int s1, .int s2, .int s3, .int s4, .int k0, .int k1, .int k2, .int k3, .int k4]))) : Ctr l D cy yX1_takeBack prog_3_method_9_code 1 none kX1_takeBack [.ref a] G (pV (fun G' => G' = g_up G a (.inr (1, [.int k0, .int k1, .int k2, .int k3, .int k4, .int k0, .int k1, .int k2, .int k3, .int k4])))) := by
  refine Ctr.mk (by decide +kernel) (Nat.le_of_ble_eq_true rfl) ?_
  intro κ C R
  refine g_start ha ?_
  refine g_pc (pc' := 0) rfl ?_
  refine g_seg [(0, .aload_n 0, 1), (1, .aload_n 0, 1)] 2 [(0, .ref a)] [.ref a, .ref a] C (by decide +kernel) rfl ?_
  refine g_getU (pc := 2) (k := 5) (.int k0) C fl_X1_24 rfl (by decide +kernel) ?_
  refine g_putU (pc := 5) (k := 0) (ty := .int) [.int k0, .int s1, .int s2, .int s3, .int s4, .int k0, .int k1, .int k2, .int k3, .int k4] C fl_X1_9 fp_X1_0 (by first | rfl | decide) (by first | rfl | decide) (Nat.le_of_ble_eq_true rfl) rfl (by decide +kernel) ?_
  refine g_seg [(8, .aload_n 0, 1), (9, .aload_n 0, 1)] 10 [(0, .ref a)] [.ref a, .ref a] C (by decide +kernel) rfl ?_
  refine g_getU (pc := 10) (k := 6) (.int k1) C fl_X1_27 rfl (by decide +kernel) ?_
  refine g_putU (pc := 13) (k := 1) (ty := .int) [.int k0, .int k1, .int s2, .int s3, .int s4, .int k0, .int k1, .int k2, .int k3, .int k4] C fl_X1_15 fp_X1_1 (by first | rfl | decide) (by first | rfl | decide) (Nat.le_of_ble_eq_true rfl) rfl (by decide +kernel) ?_
  refine g_seg [(16, .aload_n 0, 1), (17, .aload_n 0, 1)] 18 [(0, .ref a)] [.ref a, .ref a] C (by decide +kernel) rfl ?_
  refine g_getU (pc := 18) (k := 7) (.int k2) C fl_X1_30 rfl (by decide +kernel) ?_
  refine g_putU (pc := 21) (k := 2) (ty := .int) [.int k0, .int k1, .int k2, .int s3, .int s4, .int k0, .int k1, .int k2, .int k3, .int k4] C fl_X1_21 fp_X1_2 (by first | rfl | decide) (by first | rfl | decide) (Nat.le_of_ble_eq_true rfl) rfl (by decide +kernel) ?_
  refine g_seg [(24, .aload_n 0, 1), (25, .aload_n 0, 1)] 26 [(0, .ref a)] [.ref a, .ref a] C (by decide +kernel) rfl ?_
  refine g_getU (pc := 26) (k := 8) (.int k3) C fl_X1_33 rfl (by decide +kernel) ?_
  refine g_putU (pc := 29) (k := 3) (ty := .int) [.int k0, .int k1, .int k2, .int k3, .int s4, .int k0, .int k1, .int k2, .int k3, .int k4] C fl_X1_18 fp_X1_3 (by first | rfl | decide) (by first | rfl | decide) (Nat.le_of_ble_eq_true rfl) rfl (by decide +kernel) ?_
  refine g_seg [(32, .aload_n 0, 1), (33, .aload_n 0, 1)] 34 [(0, .ref a)] [.ref a, .ref a] C (by decide +kernel) rfl ?_
  refine g_getU (pc := 34) (k := 9) (.int k4) C fl_X1_39 rfl (by decide +kernel) ?_
  refine g_putU (pc := 37) (k := 4) (ty := .int) [.int k0, .int k1, .int k2, .int k3, .int k4, .int k0, .int k1, .int k2, .int k3, .int k4] C fl_X1_36 fp_X1_4 (by first | rfl | decide) (by first | rfl | decide) (Nat.le_of_ble_eq_true rfl) rfl (by decide +kernel) ?_
  exact g_vret (pc := 40) C R (⟨rfl, rfl⟩) (Nat.le_of_ble_eq_true rfl) (Nat.le_of_ble_eq_true rfl) (by decide +kernel)
set_option maxHeartbeats 4000000 in
set_option maxRecDepth 100000 in
theorem c_X1_fall (l : Launch) (D : va_G) (cy : Nat → ClassId) (G : GG) (a : Nat) (s0 s1 s2 s3 s4 k0 k1 k2 k3 k4 : Int32) (p0 : Int32) (ha : G a = some (.inr (1, [.int s0, .int s1, .int s2, .int s3, .int s4, .int k0, .int k1, .int k2, .int k3, .int k4]))) : Ctr l D cy yX1_fall prog_3_method_7_code 2 none kX1_fall [.ref a, .int p0] G (pV (fun G' => G' = g_up G a (.inr (1, [.int (if p0 = 0 then 4 else 3), .int (-1), .int s2, .int s3, .int s4, .int k0, .int k1, .int k2, .int k3, .int k4])))) := by
  refine Ctr.mk (by decide +kernel) (Nat.le_of_ble_eq_true rfl) ?_
  intro κ C R
  refine g_start ha ?_
  refine g_pc (pc' := 0) rfl ?_
  refine g_seg [(0, .aload_n 0, 1), (1, .iload_n 1, 1)] 2 [(0, .ref a), (1, .int p0)] [.int p0, .ref a] C (by decide +kernel) rfl ?_
  refine g_if_eq (pc := 2) (off := 7) 9 C (by decide +kernel) (by decide) (fun c1 => ?_) (fun c1 => ?_)
  · refine g_seg [(9, .iconst 4, 1)] 10 [(0, .ref a), (1, .int p0)] [.int 4, .ref a] C (by decide +kernel) rfl ?_
    refine g_putU (pc := 10) (k := 0) (ty := .int) [.int 4, .int s1, .int s2, .int s3, .int s4, .int k0, .int k1, .int k2, .int k3, .int k4] C fl_X1_9 fp_X1_0 (by first | rfl | decide) (by first | rfl | decide) (Nat.le_of_ble_eq_true rfl) rfl (by decide +kernel) ?_
    refine g_seg [(13, .aload_n 0, 1), (14, .iconst (-1), 1)] 15 [(0, .ref a), (1, .int p0)] [.int (-1), .ref a] C (by decide +kernel) rfl ?_
    refine g_putU (pc := 15) (k := 1) (ty := .int) [.int 4, .int (-1), .int s2, .int s3, .int s4, .int k0, .int k1, .int k2, .int k3, .int k4] C fl_X1_15 fp_X1_1 (by first | rfl | decide) (by first | rfl | decide) (Nat.le_of_ble_eq_true rfl) rfl (by decide +kernel) ?_
    exact g_vret (pc := 18) C R (⟨rfl, by first | rw [if_pos (by assumption)] | rw [if_neg (by assumption)]⟩) (Nat.le_of_ble_eq_true rfl) (Nat.le_of_ble_eq_true rfl) (by decide +kernel)
  · refine g_seg [(5, .iconst 3, 1), (6, .goto 4, 3)] 10 [(0, .ref a), (1, .int p0)] [.int 3, .ref a] C (by decide +kernel) rfl ?_
    refine g_putU (pc := 10) (k := 0) (ty := .int) [.int 3, .int s1, .int s2, .int s3, .int s4, .int k0, .int k1, .int k2, .int k3, .int k4] C fl_X1_9 fp_X1_0 (by first | rfl | decide) (by first | rfl | decide) (Nat.le_of_ble_eq_true rfl) rfl (by decide +kernel) ?_
    refine g_seg [(13, .aload_n 0, 1), (14, .iconst (-1), 1)] 15 [(0, .ref a), (1, .int p0)] [.int (-1), .ref a] C (by decide +kernel) rfl ?_
    refine g_putU (pc := 15) (k := 1) (ty := .int) [.int 3, .int (-1), .int s2, .int s3, .int s4, .int k0, .int k1, .int k2, .int k3, .int k4] C fl_X1_15 fp_X1_1 (by first | rfl | decide) (by first | rfl | decide) (Nat.le_of_ble_eq_true rfl) rfl (by decide +kernel) ?_
    exact g_vret (pc := 18) C R (⟨rfl, by first | rw [if_pos (by assumption)] | rw [if_neg (by assumption)]⟩) (Nat.le_of_ble_eq_true rfl) (Nat.le_of_ble_eq_true rfl) (by decide +kernel)
set_option maxHeartbeats 4000000 in
set_option maxRecDepth 100000 in
theorem c_X1_canMount (l : Launch) (D : va_G) (cy : Nat → ClassId) (G : GG) (a : Nat) (s0 s1 s2 s3 s4 k0 k1 k2 k3 k4 : Int32) (ha : G a = some (.inr (1, [.int s0, .int s1, .int s2, .int s3, .int s4, .int k0, .int k1, .int k2, .int k3, .int k4]))) : Ctr l D cy yX1_canMount prog_3_method_2_code 1 (some .boolean) kX1_canMount [.ref a] G (pI (fun v G' => G' = G ∧ ((v = 1 ∧ (s0 = 0 ∨ s0 = 3)) ∨ (v = 0 ∧ ¬ (s0 = 0 ∨ s0 = 3))))) := by
  refine Ctr.mk (by decide +kernel) (Nat.le_of_ble_eq_true rfl) ?_
  intro κ C R
  refine g_start ha ?_
  refine g_pc (pc' := 0) rfl ?_
  refine g_seg [(0, .aload_n 0, 1)] 1 [(0, .ref a)] [.ref a] C (by decide +kernel) rfl ?_
  refine g_getU (pc := 1) (k := 0) (.int s0) C fl_X1_9 rfl (by decide +kernel) ?_
  refine g_if_eq (pc := 4) (off := 11) 15 C (by decide +kernel) (by decide) (fun c1 => ?_) (fun c1 => ?_)
  · refine g_seg [(15, .iconst 1, 1), (16, .goto 4, 3)] 20 [(0, .ref a)] [.int 1] C (by decide +kernel) rfl ?_
    exact g_zret (pc := 20) C R (by first | rfl | decide) (⟨_, rfl, g_up_id ha, Or.inl ⟨rfl, by first | exact Or.inl (by assumption) | exact Or.inr (by assumption)⟩⟩) (Nat.le_of_ble_eq_true rfl) (Nat.le_of_ble_eq_true rfl) (by decide +kernel)
  · refine g_seg [(7, .aload_n 0, 1)] 8 [(0, .ref a)] [.ref a] C (by decide +kernel) rfl ?_
    refine g_getU (pc := 8) (k := 0) (.int s0) C fl_X1_9 rfl (by decide +kernel) ?_
    refine g_seg [(11, .iconst 3, 1)] 12 [(0, .ref a)] [.int 3, .int s0] C (by decide +kernel) rfl ?_
    refine g_icmp_ne (pc := 12) (off := 7) 19 C (by decide +kernel) (by decide) (fun c2 => ?_) (fun c2 => ?_)
    · refine g_seg [(19, .iconst 0, 1)] 20 [(0, .ref a)] [.int 0] C (by decide +kernel) rfl ?_
      exact g_zret (pc := 20) C R (by first | rfl | decide) (⟨_, rfl, g_up_id ha, Or.inr ⟨rfl, fun h9 => by rcases h9 with h9 | h9 <;> contradiction⟩⟩) (Nat.le_of_ble_eq_true rfl) (Nat.le_of_ble_eq_true rfl) (by decide +kernel)
    · refine g_seg [(15, .iconst 1, 1), (16, .goto 4, 3)] 20 [(0, .ref a)] [.int 1] C (by decide +kernel) rfl ?_
      exact g_zret (pc := 20) C R (by first | rfl | decide) (⟨_, rfl, g_up_id ha, Or.inl ⟨rfl, by first | exact Or.inl (by assumption) | exact Or.inr (by assumption)⟩⟩) (Nat.le_of_ble_eq_true rfl) (Nat.le_of_ble_eq_true rfl) (by decide +kernel)
set_option maxHeartbeats 4000000 in
set_option maxRecDepth 100000 in
theorem c_X1_hangsFrom (l : Launch) (D : va_G) (cy : Nat → ClassId) (G : GG) (a : Nat) (s0 s1 s2 s3 s4 k0 k1 k2 k3 k4 : Int32) (p0 : Int32) (ha : G a = some (.inr (1, [.int s0, .int s1, .int s2, .int s3, .int s4, .int k0, .int k1, .int k2, .int k3, .int k4]))) : Ctr l D cy yX1_hangsFrom prog_3_method_3_code 2 (some .boolean) kX1_hangsFrom [.ref a, .int p0] G (pI (fun v G' => G' = G ∧ ((v = 1 ∧ (s0 = 1 ∧ s1 = p0)) ∨ (v = 0 ∧ ¬ (s0 = 1 ∧ s1 = p0))))) := by
  refine Ctr.mk (by decide +kernel) (Nat.le_of_ble_eq_true rfl) ?_
  intro κ C R
  refine g_start ha ?_
  refine g_pc (pc' := 0) rfl ?_
  refine g_seg [(0, .aload_n 0, 1)] 1 [(0, .ref a), (1, .int p0)] [.ref a] C (by decide +kernel) rfl ?_
  refine g_getU (pc := 1) (k := 0) (.int s0) C fl_X1_9 rfl (by decide +kernel) ?_
  refine g_seg [(4, .iconst 1, 1)] 5 [(0, .ref a), (1, .int p0)] [.int 1, .int s0] C (by decide +kernel) rfl ?_
  refine g_icmp_ne (pc := 5) (off := 15) 20 C (by decide +kernel) (by decide) (fun c1 => ?_) (fun c1 => ?_)
  · refine g_seg [(20, .iconst 0, 1)] 21 [(0, .ref a), (1, .int p0)] [.int 0] C (by decide +kernel) rfl ?_
    exact g_zret (pc := 21) C R (by first | rfl | decide) (⟨_, rfl, g_up_id ha, Or.inr ⟨rfl, fun h9 => by obtain ⟨h8, h9⟩ := h9; contradiction⟩⟩) (Nat.le_of_ble_eq_true rfl) (Nat.le_of_ble_eq_true rfl) (by decide +kernel)
  · refine g_seg [(8, .aload_n 0, 1)] 9 [(0, .ref a), (1, .int p0)] [.ref a] C (by decide +kernel) rfl ?_
    refine g_getU (pc := 9) (k := 1) (.int s1) C fl_X1_15 rfl (by decide +kernel) ?_
    refine g_seg [(12, .iload_n 1, 1)] 13 [(0, .ref a), (1, .int p0)] [.int p0, .int s1] C (by decide +kernel) rfl ?_
    refine g_icmp_ne (pc := 13) (off := 7) 20 C (by decide +kernel) (by decide) (fun c2 => ?_) (fun c2 => ?_)
    · refine g_seg [(20, .iconst 0, 1)] 21 [(0, .ref a), (1, .int p0)] [.int 0] C (by decide +kernel) rfl ?_
      exact g_zret (pc := 21) C R (by first | rfl | decide) (⟨_, rfl, g_up_id ha, Or.inr ⟨rfl, fun h9 => by obtain ⟨h8, h9⟩ := h9; contradiction⟩⟩) (Nat.le_of_ble_eq_true rfl) (Nat.le_of_ble_eq_true rfl) (by decide +kernel)
    · refine g_seg [(16, .iconst 1, 1), (17, .goto 4, 3)] 21 [(0, .ref a), (1, .int p0)] [.int 1] C (by decide +kernel) rfl ?_
      exact g_zret (pc := 21) C R (by first | rfl | decide) (⟨_, rfl, g_up_id ha, Or.inl ⟨rfl, by assumption, by assumption⟩⟩) (Nat.le_of_ble_eq_true rfl) (Nat.le_of_ble_eq_true rfl) (by decide +kernel)
set_option maxHeartbeats 4000000 in
set_option maxRecDepth 100000 in
theorem c_X1_comesIn (l : Launch) (D : va_G) (cy : Nat → ClassId) (G : GG) (a : Nat) (s0 s1 s2 s3 s4 k0 k1 k2 k3 k4 : Int32) (p0 : Int32) (ha : G a = some (.inr (1, [.int s0, .int s1, .int s2, .int s3, .int s4, .int k0, .int k1, .int k2, .int k3, .int k4]))) : Ctr l D cy yX1_comesIn prog_3_method_4_code 2 (some .boolean) kX1_comesIn [.ref a, .int p0] G (pI (fun v G' => G' = G ∧ ((v = 1 ∧ (s0 = 2 ∧ s3 = p0)) ∨ (v = 0 ∧ ¬ (s0 = 2 ∧ s3 = p0))))) := by
  refine Ctr.mk (by decide +kernel) (Nat.le_of_ble_eq_true rfl) ?_
  intro κ C R
  refine g_start ha ?_
  refine g_pc (pc' := 0) rfl ?_
  refine g_seg [(0, .aload_n 0, 1)] 1 [(0, .ref a), (1, .int p0)] [.ref a] C (by decide +kernel) rfl ?_
  refine g_getU (pc := 1) (k := 0) (.int s0) C fl_X1_9 rfl (by decide +kernel) ?_
  refine g_seg [(4, .iconst 2, 1)] 5 [(0, .ref a), (1, .int p0)] [.int 2, .int s0] C (by decide +kernel) rfl ?_
  refine g_icmp_ne (pc := 5) (off := 15) 20 C (by decide +kernel) (by decide) (fun c1 => ?_) (fun c1 => ?_)
  · refine g_seg [(20, .iconst 0, 1)] 21 [(0, .ref a), (1, .int p0)] [.int 0] C (by decide +kernel) rfl ?_
    exact g_zret (pc := 21) C R (by first | rfl | decide) (⟨_, rfl, g_up_id ha, Or.inr ⟨rfl, fun h9 => by obtain ⟨h8, h9⟩ := h9; contradiction⟩⟩) (Nat.le_of_ble_eq_true rfl) (Nat.le_of_ble_eq_true rfl) (by decide +kernel)
  · refine g_seg [(8, .aload_n 0, 1)] 9 [(0, .ref a), (1, .int p0)] [.ref a] C (by decide +kernel) rfl ?_
    refine g_getU (pc := 9) (k := 3) (.int s3) C fl_X1_18 rfl (by decide +kernel) ?_
    refine g_seg [(12, .iload_n 1, 1)] 13 [(0, .ref a), (1, .int p0)] [.int p0, .int s3] C (by decide +kernel) rfl ?_
    refine g_icmp_ne (pc := 13) (off := 7) 20 C (by decide +kernel) (by decide) (fun c2 => ?_) (fun c2 => ?_)
    · refine g_seg [(20, .iconst 0, 1)] 21 [(0, .ref a), (1, .int p0)] [.int 0] C (by decide +kernel) rfl ?_
      exact g_zret (pc := 21) C R (by first | rfl | decide) (⟨_, rfl, g_up_id ha, Or.inr ⟨rfl, fun h9 => by obtain ⟨h8, h9⟩ := h9; contradiction⟩⟩) (Nat.le_of_ble_eq_true rfl) (Nat.le_of_ble_eq_true rfl) (by decide +kernel)
    · refine g_seg [(16, .iconst 1, 1), (17, .goto 4, 3)] 21 [(0, .ref a), (1, .int p0)] [.int 1] C (by decide +kernel) rfl ?_
      exact g_zret (pc := 21) C R (by first | rfl | decide) (⟨_, rfl, g_up_id ha, Or.inl ⟨rfl, by assumption, by assumption⟩⟩) (Nat.le_of_ble_eq_true rfl) (Nat.le_of_ble_eq_true rfl) (by decide +kernel)
