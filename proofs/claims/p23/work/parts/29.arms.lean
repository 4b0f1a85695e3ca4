/-! numbers that the acts make -/
theorem i1_add (j : Nat) : (1 : Int32) + nI j = nI (1 + j) := nI_add 1 j
theorem okR_n {m w t s : Nat} (h1 : m ≤ 99) (h2 : 1 ≤ w ∧ w ≤ 20) (h3 : t ≤ 10) (h4 : 1 ≤ s ∧ s ≤ 99) : okR (nI m) (nI w) (nI t) (nI s) :=
  ⟨⟨nI_pos' (by omega), nI_le (b := 99) h1 (by omega)⟩, ⟨nI_le (a := 1) h2.1 (by omega), nI_le (b := 20) h2.2 (by omega)⟩, ⟨nI_pos' (by omega), nI_le (b := 10) h3 (by omega)⟩, ⟨nI_le (a := 1) h4.1 (by omega), nI_le (b := 99) h4.2 (by omega)⟩⟩
theorem sub_toInt {j c : Nat} (hj : j < 1000) (hc : c < 1000) : (nI j - nI c).toInt = (j : Int) - c := pk_sub_toInt (by omega) (by omega)
theorem okN_n {j k : Nat} (hj : j < 150) (hk : k < 60) : okN (nI j - 50) (if (nI j - 50) + nI k < 150 then (nI j - 50) + nI k else 150) := by
  have e50 : (50 : Int32) = nI 50 := rfl
  have e1 : (nI j - 50) + nI k = nI (j + k) - 50 := by
    rw [← nI_add, Int32.sub_eq_add_neg, Int32.sub_eq_add_neg, Int32.add_assoc, Int32.add_comm (-50), ← Int32.add_assoc]
  rw [e1]
  have a1 : (nI j - 50).toInt = (j : Int) - 50 := sub_toInt (c := 50) (by omega) (by omega)
  have a2 : (nI (j + k) - 50).toInt = ((j + k : Nat) : Int) - 50 := sub_toInt (c := 50) (by omega) (by omega)
  have m50 : (-50 : Int32).toInt = -50 := by decide
  have m150 : (150 : Int32).toInt = 150 := by decide
  unfold okN
  split
  · rename_i h
    rw [Int32.lt_iff_toInt_lt, a2, m150] at h
    simp only [Int32.le_iff_toInt_le, a1, a2, m50, m150]
    omega
  · rename_i h
    rw [Int32.lt_iff_toInt_lt, a2, m150] at h
    simp only [Int32.le_iff_toInt_le, a1, m50, m150]
    omega
theorem reach_n {j : Nat} (hj : j < 41) : -20 ≤ nI j - 20 ∧ nI j - 20 ≤ 20 := by
  have a1 : (nI j - 20).toInt = (j : Int) - 20 := sub_toInt (c := 20) (by omega) (by omega)
  have m1 : (-20 : Int32).toInt = -20 := by decide
  have m2 : (20 : Int32).toInt = 20 := by decide
  simp only [Int32.le_iff_toInt_le, a1, m1, m2]
  omega
theorem okC_n {c j t : Nat} (hc : c ≤ 100) (hj : j < 41) (ht : 1 ≤ t ∧ t ≤ 6) : okC (nI c) (nI j - 20) (nI t) :=
  ⟨reach_n hj, ⟨nI_le (a := 1) ht.1 (by omega), nI_le (b := 6) ht.2 (by omega)⟩, nI_le (b := 9999) (by omega) (by omega)⟩
theorem hang_lt {E : Rw} {nf : Nat} {v : Int32} (h : s_hangE E nf v ≤ 2) (hne : ¬ nI (s_hangE E nf v) = 2) : s_hangE E nf v < 2 := by
  rcases Nat.lt_or_ge (s_hangE E nf v) 2 with h1 | h1
  · exact h1
  · exfalso
    apply hne
    rw [show s_hangE E nf v = 2 by omega]
    rfl
theorem nI_lt2 {n : Nat} (h : n < 2) : nI n < 2 := nI_lt (b := 2) h (by omega)
theorem h_mount {E : Rw} {b : Int32} {nf i j : Nat} (hi : i < nf) (h0 : ¬ E i 0 = 1) : nI (s_hangE (s_row (zF b E) i 1 (nI j) 0 (-1)) nf (nI j)) = nI (s_hangE E nf (nI j)) + 1 := by
  rw [nI_1]
  have : s_hangE (s_row (zF b E) i 1 (nI j) 0 (-1)) nf (nI j) = s_hangE E nf (nI j) + 1 :=
    cnt_one hi (by simp [h0]) (by simp [s_row]) (fun g _ hg => by simp [s_row, hg, zF])
  rw [this]
theorem row7 {m w t s : Int32} : upd (upd (upd (upd (upd (upd (upd (fun _ => 0) 0 m) 1 w) 2 t) 3 s) 4 0) 5 1) 6 0 = cut 7 (rowS m w t s) := by
  funext j
  unfold cut upd
  match j with
  | 0 => simp [rowS]
  | 1 => simp [rowS]
  | 2 => simp [rowS]
  | 3 => simp [rowS]
  | 4 => simp [rowS]
  | 5 => simp [rowS]
  | 6 => simp [rowS]
  | j + 7 => simp; omega
theorem row5 : upd (upd (upd (upd (upd (fun _ => 0) 0 0) 1 (-1)) 2 0) 3 (-1)) 4 0 = cut 5 rowG := by
  funext j
  unfold cut upd
  match j with
  | 0 => simp [rowG]
  | 1 => simp [rowG]
  | 2 => simp [rowG]
  | 3 => simp [rowG]
  | 4 => simp [rowG]
  | j + 5 => simp; omega
theorem row5c {b f r t : Int32} : upd (upd (upd (upd (upd (fun _ => 0) 0 b) 1 f) 2 r) 3 t) 4 0 = cut 5 (rowC b f r t) := by
  funext j
  unfold cut upd
  match j with
  | 0 => simp [rowC]
  | 1 => simp [rowC]
  | 2 => simp [rowC]
  | 3 => simp [rowC]
  | 4 => simp [rowC]
  | j + 5 => simp; omega
theorem row2 {a c : Int32} : upd (upd (fun _ => 0) 0 a) 1 c = cut 2 (rowN a c) := by
  funext j
  unfold cut upd
  match j with
  | 0 => simp [rowN]
  | 1 => simp [rowN]
  | j + 2 => simp; omega
theorem add_2 {N : Rw} {n : Nat} {r r' : Nat → Int32} {w : Nat} (h : ∀ k, k < w → r k = r' k) : ∀ i k, k < w → s_add N n r i k = s_add N n r' i k := by
  intro i k hk
  by_cases e : i = n
  · subst e; rw [add_at, add_at]; exact h k hk
  · rw [add_ne e, add_ne e]

set_option maxHeartbeats 4000000 in
set_option maxRecDepth 100000 in
theorem t_rig {κ : Kx} {l : Launch} {D : va_G} {cy : Nat → ClassId} {G G2 : GG} {x s bn : Nat} {rt : Nat → Nat} {rd : Nat → Nat → Nat} {nt nf nc nn : Nat} {T E Cu N : Rw} {v t f : Int32} (C : g_OK κ l D cy yL_act 20 method_4_code kL_act (some .boolean)) (R : g_RT κ (pI (fun r G' => r = 1 ∧ LA cy x s bn G')) kL_act) (X : g_XX κ) (hL : LX cy x (nI bn) nt nf nc nn T E Cu N G2 nG G) (hS : RS cy s rt rd (nI bn) nt nf nc nn (zT (nI bn) T) (zF (nI bn) E) Cu N G2) (hv : vI bn nt nf nc T E Cu) (hbn : bn ≤ 50) : PG κ 20 0 0 G [(0, .ref x), (1, .ref s), (2, .int v), (3, .int (nI nt)), (4, .int (nI nf)), (5, .int t), (6, .int f)] 120 [] := by
  have hbd := LX.bd hL
  refine g_seg [(120, .iload_n 3, 1), (121, .bipush 6, 2)] 123 [(0, .ref x), (1, .ref s), (2, .int v), (3, .int (nI nt)), (4, .int (nI nf)), (5, .int t), (6, .int f)] [.int 6, .int (nI nt)] C (by decide +kernel) rfl ?_
  refine g_icmp_ne (pc := 123) (off := 5) 128 C (by decide +kernel) (by decide) (fun c11 => ?_) (fun c11 => ?_)
  · have hn6 : nt < 6 := by have e9 : nt ≠ 6 := fun e9 => c11 (by rw [e9]; rfl); omega
    have j151 : ∀ jm : Nat, jm ≤ 99 → PG κ 20 0 0 G [(0, .ref x), (1, .ref s), (2, .int v), (3, .int (nI nt)), (4, .int (nI nf)), (5, .int t), (6, .int f)] 151 [.int (nI jm)] := by
      intro jm hjm
      refine g_seg [(151, .istore 7, 2), (153, .iconst 1, 1), (154, .iload_n 2, 1), (155, .iconst 3, 1), (156, .ishr, 1), (157, .bipush 20, 2)] 159 [(7, .int (nI jm)), (0, .ref x), (1, .ref s), (2, .int v), (3, .int (nI nt)), (4, .int (nI nf)), (5, .int t), (6, .int f)] [.int 20, .int (v >>> (3 &&& 31)), .int 1] C (by decide +kernel) rfl ?_
      refine g_callS (pc := 159) C mS_L_below q402 (c_L_below l D cy G (v >>> (3 &&& 31)) 20 20 rfl (by decide) (by decide)) rfl ⟨⟨Nat.le_of_ble_eq_true rfl, Nat.le_of_ble_eq_true rfl⟩, Nat.le_of_ble_eq_true rfl, Nat.le_of_ble_eq_true rfl⟩ rfl (Nat.le_of_ble_eq_true rfl) (by decide +kernel) ?_
      refine g_kI (fun v14 G13 hp12 => ?_)
      obtain ⟨rfl, j15, hj16, rfl⟩ := hp12
      refine g_seg [(162, .iadd, 1)] 163 [(7, .int (nI jm)), (0, .ref x), (1, .ref s), (2, .int v), (3, .int (nI nt)), (4, .int (nI nf)), (5, .int t), (6, .int f)] [.int (1 + (nI j15))] C (by decide +kernel) rfl ?_
      rw [show (1 + (nI j15) : Int32) = nI (1 + j15) from i1_add j15]
      refine g_seg [(163, .istore 8, 2), (165, .iload_n 2, 1), (166, .iconst 4, 1), (167, .ishr, 1), (168, .bipush 11, 2)] 170 [(8, .int (nI (1 + j15))), (7, .int (nI jm)), (0, .ref x), (1, .ref s), (2, .int v), (3, .int (nI nt)), (4, .int (nI nf)), (5, .int t), (6, .int f)] [.int 11, .int (v >>> (4 &&& 31))] C (by decide +kernel) rfl ?_
      refine g_callS (pc := 170) C mS_L_below q402 (c_L_below l D cy G13 (v >>> (4 &&& 31)) 11 11 rfl (by decide) (by decide)) rfl ⟨⟨Nat.le_of_ble_eq_true rfl, Nat.le_of_ble_eq_true rfl⟩, Nat.le_of_ble_eq_true rfl, Nat.le_of_ble_eq_true rfl⟩ rfl (Nat.le_of_ble_eq_true rfl) (by decide +kernel) ?_
      refine g_kI (fun v19 G18 hp17 => ?_)
      obtain ⟨rfl, j20, hj21, rfl⟩ := hp17
      refine g_seg [(173, .istore 9, 2)] 175 [(9, .int (nI j20)), (8, .int (nI (1 + j15))), (7, .int (nI jm)), (0, .ref x), (1, .ref s), (2, .int v), (3, .int (nI nt)), (4, .int (nI nf)), (5, .int t), (6, .int f)] [] C (by decide +kernel) rfl ?_
      have j199 : ∀ j3 : Nat, j3 ≤ 98 → PG κ 20 0 0 G18 [(9, .int (nI j20)), (8, .int (nI (1 + j15))), (7, .int (nI jm)), (0, .ref x), (1, .ref s), (2, .int v), (3, .int (nI nt)), (4, .int (nI nf)), (5, .int t), (6, .int f)] 199 [.int (nI j3), .int 1] := by
        intro j3 hj3
        refine g_seg [(199, .iadd, 1)] 200 [(9, .int (nI j20)), (8, .int (nI (1 + j15))), (7, .int (nI jm)), (0, .ref x), (1, .ref s), (2, .int v), (3, .int (nI nt)), (4, .int (nI nf)), (5, .int t), (6, .int f)] [.int (1 + (nI j3))] C (by decide +kernel) rfl ?_
        rw [show (1 + (nI j3) : Int32) = nI (1 + j3) from i1_add j3]
        refine g_seg [(200, .istore 10, 2), (202, .aload_n 1, 1), (203, .aload_n 1, 1)] 204 [(10, .int (nI (1 + j3))), (9, .int (nI j20)), (8, .int (nI (1 + j15))), (7, .int (nI jm)), (0, .ref x), (1, .ref s), (2, .int v), (3, .int (nI nt)), (4, .int (nI nf)), (5, .int t), (6, .int f)] [.ref s, .ref s] C (by decide +kernel) rfl ?_
        refine g_getf (pc := 204) (k := 0) (v := .ref (rt 0)) C fl_L_9 ((LX.rs hL hS).1.1) rfl (by decide +kernel) ?_
        refine g_seg [(207, .bipush 7, 2)] 209 [(10, .int (nI (1 + j3))), (9, .int (nI j20)), (8, .int (nI (1 + j15))), (7, .int (nI jm)), (0, .ref x), (1, .ref s), (2, .int v), (3, .int (nI nt)), (4, .int (nI nf)), (5, .int t), (6, .int f)] [.int 7, .ref (rt 0), .ref s] C (by decide +kernel) rfl ?_
        refine g_newi (pc := 209) (N' := 7) C q394 (by decide) (by decide) (by decide) (by show 0 + 1 ≤ 3; omega) (by show 0 + 7 ≤ 38; omega) (by decide +kernel) (fun q22 hq23 => ?_)
        have hn_q22 := LX.g3n hL hq23
        refine g_abs (P := fun G9 => ∃ G39 : GG, LX cy x (nI bn) nt nf nc nn T E Cu N G2 G39 G9 ∧ G39 q22 = some (.inl (cy 0, 7, .inl (fun _ => 0)))) ⟨_, LX.n3 hL hq23, g_up_self ..⟩ (fun G24 hg => ?_)
        obtain ⟨G325, hL26, ha27⟩ := hg
        refine g_seg [(211, .dup, 1), (212, .iconst 0, 1), (213, .iload 7, 2)] 215 [(10, .int (nI (1 + j3))), (9, .int (nI j20)), (8, .int (nI (1 + j15))), (7, .int (nI jm)), (0, .ref x), (1, .ref s), (2, .int v), (3, .int (nI nt)), (4, .int (nI nf)), (5, .int t), (6, .int f)] [.int (nI jm), .int 0, .ref q22, .ref q22, .ref (rt 0), .ref s] C (by decide +kernel) rfl ?_
        refine g_iastM (pc := 215) (n := 7) 0 (upd (fun _ => 0) 0 (nI jm)) C (LX.g3 hL26 ha27) (rfl) (by decide) (by omega) (rfl) (by decide +kernel) ?_
        refine g_abs (P := fun G9 => ∃ G39 : GG, LX cy x (nI bn) nt nf nc nn T E Cu N G2 G39 G9 ∧ G39 q22 = some (.inl (cy 0, 7, .inl (upd (fun _ => 0) 0 (nI jm))))) ⟨_, LX.p3 hL26 ha27, g_up_self ..⟩ (fun G28 hg => ?_)
        obtain ⟨G329, hL30, ha31⟩ := hg
        refine g_seg [(216, .dup, 1), (217, .iconst 1, 1), (218, .iload 8, 2)] 220 [(10, .int (nI (1 + j3))), (9, .int (nI j20)), (8, .int (nI (1 + j15))), (7, .int (nI jm)), (0, .ref x), (1, .ref s), (2, .int v), (3, .int (nI nt)), (4, .int (nI nf)), (5, .int t), (6, .int f)] [.int (nI (1 + j15)), .int 1, .ref q22, .ref q22, .ref (rt 0), .ref s] C (by decide +kernel) rfl ?_
        refine g_iastM (pc := 220) (n := 7) 1 (upd (upd (fun _ => 0) 0 (nI jm)) 1 (nI (1 + j15))) C (LX.g3 hL30 ha31) (rfl) (by decide) (by omega) (rfl) (by decide +kernel) ?_
        refine g_abs (P := fun G9 => ∃ G39 : GG, LX cy x (nI bn) nt nf nc nn T E Cu N G2 G39 G9 ∧ G39 q22 = some (.inl (cy 0, 7, .inl (upd (upd (fun _ => 0) 0 (nI jm)) 1 (nI (1 + j15)))))) ⟨_, LX.p3 hL30 ha31, g_up_self ..⟩ (fun G32 hg => ?_)
        obtain ⟨G333, hL34, ha35⟩ := hg
        refine g_seg [(221, .dup, 1), (222, .iconst 2, 1), (223, .iload 9, 2)] 225 [(10, .int (nI (1 + j3))), (9, .int (nI j20)), (8, .int (nI (1 + j15))), (7, .int (nI jm)), (0, .ref x), (1, .ref s), (2, .int v), (3, .int (nI nt)), (4, .int (nI nf)), (5, .int t), (6, .int f)] [.int (nI j20), .int 2, .ref q22, .ref q22, .ref (rt 0), .ref s] C (by decide +kernel) rfl ?_
        refine g_iastM (pc := 225) (n := 7) 2 (upd (upd (upd (fun _ => 0) 0 (nI jm)) 1 (nI (1 + j15))) 2 (nI j20)) C (LX.g3 hL34 ha35) (rfl) (by decide) (by omega) (rfl) (by decide +kernel) ?_
        refine g_abs (P := fun G9 => ∃ G39 : GG, LX cy x (nI bn) nt nf nc nn T E Cu N G2 G39 G9 ∧ G39 q22 = some (.inl (cy 0, 7, .inl (upd (upd (upd (fun _ => 0) 0 (nI jm)) 1 (nI (1 + j15))) 2 (nI j20))))) ⟨_, LX.p3 hL34 ha35, g_up_self ..⟩ (fun G36 hg => ?_)
        obtain ⟨G337, hL38, ha39⟩ := hg
        refine g_seg [(226, .dup, 1), (227, .iconst 3, 1), (228, .iload 10, 2)] 230 [(10, .int (nI (1 + j3))), (9, .int (nI j20)), (8, .int (nI (1 + j15))), (7, .int (nI jm)), (0, .ref x), (1, .ref s), (2, .int v), (3, .int (nI nt)), (4, .int (nI nf)), (5, .int t), (6, .int f)] [.int (nI (1 + j3)), .int 3, .ref q22, .ref q22, .ref (rt 0), .ref s] C (by decide +kernel) rfl ?_
        refine g_iastM (pc := 230) (n := 7) 3 (upd (upd (upd (upd (fun _ => 0) 0 (nI jm)) 1 (nI (1 + j15))) 2 (nI j20)) 3 (nI (1 + j3))) C (LX.g3 hL38 ha39) (rfl) (by decide) (by omega) (rfl) (by decide +kernel) ?_
        refine g_abs (P := fun G9 => ∃ G39 : GG, LX cy x (nI bn) nt nf nc nn T E Cu N G2 G39 G9 ∧ G39 q22 = some (.inl (cy 0, 7, .inl (upd (upd (upd (upd (fun _ => 0) 0 (nI jm)) 1 (nI (1 + j15))) 2 (nI j20)) 3 (nI (1 + j3)))))) ⟨_, LX.p3 hL38 ha39, g_up_self ..⟩ (fun G40 hg => ?_)
        obtain ⟨G341, hL42, ha43⟩ := hg
        refine g_seg [(231, .dup, 1), (232, .iconst 4, 1), (233, .iconst 0, 1)] 234 [(10, .int (nI (1 + j3))), (9, .int (nI j20)), (8, .int (nI (1 + j15))), (7, .int (nI jm)), (0, .ref x), (1, .ref s), (2, .int v), (3, .int (nI nt)), (4, .int (nI nf)), (5, .int t), (6, .int f)] [.int 0, .int 4, .ref q22, .ref q22, .ref (rt 0), .ref s] C (by decide +kernel) rfl ?_
        refine g_iastM (pc := 234) (n := 7) 4 (upd (upd (upd (upd (upd (fun _ => 0) 0 (nI jm)) 1 (nI (1 + j15))) 2 (nI j20)) 3 (nI (1 + j3))) 4 0) C (LX.g3 hL42 ha43) (rfl) (by decide) (by omega) (rfl) (by decide +kernel) ?_
        refine g_abs (P := fun G9 => ∃ G39 : GG, LX cy x (nI bn) nt nf nc nn T E Cu N G2 G39 G9 ∧ G39 q22 = some (.inl (cy 0, 7, .inl (upd (upd (upd (upd (upd (fun _ => 0) 0 (nI jm)) 1 (nI (1 + j15))) 2 (nI j20)) 3 (nI (1 + j3))) 4 0)))) ⟨_, LX.p3 hL42 ha43, g_up_self ..⟩ (fun G44 hg => ?_)
        obtain ⟨G345, hL46, ha47⟩ := hg
        refine g_seg [(235, .dup, 1), (236, .iconst 5, 1), (237, .iconst 1, 1)] 238 [(10, .int (nI (1 + j3))), (9, .int (nI j20)), (8, .int (nI (1 + j15))), (7, .int (nI jm)), (0, .ref x), (1, .ref s), (2, .int v), (3, .int (nI nt)), (4, .int (nI nf)), (5, .int t), (6, .int f)] [.int 1, .int 5, .ref q22, .ref q22, .ref (rt 0), .ref s] C (by decide +kernel) rfl ?_
        refine g_iastM (pc := 238) (n := 7) 5 (upd (upd (upd (upd (upd (upd (fun _ => 0) 0 (nI jm)) 1 (nI (1 + j15))) 2 (nI j20)) 3 (nI (1 + j3))) 4 0) 5 1) C (LX.g3 hL46 ha47) (rfl) (by decide) (by omega) (rfl) (by decide +kernel) ?_
        refine g_abs (P := fun G9 => ∃ G39 : GG, LX cy x (nI bn) nt nf nc nn T E Cu N G2 G39 G9 ∧ G39 q22 = some (.inl (cy 0, 7, .inl (upd (upd (upd (upd (upd (upd (fun _ => 0) 0 (nI jm)) 1 (nI (1 + j15))) 2 (nI j20)) 3 (nI (1 + j3))) 4 0) 5 1)))) ⟨_, LX.p3 hL46 ha47, g_up_self ..⟩ (fun G48 hg => ?_)
        obtain ⟨G349, hL50, ha51⟩ := hg
        refine g_seg [(239, .dup, 1), (240, .bipush 6, 2), (242, .iconst 0, 1)] 243 [(10, .int (nI (1 + j3))), (9, .int (nI j20)), (8, .int (nI (1 + j15))), (7, .int (nI jm)), (0, .ref x), (1, .ref s), (2, .int v), (3, .int (nI nt)), (4, .int (nI nf)), (5, .int t), (6, .int f)] [.int 0, .int 6, .ref q22, .ref q22, .ref (rt 0), .ref s] C (by decide +kernel) rfl ?_
        refine g_iastM (pc := 243) (n := 7) 6 (upd (upd (upd (upd (upd (upd (upd (fun _ => 0) 0 (nI jm)) 1 (nI (1 + j15))) 2 (nI j20)) 3 (nI (1 + j3))) 4 0) 5 1) 6 0) C (LX.g3 hL50 ha51) (rfl) (by decide) (by omega) (rfl) (by decide +kernel) ?_
        refine g_abs (P := fun G9 => ∃ G39 : GG, LX cy x (nI bn) nt nf nc nn T E Cu N G2 G39 G9 ∧ G39 q22 = some (.inl (cy 0, 7, .inl (upd (upd (upd (upd (upd (upd (upd (fun _ => 0) 0 (nI jm)) 1 (nI (1 + j15))) 2 (nI j20)) 3 (nI (1 + j3))) 4 0) 5 1) 6 0)))) ⟨_, LX.p3 hL50 ha51, g_up_self ..⟩ (fun G52 hg => ?_)
        obtain ⟨G353, hL54, ha55⟩ := hg
        have ha56c : (upd (upd (upd (upd (upd (upd (upd (fun _ => 0) 0 (nI jm)) 1 (nI (1 + j15))) 2 (nI j20)) 3 (nI (1 + j3))) 4 0) 5 1) 6 0) = cut 7 (rowS (nI jm) (nI (1 + j15)) (nI j20) (nI (1 + j3))) := row7
        have ha56 : G353 q22 = some (.inl (cy 0, 7, .inl (cut 7 (rowS (nI jm) (nI (1 + j15)) (nI j20) (nI (1 + j3)))))) := by rw [← ha56c]; exact ha55
        refine g_callS (pc := 244) C mS_X5_more q406 (c_X5_more l D cy G52 (rt 0) q22 nt (rd 0) (by omega) ((LX.rs hL54 hS).1.2.1) (fun i9 h9 => ⟨_, _, (LX.rs hL54 hS).2.1.1 i9 h9⟩) ⟨_, _, LX.g3 hL54 ha56⟩) rfl ⟨⟨(Nat.le_of_ble_eq_true rfl), (Nat.le_of_ble_eq_true rfl)⟩, (by show (0 + 1) + 1 ≤ 3; omega), (by show (0 + 7) + 21 ≤ 38; omega)⟩ rfl (Nat.le_of_ble_eq_true rfl) (by decide +kernel) ?_
        refine g_kA (fun v9 G9 hp9 => ?_)
        obtain ⟨qt, rfl, hqt, rfl⟩ := hp9
        refine g_putf (pc := 247) (k := 0) (v := .ref qt) (ty := (.array (.array .int))) C fl_L_9 fp_X5_0 (by rw [g_up_ne (g_fresh hqt (LX.rs hL54 hS).1.1)]; exact (LX.rs hL54 hS).1.1) rfl (by first | rfl | decide) (Nat.le_of_ble_eq_true rfl) (by decide +kernel) ?_
        obtain ⟨rt1, rd1, hS1⟩ := RS.add0 (cy := cy) (r := (rowS (nI jm) (nI (1 + j15)) (nI j20) (nI (1 + j3)))) (t := qt) (q := q22) hS hn6 (LX.n2 hL54 ha56) (sG.up (sG.rf _) (LX.n2 hL54 ha56)) (g_up_self ..) (LX.t2 hL54 ha56 hqt) rfl
        have hL1 := LX.more (e2 := oA (cy 5) (nt + 1) (fun i => if i < nt then rd 0 i else q22) (nt + 1)) (e3 := oS (fun k => if k = 0 then qt else rt k) (nI bn)) hL54 ha56 hqt hS.1.1
        refine g_abs (P := fun G9 => ∃ G29 : GG, LX cy x (nI bn) nt nf nc nn T E Cu N G29 nG G9 ∧ RS cy s rt1 rd1 (nI bn) (nt + 1) nf nc nn (s_add (zT (nI bn) T) nt (rowS (nI jm) (nI (1 + j15)) (nI j20) (nI (1 + j3)))) (zF (nI bn) E) Cu N G29) ⟨_, hL1, hS1⟩ (fun G5 hg => ?_)
        obtain ⟨G25, hL5, hS5⟩ := hg
        refine g_seg [(250, .aload_n 0, 1), (251, .iload 7, 2), (253, .iload 8, 2), (255, .iload 9, 2), (257, .iload 10, 2)] 259 [(10, .int (nI (1 + j3))), (9, .int (nI j20)), (8, .int (nI (1 + j15))), (7, .int (nI jm)), (0, .ref x), (1, .ref s), (2, .int v), (3, .int (nI nt)), (4, .int (nI nf)), (5, .int t), (6, .int f)] [.int (nI (1 + j3)), .int (nI j20), .int (nI (1 + j15)), .int (nI jm), .ref x] C (by decide +kernel) rfl ?_
        refine g_wrig (pc := 259) C X hL5 (okR_n hjm ⟨by omega, by omega⟩ (by omega) ⟨by omega, by omega⟩) hn6 q411 ⟨⟨(Nat.le_of_ble_eq_true rfl), (Nat.le_of_ble_eq_true rfl)⟩, (by show ((0 + 1) + 1) + 1 ≤ 3; omega), (by show ((0 + 7) + 21) + 9 ≤ 38; omega)⟩ (Nat.le_of_ble_eq_true rfl) (by decide +kernel) (fun G57 hL58 => ?_)
        refine g_seg [(262, .iload_n 3, 1)] 263 [(10, .int (nI (1 + j3))), (9, .int (nI j20)), (8, .int (nI (1 + j15))), (7, .int (nI jm)), (0, .ref x), (1, .ref s), (2, .int v), (3, .int (nI nt)), (4, .int (nI nf)), (5, .int t), (6, .int f)] [.int (nI nt), .int (nI nt)] C (by decide +kernel) rfl ?_
        refine g_icmp_ne (pc := 263) (off := 7) 270 C (by decide +kernel) (by decide) (fun c9 => absurd (rfl) c9) (fun _ => ?_)
        refine g_seg [(266, .iconst 1, 1), (267, .goto 4, 3)] 271 [(10, .int (nI (1 + j3))), (9, .int (nI j20)), (8, .int (nI (1 + j15))), (7, .int (nI jm)), (0, .ref x), (1, .ref s), (2, .int v), (3, .int (nI nt)), (4, .int (nI nf)), (5, .int t), (6, .int f)] [.int 1] C (by decide +kernel) rfl ?_
        exact g_zret (pc := 271) C R (by first | rfl | decide) (⟨_, rfl, rfl, G25, rt1, rd1, (nt + 1), nf, nc, nn, _, _, _, _, hL58, RS.ext hS5 (fun i k _ hk => z_rig i k hk) (fun _ _ _ _ => rfl) (fun _ _ _ _ => rfl) (fun _ _ _ _ => rfl), hv.rig hn6 hjm (by omega) (by omega) (by omega)⟩) (by show (((0 + 1) + 1) + 1) ≤ 3; omega) (by show (((0 + 7) + 21) + 9) ≤ 38; omega) (by decide +kernel)
      refine g_seg [(175, .iconst 1, 1), (176, .iload_n 2, 1), (177, .iconst 1, 1), (178, .ishr, 1), (179, .iload_n 2, 1), (180, .bipush 6, 2), (182, .ishr, 1), (183, .iconst 3, 1)] 184 [(9, .int (nI j20)), (8, .int (nI (1 + j15))), (7, .int (nI jm)), (0, .ref x), (1, .ref s), (2, .int v), (3, .int (nI nt)), (4, .int (nI nf)), (5, .int t), (6, .int f)] [.int 3, .int (v >>> (6 &&& 31)), .int (v >>> (1 &&& 31)), .int 1] C (by decide +kernel) rfl ?_
      refine g_callS (pc := 184) C mS_L_below q402 (c_L_below l D cy G18 (v >>> (6 &&& 31)) 3 3 rfl (by decide) (by decide)) rfl ⟨⟨Nat.le_of_ble_eq_true rfl, Nat.le_of_ble_eq_true rfl⟩, Nat.le_of_ble_eq_true rfl, Nat.le_of_ble_eq_true rfl⟩ rfl (Nat.le_of_ble_eq_true rfl) (by decide +kernel) ?_
      refine g_kI (fun v61 G60 hp59 => ?_)
      obtain ⟨rfl, j62, hj63, rfl⟩ := hp59
      refine g_if_ne (pc := 187) (off := 8) 195 C (by decide +kernel) (by decide) (fun c64 => ?_) (fun c64 => ?_)
      · refine g_seg [(195, .iconst 5, 1)] 196 [(9, .int (nI j20)), (8, .int (nI (1 + j15))), (7, .int (nI jm)), (0, .ref x), (1, .ref s), (2, .int v), (3, .int (nI nt)), (4, .int (nI nf)), (5, .int t), (6, .int f)] [.int 5, .int (v >>> (1 &&& 31)), .int 1] C (by decide +kernel) rfl ?_
        refine g_callS (pc := 196) C mS_L_below q402 (c_L_below l D cy G60 (v >>> (1 &&& 31)) 5 5 rfl (by decide) (by decide)) rfl ⟨⟨Nat.le_of_ble_eq_true rfl, Nat.le_of_ble_eq_true rfl⟩, Nat.le_of_ble_eq_true rfl, Nat.le_of_ble_eq_true rfl⟩ rfl (Nat.le_of_ble_eq_true rfl) (by decide +kernel) ?_
        refine g_kI (fun v67 G66 hp65 => ?_)
        obtain ⟨rfl, j68, hj69, rfl⟩ := hp65
        exact j199 j68 (by omega)
      · refine g_seg [(190, .bipush 99, 2), (192, .goto 4, 3)] 196 [(9, .int (nI j20)), (8, .int (nI (1 + j15))), (7, .int (nI jm)), (0, .ref x), (1, .ref s), (2, .int v), (3, .int (nI nt)), (4, .int (nI nf)), (5, .int t), (6, .int f)] [.int 99, .int (v >>> (1 &&& 31)), .int 1] C (by decide +kernel) rfl ?_
        refine g_callS (pc := 196) C mS_L_below q402 (c_L_below l D cy G60 (v >>> (1 &&& 31)) 99 99 rfl (by decide) (by decide)) rfl ⟨⟨Nat.le_of_ble_eq_true rfl, Nat.le_of_ble_eq_true rfl⟩, Nat.le_of_ble_eq_true rfl, Nat.le_of_ble_eq_true rfl⟩ rfl (Nat.le_of_ble_eq_true rfl) (by decide +kernel) ?_
        refine g_kI (fun v72 G71 hp70 => ?_)
        obtain ⟨rfl, j73, hj74, rfl⟩ := hp70
        exact j199 j73 (by omega)
    refine g_seg [(128, .iload_n 2, 1), (129, .iconst 2, 1), (130, .ishr, 1), (131, .iload_n 2, 1), (132, .iconst 5, 1), (133, .ishr, 1), (134, .iconst 2, 1)] 135 [(0, .ref x), (1, .ref s), (2, .int v), (3, .int (nI nt)), (4, .int (nI nf)), (5, .int t), (6, .int f)] [.int 2, .int (v >>> (5 &&& 31)), .int (v >>> (2 &&& 31))] C (by decide +kernel) rfl ?_
    refine g_callS (pc := 135) C mS_L_below q402 (c_L_below l D cy G (v >>> (5 &&& 31)) 2 2 rfl (by decide) (by decide)) rfl ⟨⟨Nat.le_of_ble_eq_true rfl, Nat.le_of_ble_eq_true rfl⟩, Nat.le_of_ble_eq_true rfl, Nat.le_of_ble_eq_true rfl⟩ rfl (Nat.le_of_ble_eq_true rfl) (by decide +kernel) ?_
    refine g_kI (fun v77 G76 hp75 => ?_)
    obtain ⟨rfl, j78, hj79, rfl⟩ := hp75
    refine g_if_ne (pc := 138) (off := 8) 146 C (by decide +kernel) (by decide) (fun c80 => ?_) (fun c80 => ?_)
    · refine g_seg [(146, .bipush 30, 2)] 148 [(0, .ref x), (1, .ref s), (2, .int v), (3, .int (nI nt)), (4, .int (nI nf)), (5, .int t), (6, .int f)] [.int 30, .int (v >>> (2 &&& 31))] C (by decide +kernel) rfl ?_
      refine g_callS (pc := 148) C mS_L_below q402 (c_L_below l D cy G76 (v >>> (2 &&& 31)) 30 30 rfl (by decide) (by decide)) rfl ⟨⟨Nat.le_of_ble_eq_true rfl, Nat.le_of_ble_eq_true rfl⟩, Nat.le_of_ble_eq_true rfl, Nat.le_of_ble_eq_true rfl⟩ rfl (Nat.le_of_ble_eq_true rfl) (by decide +kernel) ?_
      refine g_kI (fun v83 G82 hp81 => ?_)
      obtain ⟨rfl, j84, hj85, rfl⟩ := hp81
      exact j151 j84 (by omega)
    · refine g_seg [(141, .bipush 100, 2), (143, .goto 5, 3)] 148 [(0, .ref x), (1, .ref s), (2, .int v), (3, .int (nI nt)), (4, .int (nI nf)), (5, .int t), (6, .int f)] [.int 100, .int (v >>> (2 &&& 31))] C (by decide +kernel) rfl ?_
      refine g_callS (pc := 148) C mS_L_below q402 (c_L_below l D cy G76 (v >>> (2 &&& 31)) 100 100 rfl (by decide) (by decide)) rfl ⟨⟨Nat.le_of_ble_eq_true rfl, Nat.le_of_ble_eq_true rfl⟩, Nat.le_of_ble_eq_true rfl, Nat.le_of_ble_eq_true rfl⟩ rfl (Nat.le_of_ble_eq_true rfl) (by decide +kernel) ?_
      refine g_kI (fun v88 G87 hp86 => ?_)
      obtain ⟨rfl, j89, hj90, rfl⟩ := hp86
      exact j151 j89 (by omega)
  · refine g_seg [(126, .iconst 1, 1)] 127 [(0, .ref x), (1, .ref s), (2, .int v), (3, .int (nI nt)), (4, .int (nI nf)), (5, .int t), (6, .int f)] [.int 1] C (by decide +kernel) rfl ?_
    exact g_zret (pc := 127) C R (by first | rfl | decide) (⟨_, rfl, rfl, G2, rt, rd, nt, nf, nc, nn, T, E, Cu, N, hL, hS, hv⟩) (by show 0 ≤ 3; omega) (by show 0 ≤ 38; omega) (by decide +kernel)
set_option maxHeartbeats 4000000 in
set_option maxRecDepth 100000 in
theorem t_weigh {κ : Kx} {l : Launch} {D : va_G} {cy : Nat → ClassId} {G G2 : GG} {x s bn : Nat} {rt : Nat → Nat} {rd : Nat → Nat → Nat} {nt nf nc nn : Nat} {T E Cu N : Rw} {v t f : Int32} (C : g_OK κ l D cy yL_act 20 method_4_code kL_act (some .boolean)) (R : g_RT κ (pI (fun r G' => r = 1 ∧ LA cy x s bn G')) kL_act) (X : g_XX κ) (hL : LX cy x (nI bn) nt nf nc nn T E Cu N G2 nG G) (hS : RS cy s rt rd (nI bn) nt nf nc nn (zT (nI bn) T) (zF (nI bn) E) Cu N G2) (hv : vI bn nt nf nc T E Cu) (hbn : bn ≤ 50) (i : Nat) (hi : i < nt) (ht : t = nI i) : PG κ 20 0 0 G [(0, .ref x), (1, .ref s), (2, .int v), (3, .int (nI nt)), (4, .int (nI nf)), (5, .int t), (6, .int f)] 272 [] := by
  have hbd := LX.bd hL
  refine g_seg [(272, .aload_n 1, 1)] 273 [(0, .ref x), (1, .ref s), (2, .int v), (3, .int (nI nt)), (4, .int (nI nf)), (5, .int t), (6, .int f)] [.ref s] C (by decide +kernel) rfl ?_
  refine g_getf (pc := 273) (k := 0) (v := .ref (rt 0)) C fl_L_9 ((LX.rs hL hS).1.1) rfl (by decide +kernel) ?_
  refine g_seg [(276, .iload 5, 2)] 278 [(0, .ref x), (1, .ref s), (2, .int v), (3, .int (nI nt)), (4, .int (nI nf)), (5, .int t), (6, .int f)] [.int t, .ref (rt 0)] C (by decide +kernel) rfl ?_
  refine g_aaldS (pc := 278) (j := i) C ((LX.rs hL hS).1.2.1) (ht) (hi) (by omega) (by decide +kernel) ?_
  refine g_seg [(279, .iconst 5, 1)] 280 [(0, .ref x), (1, .ref s), (2, .int v), (3, .int (nI nt)), (4, .int (nI nf)), (5, .int t), (6, .int f)] [.int 5, .ref (rd 0 i)] C (by decide +kernel) rfl ?_
  refine g_ialdM (pc := 280) (n := 7) 5 ((zT (nI bn) T) i 5) C ((LX.rs hL hS).2.1.1 i hi) rfl (by decide) (by decide) (cut_lt (by decide)) (by decide +kernel) ?_
  refine g_if_ne (pc := 281) (off := 5) 286 C (by decide +kernel) (by decide) (fun c11 => ?_) (fun c11 => ?_)
  · refine g_seg [(286, .aload_n 1, 1)] 287 [(0, .ref x), (1, .ref s), (2, .int v), (3, .int (nI nt)), (4, .int (nI nf)), (5, .int t), (6, .int f)] [.ref s] C (by decide +kernel) rfl ?_
    refine g_getf (pc := 287) (k := 0) (v := .ref (rt 0)) C fl_L_9 ((LX.rs hL hS).1.1) rfl (by decide +kernel) ?_
    refine g_seg [(290, .iload 5, 2)] 292 [(0, .ref x), (1, .ref s), (2, .int v), (3, .int (nI nt)), (4, .int (nI nf)), (5, .int t), (6, .int f)] [.int t, .ref (rt 0)] C (by decide +kernel) rfl ?_
    refine g_aaldS (pc := 292) (j := i) C ((LX.rs hL hS).1.2.1) (ht) (hi) (by omega) (by decide +kernel) ?_
    refine g_seg [(293, .iconst 2, 1)] 294 [(0, .ref x), (1, .ref s), (2, .int v), (3, .int (nI nt)), (4, .int (nI nf)), (5, .int t), (6, .int f)] [.int 2, .ref (rd 0 i)] C (by decide +kernel) rfl ?_
    refine g_ialdM (pc := 294) (n := 7) 2 ((zT (nI bn) T) i 2) C ((LX.rs hL hS).2.1.1 i hi) rfl (by decide) (by decide) (cut_lt (by decide)) (by decide +kernel) ?_
    refine g_seg [(295, .istore 11, 2), (297, .aload_n 1, 1)] 298 [(11, .int ((zT (nI bn) T) i 2)), (0, .ref x), (1, .ref s), (2, .int v), (3, .int (nI nt)), (4, .int (nI nf)), (5, .int t), (6, .int f)] [.ref s] C (by decide +kernel) rfl ?_
    refine g_getf (pc := 298) (k := 0) (v := .ref (rt 0)) C fl_L_9 ((LX.rs hL hS).1.1) rfl (by decide +kernel) ?_
    refine g_seg [(301, .iload 5, 2)] 303 [(11, .int ((zT (nI bn) T) i 2)), (0, .ref x), (1, .ref s), (2, .int v), (3, .int (nI nt)), (4, .int (nI nf)), (5, .int t), (6, .int f)] [.int t, .ref (rt 0)] C (by decide +kernel) rfl ?_
    refine g_aaldS (pc := 303) (j := i) C ((LX.rs hL hS).1.2.1) (ht) (hi) (by omega) (by decide +kernel) ?_
    refine g_seg [(304, .iconst 2, 1), (305, .iload_n 2, 1), (306, .iconst 3, 1), (307, .ishr, 1), (308, .bipush 11, 2)] 310 [(11, .int ((zT (nI bn) T) i 2)), (0, .ref x), (1, .ref s), (2, .int v), (3, .int (nI nt)), (4, .int (nI nf)), (5, .int t), (6, .int f)] [.int 11, .int (v >>> (3 &&& 31)), .int 2, .ref (rd 0 i)] C (by decide +kernel) rfl ?_
    refine g_callS (pc := 310) C mS_L_below q402 (c_L_below l D cy G (v >>> (3 &&& 31)) 11 11 rfl (by decide) (by decide)) rfl ⟨⟨Nat.le_of_ble_eq_true rfl, Nat.le_of_ble_eq_true rfl⟩, Nat.le_of_ble_eq_true rfl, Nat.le_of_ble_eq_true rfl⟩ rfl (Nat.le_of_ble_eq_true rfl) (by decide +kernel) ?_
    refine g_kI (fun v14 G13 hp12 => ?_)
    obtain ⟨rfl, j15, hj16, rfl⟩ := hp12
    refine g_iastM (pc := 313) (n := 7) 2 (cut 7 ((s_set (zT (nI bn) T) i 2 (nI j15)) i)) C ((LX.rs hL hS).2.1.1 i hi) rfl (by decide) (by decide) (cut_upd (by decide)) (by decide +kernel) ?_
    refine g_abs (P := fun G9 => ∃ G29 : GG, LX cy x (nI bn) nt nf nc nn T E Cu N G29 nG G9 ∧ RS cy s rt rd (nI bn) nt nf nc nn (s_set (zT (nI bn) T) i 2 (nI j15)) (zF (nI bn) E) Cu N G29) ⟨_, LX.p2 hL (hS.2.1.1 i hi), RS.w0 hS hi (fun j9 h9 => s_set_ne h9)⟩ (fun G17 hg => ?_)
    obtain ⟨G218, hL19, hS20⟩ := hg
    refine g_seg [(314, .aload_n 1, 1)] 315 [(11, .int ((zT (nI bn) T) i 2)), (0, .ref x), (1, .ref s), (2, .int v), (3, .int (nI nt)), (4, .int (nI nf)), (5, .int t), (6, .int f)] [.ref s] C (by decide +kernel) rfl ?_
    refine g_getf (pc := 315) (k := 0) (v := .ref (rt 0)) C fl_L_9 ((LX.rs hL19 hS20).1.1) rfl (by decide +kernel) ?_
    refine g_seg [(318, .iload 5, 2)] 320 [(11, .int ((zT (nI bn) T) i 2)), (0, .ref x), (1, .ref s), (2, .int v), (3, .int (nI nt)), (4, .int (nI nf)), (5, .int t), (6, .int f)] [.int t, .ref (rt 0)] C (by decide +kernel) rfl ?_
    refine g_aaldS (pc := 320) (j := i) C ((LX.rs hL19 hS20).1.2.1) (ht) (hi) (by omega) (by decide +kernel) ?_
    refine g_seg [(321, .bipush 6, 2), (323, .iconst 0, 1)] 324 [(11, .int ((zT (nI bn) T) i 2)), (0, .ref x), (1, .ref s), (2, .int v), (3, .int (nI nt)), (4, .int (nI nf)), (5, .int t), (6, .int f)] [.int 0, .int 6, .ref (rd 0 i)] C (by decide +kernel) rfl ?_
    refine g_iastM (pc := 324) (n := 7) 6 (cut 7 ((s_set (s_set (zT (nI bn) T) i 2 (nI j15)) i 6 0) i)) C ((LX.rs hL19 hS20).2.1.1 i hi) rfl (by decide) (by decide) (cut_upd (by decide)) (by decide +kernel) ?_
    refine g_abs (P := fun G9 => ∃ G29 : GG, LX cy x (nI bn) nt nf nc nn T E Cu N G29 nG G9 ∧ RS cy s rt rd (nI bn) nt nf nc nn (s_set (s_set (zT (nI bn) T) i 2 (nI j15)) i 6 0) (zF (nI bn) E) Cu N G29) ⟨_, LX.p2 hL19 (hS20.2.1.1 i hi), RS.w0 hS20 hi (fun j9 h9 => s_set_ne h9)⟩ (fun G21 hg => ?_)
    obtain ⟨G222, hL23, hS24⟩ := hg
    refine g_seg [(325, .aload_n 0, 1), (326, .iload 5, 2), (328, .aload_n 1, 1)] 329 [(11, .int ((zT (nI bn) T) i 2)), (0, .ref x), (1, .ref s), (2, .int v), (3, .int (nI nt)), (4, .int (nI nf)), (5, .int t), (6, .int f)] [.ref s, .int t, .ref x] C (by decide +kernel) rfl ?_
    refine g_getf (pc := 329) (k := 0) (v := .ref (rt 0)) C fl_L_9 ((LX.rs hL23 hS24).1.1) rfl (by decide +kernel) ?_
    refine g_seg [(332, .iload 5, 2)] 334 [(11, .int ((zT (nI bn) T) i 2)), (0, .ref x), (1, .ref s), (2, .int v), (3, .int (nI nt)), (4, .int (nI nf)), (5, .int t), (6, .int f)] [.int t, .ref (rt 0), .int t, .ref x] C (by decide +kernel) rfl ?_
    refine g_aaldS (pc := 334) (j := i) C ((LX.rs hL23 hS24).1.2.1) (ht) (hi) (by omega) (by decide +kernel) ?_
    refine g_seg [(335, .iconst 2, 1)] 336 [(11, .int ((zT (nI bn) T) i 2)), (0, .ref x), (1, .ref s), (2, .int v), (3, .int (nI nt)), (4, .int (nI nf)), (5, .int t), (6, .int f)] [.int 2, .ref (rd 0 i), .int t, .ref x] C (by decide +kernel) rfl ?_
    refine g_ialdM (pc := 336) (n := 7) 2 (nI j15) C ((LX.rs hL23 hS24).2.1.1 i hi) rfl (by decide) (by decide) (by rw [cut_lt (by decide)]; simp [s_set, s_row]) (by decide +kernel) ?_
    subst ht
    refine g_wweigh (pc := 337) C X hL23 hi (wb (m := 10) rfl (by omega) (by omega)) c11 q471 ⟨⟨(Nat.le_of_ble_eq_true rfl), (Nat.le_of_ble_eq_true rfl)⟩, (by show 0 + 1 ≤ 3; omega), (by show 0 + 6 ≤ 38; omega)⟩ (Nat.le_of_ble_eq_true rfl) (by decide +kernel) (fun G25 hL26 => ?_)
    refine g_seg [(340, .iload 11, 2)] 342 [(11, .int ((zT (nI bn) T) i 2)), (0, .ref x), (1, .ref s), (2, .int v), (3, .int (nI nt)), (4, .int (nI nf)), (5, .int (nI i)), (6, .int f)] [.int ((zT (nI bn) T) i 2), .int (T i 2)] C (by decide +kernel) rfl ?_
    refine g_icmp_ne (pc := 342) (off := 7) 349 C (by decide +kernel) (by decide) (fun c9 => absurd (rfl) c9) (fun _ => ?_)
    refine g_seg [(345, .iconst 1, 1), (346, .goto 4, 3)] 350 [(11, .int ((zT (nI bn) T) i 2)), (0, .ref x), (1, .ref s), (2, .int v), (3, .int (nI nt)), (4, .int (nI nf)), (5, .int (nI i)), (6, .int f)] [.int 1] C (by decide +kernel) rfl ?_
    exact g_zret (pc := 350) C R (by first | rfl | decide) (⟨_, rfl, rfl, G222, rt, rd, nt, nf, nc, nn, _, _, _, _, hL26, RS.ext hS24 (fun i9 k9 _ _ => z_weigh i9 k9) (fun _ _ _ _ => rfl) (fun _ _ _ _ => rfl) (fun _ _ _ _ => rfl), hv.weigh hi (by omega)⟩) (by show (0 + 1) ≤ 3; omega) (by show (0 + 6) ≤ 38; omega) (by decide +kernel)
  · refine g_seg [(284, .iconst 1, 1)] 285 [(0, .ref x), (1, .ref s), (2, .int v), (3, .int (nI nt)), (4, .int (nI nf)), (5, .int t), (6, .int f)] [.int 1] C (by decide +kernel) rfl ?_
    exact g_zret (pc := 285) C R (by first | rfl | decide) (⟨_, rfl, rfl, G2, rt, rd, nt, nf, nc, nn, T, E, Cu, N, hL, hS, hv⟩) (by show 0 ≤ 3; omega) (by show 0 ≤ 38; omega) (by decide +kernel)
set_option maxHeartbeats 4000000 in
set_option maxRecDepth 100000 in
theorem t_mend {κ : Kx} {l : Launch} {D : va_G} {cy : Nat → ClassId} {G G2 : GG} {x s bn : Nat} {rt : Nat → Nat} {rd : Nat → Nat → Nat} {nt nf nc nn : Nat} {T E Cu N : Rw} {v t f : Int32} (C : g_OK κ l D cy yL_act 20 method_4_code kL_act (some .boolean)) (R : g_RT κ (pI (fun r G' => r = 1 ∧ LA cy x s bn G')) kL_act) (X : g_XX κ) (hL : LX cy x (nI bn) nt nf nc nn T E Cu N G2 nG G) (hS : RS cy s rt rd (nI bn) nt nf nc nn (zT (nI bn) T) (zF (nI bn) E) Cu N G2) (hv : vI bn nt nf nc T E Cu) (hbn : bn ≤ 50) (i : Nat) (hi : i < nt) (ht : t = nI i) : PG κ 20 0 0 G [(0, .ref x), (1, .ref s), (2, .int v), (3, .int (nI nt)), (4, .int (nI nf)), (5, .int t), (6, .int f)] 351 [] := by
  have hbd := LX.bd hL
  refine g_seg [(351, .aload_n 1, 1)] 352 [(0, .ref x), (1, .ref s), (2, .int v), (3, .int (nI nt)), (4, .int (nI nf)), (5, .int t), (6, .int f)] [.ref s] C (by decide +kernel) rfl ?_
  refine g_getf (pc := 352) (k := 0) (v := .ref (rt 0)) C fl_L_9 ((LX.rs hL hS).1.1) rfl (by decide +kernel) ?_
  refine g_seg [(355, .iload 5, 2)] 357 [(0, .ref x), (1, .ref s), (2, .int v), (3, .int (nI nt)), (4, .int (nI nf)), (5, .int t), (6, .int f)] [.int t, .ref (rt 0)] C (by decide +kernel) rfl ?_
  refine g_aaldS (pc := 357) (j := i) C ((LX.rs hL hS).1.2.1) (ht) (hi) (by omega) (by decide +kernel) ?_
  refine g_seg [(358, .iconst 4, 1)] 359 [(0, .ref x), (1, .ref s), (2, .int v), (3, .int (nI nt)), (4, .int (nI nf)), (5, .int t), (6, .int f)] [.int 4, .ref (rd 0 i)] C (by decide +kernel) rfl ?_
  refine g_ialdM (pc := 359) (n := 7) 4 ((zT (nI bn) T) i 4) C ((LX.rs hL hS).2.1.1 i hi) rfl (by decide) (by decide) (cut_lt (by decide)) (by decide +kernel) ?_
  refine g_seg [(360, .istore 12, 2), (362, .aload_n 1, 1)] 363 [(12, .int ((zT (nI bn) T) i 4)), (0, .ref x), (1, .ref s), (2, .int v), (3, .int (nI nt)), (4, .int (nI nf)), (5, .int t), (6, .int f)] [.ref s] C (by decide +kernel) rfl ?_
  refine g_getf (pc := 363) (k := 0) (v := .ref (rt 0)) C fl_L_9 ((LX.rs hL hS).1.1) rfl (by decide +kernel) ?_
  refine g_seg [(366, .iload 5, 2)] 368 [(12, .int ((zT (nI bn) T) i 4)), (0, .ref x), (1, .ref s), (2, .int v), (3, .int (nI nt)), (4, .int (nI nf)), (5, .int t), (6, .int f)] [.int t, .ref (rt 0)] C (by decide +kernel) rfl ?_
  refine g_aaldS (pc := 368) (j := i) C ((LX.rs hL hS).1.2.1) (ht) (hi) (by omega) (by decide +kernel) ?_
  refine g_seg [(369, .iconst 4, 1), (370, .iconst 0, 1)] 371 [(12, .int ((zT (nI bn) T) i 4)), (0, .ref x), (1, .ref s), (2, .int v), (3, .int (nI nt)), (4, .int (nI nf)), (5, .int t), (6, .int f)] [.int 0, .int 4, .ref (rd 0 i)] C (by decide +kernel) rfl ?_
  refine g_iastM (pc := 371) (n := 7) 4 (cut 7 ((s_set (zT (nI bn) T) i 4 0) i)) C ((LX.rs hL hS).2.1.1 i hi) rfl (by decide) (by decide) (cut_upd (by decide)) (by decide +kernel) ?_
  refine g_abs (P := fun G9 => ∃ G29 : GG, LX cy x (nI bn) nt nf nc nn T E Cu N G29 nG G9 ∧ RS cy s rt rd (nI bn) nt nf nc nn (s_set (zT (nI bn) T) i 4 0) (zF (nI bn) E) Cu N G29) ⟨_, LX.p2 hL (hS.2.1.1 i hi), RS.w0 hS hi (fun j9 h9 => s_set_ne h9)⟩ (fun G11 hg => ?_)
  obtain ⟨G212, hL13, hS14⟩ := hg
  refine g_seg [(372, .aload_n 1, 1)] 373 [(12, .int ((zT (nI bn) T) i 4)), (0, .ref x), (1, .ref s), (2, .int v), (3, .int (nI nt)), (4, .int (nI nf)), (5, .int t), (6, .int f)] [.ref s] C (by decide +kernel) rfl ?_
  refine g_getf (pc := 373) (k := 0) (v := .ref (rt 0)) C fl_L_9 ((LX.rs hL13 hS14).1.1) rfl (by decide +kernel) ?_
  refine g_seg [(376, .iload 5, 2)] 378 [(12, .int ((zT (nI bn) T) i 4)), (0, .ref x), (1, .ref s), (2, .int v), (3, .int (nI nt)), (4, .int (nI nf)), (5, .int t), (6, .int f)] [.int t, .ref (rt 0)] C (by decide +kernel) rfl ?_
  refine g_aaldS (pc := 378) (j := i) C ((LX.rs hL13 hS14).1.2.1) (ht) (hi) (by omega) (by decide +kernel) ?_
  refine g_seg [(379, .iconst 5, 1), (380, .iconst 1, 1)] 381 [(12, .int ((zT (nI bn) T) i 4)), (0, .ref x), (1, .ref s), (2, .int v), (3, .int (nI nt)), (4, .int (nI nf)), (5, .int t), (6, .int f)] [.int 1, .int 5, .ref (rd 0 i)] C (by decide +kernel) rfl ?_
  refine g_iastM (pc := 381) (n := 7) 5 (cut 7 ((s_set (s_set (zT (nI bn) T) i 4 0) i 5 1) i)) C ((LX.rs hL13 hS14).2.1.1 i hi) rfl (by decide) (by decide) (cut_upd (by decide)) (by decide +kernel) ?_
  refine g_abs (P := fun G9 => ∃ G29 : GG, LX cy x (nI bn) nt nf nc nn T E Cu N G29 nG G9 ∧ RS cy s rt rd (nI bn) nt nf nc nn (s_set (s_set (zT (nI bn) T) i 4 0) i 5 1) (zF (nI bn) E) Cu N G29) ⟨_, LX.p2 hL13 (hS14.2.1.1 i hi), RS.w0 hS14 hi (fun j9 h9 => s_set_ne h9)⟩ (fun G15 hg => ?_)
  obtain ⟨G216, hL17, hS18⟩ := hg
  refine g_seg [(382, .aload_n 0, 1), (383, .iload 5, 2)] 385 [(12, .int ((zT (nI bn) T) i 4)), (0, .ref x), (1, .ref s), (2, .int v), (3, .int (nI nt)), (4, .int (nI nf)), (5, .int t), (6, .int f)] [.int t, .ref x] C (by decide +kernel) rfl ?_
  subst ht
  refine g_wmend (pc := 385) C X hL17 hi q481 ⟨⟨(Nat.le_of_ble_eq_true rfl), (Nat.le_of_ble_eq_true rfl)⟩, (by show 0 + 1 ≤ 3; omega), (by show 0 + 6 ≤ 38; omega)⟩ (Nat.le_of_ble_eq_true rfl) (by decide +kernel) (fun G19 hL20 => ?_)
  refine g_seg [(388, .iload 12, 2)] 390 [(12, .int ((zT (nI bn) T) i 4)), (0, .ref x), (1, .ref s), (2, .int v), (3, .int (nI nt)), (4, .int (nI nf)), (5, .int (nI i)), (6, .int f)] [.int ((zT (nI bn) T) i 4), .int (T i 4)] C (by decide +kernel) rfl ?_
  refine g_icmp_ne (pc := 390) (off := 7) 397 C (by decide +kernel) (by decide) (fun c9 => absurd (rfl) c9) (fun _ => ?_)
  refine g_seg [(393, .iconst 1, 1), (394, .goto 4, 3)] 398 [(12, .int ((zT (nI bn) T) i 4)), (0, .ref x), (1, .ref s), (2, .int v), (3, .int (nI nt)), (4, .int (nI nf)), (5, .int (nI i)), (6, .int f)] [.int 1] C (by decide +kernel) rfl ?_
  exact g_zret (pc := 398) C R (by first | rfl | decide) (⟨_, rfl, rfl, G216, rt, rd, nt, nf, nc, nn, _, _, _, _, hL20, RS.ext hS18 (fun i9 k9 _ _ => z_mend i9 k9) (fun _ _ _ _ => rfl) (fun _ _ _ _ => rfl) (fun _ _ _ _ => rfl), hv.mend hi⟩) (by show (0 + 1) ≤ 3; omega) (by show (0 + 6) ≤ 38; omega) (by decide +kernel)
set_option maxHeartbeats 4000000 in
set_option maxRecDepth 100000 in
theorem t_join {κ : Kx} {l : Launch} {D : va_G} {cy : Nat → ClassId} {G G2 : GG} {x s bn : Nat} {rt : Nat → Nat} {rd : Nat → Nat → Nat} {nt nf nc nn : Nat} {T E Cu N : Rw} {v t f : Int32} (C : g_OK κ l D cy yL_act 20 method_4_code kL_act (some .boolean)) (R : g_RT κ (pI (fun r G' => r = 1 ∧ LA cy x s bn G')) kL_act) (X : g_XX κ) (hL : LX cy x (nI bn) nt nf nc nn T E Cu N G2 nG G) (hS : RS cy s rt rd (nI bn) nt nf nc nn (zT (nI bn) T) (zF (nI bn) E) Cu N G2) (hv : vI bn nt nf nc T E Cu) (hbn : bn ≤ 50) : PG κ 20 0 0 G [(0, .ref x), (1, .ref s), (2, .int v), (3, .int (nI nt)), (4, .int (nI nf)), (5, .int t), (6, .int f)] 399 [] := by
  have hbd := LX.bd hL
  refine g_seg [(399, .iload 4, 2), (401, .bipush 8, 2)] 403 [(0, .ref x), (1, .ref s), (2, .int v), (3, .int (nI nt)), (4, .int (nI nf)), (5, .int t), (6, .int f)] [.int 8, .int (nI nf)] C (by decide +kernel) rfl ?_
  refine g_icmp_ne (pc := 403) (off := 5) 408 C (by decide +kernel) (by decide) (fun c11 => ?_) (fun c11 => ?_)
  · have hn8 : nf < 8 := by have e9 : nf ≠ 8 := fun e9 => c11 (by rw [e9]; rfl); omega
    refine g_seg [(408, .aload_n 1, 1), (409, .aload_n 1, 1)] 410 [(0, .ref x), (1, .ref s), (2, .int v), (3, .int (nI nt)), (4, .int (nI nf)), (5, .int t), (6, .int f)] [.ref s, .ref s] C (by decide +kernel) rfl ?_
    refine g_getf (pc := 410) (k := 1) (v := .ref (rt 1)) C fl_L_15 ((LX.rs hL hS).1.1) rfl (by decide +kernel) ?_
    refine g_seg [(413, .iconst 5, 1)] 414 [(0, .ref x), (1, .ref s), (2, .int v), (3, .int (nI nt)), (4, .int (nI nf)), (5, .int t), (6, .int f)] [.int 5, .ref (rt 1), .ref s] C (by decide +kernel) rfl ?_
    refine g_newi (pc := 414) (N' := 5) C q394 (by decide) (by decide) (by decide) (by show 0 + 1 ≤ 3; omega) (by show 0 + 5 ≤ 38; omega) (by decide +kernel) (fun q12 hq13 => ?_)
    have hn_q12 := LX.g3n hL hq13
    refine g_abs (P := fun G9 => ∃ G39 : GG, LX cy x (nI bn) nt nf nc nn T E Cu N G2 G39 G9 ∧ G39 q12 = some (.inl (cy 0, 5, .inl (fun _ => 0)))) ⟨_, LX.n3 hL hq13, g_up_self ..⟩ (fun G14 hg => ?_)
    obtain ⟨G315, hL16, ha17⟩ := hg
    refine g_seg [(416, .dup, 1), (417, .iconst 0, 1), (418, .iconst 0, 1)] 419 [(0, .ref x), (1, .ref s), (2, .int v), (3, .int (nI nt)), (4, .int (nI nf)), (5, .int t), (6, .int f)] [.int 0, .int 0, .ref q12, .ref q12, .ref (rt 1), .ref s] C (by decide +kernel) rfl ?_
    refine g_iastM (pc := 419) (n := 5) 0 (upd (fun _ => 0) 0 0) C (LX.g3 hL16 ha17) (rfl) (by decide) (by omega) (rfl) (by decide +kernel) ?_
    refine g_abs (P := fun G9 => ∃ G39 : GG, LX cy x (nI bn) nt nf nc nn T E Cu N G2 G39 G9 ∧ G39 q12 = some (.inl (cy 0, 5, .inl (upd (fun _ => 0) 0 0)))) ⟨_, LX.p3 hL16 ha17, g_up_self ..⟩ (fun G18 hg => ?_)
    obtain ⟨G319, hL20, ha21⟩ := hg
    refine g_seg [(420, .dup, 1), (421, .iconst 1, 1), (422, .iconst (-1), 1)] 423 [(0, .ref x), (1, .ref s), (2, .int v), (3, .int (nI nt)), (4, .int (nI nf)), (5, .int t), (6, .int f)] [.int (-1), .int 1, .ref q12, .ref q12, .ref (rt 1), .ref s] C (by decide +kernel) rfl ?_
    refine g_iastM (pc := 423) (n := 5) 1 (upd (upd (fun _ => 0) 0 0) 1 (-1)) C (LX.g3 hL20 ha21) (rfl) (by decide) (by omega) (rfl) (by decide +kernel) ?_
    refine g_abs (P := fun G9 => ∃ G39 : GG, LX cy x (nI bn) nt nf nc nn T E Cu N G2 G39 G9 ∧ G39 q12 = some (.inl (cy 0, 5, .inl (upd (upd (fun _ => 0) 0 0) 1 (-1))))) ⟨_, LX.p3 hL20 ha21, g_up_self ..⟩ (fun G22 hg => ?_)
    obtain ⟨G323, hL24, ha25⟩ := hg
    refine g_seg [(424, .dup, 1), (425, .iconst 2, 1), (426, .iconst 0, 1)] 427 [(0, .ref x), (1, .ref s), (2, .int v), (3, .int (nI nt)), (4, .int (nI nf)), (5, .int t), (6, .int f)] [.int 0, .int 2, .ref q12, .ref q12, .ref (rt 1), .ref s] C (by decide +kernel) rfl ?_
    refine g_iastM (pc := 427) (n := 5) 2 (upd (upd (upd (fun _ => 0) 0 0) 1 (-1)) 2 0) C (LX.g3 hL24 ha25) (rfl) (by decide) (by omega) (rfl) (by decide +kernel) ?_
    refine g_abs (P := fun G9 => ∃ G39 : GG, LX cy x (nI bn) nt nf nc nn T E Cu N G2 G39 G9 ∧ G39 q12 = some (.inl (cy 0, 5, .inl (upd (upd (upd (fun _ => 0) 0 0) 1 (-1)) 2 0)))) ⟨_, LX.p3 hL24 ha25, g_up_self ..⟩ (fun G26 hg => ?_)
    obtain ⟨G327, hL28, ha29⟩ := hg
    refine g_seg [(428, .dup, 1), (429, .iconst 3, 1), (430, .iconst (-1), 1)] 431 [(0, .ref x), (1, .ref s), (2, .int v), (3, .int (nI nt)), (4, .int (nI nf)), (5, .int t), (6, .int f)] [.int (-1), .int 3, .ref q12, .ref q12, .ref (rt 1), .ref s] C (by decide +kernel) rfl ?_
    refine g_iastM (pc := 431) (n := 5) 3 (upd (upd (upd (upd (fun _ => 0) 0 0) 1 (-1)) 2 0) 3 (-1)) C (LX.g3 hL28 ha29) (rfl) (by decide) (by omega) (rfl) (by decide +kernel) ?_
    refine g_abs (P := fun G9 => ∃ G39 : GG, LX cy x (nI bn) nt nf nc nn T E Cu N G2 G39 G9 ∧ G39 q12 = some (.inl (cy 0, 5, .inl (upd (upd (upd (upd (fun _ => 0) 0 0) 1 (-1)) 2 0) 3 (-1))))) ⟨_, LX.p3 hL28 ha29, g_up_self ..⟩ (fun G30 hg => ?_)
    obtain ⟨G331, hL32, ha33⟩ := hg
    refine g_seg [(432, .dup, 1), (433, .iconst 4, 1), (434, .iconst 0, 1)] 435 [(0, .ref x), (1, .ref s), (2, .int v), (3, .int (nI nt)), (4, .int (nI nf)), (5, .int t), (6, .int f)] [.int 0, .int 4, .ref q12, .ref q12, .ref (rt 1), .ref s] C (by decide +kernel) rfl ?_
    refine g_iastM (pc := 435) (n := 5) 4 (upd (upd (upd (upd (upd (fun _ => 0) 0 0) 1 (-1)) 2 0) 3 (-1)) 4 0) C (LX.g3 hL32 ha33) (rfl) (by decide) (by omega) (rfl) (by decide +kernel) ?_
    refine g_abs (P := fun G9 => ∃ G39 : GG, LX cy x (nI bn) nt nf nc nn T E Cu N G2 G39 G9 ∧ G39 q12 = some (.inl (cy 0, 5, .inl (upd (upd (upd (upd (upd (fun _ => 0) 0 0) 1 (-1)) 2 0) 3 (-1)) 4 0)))) ⟨_, LX.p3 hL32 ha33, g_up_self ..⟩ (fun G34 hg => ?_)
    obtain ⟨G335, hL36, ha37⟩ := hg
    have ha38c : (upd (upd (upd (upd (upd (fun _ => 0) 0 0) 1 (-1)) 2 0) 3 (-1)) 4 0) = cut 5 rowG := row5
    have ha38 : G335 q12 = some (.inl (cy 0, 5, .inl (cut 5 rowG))) := by rw [← ha38c]; exact ha37
    refine g_callS (pc := 436) C mS_X5_more q406 (c_X5_more l D cy G34 (rt 1) q12 nf (rd 1) (by omega) ((LX.rs hL36 hS).1.2.2.1) (fun i9 h9 => ⟨_, _, (LX.rs hL36 hS).2.1.2.1 i9 h9⟩) ⟨_, _, LX.g3 hL36 ha38⟩) rfl ⟨⟨(Nat.le_of_ble_eq_true rfl), (Nat.le_of_ble_eq_true rfl)⟩, (by show (0 + 1) + 1 ≤ 3; omega), (by show (0 + 5) + 21 ≤ 38; omega)⟩ rfl (Nat.le_of_ble_eq_true rfl) (by decide +kernel) ?_
    refine g_kA (fun v9 G9 hp9 => ?_)
    obtain ⟨qt, rfl, hqt, rfl⟩ := hp9
    refine g_putf (pc := 439) (k := 1) (v := .ref qt) (ty := (.array (.array .int))) C fl_L_15 fp_X5_1 (by rw [g_up_ne (g_fresh hqt (LX.rs hL36 hS).1.1)]; exact (LX.rs hL36 hS).1.1) rfl (by first | rfl | decide) (Nat.le_of_ble_eq_true rfl) (by decide +kernel) ?_
    obtain ⟨rt1, rd1, hS1⟩ := RS.add1 (cy := cy) (r := rowG) (t := qt) (q := q12) hS hn8 (LX.n2 hL36 ha38) (sG.up (sG.rf _) (LX.n2 hL36 ha38)) (g_up_self ..) (LX.t2 hL36 ha38 hqt) rfl
    have hL1 := LX.more (e2 := oA (cy 5) (nf + 1) (fun i => if i < nf then rd 1 i else q12) (nf + 1)) (e3 := oS (fun k => if k = 1 then qt else rt k) (nI bn)) hL36 ha38 hqt hS.1.1
    refine g_abs (P := fun G9 => ∃ G29 : GG, LX cy x (nI bn) nt nf nc nn T E Cu N G29 nG G9 ∧ RS cy s rt1 rd1 (nI bn) nt (nf + 1) nc nn (zT (nI bn) T) (s_add (zF (nI bn) E) nf rowG) Cu N G29) ⟨_, hL1, hS1⟩ (fun G5 hg => ?_)
    obtain ⟨G25, hL5, hS5⟩ := hg
    refine g_seg [(442, .aload_n 0, 1)] 443 [(0, .ref x), (1, .ref s), (2, .int v), (3, .int (nI nt)), (4, .int (nI nf)), (5, .int t), (6, .int f)] [.ref x] C (by decide +kernel) rfl ?_
    refine g_wjoin (pc := 443) C X hL5 hn8 q489 ⟨⟨(Nat.le_of_ble_eq_true rfl), (Nat.le_of_ble_eq_true rfl)⟩, (by show ((0 + 1) + 1) + 1 ≤ 3; omega), (by show ((0 + 5) + 21) + 10 ≤ 38; omega)⟩ (Nat.le_of_ble_eq_true rfl) (by decide +kernel) (fun G39 hL40 => ?_)
    refine g_seg [(446, .iload 4, 2)] 448 [(0, .ref x), (1, .ref s), (2, .int v), (3, .int (nI nt)), (4, .int (nI nf)), (5, .int t), (6, .int f)] [.int (nI nf), .int (nI nf)] C (by decide +kernel) rfl ?_
    refine g_icmp_ne (pc := 448) (off := 7) 455 C (by decide +kernel) (by decide) (fun c9 => absurd (rfl) c9) (fun _ => ?_)
    refine g_seg [(451, .iconst 1, 1), (452, .goto 4, 3)] 456 [(0, .ref x), (1, .ref s), (2, .int v), (3, .int (nI nt)), (4, .int (nI nf)), (5, .int t), (6, .int f)] [.int 1] C (by decide +kernel) rfl ?_
    exact g_zret (pc := 456) C R (by first | rfl | decide) (⟨_, rfl, rfl, G25, rt1, rd1, nt, (nf + 1), nc, nn, _, _, _, _, hL40, RS.ext hS5 (fun _ _ _ _ => rfl) (fun i k _ hk => z_join i k hk) (fun _ _ _ _ => rfl) (fun _ _ _ _ => rfl), hv.join hn8⟩) (by show (((0 + 1) + 1) + 1) ≤ 3; omega) (by show (((0 + 5) + 21) + 10) ≤ 38; omega) (by decide +kernel)
  · refine g_seg [(406, .iconst 1, 1)] 407 [(0, .ref x), (1, .ref s), (2, .int v), (3, .int (nI nt)), (4, .int (nI nf)), (5, .int t), (6, .int f)] [.int 1] C (by decide +kernel) rfl ?_
    exact g_zret (pc := 407) C R (by first | rfl | decide) (⟨_, rfl, rfl, G2, rt, rd, nt, nf, nc, nn, T, E, Cu, N, hL, hS, hv⟩) (by show 0 ≤ 3; omega) (by show 0 ≤ 38; omega) (by decide +kernel)
set_option maxHeartbeats 4000000 in
set_option maxRecDepth 100000 in
theorem t_mount {κ : Kx} {l : Launch} {D : va_G} {cy : Nat → ClassId} {G G2 : GG} {x s bn : Nat} {rt : Nat → Nat} {rd : Nat → Nat → Nat} {nt nf nc nn : Nat} {T E Cu N : Rw} {v t f : Int32} (C : g_OK κ l D cy yL_act 20 method_4_code kL_act (some .boolean)) (R : g_RT κ (pI (fun r G' => r = 1 ∧ LA cy x s bn G')) kL_act) (X : g_XX κ) (hL : LX cy x (nI bn) nt nf nc nn T E Cu N G2 nG G) (hS : RS cy s rt rd (nI bn) nt nf nc nn (zT (nI bn) T) (zF (nI bn) E) Cu N G2) (hv : vI bn nt nf nc T E Cu) (hbn : bn ≤ 50) (i : Nat) (hi : i < nf) (hf : f = nI i) (j : Nat) (hj : j < nt) (ht : t = nI j) : PG κ 20 0 0 G [(0, .ref x), (1, .ref s), (2, .int v), (3, .int (nI nt)), (4, .int (nI nf)), (5, .int t), (6, .int f)] 457 [] := by
  have hbd := LX.bd hL
  subst hf
  subst ht
  refine g_seg [(457, .aload_n 1, 1)] 458 [(0, .ref x), (1, .ref s), (2, .int v), (3, .int (nI nt)), (4, .int (nI nf)), (5, .int (nI j)), (6, .int (nI i))] [.ref s] C (by decide +kernel) rfl ?_
  refine g_getf (pc := 458) (k := 1) (v := .ref (rt 1)) C fl_L_15 ((LX.rs hL hS).1.1) rfl (by decide +kernel) ?_
  refine g_seg [(461, .iload 6, 2)] 463 [(0, .ref x), (1, .ref s), (2, .int v), (3, .int (nI nt)), (4, .int (nI nf)), (5, .int (nI j)), (6, .int (nI i))] [.int (nI i), .ref (rt 1)] C (by decide +kernel) rfl ?_
  refine g_aaldS (pc := 463) (j := i) C ((LX.rs hL hS).1.2.2.1) (rfl) (hi) (by omega) (by decide +kernel) ?_
  refine g_seg [(464, .iconst 0, 1)] 465 [(0, .ref x), (1, .ref s), (2, .int v), (3, .int (nI nt)), (4, .int (nI nf)), (5, .int (nI j)), (6, .int (nI i))] [.int 0, .ref (rd 1 i)] C (by decide +kernel) rfl ?_
  refine g_ialdM (pc := 465) (n := 5) 0 ((zF (nI bn) E) i 0) C ((LX.rs hL hS).2.1.2.1 i hi) rfl (by decide) (by decide) (cut_lt (by decide)) (by decide +kernel) ?_
  refine g_seg [(466, .istore 13, 2)] 468 [(13, .int ((zF (nI bn) E) i 0)), (0, .ref x), (1, .ref s), (2, .int v), (3, .int (nI nt)), (4, .int (nI nf)), (5, .int (nI j)), (6, .int (nI i))] [] C (by decide +kernel) rfl ?_
  have j479 : (E i 0 = 0 ∨ E i 0 = 3) → PG κ 20 0 0 G [(13, .int ((zF (nI bn) E) i 0)), (0, .ref x), (1, .ref s), (2, .int v), (3, .int (nI nt)), (4, .int (nI nf)), (5, .int (nI j)), (6, .int (nI i))] 479 [] := by
    intro hst
    refine g_seg [(479, .aload_n 1, 1)] 480 [(13, .int ((zF (nI bn) E) i 0)), (0, .ref x), (1, .ref s), (2, .int v), (3, .int (nI nt)), (4, .int (nI nf)), (5, .int (nI j)), (6, .int (nI i))] [.ref s] C (by decide +kernel) rfl ?_
    refine g_getf (pc := 480) (k := 0) (v := .ref (rt 0)) C fl_L_9 ((LX.rs hL hS).1.1) rfl (by decide +kernel) ?_
    refine g_seg [(483, .iload 5, 2)] 485 [(13, .int ((zF (nI bn) E) i 0)), (0, .ref x), (1, .ref s), (2, .int v), (3, .int (nI nt)), (4, .int (nI nf)), (5, .int (nI j)), (6, .int (nI i))] [.int (nI j), .ref (rt 0)] C (by decide +kernel) rfl ?_
    refine g_aaldS (pc := 485) (j := j) C ((LX.rs hL hS).1.2.1) (rfl) (hj) (by omega) (by decide +kernel) ?_
    refine g_seg [(486, .iconst 5, 1)] 487 [(13, .int ((zF (nI bn) E) i 0)), (0, .ref x), (1, .ref s), (2, .int v), (3, .int (nI nt)), (4, .int (nI nf)), (5, .int (nI j)), (6, .int (nI i))] [.int 5, .ref (rd 0 j)] C (by decide +kernel) rfl ?_
    refine g_ialdM (pc := 487) (n := 7) 5 ((zT (nI bn) T) j 5) C ((LX.rs hL hS).2.1.1 j hj) rfl (by decide) (by decide) (cut_lt (by decide)) (by decide +kernel) ?_
    refine g_if_eq (pc := 488) (off := 13) 501 C (by decide +kernel) (by decide) (fun c11 => ?_) (fun c11 => ?_)
    · refine g_seg [(501, .iconst 1, 1)] 502 [(13, .int ((zF (nI bn) E) i 0)), (0, .ref x), (1, .ref s), (2, .int v), (3, .int (nI nt)), (4, .int (nI nf)), (5, .int (nI j)), (6, .int (nI i))] [.int 1] C (by decide +kernel) rfl ?_
      exact g_zret (pc := 502) C R (by first | rfl | decide) (⟨_, rfl, rfl, G2, rt, rd, nt, nf, nc, nn, T, E, Cu, N, hL, hS, hv⟩) (by show 0 ≤ 3; omega) (by show 0 ≤ 38; omega) (by decide +kernel)
    · refine g_seg [(491, .aload_n 1, 1), (492, .iload 5, 2)] 494 [(13, .int ((zF (nI bn) E) i 0)), (0, .ref x), (1, .ref s), (2, .int v), (3, .int (nI nt)), (4, .int (nI nf)), (5, .int (nI j)), (6, .int (nI i))] [.int (nI j), .ref s] C (by decide +kernel) rfl ?_
      refine g_rH (pc := 494) C hL hS q535 ⟨⟨(Nat.le_of_ble_eq_true rfl), (Nat.le_of_ble_eq_true rfl)⟩, (by show 0 + 0 ≤ 3; omega), (by show 0 + 0 ≤ 38; omega)⟩ (Nat.le_of_ble_eq_true rfl) (by decide +kernel) (fun G12 hL13 => ?_)
      refine g_seg [(497, .iconst 2, 1)] 498 [(13, .int ((zF (nI bn) E) i 0)), (0, .ref x), (1, .ref s), (2, .int v), (3, .int (nI nt)), (4, .int (nI nf)), (5, .int (nI j)), (6, .int (nI i))] [.int 2, .int (nI (s_hangE (zF (nI bn) E) nf (nI j)))] C (by decide +kernel) rfl ?_
      refine g_icmp_ne (pc := 498) (off := 5) 503 C (by decide +kernel) (by decide) (fun c14 => ?_) (fun c14 => ?_)
      · refine g_seg [(503, .aload_n 1, 1), (504, .aload_n 1, 1)] 505 [(13, .int ((zF (nI bn) E) i 0)), (0, .ref x), (1, .ref s), (2, .int v), (3, .int (nI nt)), (4, .int (nI nf)), (5, .int (nI j)), (6, .int (nI i))] [.ref s, .ref s] C (by decide +kernel) rfl ?_
        refine g_getf (pc := 505) (k := 1) (v := .ref (rt 1)) C fl_L_15 ((LX.rs hL13 hS).1.1) rfl (by decide +kernel) ?_
        refine g_seg [(508, .iload 6, 2)] 510 [(13, .int ((zF (nI bn) E) i 0)), (0, .ref x), (1, .ref s), (2, .int v), (3, .int (nI nt)), (4, .int (nI nf)), (5, .int (nI j)), (6, .int (nI i))] [.int (nI i), .ref (rt 1), .ref s] C (by decide +kernel) rfl ?_
        refine g_aaldS (pc := 510) (j := i) C ((LX.rs hL13 hS).1.2.2.1) (rfl) (hi) (by omega) (by decide +kernel) ?_
        refine g_seg [(511, .iconst 1, 1), (512, .iload 5, 2), (514, .iconst 0, 1), (515, .iconst (-1), 1)] 516 [(13, .int ((zF (nI bn) E) i 0)), (0, .ref x), (1, .ref s), (2, .int v), (3, .int (nI nt)), (4, .int (nI nf)), (5, .int (nI j)), (6, .int (nI i))] [.int (-1), .int 0, .int (nI j), .int 1, .ref (rd 1 i), .ref s] C (by decide +kernel) rfl ?_
        refine g_wstate (pc := 516) C hL13 hS hi q536 ⟨⟨(Nat.le_of_ble_eq_true rfl), (Nat.le_of_ble_eq_true rfl)⟩, (by show (0 + 0) + 0 ≤ 3; omega), (by show (0 + 0) + 0 ≤ 38; omega)⟩ (Nat.le_of_ble_eq_true rfl) (by decide +kernel) (fun G15 G216 hL17 hS18 => ?_)
        refine g_seg [(519, .aload_n 0, 1), (520, .iload 6, 2), (522, .iload 5, 2)] 524 [(13, .int ((zF (nI bn) E) i 0)), (0, .ref x), (1, .ref s), (2, .int v), (3, .int (nI nt)), (4, .int (nI nf)), (5, .int (nI j)), (6, .int (nI i))] [.int (nI j), .int (nI i), .ref x] C (by decide +kernel) rfl ?_
        refine g_wmount (pc := 524) C X hL17 hi hj hst c11 (nI_lt2 (hang_lt (hv.1 j hj).2.2.2.2.2 c14)) q537 ⟨⟨(Nat.le_of_ble_eq_true rfl), (Nat.le_of_ble_eq_true rfl)⟩, (by show ((0 + 0) + 0) + 1 ≤ 3; omega), (by show ((0 + 0) + 0) + 6 ≤ 38; omega)⟩ (Nat.le_of_ble_eq_true rfl) (by decide +kernel) (fun G19 hL20 => ?_)
        refine g_seg [(527, .aload_n 1, 1), (528, .iload 5, 2)] 530 [(13, .int ((zF (nI bn) E) i 0)), (0, .ref x), (1, .ref s), (2, .int v), (3, .int (nI nt)), (4, .int (nI nf)), (5, .int (nI j)), (6, .int (nI i))] [.int (nI j), .ref s, .int (nI (s_hangE E nf (nI j)) + 1)] C (by decide +kernel) rfl ?_
        refine g_rH (pc := 530) C hL20 hS18 q535 ⟨⟨(Nat.le_of_ble_eq_true rfl), (Nat.le_of_ble_eq_true rfl)⟩, (by show (((0 + 0) + 0) + 1) + 0 ≤ 3; omega), (by show (((0 + 0) + 0) + 6) + 0 ≤ 38; omega)⟩ (Nat.le_of_ble_eq_true rfl) (by decide +kernel) (fun G21 hL22 => ?_)
        refine g_icmp_ne (pc := 533) (off := 7) 540 C (by decide +kernel) (by decide) (fun c9 => absurd ((h_mount hi (by rcases hst with e9 | e9 <;> rw [e9] <;> decide)).symm) c9) (fun _ => ?_)
        refine g_seg [(536, .iconst 1, 1), (537, .goto 4, 3)] 541 [(13, .int ((zF (nI bn) E) i 0)), (0, .ref x), (1, .ref s), (2, .int v), (3, .int (nI nt)), (4, .int (nI nf)), (5, .int (nI j)), (6, .int (nI i))] [.int 1] C (by decide +kernel) rfl ?_
        exact g_zret (pc := 541) C R (by first | rfl | decide) (⟨_, rfl, rfl, G216, rt, rd, nt, nf, nc, nn, _, _, _, _, hL22, RS.ext hS18 (fun _ _ _ _ => rfl) (fun i9 k9 _ h9 => z_mount i9 k9 h9) (fun _ _ _ _ => rfl) (fun _ _ _ _ => rfl), hv.mount hi hj hbd.1 hst c11 (hang_lt (hv.1 j hj).2.2.2.2.2 c14)⟩) (by show ((((0 + 0) + 0) + 1) + 0) ≤ 3; omega) (by show ((((0 + 0) + 0) + 6) + 0) ≤ 38; omega) (by decide +kernel)
      · refine g_seg [(501, .iconst 1, 1)] 502 [(13, .int ((zF (nI bn) E) i 0)), (0, .ref x), (1, .ref s), (2, .int v), (3, .int (nI nt)), (4, .int (nI nf)), (5, .int (nI j)), (6, .int (nI i))] [.int 1] C (by decide +kernel) rfl ?_
        exact g_zret (pc := 502) C R (by first | rfl | decide) (⟨_, rfl, rfl, G2, rt, rd, nt, nf, nc, nn, T, E, Cu, N, hL13, hS, hv⟩) (by show (0 + 0) ≤ 3; omega) (by show (0 + 0) ≤ 38; omega) (by decide +kernel)
  refine g_seg [(468, .iload 13, 2)] 470 [(13, .int ((zF (nI bn) E) i 0)), (0, .ref x), (1, .ref s), (2, .int v), (3, .int (nI nt)), (4, .int (nI nf)), (5, .int (nI j)), (6, .int (nI i))] [.int ((zF (nI bn) E) i 0)] C (by decide +kernel) rfl ?_
  refine g_if_eq (pc := 470) (off := 9) 479 C (by decide +kernel) (by decide) (fun c23 => ?_) (fun c23 => ?_)
  · exact j479 (Or.inl c23)
  · refine g_seg [(473, .iload 13, 2), (475, .iconst 3, 1)] 476 [(13, .int ((zF (nI bn) E) i 0)), (0, .ref x), (1, .ref s), (2, .int v), (3, .int (nI nt)), (4, .int (nI nf)), (5, .int (nI j)), (6, .int (nI i))] [.int 3, .int ((zF (nI bn) E) i 0)] C (by decide +kernel) rfl ?_
    refine g_icmp_ne (pc := 476) (off := 25) 501 C (by decide +kernel) (by decide) (fun c24 => ?_) (fun c24 => ?_)
    · refine g_seg [(501, .iconst 1, 1)] 502 [(13, .int ((zF (nI bn) E) i 0)), (0, .ref x), (1, .ref s), (2, .int v), (3, .int (nI nt)), (4, .int (nI nf)), (5, .int (nI j)), (6, .int (nI i))] [.int 1] C (by decide +kernel) rfl ?_
      exact g_zret (pc := 502) C R (by first | rfl | decide) (⟨_, rfl, rfl, G2, rt, rd, nt, nf, nc, nn, T, E, Cu, N, hL, hS, hv⟩) (by show 0 ≤ 3; omega) (by show 0 ≤ 38; omega) (by decide +kernel)
    · exact j479 (Or.inr c24)
set_option maxHeartbeats 4000000 in
set_option maxRecDepth 100000 in
theorem t_spread {κ : Kx} {l : Launch} {D : va_G} {cy : Nat → ClassId} {G G2 : GG} {x s bn : Nat} {rt : Nat → Nat} {rd : Nat → Nat → Nat} {nt nf nc nn : Nat} {T E Cu N : Rw} {v t f : Int32} (C : g_OK κ l D cy yL_act 20 method_4_code kL_act (some .boolean)) (R : g_RT κ (pI (fun r G' => r = 1 ∧ LA cy x s bn G')) kL_act) (X : g_XX κ) (hL : LX cy x (nI bn) nt nf nc nn T E Cu N G2 nG G) (hS : RS cy s rt rd (nI bn) nt nf nc nn (zT (nI bn) T) (zF (nI bn) E) Cu N G2) (hv : vI bn nt nf nc T E Cu) (hbn : bn ≤ 50) : PG κ 20 0 0 G [(0, .ref x), (1, .ref s), (2, .int v), (3, .int (nI nt)), (4, .int (nI nf)), (5, .int t), (6, .int f)] 542 [] := by
  have hbd := LX.bd hL
  refine g_seg [(542, .aload_n 1, 1)] 543 [(0, .ref x), (1, .ref s), (2, .int v), (3, .int (nI nt)), (4, .int (nI nf)), (5, .int t), (6, .int f)] [.ref s] C (by decide +kernel) rfl ?_
  refine g_getf (pc := 543) (k := 3) (v := .ref (rt 3)) C fl_L_54 ((LX.rs hL hS).1.1) rfl (by decide +kernel) ?_
  refine g_alenI (pc := 546) C ((LX.rs hL hS).1.2.2.2.2) (by decide +kernel) ?_
  refine g_seg [(547, .iconst 3, 1)] 548 [(0, .ref x), (1, .ref s), (2, .int v), (3, .int (nI nt)), (4, .int (nI nf)), (5, .int t), (6, .int f)] [.int 3, .int (nI nn)] C (by decide +kernel) rfl ?_
  refine g_icmp_ne (pc := 548) (off := 5) 553 C (by decide +kernel) (by decide) (fun c11 => ?_) (fun c11 => ?_)
  · have hn3 : nn < 3 := by have e9 : nn ≠ 3 := fun e9 => c11 (by rw [e9]; rfl); omega
    refine g_seg [(553, .iload_n 2, 1), (554, .sipush 150, 3)] 557 [(0, .ref x), (1, .ref s), (2, .int v), (3, .int (nI nt)), (4, .int (nI nf)), (5, .int t), (6, .int f)] [.int 150, .int v] C (by decide +kernel) rfl ?_
    refine g_callS (pc := 557) C mS_L_below q402 (c_L_below l D cy G v 150 150 rfl (by decide) (by decide)) rfl ⟨⟨Nat.le_of_ble_eq_true rfl, Nat.le_of_ble_eq_true rfl⟩, Nat.le_of_ble_eq_true rfl, Nat.le_of_ble_eq_true rfl⟩ rfl (Nat.le_of_ble_eq_true rfl) (by decide +kernel) ?_
    refine g_kI (fun v14 G13 hp12 => ?_)
    obtain ⟨rfl, j15, hj16, rfl⟩ := hp12
    refine g_seg [(560, .bipush 50, 2), (562, .isub, 1), (563, .istore 14, 2), (565, .sipush 150, 3), (568, .iload 14, 2), (570, .iload_n 2, 1), (571, .iconst 3, 1), (572, .ishr, 1), (573, .bipush 60, 2)] 575 [(14, .int ((nI j15) - 50)), (0, .ref x), (1, .ref s), (2, .int v), (3, .int (nI nt)), (4, .int (nI nf)), (5, .int t), (6, .int f)] [.int 60, .int (v >>> (3 &&& 31)), .int ((nI j15) - 50), .int 150] C (by decide +kernel) rfl ?_
    refine g_callS (pc := 575) C mS_L_below q402 (c_L_below l D cy G13 (v >>> (3 &&& 31)) 60 60 rfl (by decide) (by decide)) rfl ⟨⟨Nat.le_of_ble_eq_true rfl, Nat.le_of_ble_eq_true rfl⟩, Nat.le_of_ble_eq_true rfl, Nat.le_of_ble_eq_true rfl⟩ rfl (Nat.le_of_ble_eq_true rfl) (by decide +kernel) ?_
    refine g_kI (fun v19 G18 hp17 => ?_)
    obtain ⟨rfl, j20, hj21, rfl⟩ := hp17
    refine g_seg [(578, .iadd, 1)] 579 [(14, .int ((nI j15) - 50)), (0, .ref x), (1, .ref s), (2, .int v), (3, .int (nI nt)), (4, .int (nI nf)), (5, .int t), (6, .int f)] [.int (((nI j15) - 50) + (nI j20)), .int 150] C (by decide +kernel) rfl ?_
    refine g_mmin (pc := 579) C q547 q548 q31 q549 (Nat.le_of_ble_eq_true rfl) (Nat.le_of_ble_eq_true rfl) (by show 0 ≤ 3; omega) (by show 0 ≤ 38; omega) (by decide +kernel) ?_
    refine g_seg [(582, .istore 15, 2), (584, .aload_n 1, 1), (585, .aload_n 1, 1)] 586 [(15, .int (if (((nI j15) - 50) + (nI j20)) < 150 then (((nI j15) - 50) + (nI j20)) else 150)), (14, .int ((nI j15) - 50)), (0, .ref x), (1, .ref s), (2, .int v), (3, .int (nI nt)), (4, .int (nI nf)), (5, .int t), (6, .int f)] [.ref s, .ref s] C (by decide +kernel) rfl ?_
    refine g_getf (pc := 586) (k := 3) (v := .ref (rt 3)) C fl_L_54 ((LX.rs hL hS).1.1) rfl (by decide +kernel) ?_
    refine g_seg [(589, .iconst 2, 1)] 590 [(15, .int (if (((nI j15) - 50) + (nI j20)) < 150 then (((nI j15) - 50) + (nI j20)) else 150)), (14, .int ((nI j15) - 50)), (0, .ref x), (1, .ref s), (2, .int v), (3, .int (nI nt)), (4, .int (nI nf)), (5, .int t), (6, .int f)] [.int 2, .ref (rt 3), .ref s] C (by decide +kernel) rfl ?_
    refine g_newi (pc := 590) (N' := 2) C q394 (by decide) (by decide) (by decide) (by show 0 + 1 ≤ 3; omega) (by show 0 + 2 ≤ 38; omega) (by decide +kernel) (fun q22 hq23 => ?_)
    have hn_q22 := LX.g3n hL hq23
    refine g_abs (P := fun G9 => ∃ G39 : GG, LX cy x (nI bn) nt nf nc nn T E Cu N G2 G39 G9 ∧ G39 q22 = some (.inl (cy 0, 2, .inl (fun _ => 0)))) ⟨_, LX.n3 hL hq23, g_up_self ..⟩ (fun G24 hg => ?_)
    obtain ⟨G325, hL26, ha27⟩ := hg
    refine g_seg [(592, .dup, 1), (593, .iconst 0, 1), (594, .iload 14, 2)] 596 [(15, .int (if (((nI j15) - 50) + (nI j20)) < 150 then (((nI j15) - 50) + (nI j20)) else 150)), (14, .int ((nI j15) - 50)), (0, .ref x), (1, .ref s), (2, .int v), (3, .int (nI nt)), (4, .int (nI nf)), (5, .int t), (6, .int f)] [.int ((nI j15) - 50), .int 0, .ref q22, .ref q22, .ref (rt 3), .ref s] C (by decide +kernel) rfl ?_
    refine g_iastM (pc := 596) (n := 2) 0 (upd (fun _ => 0) 0 ((nI j15) - 50)) C (LX.g3 hL26 ha27) (rfl) (by decide) (by omega) (rfl) (by decide +kernel) ?_
    refine g_abs (P := fun G9 => ∃ G39 : GG, LX cy x (nI bn) nt nf nc nn T E Cu N G2 G39 G9 ∧ G39 q22 = some (.inl (cy 0, 2, .inl (upd (fun _ => 0) 0 ((nI j15) - 50))))) ⟨_, LX.p3 hL26 ha27, g_up_self ..⟩ (fun G28 hg => ?_)
    obtain ⟨G329, hL30, ha31⟩ := hg
    refine g_seg [(597, .dup, 1), (598, .iconst 1, 1), (599, .iload 15, 2)] 601 [(15, .int (if (((nI j15) - 50) + (nI j20)) < 150 then (((nI j15) - 50) + (nI j20)) else 150)), (14, .int ((nI j15) - 50)), (0, .ref x), (1, .ref s), (2, .int v), (3, .int (nI nt)), (4, .int (nI nf)), (5, .int t), (6, .int f)] [.int (if (((nI j15) - 50) + (nI j20)) < 150 then (((nI j15) - 50) + (nI j20)) else 150), .int 1, .ref q22, .ref q22, .ref (rt 3), .ref s] C (by decide +kernel) rfl ?_
    refine g_iastM (pc := 601) (n := 2) 1 (upd (upd (fun _ => 0) 0 ((nI j15) - 50)) 1 (if (((nI j15) - 50) + (nI j20)) < 150 then (((nI j15) - 50) + (nI j20)) else 150)) C (LX.g3 hL30 ha31) (rfl) (by decide) (by omega) (rfl) (by decide +kernel) ?_
    refine g_abs (P := fun G9 => ∃ G39 : GG, LX cy x (nI bn) nt nf nc nn T E Cu N G2 G39 G9 ∧ G39 q22 = some (.inl (cy 0, 2, .inl (upd (upd (fun _ => 0) 0 ((nI j15) - 50)) 1 (if (((nI j15) - 50) + (nI j20)) < 150 then (((nI j15) - 50) + (nI j20)) else 150))))) ⟨_, LX.p3 hL30 ha31, g_up_self ..⟩ (fun G32 hg => ?_)
    obtain ⟨G333, hL34, ha35⟩ := hg
    have ha36c : (upd (upd (fun _ => 0) 0 ((nI j15) - 50)) 1 (if (((nI j15) - 50) + (nI j20)) < 150 then (((nI j15) - 50) + (nI j20)) else 150)) = cut 2 (rowN ((nI j15) - 50) (if (((nI j15) - 50) + (nI j20)) < 150 then (((nI j15) - 50) + (nI j20)) else 150)) := row2
    have ha36 : G333 q22 = some (.inl (cy 0, 2, .inl (cut 2 (rowN ((nI j15) - 50) (if (((nI j15) - 50) + (nI j20)) < 150 then (((nI j15) - 50) + (nI j20)) else 150))))) := by rw [← ha36c]; exact ha35
    refine g_callS (pc := 602) C mS_X5_more q406 (c_X5_more l D cy G32 (rt 3) q22 nn (rd 3) (by omega) ((LX.rs hL34 hS).1.2.2.2.2) (fun i9 h9 => ⟨_, _, (LX.rs hL34 hS).2.1.2.2.2 i9 h9⟩) ⟨_, _, LX.g3 hL34 ha36⟩) rfl ⟨⟨(Nat.le_of_ble_eq_true rfl), (Nat.le_of_ble_eq_true rfl)⟩, (by show (0 + 1) + 1 ≤ 3; omega), (by show (0 + 2) + 21 ≤ 38; omega)⟩ rfl (Nat.le_of_ble_eq_true rfl) (by decide +kernel) ?_
    refine g_kA (fun v9 G9 hp9 => ?_)
    obtain ⟨qt, rfl, hqt, rfl⟩ := hp9
    refine g_putf (pc := 605) (k := 3) (v := .ref qt) (ty := (.array (.array .int))) C fl_L_54 fp_X5_3 (by rw [g_up_ne (g_fresh hqt (LX.rs hL34 hS).1.1)]; exact (LX.rs hL34 hS).1.1) rfl (by first | rfl | decide) (Nat.le_of_ble_eq_true rfl) (by decide +kernel) ?_
    obtain ⟨rt1, rd1, hS1⟩ := RS.add3 (cy := cy) (r := (rowN ((nI j15) - 50) (if (((nI j15) - 50) + (nI j20)) < 150 then (((nI j15) - 50) + (nI j20)) else 150))) (t := qt) (q := q22) hS hn3 (LX.n2 hL34 ha36) (sG.up (sG.rf _) (LX.n2 hL34 ha36)) (g_up_self ..) (LX.t2 hL34 ha36 hqt) rfl
    have hL1 := LX.more (e2 := oA (cy 5) (nn + 1) (fun i => if i < nn then rd 3 i else q22) (nn + 1)) (e3 := oS (fun k => if k = 3 then qt else rt k) (nI bn)) hL34 ha36 hqt hS.1.1
    refine g_abs (P := fun G9 => ∃ G29 : GG, LX cy x (nI bn) nt nf nc nn T E Cu N G29 nG G9 ∧ RS cy s rt1 rd1 (nI bn) nt nf nc (nn + 1) (zT (nI bn) T) (zF (nI bn) E) Cu (s_add N nn (rowN ((nI j15) - 50) (if (((nI j15) - 50) + (nI j20)) < 150 then (((nI j15) - 50) + (nI j20)) else 150))) G29) ⟨_, hL1, hS1⟩ (fun G5 hg => ?_)
    obtain ⟨G25, hL5, hS5⟩ := hg
    refine g_seg [(608, .aload_n 0, 1), (609, .iload 14, 2), (611, .iload 15, 2)] 613 [(15, .int (if (((nI j15) - 50) + (nI j20)) < 150 then (((nI j15) - 50) + (nI j20)) else 150)), (14, .int ((nI j15) - 50)), (0, .ref x), (1, .ref s), (2, .int v), (3, .int (nI nt)), (4, .int (nI nf)), (5, .int t), (6, .int f)] [.int (if (((nI j15) - 50) + (nI j20)) < 150 then (((nI j15) - 50) + (nI j20)) else 150), .int ((nI j15) - 50), .ref x] C (by decide +kernel) rfl ?_
    refine g_wspread (pc := 613) C X hL5 (okN_n hj16 hj21) hn3 q550 ⟨⟨(Nat.le_of_ble_eq_true rfl), (Nat.le_of_ble_eq_true rfl)⟩, (by show ((0 + 1) + 1) + 1 ≤ 3; omega), (by show ((0 + 2) + 21) + 6 ≤ 38; omega)⟩ (Nat.le_of_ble_eq_true rfl) (by decide +kernel) (fun G37 hL38 => ?_)
    refine g_seg [(616, .aload_n 1, 1)] 617 [(15, .int (if (((nI j15) - 50) + (nI j20)) < 150 then (((nI j15) - 50) + (nI j20)) else 150)), (14, .int ((nI j15) - 50)), (0, .ref x), (1, .ref s), (2, .int v), (3, .int (nI nt)), (4, .int (nI nf)), (5, .int t), (6, .int f)] [.ref s, .int (nI (nn + 1))] C (by decide +kernel) rfl ?_
    refine g_getf (pc := 617) (k := 3) (v := .ref (rt1 3)) C fl_L_54 ((LX.rs hL38 hS5).1.1) rfl (by decide +kernel) ?_
    refine g_alenI (pc := 620) C ((LX.rs hL38 hS5).1.2.2.2.2) (by decide +kernel) ?_
    refine g_icmp_ne (pc := 621) (off := 7) 628 C (by decide +kernel) (by decide) (fun c9 => absurd (rfl) c9) (fun _ => ?_)
    refine g_seg [(624, .iconst 1, 1), (625, .goto 4, 3)] 629 [(15, .int (if (((nI j15) - 50) + (nI j20)) < 150 then (((nI j15) - 50) + (nI j20)) else 150)), (14, .int ((nI j15) - 50)), (0, .ref x), (1, .ref s), (2, .int v), (3, .int (nI nt)), (4, .int (nI nf)), (5, .int t), (6, .int f)] [.int 1] C (by decide +kernel) rfl ?_
    exact g_zret (pc := 629) C R (by first | rfl | decide) (⟨_, rfl, rfl, G25, rt1, rd1, nt, nf, nc, (nn + 1), _, _, _, _, hL38, RS.ext hS5 (fun _ _ _ _ => rfl) (fun _ _ _ _ => rfl) (fun _ _ _ _ => rfl) (fun _ _ _ _ => rfl), hv⟩) (by show (((0 + 1) + 1) + 1) ≤ 3; omega) (by show (((0 + 2) + 21) + 6) ≤ 38; omega) (by decide +kernel)
  · refine g_seg [(551, .iconst 1, 1)] 552 [(0, .ref x), (1, .ref s), (2, .int v), (3, .int (nI nt)), (4, .int (nI nf)), (5, .int t), (6, .int f)] [.int 1] C (by decide +kernel) rfl ?_
    exact g_zret (pc := 552) C R (by first | rfl | decide) (⟨_, rfl, rfl, G2, rt, rd, nt, nf, nc, nn, T, E, Cu, N, hL, hS, hv⟩) (by show 0 ≤ 3; omega) (by show 0 ≤ 38; omega) (by decide +kernel)
set_option maxHeartbeats 4000000 in
set_option maxRecDepth 100000 in
theorem t_cue {κ : Kx} {l : Launch} {D : va_G} {cy : Nat → ClassId} {G G2 : GG} {x s bn : Nat} {rt : Nat → Nat} {rd : Nat → Nat → Nat} {nt nf nc nn : Nat} {T E Cu N : Rw} {v t f : Int32} (C : g_OK κ l D cy yL_act 20 method_4_code kL_act (some .boolean)) (R : g_RT κ (pI (fun r G' => r = 1 ∧ LA cy x s bn G')) kL_act) (X : g_XX κ) (hL : LX cy x (nI bn) nt nf nc nn T E Cu N G2 nG G) (hS : RS cy s rt rd (nI bn) nt nf nc nn (zT (nI bn) T) (zF (nI bn) E) Cu N G2) (hv : vI bn nt nf nc T E Cu) (hbn : bn ≤ 50) (i : Nat) (hi : i < nf) (hf : f = nI i) : PG κ 20 0 0 G [(0, .ref x), (1, .ref s), (2, .int v), (3, .int (nI nt)), (4, .int (nI nf)), (5, .int t), (6, .int f)] 630 [] := by
  have hbd := LX.bd hL
  subst hf
  refine g_seg [(630, .aload_n 1, 1)] 631 [(0, .ref x), (1, .ref s), (2, .int v), (3, .int (nI nt)), (4, .int (nI nf)), (5, .int t), (6, .int (nI i))] [.ref s] C (by decide +kernel) rfl ?_
  refine g_getf (pc := 631) (k := 2) (v := .ref (rt 2)) C fl_L_65 ((LX.rs hL hS).1.1) rfl (by decide +kernel) ?_
  refine g_alenI (pc := 634) C ((LX.rs hL hS).1.2.2.2.1) (by decide +kernel) ?_
  refine g_seg [(635, .istore 16, 2), (637, .iload 16, 2), (639, .bipush 20, 2)] 641 [(16, .int (nI nc)), (0, .ref x), (1, .ref s), (2, .int v), (3, .int (nI nt)), (4, .int (nI nf)), (5, .int t), (6, .int (nI i))] [.int 20, .int (nI nc)] C (by decide +kernel) rfl ?_
  refine g_icmp_ne (pc := 641) (off := 5) 646 C (by decide +kernel) (by decide) (fun c11 => ?_) (fun c11 => ?_)
  · have hn20 : nc < 20 := by have e9 : nc ≠ 20 := fun e9 => c11 (by rw [e9]; rfl); omega
    refine g_seg [(646, .aload_n 1, 1)] 647 [(16, .int (nI nc)), (0, .ref x), (1, .ref s), (2, .int v), (3, .int (nI nt)), (4, .int (nI nf)), (5, .int t), (6, .int (nI i))] [.ref s] C (by decide +kernel) rfl ?_
    refine g_getf (pc := 647) (k := 4) (v := .int (nI bn)) C fl_L_68 ((LX.rs hL hS).1.1) rfl (by decide +kernel) ?_
    refine g_seg [(650, .iload_n 2, 1), (651, .iconst 1, 1), (652, .ishr, 1), (653, .bipush 12, 2)] 655 [(16, .int (nI nc)), (0, .ref x), (1, .ref s), (2, .int v), (3, .int (nI nt)), (4, .int (nI nf)), (5, .int t), (6, .int (nI i))] [.int 12, .int (v >>> (1 &&& 31)), .int (nI bn)] C (by decide +kernel) rfl ?_
    refine g_callS (pc := 655) C mS_L_below q402 (c_L_below l D cy G (v >>> (1 &&& 31)) 12 12 rfl (by decide) (by decide)) rfl ⟨⟨Nat.le_of_ble_eq_true rfl, Nat.le_of_ble_eq_true rfl⟩, Nat.le_of_ble_eq_true rfl, Nat.le_of_ble_eq_true rfl⟩ rfl (Nat.le_of_ble_eq_true rfl) (by decide +kernel) ?_
    refine g_kI (fun v14 G13 hp12 => ?_)
    obtain ⟨rfl, j15, hj16, rfl⟩ := hp12
    refine g_seg [(658, .iadd, 1)] 659 [(16, .int (nI nc)), (0, .ref x), (1, .ref s), (2, .int v), (3, .int (nI nt)), (4, .int (nI nf)), (5, .int t), (6, .int (nI i))] [.int ((nI bn) + (nI j15))] C (by decide +kernel) rfl ?_
    rw [show ((nI bn) + (nI j15) : Int32) = nI (bn + j15) from nI_add bn j15]
    refine g_seg [(659, .istore 17, 2), (661, .iload_n 2, 1), (662, .iconst 3, 1), (663, .ishr, 1), (664, .bipush 41, 2)] 666 [(17, .int (nI (bn + j15))), (16, .int (nI nc)), (0, .ref x), (1, .ref s), (2, .int v), (3, .int (nI nt)), (4, .int (nI nf)), (5, .int t), (6, .int (nI i))] [.int 41, .int (v >>> (3 &&& 31))] C (by decide +kernel) rfl ?_
    refine g_callS (pc := 666) C mS_L_below q402 (c_L_below l D cy G13 (v >>> (3 &&& 31)) 41 41 rfl (by decide) (by decide)) rfl ⟨⟨Nat.le_of_ble_eq_true rfl, Nat.le_of_ble_eq_true rfl⟩, Nat.le_of_ble_eq_true rfl, Nat.le_of_ble_eq_true rfl⟩ rfl (Nat.le_of_ble_eq_true rfl) (by decide +kernel) ?_
    refine g_kI (fun v19 G18 hp17 => ?_)
    obtain ⟨rfl, j20, hj21, rfl⟩ := hp17
    refine g_seg [(669, .bipush 20, 2), (671, .isub, 1), (672, .istore 18, 2), (674, .iconst 1, 1), (675, .iload_n 2, 1), (676, .iconst 5, 1), (677, .ishr, 1), (678, .bipush 6, 2)] 680 [(18, .int ((nI j20) - 20)), (17, .int (nI (bn + j15))), (16, .int (nI nc)), (0, .ref x), (1, .ref s), (2, .int v), (3, .int (nI nt)), (4, .int (nI nf)), (5, .int t), (6, .int (nI i))] [.int 6, .int (v >>> (5 &&& 31)), .int 1] C (by decide +kernel) rfl ?_
    refine g_callS (pc := 680) C mS_L_below q402 (c_L_below l D cy G18 (v >>> (5 &&& 31)) 6 6 rfl (by decide) (by decide)) rfl ⟨⟨Nat.le_of_ble_eq_true rfl, Nat.le_of_ble_eq_true rfl⟩, Nat.le_of_ble_eq_true rfl, Nat.le_of_ble_eq_true rfl⟩ rfl (Nat.le_of_ble_eq_true rfl) (by decide +kernel) ?_
    refine g_kI (fun v24 G23 hp22 => ?_)
    obtain ⟨rfl, j25, hj26, rfl⟩ := hp22
    refine g_seg [(683, .iadd, 1)] 684 [(18, .int ((nI j20) - 20)), (17, .int (nI (bn + j15))), (16, .int (nI nc)), (0, .ref x), (1, .ref s), (2, .int v), (3, .int (nI nt)), (4, .int (nI nf)), (5, .int t), (6, .int (nI i))] [.int (1 + (nI j25))] C (by decide +kernel) rfl ?_
    rw [show (1 + (nI j25) : Int32) = nI (1 + j25) from i1_add j25]
    refine g_seg [(684, .istore 19, 2), (686, .aload_n 1, 1), (687, .aload_n 1, 1)] 688 [(19, .int (nI (1 + j25))), (18, .int ((nI j20) - 20)), (17, .int (nI (bn + j15))), (16, .int (nI nc)), (0, .ref x), (1, .ref s), (2, .int v), (3, .int (nI nt)), (4, .int (nI nf)), (5, .int t), (6, .int (nI i))] [.ref s, .ref s] C (by decide +kernel) rfl ?_
    refine g_getf (pc := 688) (k := 2) (v := .ref (rt 2)) C fl_L_65 ((LX.rs hL hS).1.1) rfl (by decide +kernel) ?_
    refine g_seg [(691, .iconst 5, 1)] 692 [(19, .int (nI (1 + j25))), (18, .int ((nI j20) - 20)), (17, .int (nI (bn + j15))), (16, .int (nI nc)), (0, .ref x), (1, .ref s), (2, .int v), (3, .int (nI nt)), (4, .int (nI nf)), (5, .int t), (6, .int (nI i))] [.int 5, .ref (rt 2), .ref s] C (by decide +kernel) rfl ?_
    refine g_newi (pc := 692) (N' := 5) C q394 (by decide) (by decide) (by decide) (by show 0 + 1 ≤ 3; omega) (by show 0 + 5 ≤ 38; omega) (by decide +kernel) (fun q27 hq28 => ?_)
    have hn_q27 := LX.g3n hL hq28
    refine g_abs (P := fun G9 => ∃ G39 : GG, LX cy x (nI bn) nt nf nc nn T E Cu N G2 G39 G9 ∧ G39 q27 = some (.inl (cy 0, 5, .inl (fun _ => 0)))) ⟨_, LX.n3 hL hq28, g_up_self ..⟩ (fun G29 hg => ?_)
    obtain ⟨G330, hL31, ha32⟩ := hg
    refine g_seg [(694, .dup, 1), (695, .iconst 0, 1), (696, .iload 17, 2)] 698 [(19, .int (nI (1 + j25))), (18, .int ((nI j20) - 20)), (17, .int (nI (bn + j15))), (16, .int (nI nc)), (0, .ref x), (1, .ref s), (2, .int v), (3, .int (nI nt)), (4, .int (nI nf)), (5, .int t), (6, .int (nI i))] [.int (nI (bn + j15)), .int 0, .ref q27, .ref q27, .ref (rt 2), .ref s] C (by decide +kernel) rfl ?_
    refine g_iastM (pc := 698) (n := 5) 0 (upd (fun _ => 0) 0 (nI (bn + j15))) C (LX.g3 hL31 ha32) (rfl) (by decide) (by omega) (rfl) (by decide +kernel) ?_
    refine g_abs (P := fun G9 => ∃ G39 : GG, LX cy x (nI bn) nt nf nc nn T E Cu N G2 G39 G9 ∧ G39 q27 = some (.inl (cy 0, 5, .inl (upd (fun _ => 0) 0 (nI (bn + j15)))))) ⟨_, LX.p3 hL31 ha32, g_up_self ..⟩ (fun G33 hg => ?_)
    obtain ⟨G334, hL35, ha36⟩ := hg
    refine g_seg [(699, .dup, 1), (700, .iconst 1, 1), (701, .iload 6, 2)] 703 [(19, .int (nI (1 + j25))), (18, .int ((nI j20) - 20)), (17, .int (nI (bn + j15))), (16, .int (nI nc)), (0, .ref x), (1, .ref s), (2, .int v), (3, .int (nI nt)), (4, .int (nI nf)), (5, .int t), (6, .int (nI i))] [.int (nI i), .int 1, .ref q27, .ref q27, .ref (rt 2), .ref s] C (by decide +kernel) rfl ?_
    refine g_iastM (pc := 703) (n := 5) 1 (upd (upd (fun _ => 0) 0 (nI (bn + j15))) 1 (nI i)) C (LX.g3 hL35 ha36) (rfl) (by decide) (by omega) (rfl) (by decide +kernel) ?_
    refine g_abs (P := fun G9 => ∃ G39 : GG, LX cy x (nI bn) nt nf nc nn T E Cu N G2 G39 G9 ∧ G39 q27 = some (.inl (cy 0, 5, .inl (upd (upd (fun _ => 0) 0 (nI (bn + j15))) 1 (nI i))))) ⟨_, LX.p3 hL35 ha36, g_up_self ..⟩ (fun G37 hg => ?_)
    obtain ⟨G338, hL39, ha40⟩ := hg
    refine g_seg [(704, .dup, 1), (705, .iconst 2, 1), (706, .iload 18, 2)] 708 [(19, .int (nI (1 + j25))), (18, .int ((nI j20) - 20)), (17, .int (nI (bn + j15))), (16, .int (nI nc)), (0, .ref x), (1, .ref s), (2, .int v), (3, .int (nI nt)), (4, .int (nI nf)), (5, .int t), (6, .int (nI i))] [.int ((nI j20) - 20), .int 2, .ref q27, .ref q27, .ref (rt 2), .ref s] C (by decide +kernel) rfl ?_
    refine g_iastM (pc := 708) (n := 5) 2 (upd (upd (upd (fun _ => 0) 0 (nI (bn + j15))) 1 (nI i)) 2 ((nI j20) - 20)) C (LX.g3 hL39 ha40) (rfl) (by decide) (by omega) (rfl) (by decide +kernel) ?_
    refine g_abs (P := fun G9 => ∃ G39 : GG, LX cy x (nI bn) nt nf nc nn T E Cu N G2 G39 G9 ∧ G39 q27 = some (.inl (cy 0, 5, .inl (upd (upd (upd (fun _ => 0) 0 (nI (bn + j15))) 1 (nI i)) 2 ((nI j20) - 20))))) ⟨_, LX.p3 hL39 ha40, g_up_self ..⟩ (fun G41 hg => ?_)
    obtain ⟨G342, hL43, ha44⟩ := hg
    refine g_seg [(709, .dup, 1), (710, .iconst 3, 1), (711, .iload 19, 2)] 713 [(19, .int (nI (1 + j25))), (18, .int ((nI j20) - 20)), (17, .int (nI (bn + j15))), (16, .int (nI nc)), (0, .ref x), (1, .ref s), (2, .int v), (3, .int (nI nt)), (4, .int (nI nf)), (5, .int t), (6, .int (nI i))] [.int (nI (1 + j25)), .int 3, .ref q27, .ref q27, .ref (rt 2), .ref s] C (by decide +kernel) rfl ?_
    refine g_iastM (pc := 713) (n := 5) 3 (upd (upd (upd (upd (fun _ => 0) 0 (nI (bn + j15))) 1 (nI i)) 2 ((nI j20) - 20)) 3 (nI (1 + j25))) C (LX.g3 hL43 ha44) (rfl) (by decide) (by omega) (rfl) (by decide +kernel) ?_
    refine g_abs (P := fun G9 => ∃ G39 : GG, LX cy x (nI bn) nt nf nc nn T E Cu N G2 G39 G9 ∧ G39 q27 = some (.inl (cy 0, 5, .inl (upd (upd (upd (upd (fun _ => 0) 0 (nI (bn + j15))) 1 (nI i)) 2 ((nI j20) - 20)) 3 (nI (1 + j25)))))) ⟨_, LX.p3 hL43 ha44, g_up_self ..⟩ (fun G45 hg => ?_)
    obtain ⟨G346, hL47, ha48⟩ := hg
    refine g_seg [(714, .dup, 1), (715, .iconst 4, 1), (716, .iconst 0, 1)] 717 [(19, .int (nI (1 + j25))), (18, .int ((nI j20) - 20)), (17, .int (nI (bn + j15))), (16, .int (nI nc)), (0, .ref x), (1, .ref s), (2, .int v), (3, .int (nI nt)), (4, .int (nI nf)), (5, .int t), (6, .int (nI i))] [.int 0, .int 4, .ref q27, .ref q27, .ref (rt 2), .ref s] C (by decide +kernel) rfl ?_
    refine g_iastM (pc := 717) (n := 5) 4 (upd (upd (upd (upd (upd (fun _ => 0) 0 (nI (bn + j15))) 1 (nI i)) 2 ((nI j20) - 20)) 3 (nI (1 + j25))) 4 0) C (LX.g3 hL47 ha48) (rfl) (by decide) (by omega) (rfl) (by decide +kernel) ?_
    refine g_abs (P := fun G9 => ∃ G39 : GG, LX cy x (nI bn) nt nf nc nn T E Cu N G2 G39 G9 ∧ G39 q27 = some (.inl (cy 0, 5, .inl (upd (upd (upd (upd (upd (fun _ => 0) 0 (nI (bn + j15))) 1 (nI i)) 2 ((nI j20) - 20)) 3 (nI (1 + j25))) 4 0)))) ⟨_, LX.p3 hL47 ha48, g_up_self ..⟩ (fun G49 hg => ?_)
    obtain ⟨G350, hL51, ha52⟩ := hg
    have ha53c : (upd (upd (upd (upd (upd (fun _ => 0) 0 (nI (bn + j15))) 1 (nI i)) 2 ((nI j20) - 20)) 3 (nI (1 + j25))) 4 0) = cut 5 (rowC (nI (bn + j15)) (nI i) ((nI j20) - 20) (nI (1 + j25))) := row5c
    have ha53 : G350 q27 = some (.inl (cy 0, 5, .inl (cut 5 (rowC (nI (bn + j15)) (nI i) ((nI j20) - 20) (nI (1 + j25)))))) := by rw [← ha53c]; exact ha52
    refine g_callS (pc := 718) C mS_X5_more q406 (c_X5_more l D cy G49 (rt 2) q27 nc (rd 2) (by omega) ((LX.rs hL51 hS).1.2.2.2.1) (fun i9 h9 => ⟨_, _, (LX.rs hL51 hS).2.1.2.2.1 i9 h9⟩) ⟨_, _, LX.g3 hL51 ha53⟩) rfl ⟨⟨(Nat.le_of_ble_eq_true rfl), (Nat.le_of_ble_eq_true rfl)⟩, (by show (0 + 1) + 1 ≤ 3; omega), (by show (0 + 5) + 21 ≤ 38; omega)⟩ rfl (Nat.le_of_ble_eq_true rfl) (by decide +kernel) ?_
    refine g_kA (fun v9 G9 hp9 => ?_)
    obtain ⟨qt, rfl, hqt, rfl⟩ := hp9
    refine g_putf (pc := 721) (k := 2) (v := .ref qt) (ty := (.array (.array .int))) C fl_L_65 fp_X5_2 (by rw [g_up_ne (g_fresh hqt (LX.rs hL51 hS).1.1)]; exact (LX.rs hL51 hS).1.1) rfl (by first | rfl | decide) (Nat.le_of_ble_eq_true rfl) (by decide +kernel) ?_
    obtain ⟨rt1, rd1, hS1⟩ := RS.add2 (cy := cy) (r := (rowC (nI (bn + j15)) (nI i) ((nI j20) - 20) (nI (1 + j25)))) (t := qt) (q := q27) hS hn20 (LX.n2 hL51 ha53) (sG.up (sG.rf _) (LX.n2 hL51 ha53)) (g_up_self ..) (LX.t2 hL51 ha53 hqt) rfl
    have hL1 := LX.more (e2 := oA (cy 5) (nc + 1) (fun i => if i < nc then rd 2 i else q27) (nc + 1)) (e3 := oS (fun k => if k = 2 then qt else rt k) (nI bn)) hL51 ha53 hqt hS.1.1
    refine g_abs (P := fun G9 => ∃ G29 : GG, LX cy x (nI bn) nt nf nc nn T E Cu N G29 nG G9 ∧ RS cy s rt1 rd1 (nI bn) nt nf (nc + 1) nn (zT (nI bn) T) (zF (nI bn) E) (s_add Cu nc (rowC (nI (bn + j15)) (nI i) ((nI j20) - 20) (nI (1 + j25)))) N G29) ⟨_, hL1, hS1⟩ (fun G5 hg => ?_)
    obtain ⟨G25, hL5, hS5⟩ := hg
    refine g_seg [(724, .aload_n 0, 1), (725, .iload 17, 2), (727, .iload 6, 2), (729, .iload 18, 2), (731, .iload 19, 2)] 733 [(19, .int (nI (1 + j25))), (18, .int ((nI j20) - 20)), (17, .int (nI (bn + j15))), (16, .int (nI nc)), (0, .ref x), (1, .ref s), (2, .int v), (3, .int (nI nt)), (4, .int (nI nf)), (5, .int t), (6, .int (nI i))] [.int (nI (1 + j25)), .int ((nI j20) - 20), .int (nI i), .int (nI (bn + j15)), .ref x] C (by decide +kernel) rfl ?_
    refine g_wcue (pc := 733) C X hL5 hi (okC_n (by omega) hj21 ⟨by omega, by omega⟩) (nI_nlt (by omega) (by omega)) (nI_pos (by omega)) hn20 q570 ⟨⟨(Nat.le_of_ble_eq_true rfl), (Nat.le_of_ble_eq_true rfl)⟩, (by show ((0 + 1) + 1) + 1 ≤ 3; omega), (by show ((0 + 5) + 21) + 6 ≤ 38; omega)⟩ (Nat.le_of_ble_eq_true rfl) (by decide +kernel) (fun G54 hL55 => ?_)
    refine g_seg [(736, .iload 16, 2)] 738 [(19, .int (nI (1 + j25))), (18, .int ((nI j20) - 20)), (17, .int (nI (bn + j15))), (16, .int (nI nc)), (0, .ref x), (1, .ref s), (2, .int v), (3, .int (nI nt)), (4, .int (nI nf)), (5, .int t), (6, .int (nI i))] [.int (nI nc), .int (nI nc)] C (by decide +kernel) rfl ?_
    refine g_icmp_ne (pc := 738) (off := 7) 745 C (by decide +kernel) (by decide) (fun c9 => absurd (rfl) c9) (fun _ => ?_)
    refine g_seg [(741, .iconst 1, 1), (742, .goto 4, 3)] 746 [(19, .int (nI (1 + j25))), (18, .int ((nI j20) - 20)), (17, .int (nI (bn + j15))), (16, .int (nI nc)), (0, .ref x), (1, .ref s), (2, .int v), (3, .int (nI nt)), (4, .int (nI nf)), (5, .int t), (6, .int (nI i))] [.int 1] C (by decide +kernel) rfl ?_
    exact g_zret (pc := 746) C R (by first | rfl | decide) (⟨_, rfl, rfl, G25, rt1, rd1, nt, nf, (nc + 1), nn, _, _, _, _, hL55, RS.ext hS5 (fun _ _ _ _ => rfl) (fun _ _ _ _ => rfl) (fun _ _ _ _ => rfl) (fun _ _ _ _ => rfl), hv.cue hn20 (by omega) (by omega) hi ⟨by omega, by omega⟩ (reach_n hj21)⟩) (by show (((0 + 1) + 1) + 1) ≤ 3; omega) (by show (((0 + 5) + 21) + 6) ≤ 38; omega) (by decide +kernel)
  · refine g_seg [(644, .iconst 1, 1)] 645 [(16, .int (nI nc)), (0, .ref x), (1, .ref s), (2, .int v), (3, .int (nI nt)), (4, .int (nI nf)), (5, .int t), (6, .int (nI i))] [.int 1] C (by decide +kernel) rfl ?_
    exact g_zret (pc := 645) C R (by first | rfl | decide) (⟨_, rfl, rfl, G2, rt, rd, nt, nf, nc, nn, T, E, Cu, N, hL, hS, hv⟩) (by show 0 ≤ 3; omega) (by show 0 ≤ 38; omega) (by decide +kernel)
