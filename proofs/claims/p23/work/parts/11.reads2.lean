theorem net_y {N : Rw} {nn k : Nat} {p0 : Int32} (hk : k < nn) (hp : N k 0 ≤ p0 ∧ p0 ≤ N k 1) (hs : ∀ t, t < k → t < nn → (decide (N t 0 ≤ p0) && decide (p0 ≤ N t 1)) = false) : s_net N nn p0 = true := by
  unfold s_net
  rw [fst_some (t := k) hk (by simp [hp.1, hp.2]) (fun u hu => hs u hu (by omega))]; rfl
theorem net_n {N : Rw} {nn k : Nat} {p0 : Int32} (hn : nn ≤ k) (hs : ∀ t, t < k → t < nn → (decide (N t 0 ≤ p0) && decide (p0 ≤ N t 1)) = false) : s_net N nn p0 = false := by
  unfold s_net
  rw [fst_none (fun t ht => hs t (by omega) ht)]; rfl
theorem net_f {a b c : Int32} (h : ¬ (a ≤ b ∧ b ≤ c)) : (decide (a ≤ b) && decide (b ≤ c)) = false := by
  simp only [Bool.and_eq_false_iff, decide_eq_false_iff_not]
  by_cases h1 : a ≤ b
  · exact Or.inr (fun h2 => h ⟨h1, h2⟩)
  · exact Or.inl h1
theorem ge2 {n : Nat} (h : (2 : Int32) ≤ nI n) (hn : n < 1000) : ¬ n < 2 := by
  have := lp_ge (x := nI n) (k := n) (n := 2) rfl (by omega) (by decide) h; omega
theorem lt2 {n : Nat} (h : ¬ (2 : Int32) ≤ nI n) (hn : n < 1000) : n < 2 := lp_lt (x := nI n) (k := n) (n := 2) rfl (by omega) (by decide) h
theorem hangE_lt {E : Rw} {nf : Nat} {t : Int32} (h : nf ≤ 8) : s_hangE E nf t < 1000 := by have := cnt_le (fun f => decide (E f 0 = 1 ∧ E f 1 = t)) nf; unfold s_hangE; omega
def s_freeX (T E : Rw) (nf : Nat) (b x : Int32) (t : Nat) : Bool := decide (¬ T t 5 = 0) && s_near (s_at T t b) x && decide (s_hangE E nf (nI t) < 2)

set_option maxHeartbeats 4000000 in
set_option maxRecDepth 100000 in
theorem c_X4_isNetSpreadAt (l : Launch) (D : va_G) (cy : Nat → ClassId) {G : GG} {x : Nat} {ad : Nat → Nat → Nat} {b : Int32} {nt nf nc nn : Nat} {T E Cu N KT KF KC : Rw} (h : RX cy x ad b nt nf nc nn T E Cu N KT KF KC G) (p0 : Int32) : Ctr l D cy yX4_isNetSpreadAt prog_1_method_27_code 6 (some .boolean) kX4_isNetSpreadAt [.ref x, .int p0] G (pI (fun v G' => G' = G ∧ ((v = 1 ∧ s_net N nn p0 = true) ∨ (v = 0 ∧ s_net N nn p0 = false)))) := by
  refine Ctr.mk (by decide +kernel) (Nat.le_of_ble_eq_true rfl) ?_
  intro κ C R
  refine g_pc (pc' := 0) rfl ?_
  refine g_seg [(0, .aload_n 0, 1)] 1 [(0, .ref x), (1, .int p0)] [.ref x] C (by decide +kernel) rfl ?_
  refine g_getf (pc := 1) (k := 3) (v := .ref (ad 0 3)) C fl_X4_29 (h.1.1) rfl (by decide +kernel) ?_
  refine g_seg [(4, .astore_n 2, 1), (5, .aload_n 2, 1)] 6 [(2, .ref (ad 0 3)), (0, .ref x), (1, .int p0)] [.ref (ad 0 3)] C (by decide +kernel) rfl ?_
  refine g_alenA (pc := 6) (len := 3) (t0 := 4) C (h.1.2.2.2.2) rfl (by decide +kernel) ?_
  refine g_seg [(7, .istore_n 3, 1), (8, .iconst 0, 1), (9, .istore 4, 2)] 11 [(4, .int 0), (3, .int (nI 3)), (2, .ref (ad 0 3)), (0, .ref x), (1, .int p0)] [] C (by decide +kernel) rfl ?_
  refine g_subp [3, 4, 2, 1, 0] (lv' := [(0, .ref x), (1, .int p0), (2, .ref (ad 0 3)), (3, .int (nI 3)), (4, .int 0)]) rfl ?_
  have lp1 : ∀ (m k : Nat) (xk : Int32), 3 + 1 ≤ k + m → k ≤ 3 → xk = nI k → (∀ t, t < k → t < nn → (decide (N t 0 ≤ p0) && decide (p0 ≤ N t 1)) = false) → PG κ 6 0 0 G [(0, .ref x), (1, .int p0), (2, .ref (ad 0 3)), (3, .int (nI 3)), (4, .int xk)] 11 [] := by
    intro m
    induction m with
    | zero => intro k xk h1 h2; intros; exact absurd h1 (by omega)
    | succ m ih =>
      intro k xk hm hk hx hs
      refine g_seg [(11, .iload 4, 2), (13, .iload_n 3, 1)] 14 [(0, .ref x), (1, .int p0), (2, .ref (ad 0 3)), (3, .int (nI 3)), (4, .int xk)] [.int (nI 3), .int xk] C (by decide +kernel) rfl ?_
      refine g_icmp_ge (pc := 14) (off := 39) 53 C (by decide +kernel) (by decide) (fun c2 => ?_) (fun c2 => ?_)
      · have hk8 : k = 3 := by have := lp_ge hx (by omega) (by decide) c2; omega
        refine g_seg [(53, .iconst 0, 1)] 54 [(0, .ref x), (1, .int p0), (2, .ref (ad 0 3)), (3, .int (nI 3)), (4, .int xk)] [.int 0] C (by decide +kernel) rfl ?_
        exact g_zret (pc := 54) C R (by first | rfl | decide) (⟨_, rfl, rfl, Or.inr ⟨rfl, net_n (k := k) (by have := h.2.2.2.2.2.2; omega) hs⟩⟩) (Nat.le_of_ble_eq_true rfl) (Nat.le_of_ble_eq_true rfl) (by decide +kernel)
      · have hk8 : k < 3 := by have := lp_lt hx (by omega) (by decide) c2; omega
        refine g_seg [(17, .aload_n 2, 1), (18, .iload 4, 2)] 20 [(0, .ref x), (1, .int p0), (2, .ref (ad 0 3)), (3, .int (nI 3)), (4, .int xk)] [.int xk, .ref (ad 0 3)] C (by decide +kernel) rfl ?_
        refine g_aaldA (pc := 20) (len := 3) (t0 := 4) (j := k) C (h.1.2.2.2.2) rfl (hx) (hk8) (by decide) (by decide +kernel) (fun hi3 => ?_) (fun hi3 => ?_)
        · refine g_seg [(21, .astore 5, 2), (23, .aload 5, 2)] 25 [(5, .ref (ad 4 k)), (0, .ref x), (1, .int p0), (2, .ref (ad 0 3)), (3, .int (nI 3)), (4, .int xk)] [.ref (ad 4 k)] C (by decide +kernel) rfl ?_
          refine g_ifnull (pc := 25) (off := 22) C (by decide +kernel) ?_
          refine g_seg [(28, .iload_n 1, 1), (29, .aload 5, 2)] 31 [(5, .ref (ad 4 k)), (0, .ref x), (1, .int p0), (2, .ref (ad 0 3)), (3, .int (nI 3)), (4, .int xk)] [.ref (ad 4 k), .int p0] C (by decide +kernel) rfl ?_
          refine g_getf (pc := 31) (k := 0) (v := .int (N k 0)) C fl_X4_211 (h.2.1.2.2.2 k hi3) rfl (by decide +kernel) ?_
          refine g_seg [(34, .aload 5, 2)] 36 [(5, .ref (ad 4 k)), (0, .ref x), (1, .int p0), (2, .ref (ad 0 3)), (3, .int (nI 3)), (4, .int xk)] [.ref (ad 4 k), .int (N k 0), .int p0] C (by decide +kernel) rfl ?_
          refine g_getf (pc := 36) (k := 1) (v := .int (N k 1)) C fl_X4_214 (h.2.1.2.2.2 k hi3) rfl (by decide +kernel) ?_
          refine g_callS (pc := 39) C mS_X4_isWithin q86 (c_X4_isWithin l D cy G p0 (N k 0) (N k 1)) rfl ⟨⟨Nat.le_of_ble_eq_true rfl, Nat.le_of_ble_eq_true rfl⟩, Nat.le_of_ble_eq_true rfl, Nat.le_of_ble_eq_true rfl⟩ rfl (Nat.le_of_ble_eq_true rfl) (by decide +kernel) ?_
          refine g_kI (fun v6 G5 hp4 => ?_)
          obtain ⟨rfl, hp4⟩ := hp4
          rcases hp4 with ⟨rfl, h7⟩ | ⟨rfl, h7⟩
          · refine g_if_eq (pc := 42) (off := 5) 47 C (by decide +kernel) (by decide) (fun c9 => absurd c9 (by decide)) (fun _ => ?_)
            refine g_seg [(45, .iconst 1, 1)] 46 [(5, .ref (ad 4 k)), (0, .ref x), (1, .int p0), (2, .ref (ad 0 3)), (3, .int (nI 3)), (4, .int xk)] [.int 1] C (by decide +kernel) rfl ?_
            exact g_zret (pc := 46) C R (by first | rfl | decide) (⟨_, rfl, rfl, Or.inl ⟨rfl, net_y hi3 h7 hs⟩⟩) (Nat.le_of_ble_eq_true rfl) (Nat.le_of_ble_eq_true rfl) (by decide +kernel)
          · refine g_if_eq (pc := 42) (off := 5) 47 C (by decide +kernel) (by decide) (fun _ => ?_) (fun c9 => absurd (by decide) c9)
            refine g_seg [(47, .iinc 4 1, 3), (50, .goto (-39), 3)] 11 [(4, .int (xk + 1)), (5, .ref (ad 4 k)), (0, .ref x), (1, .int p0), (2, .ref (ad 0 3)), (3, .int (nI 3))] [] C (by decide +kernel) rfl ?_
            refine g_subp [2, 3, 4, 5, 0] (lv' := [(0, .ref x), (1, .int p0), (2, .ref (ad 0 3)), (3, .int (nI 3)), (4, .int (xk + 1))]) rfl ?_
            exact ih (k + 1) (xk + 1) (by omega) (by omega) (lp_s hx) (no_f hs (net_f h7))
        · refine g_seg [(21, .astore 5, 2), (23, .aload 5, 2)] 25 [(5, .null), (0, .ref x), (1, .int p0), (2, .ref (ad 0 3)), (3, .int (nI 3)), (4, .int xk)] [.null] C (by decide +kernel) rfl ?_
          refine g_ifnullN (pc := 25) (off := 22) 47 C (by decide +kernel) (by decide) ?_
          refine g_seg [(47, .iinc 4 1, 3), (50, .goto (-39), 3)] 11 [(4, .int (xk + 1)), (5, .null), (0, .ref x), (1, .int p0), (2, .ref (ad 0 3)), (3, .int (nI 3))] [] C (by decide +kernel) rfl ?_
          refine g_subp [2, 3, 4, 5, 0] (lv' := [(0, .ref x), (1, .int p0), (2, .ref (ad 0 3)), (3, .int (nI 3)), (4, .int (xk + 1))]) rfl ?_
          exact ih (k + 1) (xk + 1) (by omega) (by omega) (lp_s hx) (no_n hs hi3)
  exact lp1 (3 + 1) 0 0 (by omega) (by omega) (nI_0.symm) (fun t h1 => absurd h1 (by omega))
set_option maxHeartbeats 4000000 in
set_option maxRecDepth 100000 in
theorem c_X4_ofTrapeze (l : Launch) (D : va_G) (cy : Nat → ClassId) {G : GG} {x : Nat} {ad : Nat → Nat → Nat} {b : Int32} {nt nf nc nn : Nat} {T E Cu N KT KF KC : Rw} (h : RX cy x ad b nt nf nc nn T E Cu N KT KF KC G) (i : Nat) (hi : i < nt) (hwok : s_wok T nt) (n w : Int32) (hn : n = nI i) : Ctr l D cy yX4_ofTrapeze prog_1_method_28_code 4 (some .int) kX4_ofTrapeze [.ref x, .ref (ad 1 i), .int n, .int w] G (pI (fun v G' => G' = G ∧ v = s_toldX T E nf b i w)) := by
  refine Ctr.mk (by decide +kernel) (Nat.le_of_ble_eq_true rfl) ?_
  intro κ C R
  refine g_pc (pc' := 0) rfl ?_
  refine g_seg [(0, .iload_n 3, 1)] 1 [(0, .ref x), (1, .ref (ad 1 i)), (2, .int n), (3, .int w)] [.int w] C (by decide +kernel) rfl ?_
  by_cases hw0 : w = 0
  · subst hw0
    refine g_tableIn (pc := 1) (dflt := 90) (lo := 0) (hi := 6) (offs := #[43, 48, 53, 58, 63, 68, 81]) (len := 43) (off := 43) 44 C (by decide +kernel) (by decide) (by decide) (by decide) (by decide) ?_
    refine g_seg [(44, .aload_n 1, 1)] 45 [(0, .ref x), (1, .ref (ad 1 i)), (2, .int n), (3, .int 0)] [.ref (ad 1 i)] C (by decide +kernel) rfl ?_
    refine g_getf (pc := 45) (k := 0) (v := .int (T i 0)) C fl_X4_220 (h.2.1.1 i hi) rfl (by decide +kernel) ?_
    exact g_iret (pc := 48) C R (⟨_, rfl, rfl, by first | rfl | (simp [s_toldX]; done) | (unfold s_toldX; rw [if_neg hw0, if_neg hw1, if_neg hw2, if_neg hw3, if_neg hw4, if_neg hw5, if_neg hw6, hn]; rfl)⟩) (Nat.le_of_ble_eq_true rfl) (Nat.le_of_ble_eq_true rfl) (by decide +kernel)
  by_cases hw1 : w = 1
  · subst hw1
    refine g_tableIn (pc := 1) (dflt := 90) (lo := 0) (hi := 6) (offs := #[43, 48, 53, 58, 63, 68, 81]) (len := 43) (off := 48) 49 C (by decide +kernel) (by decide) (by decide) (by decide) (by decide) ?_
    refine g_seg [(49, .aload_n 1, 1)] 50 [(0, .ref x), (1, .ref (ad 1 i)), (2, .int n), (3, .int 1)] [.ref (ad 1 i)] C (by decide +kernel) rfl ?_
    refine g_getf (pc := 50) (k := 1) (v := .int (T i 1)) C fl_X4_223 (h.2.1.1 i hi) rfl (by decide +kernel) ?_
    exact g_iret (pc := 53) C R (⟨_, rfl, rfl, by first | rfl | (simp [s_toldX]; done) | (unfold s_toldX; rw [if_neg hw0, if_neg hw1, if_neg hw2, if_neg hw3, if_neg hw4, if_neg hw5, if_neg hw6, hn]; rfl)⟩) (Nat.le_of_ble_eq_true rfl) (Nat.le_of_ble_eq_true rfl) (by decide +kernel)
  by_cases hw2 : w = 2
  · subst hw2
    refine g_tableIn (pc := 1) (dflt := 90) (lo := 0) (hi := 6) (offs := #[43, 48, 53, 58, 63, 68, 81]) (len := 43) (off := 53) 54 C (by decide +kernel) (by decide) (by decide) (by decide) (by decide) ?_
    refine g_seg [(54, .aload_n 1, 1)] 55 [(0, .ref x), (1, .ref (ad 1 i)), (2, .int n), (3, .int 2)] [.ref (ad 1 i)] C (by decide +kernel) rfl ?_
    refine g_getf (pc := 55) (k := 3) (v := .int (T i 2)) C fl_X4_76 (h.2.1.1 i hi) rfl (by decide +kernel) ?_
    exact g_iret (pc := 58) C R (⟨_, rfl, rfl, by first | rfl | (simp [s_toldX]; done) | (unfold s_toldX; rw [if_neg hw0, if_neg hw1, if_neg hw2, if_neg hw3, if_neg hw4, if_neg hw5, if_neg hw6, hn]; rfl)⟩) (Nat.le_of_ble_eq_true rfl) (Nat.le_of_ble_eq_true rfl) (by decide +kernel)
  by_cases hw3 : w = 3
  · subst hw3
    refine g_tableIn (pc := 1) (dflt := 90) (lo := 0) (hi := 6) (offs := #[43, 48, 53, 58, 63, 68, 81]) (len := 43) (off := 58) 59 C (by decide +kernel) (by decide) (by decide) (by decide) (by decide) ?_
    refine g_seg [(59, .aload_n 1, 1)] 60 [(0, .ref x), (1, .ref (ad 1 i)), (2, .int n), (3, .int 3)] [.ref (ad 1 i)] C (by decide +kernel) rfl ?_
    refine g_getf (pc := 60) (k := 2) (v := .int (T i 3)) C fl_X4_226 (h.2.1.1 i hi) rfl (by decide +kernel) ?_
    exact g_iret (pc := 63) C R (⟨_, rfl, rfl, by first | rfl | (simp [s_toldX]; done) | (unfold s_toldX; rw [if_neg hw0, if_neg hw1, if_neg hw2, if_neg hw3, if_neg hw4, if_neg hw5, if_neg hw6, hn]; rfl)⟩) (Nat.le_of_ble_eq_true rfl) (Nat.le_of_ble_eq_true rfl) (by decide +kernel)
  by_cases hw4 : w = 4
  · subst hw4
    refine g_tableIn (pc := 1) (dflt := 90) (lo := 0) (hi := 6) (offs := #[43, 48, 53, 58, 63, 68, 81]) (len := 43) (off := 63) 64 C (by decide +kernel) (by decide) (by decide) (by decide) (by decide) ?_
    refine g_seg [(64, .aload_n 1, 1)] 65 [(0, .ref x), (1, .ref (ad 1 i)), (2, .int n), (3, .int 4)] [.ref (ad 1 i)] C (by decide +kernel) rfl ?_
    refine g_getf (pc := 65) (k := 5) (v := .int (T i 4)) C fl_X4_83 (h.2.1.1 i hi) rfl (by decide +kernel) ?_
    exact g_iret (pc := 68) C R (⟨_, rfl, rfl, by first | rfl | (simp [s_toldX]; done) | (unfold s_toldX; rw [if_neg hw0, if_neg hw1, if_neg hw2, if_neg hw3, if_neg hw4, if_neg hw5, if_neg hw6, hn]; rfl)⟩) (Nat.le_of_ble_eq_true rfl) (Nat.le_of_ble_eq_true rfl) (by decide +kernel)
  by_cases hw5 : w = 5
  · subst hw5
    refine g_tableIn (pc := 1) (dflt := 90) (lo := 0) (hi := 6) (offs := #[43, 48, 53, 58, 63, 68, 81]) (len := 43) (off := 68) 69 C (by decide +kernel) (by decide) (by decide) (by decide) (by decide) ?_
    refine g_seg [(69, .aload_n 1, 1)] 70 [(0, .ref x), (1, .ref (ad 1 i)), (2, .int n), (3, .int 5)] [.ref (ad 1 i)] C (by decide +kernel) rfl ?_
    refine g_getf (pc := 70) (k := 6) (v := .int (T i 5)) C fl_X4_70 (h.2.1.1 i hi) rfl (by decide +kernel) ?_
    refine g_if_eq (pc := 73) (off := 7) 80 C (by decide +kernel) (by decide) (fun c1 => ?_) (fun c1 => ?_)
    · refine g_seg [(80, .iconst 0, 1)] 81 [(0, .ref x), (1, .ref (ad 1 i)), (2, .int n), (3, .int 5)] [.int 0] C (by decide +kernel) rfl ?_
      exact g_iret (pc := 81) C R (⟨_, rfl, rfl, by first | rfl | (simp [s_toldX, c1]; done) | (unfold s_toldX; rw [if_neg hw0, if_neg hw1, if_neg hw2, if_neg hw3, if_neg hw4, if_neg hw5, if_neg hw6, hn]; rfl)⟩) (Nat.le_of_ble_eq_true rfl) (Nat.le_of_ble_eq_true rfl) (by decide +kernel)
    · refine g_seg [(76, .iconst 1, 1), (77, .goto 4, 3)] 81 [(0, .ref x), (1, .ref (ad 1 i)), (2, .int n), (3, .int 5)] [.int 1] C (by decide +kernel) rfl ?_
      exact g_iret (pc := 81) C R (⟨_, rfl, rfl, by first | rfl | (simp [s_toldX, c1]; done) | (unfold s_toldX; rw [if_neg hw0, if_neg hw1, if_neg hw2, if_neg hw3, if_neg hw4, if_neg hw5, if_neg hw6, hn]; rfl)⟩) (Nat.le_of_ble_eq_true rfl) (Nat.le_of_ble_eq_true rfl) (by decide +kernel)
  by_cases hw6 : w = 6
  · subst hw6
    refine g_tableIn (pc := 1) (dflt := 90) (lo := 0) (hi := 6) (offs := #[43, 48, 53, 58, 63, 68, 81]) (len := 43) (off := 81) 82 C (by decide +kernel) (by decide) (by decide) (by decide) (by decide) ?_
    refine g_seg [(82, .aload_n 1, 1), (83, .aload_n 0, 1)] 84 [(0, .ref x), (1, .ref (ad 1 i)), (2, .int n), (3, .int 6)] [.ref x, .ref (ad 1 i)] C (by decide +kernel) rfl ?_
    refine g_getf (pc := 84) (k := 8) (v := .int b) C fl_X4_53 (h.1.1) rfl (by decide +kernel) ?_
    refine g_callV (pc := 87) C mV_X3_placeIn q161 (h.2.1.1 i hi) rfl rfl (c_X3_placeIn l D cy G (ad 1 i) (T i 0) (T i 1) (T i 3) (T i 2) (T i 6) (T i 4) (T i 5) (KT i 0) (KT i 1) (h.2.1.1 i hi) b (hwok i hi)) rfl ⟨⟨Nat.le_of_ble_eq_true rfl, Nat.le_of_ble_eq_true rfl⟩, Nat.le_of_ble_eq_true rfl, Nat.le_of_ble_eq_true rfl⟩ rfl (Nat.le_of_ble_eq_true rfl) (by decide +kernel) ?_
    refine g_kI (fun v4 G3 hp2 => ?_)
    obtain ⟨rfl, rfl⟩ := hp2
    exact g_iret (pc := 90) C R (⟨_, rfl, rfl, by first | rfl | (simp [s_toldX]; done) | (unfold s_toldX; rw [if_neg hw0, if_neg hw1, if_neg hw2, if_neg hw3, if_neg hw4, if_neg hw5, if_neg hw6, hn]; rfl)⟩) (Nat.le_of_ble_eq_true rfl) (Nat.le_of_ble_eq_true rfl) (by decide +kernel)
  refine g_tableOut (pc := 1) (dflt := 90) (lo := 0) (hi := 6) (offs := #[43, 48, 53, 58, 63, 68, 81]) (len := 43) 91 C (by decide +kernel) (by have a0 := ti_ne hw0; rw [show (0 : Int32).toInt = 0 by decide] at a0; have a1 := ti_ne hw1; rw [show (1 : Int32).toInt = 1 by decide] at a1; have a2 := ti_ne hw2; rw [show (2 : Int32).toInt = 2 by decide] at a2; have a3 := ti_ne hw3; rw [show (3 : Int32).toInt = 3 by decide] at a3; have a4 := ti_ne hw4; rw [show (4 : Int32).toInt = 4 by decide] at a4; have a5 := ti_ne hw5; rw [show (5 : Int32).toInt = 5 by decide] at a5; have a6 := ti_ne hw6; rw [show (6 : Int32).toInt = 6 by decide] at a6; omega) (by decide) ?_
  refine g_seg [(91, .aload_n 0, 1), (92, .iload_n 2, 1)] 93 [(0, .ref x), (1, .ref (ad 1 i)), (2, .int n), (3, .int w)] [.int n, .ref x] C (by decide +kernel) rfl ?_
  refine g_callV (pc := 93) C mV_X4_hangersOf q175 (h.1.1) rfl rfl (c_X4_hangersOf l D cy h n) rfl ⟨⟨Nat.le_of_ble_eq_true rfl, Nat.le_of_ble_eq_true rfl⟩, Nat.le_of_ble_eq_true rfl, Nat.le_of_ble_eq_true rfl⟩ rfl (Nat.le_of_ble_eq_true rfl) (by decide +kernel) ?_
  refine g_kI (fun v7 G6 hp5 => ?_)
  obtain ⟨rfl, rfl⟩ := hp5
  exact g_iret (pc := 96) C R (⟨_, rfl, rfl, by first | rfl | (simp [s_toldX, hw0, hw1, hw2, hw3, hw4, hw5, hw6]; done) | (unfold s_toldX; rw [if_neg hw0, if_neg hw1, if_neg hw2, if_neg hw3, if_neg hw4, if_neg hw5, if_neg hw6, hn]; rfl)⟩) (Nat.le_of_ble_eq_true rfl) (Nat.le_of_ble_eq_true rfl) (by decide +kernel)
set_option maxHeartbeats 4000000 in
set_option maxRecDepth 100000 in
theorem c_X4_ofFlyer (l : Launch) (D : va_G) (cy : Nat → ClassId) {G : GG} {x : Nat} {ad : Nat → Nat → Nat} {b : Int32} {nt nf nc nn : Nat} {T E Cu N KT KF KC : Rw} (h : RX cy x ad b nt nf nc nn T E Cu N KT KF KC G) (i : Nat) (hi : i < nf) (w : Int32) : Ctr l D cy yX4_ofFlyer prog_1_method_29_code 4 (some .int) kX4_ofFlyer [.ref x, .ref (ad 2 i), .int w] G (pI (fun v G' => G' = G ∧ v = s_toldFX E b i w)) := by
  refine Ctr.mk (by decide +kernel) (Nat.le_of_ble_eq_true rfl) ?_
  intro κ C R
  refine g_pc (pc' := 0) rfl ?_
  refine g_seg [(0, .aload_n 1, 1)] 1 [(0, .ref x), (1, .ref (ad 2 i)), (2, .int w)] [.ref (ad 2 i)] C (by decide +kernel) rfl ?_
  refine g_getf (pc := 1) (k := 0) (v := .int (E i 0)) C fl_X4_229 (h.2.1.2.1 i hi) rfl (by decide +kernel) ?_
  refine g_seg [(4, .iconst 2, 1)] 5 [(0, .ref x), (1, .ref (ad 2 i)), (2, .int w)] [.int 2, .int (E i 0)] C (by decide +kernel) rfl ?_
  refine g_icmp_ne (pc := 5) (off := 7) 12 C (by decide +kernel) (by decide) (fun c1 => ?_) (fun c1 => ?_)
  · refine g_seg [(12, .iconst 0, 1), (13, .istore_n 3, 1), (14, .iload_n 2, 1)] 15 [(3, .int 0), (0, .ref x), (1, .ref (ad 2 i)), (2, .int w)] [.int w] C (by decide +kernel) rfl ?_
    by_cases hw0 : w = 0
    · subst hw0
      refine g_tableIn (pc := 15) (dflt := 70) (lo := 0) (hi := 3) (offs := #[29, 34, 39, 52]) (len := 29) (off := 29) 44 C (by decide +kernel) (by decide) (by decide) (by decide) (by decide) ?_
      refine g_seg [(44, .aload_n 1, 1)] 45 [(3, .int 0), (0, .ref x), (1, .ref (ad 2 i)), (2, .int 0)] [.ref (ad 2 i)] C (by decide +kernel) rfl ?_
      refine g_getf (pc := 45) (k := 0) (v := .int (E i 0)) C fl_X4_229 (h.2.1.2.1 i hi) rfl (by decide +kernel) ?_
      exact g_iret (pc := 48) C R (⟨_, rfl, rfl, by first | rfl | (simp [s_toldFX, c1]; done)⟩) (Nat.le_of_ble_eq_true rfl) (Nat.le_of_ble_eq_true rfl) (by decide +kernel)
    by_cases hw1 : w = 1
    · subst hw1
      refine g_tableIn (pc := 15) (dflt := 70) (lo := 0) (hi := 3) (offs := #[29, 34, 39, 52]) (len := 29) (off := 34) 49 C (by decide +kernel) (by decide) (by decide) (by decide) (by decide) ?_
      refine g_seg [(49, .aload_n 1, 1)] 50 [(3, .int 0), (0, .ref x), (1, .ref (ad 2 i)), (2, .int 1)] [.ref (ad 2 i)] C (by decide +kernel) rfl ?_
      refine g_getf (pc := 50) (k := 1) (v := .int (E i 1)) C fl_X4_177 (h.2.1.2.1 i hi) rfl (by decide +kernel) ?_
      exact g_iret (pc := 53) C R (⟨_, rfl, rfl, by first | rfl | (simp [s_toldFX, c1]; done)⟩) (Nat.le_of_ble_eq_true rfl) (Nat.le_of_ble_eq_true rfl) (by decide +kernel)
    by_cases hw2 : w = 2
    · subst hw2
      refine g_tableIn (pc := 15) (dflt := 70) (lo := 0) (hi := 3) (offs := #[29, 34, 39, 52]) (len := 29) (off := 39) 54 C (by decide +kernel) (by decide) (by decide) (by decide) (by decide) ?_
      refine g_seg [(54, .iload_n 3, 1)] 55 [(3, .int 0), (0, .ref x), (1, .ref (ad 2 i)), (2, .int 2)] [.int 0] C (by decide +kernel) rfl ?_
      refine g_if_eq (pc := 55) (off := 10) 65 C (by decide +kernel) (by decide) (fun _ => ?_) (fun c9 => absurd (by decide) c9)
      refine g_seg [(65, .iconst 0, 1)] 66 [(3, .int 0), (0, .ref x), (1, .ref (ad 2 i)), (2, .int 2)] [.int 0] C (by decide +kernel) rfl ?_
      exact g_iret (pc := 66) C R (⟨_, rfl, rfl, by first | rfl | (simp [s_toldFX, c1]; done)⟩) (Nat.le_of_ble_eq_true rfl) (Nat.le_of_ble_eq_true rfl) (by decide +kernel)
    by_cases hw3 : w = 3
    · subst hw3
      refine g_tableIn (pc := 15) (dflt := 70) (lo := 0) (hi := 3) (offs := #[29, 34, 39, 52]) (len := 29) (off := 52) 67 C (by decide +kernel) (by decide) (by decide) (by decide) (by decide) ?_
      refine g_seg [(67, .iload_n 3, 1)] 68 [(3, .int 0), (0, .ref x), (1, .ref (ad 2 i)), (2, .int 3)] [.int 0] C (by decide +kernel) rfl ?_
      refine g_if_eq (pc := 68) (off := 15) 83 C (by decide +kernel) (by decide) (fun _ => ?_) (fun c9 => absurd (by decide) c9)
      refine g_seg [(83, .iconst (-1), 1)] 84 [(3, .int 0), (0, .ref x), (1, .ref (ad 2 i)), (2, .int 3)] [.int (-1)] C (by decide +kernel) rfl ?_
      exact g_iret (pc := 84) C R (⟨_, rfl, rfl, by first | rfl | (simp [s_toldFX, c1]; done)⟩) (Nat.le_of_ble_eq_true rfl) (Nat.le_of_ble_eq_true rfl) (by decide +kernel)
    refine g_tableOut (pc := 15) (dflt := 70) (lo := 0) (hi := 3) (offs := #[29, 34, 39, 52]) (len := 29) 85 C (by decide +kernel) (by have a0 := ti_ne hw0; rw [show (0 : Int32).toInt = 0 by decide] at a0; have a1 := ti_ne hw1; rw [show (1 : Int32).toInt = 1 by decide] at a1; have a2 := ti_ne hw2; rw [show (2 : Int32).toInt = 2 by decide] at a2; have a3 := ti_ne hw3; rw [show (3 : Int32).toInt = 3 by decide] at a3; omega) (by decide) ?_
    refine g_seg [(85, .aload_n 1, 1)] 86 [(3, .int 0), (0, .ref x), (1, .ref (ad 2 i)), (2, .int w)] [.ref (ad 2 i)] C (by decide +kernel) rfl ?_
    refine g_getf (pc := 86) (k := 4) (v := .int (E i 4)) C fl_X4_194 (h.2.1.2.1 i hi) rfl (by decide +kernel) ?_
    exact g_iret (pc := 89) C R (⟨_, rfl, rfl, by first | rfl | (simp [s_toldFX, c1, hw0, hw1, hw2, hw3]; done)⟩) (Nat.le_of_ble_eq_true rfl) (Nat.le_of_ble_eq_true rfl) (by decide +kernel)
  · refine g_seg [(8, .iconst 1, 1), (9, .goto 4, 3), (13, .istore_n 3, 1), (14, .iload_n 2, 1)] 15 [(3, .int 1), (0, .ref x), (1, .ref (ad 2 i)), (2, .int w)] [.int w] C (by decide +kernel) rfl ?_
    by_cases hw0 : w = 0
    · subst hw0
      refine g_tableIn (pc := 15) (dflt := 70) (lo := 0) (hi := 3) (offs := #[29, 34, 39, 52]) (len := 29) (off := 29) 44 C (by decide +kernel) (by decide) (by decide) (by decide) (by decide) ?_
      refine g_seg [(44, .aload_n 1, 1)] 45 [(3, .int 1), (0, .ref x), (1, .ref (ad 2 i)), (2, .int 0)] [.ref (ad 2 i)] C (by decide +kernel) rfl ?_
      refine g_getf (pc := 45) (k := 0) (v := .int (E i 0)) C fl_X4_229 (h.2.1.2.1 i hi) rfl (by decide +kernel) ?_
      exact g_iret (pc := 48) C R (⟨_, rfl, rfl, by first | rfl | (simp [s_toldFX, c1]; done)⟩) (Nat.le_of_ble_eq_true rfl) (Nat.le_of_ble_eq_true rfl) (by decide +kernel)
    by_cases hw1 : w = 1
    · subst hw1
      refine g_tableIn (pc := 15) (dflt := 70) (lo := 0) (hi := 3) (offs := #[29, 34, 39, 52]) (len := 29) (off := 34) 49 C (by decide +kernel) (by decide) (by decide) (by decide) (by decide) ?_
      refine g_seg [(49, .aload_n 1, 1)] 50 [(3, .int 1), (0, .ref x), (1, .ref (ad 2 i)), (2, .int 1)] [.ref (ad 2 i)] C (by decide +kernel) rfl ?_
      refine g_getf (pc := 50) (k := 1) (v := .int (E i 1)) C fl_X4_177 (h.2.1.2.1 i hi) rfl (by decide +kernel) ?_
      exact g_iret (pc := 53) C R (⟨_, rfl, rfl, by first | rfl | (simp [s_toldFX, c1]; done)⟩) (Nat.le_of_ble_eq_true rfl) (Nat.le_of_ble_eq_true rfl) (by decide +kernel)
    by_cases hw2 : w = 2
    · subst hw2
      refine g_tableIn (pc := 15) (dflt := 70) (lo := 0) (hi := 3) (offs := #[29, 34, 39, 52]) (len := 29) (off := 39) 54 C (by decide +kernel) (by decide) (by decide) (by decide) (by decide) ?_
      refine g_seg [(54, .iload_n 3, 1)] 55 [(3, .int 1), (0, .ref x), (1, .ref (ad 2 i)), (2, .int 2)] [.int 1] C (by decide +kernel) rfl ?_
      refine g_if_eq (pc := 55) (off := 10) 65 C (by decide +kernel) (by decide) (fun c9 => absurd c9 (by decide)) (fun _ => ?_)
      refine g_seg [(58, .aload_n 1, 1)] 59 [(3, .int 1), (0, .ref x), (1, .ref (ad 2 i)), (2, .int 2)] [.ref (ad 2 i)] C (by decide +kernel) rfl ?_
      refine g_getf (pc := 59) (k := 2) (v := .int (E i 2)) C fl_X4_232 (h.2.1.2.1 i hi) rfl (by decide +kernel) ?_
      refine g_seg [(62, .goto 4, 3)] 66 [(3, .int 1), (0, .ref x), (1, .ref (ad 2 i)), (2, .int 2)] [.int (E i 2)] C (by decide +kernel) rfl ?_
      exact g_iret (pc := 66) C R (⟨_, rfl, rfl, by first | rfl | (simp [s_toldFX, c1]; done)⟩) (Nat.le_of_ble_eq_true rfl) (Nat.le_of_ble_eq_true rfl) (by decide +kernel)
    by_cases hw3 : w = 3
    · subst hw3
      refine g_tableIn (pc := 15) (dflt := 70) (lo := 0) (hi := 3) (offs := #[29, 34, 39, 52]) (len := 29) (off := 52) 67 C (by decide +kernel) (by decide) (by decide) (by decide) (by decide) ?_
      refine g_seg [(67, .iload_n 3, 1)] 68 [(3, .int 1), (0, .ref x), (1, .ref (ad 2 i)), (2, .int 3)] [.int 1] C (by decide +kernel) rfl ?_
      refine g_if_eq (pc := 68) (off := 15) 83 C (by decide +kernel) (by decide) (fun c9 => absurd c9 (by decide)) (fun _ => ?_)
      refine g_seg [(71, .aload_n 1, 1)] 72 [(3, .int 1), (0, .ref x), (1, .ref (ad 2 i)), (2, .int 3)] [.ref (ad 2 i)] C (by decide +kernel) rfl ?_
      refine g_getf (pc := 72) (k := 3) (v := .int (E i 3)) C fl_X4_235 (h.2.1.2.1 i hi) rfl (by decide +kernel) ?_
      refine g_seg [(75, .aload_n 0, 1)] 76 [(3, .int 1), (0, .ref x), (1, .ref (ad 2 i)), (2, .int 3)] [.ref x, .int (E i 3)] C (by decide +kernel) rfl ?_
      refine g_getf (pc := 76) (k := 8) (v := .int b) C fl_X4_53 (h.1.1) rfl (by decide +kernel) ?_
      refine g_seg [(79, .isub, 1), (80, .goto 4, 3)] 84 [(3, .int 1), (0, .ref x), (1, .ref (ad 2 i)), (2, .int 3)] [.int ((E i 3) - b)] C (by decide +kernel) rfl ?_
      exact g_iret (pc := 84) C R (⟨_, rfl, rfl, by first | rfl | (simp [s_toldFX, c1]; done)⟩) (Nat.le_of_ble_eq_true rfl) (Nat.le_of_ble_eq_true rfl) (by decide +kernel)
    refine g_tableOut (pc := 15) (dflt := 70) (lo := 0) (hi := 3) (offs := #[29, 34, 39, 52]) (len := 29) 85 C (by decide +kernel) (by have a0 := ti_ne hw0; rw [show (0 : Int32).toInt = 0 by decide] at a0; have a1 := ti_ne hw1; rw [show (1 : Int32).toInt = 1 by decide] at a1; have a2 := ti_ne hw2; rw [show (2 : Int32).toInt = 2 by decide] at a2; have a3 := ti_ne hw3; rw [show (3 : Int32).toInt = 3 by decide] at a3; omega) (by decide) ?_
    refine g_seg [(85, .aload_n 1, 1)] 86 [(3, .int 1), (0, .ref x), (1, .ref (ad 2 i)), (2, .int w)] [.ref (ad 2 i)] C (by decide +kernel) rfl ?_
    refine g_getf (pc := 86) (k := 4) (v := .int (E i 4)) C fl_X4_194 (h.2.1.2.1 i hi) rfl (by decide +kernel) ?_
    exact g_iret (pc := 89) C R (⟨_, rfl, rfl, by first | rfl | (simp [s_toldFX, c1, hw0, hw1, hw2, hw3]; done)⟩) (Nat.le_of_ble_eq_true rfl) (Nat.le_of_ble_eq_true rfl) (by decide +kernel)
set_option maxHeartbeats 4000000 in
set_option maxRecDepth 100000 in
theorem c_X4_ofCue (l : Launch) (D : va_G) (cy : Nat → ClassId) {G : GG} {x : Nat} {ad : Nat → Nat → Nat} {b : Int32} {nt nf nc nn : Nat} {T E Cu N KT KF KC : Rw} (h : RX cy x ad b nt nf nc nn T E Cu N KT KF KC G) (i : Nat) (hi : i < nc) (w : Int32) : Ctr l D cy yX4_ofCue prog_1_method_30_code 2 (some .int) kX4_ofCue [.ref (ad 3 i), .int w] G (pI (fun v G' => G' = G ∧ v = s_toldC Cu i w)) := by
  refine Ctr.mk (by decide +kernel) (Nat.le_of_ble_eq_true rfl) ?_
  intro κ C R
  refine g_pc (pc' := 0) rfl ?_
  refine g_seg [(0, .iload_n 1, 1)] 1 [(0, .ref (ad 3 i)), (1, .int w)] [.int w] C (by decide +kernel) rfl ?_
  by_cases hw0 : w = 0
  · subst hw0
    refine g_tableIn (pc := 1) (dflt := 51) (lo := 0) (hi := 3) (offs := #[31, 36, 41, 46]) (len := 31) (off := 31) 32 C (by decide +kernel) (by decide) (by decide) (by decide) (by decide) ?_
    refine g_seg [(32, .aload_n 0, 1)] 33 [(0, .ref (ad 3 i)), (1, .int 0)] [.ref (ad 3 i)] C (by decide +kernel) rfl ?_
    refine g_getf (pc := 33) (k := 0) (v := .int (Cu i 0)) C fl_X4_238 (h.2.1.2.2.1 i hi) rfl (by decide +kernel) ?_
    exact g_iret (pc := 36) C R (⟨_, rfl, rfl, by first | rfl | (simp [s_toldC]; done)⟩) (Nat.le_of_ble_eq_true rfl) (Nat.le_of_ble_eq_true rfl) (by decide +kernel)
  by_cases hw1 : w = 1
  · subst hw1
    refine g_tableIn (pc := 1) (dflt := 51) (lo := 0) (hi := 3) (offs := #[31, 36, 41, 46]) (len := 31) (off := 36) 37 C (by decide +kernel) (by decide) (by decide) (by decide) (by decide) ?_
    refine g_seg [(37, .aload_n 0, 1)] 38 [(0, .ref (ad 3 i)), (1, .int 1)] [.ref (ad 3 i)] C (by decide +kernel) rfl ?_
    refine g_getf (pc := 38) (k := 1) (v := .int (Cu i 1)) C fl_X4_239 (h.2.1.2.2.1 i hi) rfl (by decide +kernel) ?_
    exact g_iret (pc := 41) C R (⟨_, rfl, rfl, by first | rfl | (simp [s_toldC]; done)⟩) (Nat.le_of_ble_eq_true rfl) (Nat.le_of_ble_eq_true rfl) (by decide +kernel)
  by_cases hw2 : w = 2
  · subst hw2
    refine g_tableIn (pc := 1) (dflt := 51) (lo := 0) (hi := 3) (offs := #[31, 36, 41, 46]) (len := 31) (off := 41) 42 C (by decide +kernel) (by decide) (by decide) (by decide) (by decide) ?_
    refine g_seg [(42, .aload_n 0, 1)] 43 [(0, .ref (ad 3 i)), (1, .int 2)] [.ref (ad 3 i)] C (by decide +kernel) rfl ?_
    refine g_getf (pc := 43) (k := 2) (v := .int (Cu i 2)) C fl_X4_242 (h.2.1.2.2.1 i hi) rfl (by decide +kernel) ?_
    exact g_iret (pc := 46) C R (⟨_, rfl, rfl, by first | rfl | (simp [s_toldC]; done)⟩) (Nat.le_of_ble_eq_true rfl) (Nat.le_of_ble_eq_true rfl) (by decide +kernel)
  by_cases hw3 : w = 3
  · subst hw3
    refine g_tableIn (pc := 1) (dflt := 51) (lo := 0) (hi := 3) (offs := #[31, 36, 41, 46]) (len := 31) (off := 46) 47 C (by decide +kernel) (by decide) (by decide) (by decide) (by decide) ?_
    refine g_seg [(47, .aload_n 0, 1)] 48 [(0, .ref (ad 3 i)), (1, .int 3)] [.ref (ad 3 i)] C (by decide +kernel) rfl ?_
    refine g_getf (pc := 48) (k := 3) (v := .int (Cu i 3)) C fl_X4_245 (h.2.1.2.2.1 i hi) rfl (by decide +kernel) ?_
    exact g_iret (pc := 51) C R (⟨_, rfl, rfl, by first | rfl | (simp [s_toldC]; done)⟩) (Nat.le_of_ble_eq_true rfl) (Nat.le_of_ble_eq_true rfl) (by decide +kernel)
  refine g_tableOut (pc := 1) (dflt := 51) (lo := 0) (hi := 3) (offs := #[31, 36, 41, 46]) (len := 31) 52 C (by decide +kernel) (by have a0 := ti_ne hw0; rw [show (0 : Int32).toInt = 0 by decide] at a0; have a1 := ti_ne hw1; rw [show (1 : Int32).toInt = 1 by decide] at a1; have a2 := ti_ne hw2; rw [show (2 : Int32).toInt = 2 by decide] at a2; have a3 := ti_ne hw3; rw [show (3 : Int32).toInt = 3 by decide] at a3; omega) (by decide) ?_
  refine g_seg [(52, .aload_n 0, 1)] 53 [(0, .ref (ad 3 i)), (1, .int w)] [.ref (ad 3 i)] C (by decide +kernel) rfl ?_
  refine g_getf (pc := 53) (k := 4) (v := .int (Cu i 4)) C fl_X4_248 (h.2.1.2.2.1 i hi) rfl (by decide +kernel) ?_
  exact g_iret (pc := 56) C R (⟨_, rfl, rfl, by first | rfl | (simp [s_toldC, hw0, hw1, hw2, hw3]; done)⟩) (Nat.le_of_ble_eq_true rfl) (Nat.le_of_ble_eq_true rfl) (by decide +kernel)
set_option maxHeartbeats 4000000 in
set_option maxRecDepth 100000 in
theorem c_X4_tally (l : Launch) (D : va_G) (cy : Nat → ClassId) {G : GG} {x : Nat} {ad : Nat → Nat → Nat} {b : Int32} {nt nf nc nn : Nat} {T E Cu N KT KF KC : Rw} (h : RX cy x ad b nt nf nc nn T E Cu N KT KF KC G) (w : Int32) : Ctr l D cy yX4_tally prog_1_method_31_code 2 (some .int) kX4_tally [.ref x, .int w] G (pI (fun v G' => G' = G ∧ v = s_countX b nt nf nc T E Cu w)) := by
  refine Ctr.mk (by decide +kernel) (Nat.le_of_ble_eq_true rfl) ?_
  intro κ C R
  refine g_pc (pc' := 0) rfl ?_
  refine g_seg [(0, .iload_n 1, 1)] 1 [(0, .ref x), (1, .int w)] [.int w] C (by decide +kernel) rfl ?_
  by_cases hw0 : w = 0
  · subst hw0
    refine g_tableIn (pc := 1) (dflt := 91) (lo := 0) (hi := 7) (offs := #[47, 52, 57, 62, 67, 73, 79, 85]) (len := 47) (off := 47) 48 C (by decide +kernel) (by decide) (by decide) (by decide) (by decide) ?_
    refine g_seg [(48, .aload_n 0, 1)] 49 [(0, .ref x), (1, .int 0)] [.ref x] C (by decide +kernel) rfl ?_
    refine g_getf (pc := 49) (k := 8) (v := .int b) C fl_X4_53 (h.1.1) rfl (by decide +kernel) ?_
    exact g_iret (pc := 52) C R (⟨_, rfl, rfl, by first | rfl | (simp [s_countX]; done)⟩) (Nat.le_of_ble_eq_true rfl) (Nat.le_of_ble_eq_true rfl) (by decide +kernel)
  by_cases hw1 : w = 1
  · subst hw1
    refine g_tableIn (pc := 1) (dflt := 91) (lo := 0) (hi := 7) (offs := #[47, 52, 57, 62, 67, 73, 79, 85]) (len := 47) (off := 52) 53 C (by decide +kernel) (by decide) (by decide) (by decide) (by decide) ?_
    refine g_seg [(53, .aload_n 0, 1)] 54 [(0, .ref x), (1, .int 1)] [.ref x] C (by decide +kernel) rfl ?_
    refine g_getf (pc := 54) (k := 4) (v := .int (nI nt)) C fl_X4_44 (h.1.1) rfl (by decide +kernel) ?_
    exact g_iret (pc := 57) C R (⟨_, rfl, rfl, by first | rfl | (simp [s_countX]; done)⟩) (Nat.le_of_ble_eq_true rfl) (Nat.le_of_ble_eq_true rfl) (by decide +kernel)
  by_cases hw2 : w = 2
  · subst hw2
    refine g_tableIn (pc := 1) (dflt := 91) (lo := 0) (hi := 7) (offs := #[47, 52, 57, 62, 67, 73, 79, 85]) (len := 47) (off := 57) 58 C (by decide +kernel) (by decide) (by decide) (by decide) (by decide) ?_
    refine g_seg [(58, .aload_n 0, 1)] 59 [(0, .ref x), (1, .int 2)] [.ref x] C (by decide +kernel) rfl ?_
    refine g_callV (pc := 59) C mV_X4_wholeTrapezes q213 (h.1.1) rfl rfl (c_X4_wholeTrapezes l D cy h) rfl ⟨⟨Nat.le_of_ble_eq_true rfl, Nat.le_of_ble_eq_true rfl⟩, Nat.le_of_ble_eq_true rfl, Nat.le_of_ble_eq_true rfl⟩ rfl (Nat.le_of_ble_eq_true rfl) (by decide +kernel) ?_
    refine g_kI (fun v3 G2 hp1 => ?_)
    obtain ⟨rfl, rfl⟩ := hp1
    exact g_iret (pc := 62) C R (⟨_, rfl, rfl, by first | rfl | (simp [s_countX]; done)⟩) (Nat.le_of_ble_eq_true rfl) (Nat.le_of_ble_eq_true rfl) (by decide +kernel)
  by_cases hw3 : w = 3
  · subst hw3
    refine g_tableIn (pc := 1) (dflt := 91) (lo := 0) (hi := 7) (offs := #[47, 52, 57, 62, 67, 73, 79, 85]) (len := 47) (off := 62) 63 C (by decide +kernel) (by decide) (by decide) (by decide) (by decide) ?_
    refine g_seg [(63, .aload_n 0, 1)] 64 [(0, .ref x), (1, .int 3)] [.ref x] C (by decide +kernel) rfl ?_
    refine g_getf (pc := 64) (k := 5) (v := .int (nI nf)) C fl_X4_98 (h.1.1) rfl (by decide +kernel) ?_
    exact g_iret (pc := 67) C R (⟨_, rfl, rfl, by first | rfl | (simp [s_countX]; done)⟩) (Nat.le_of_ble_eq_true rfl) (Nat.le_of_ble_eq_true rfl) (by decide +kernel)
  by_cases hw4 : w = 4
  · subst hw4
    refine g_tableIn (pc := 1) (dflt := 91) (lo := 0) (hi := 7) (offs := #[47, 52, 57, 62, 67, 73, 79, 85]) (len := 47) (off := 67) 68 C (by decide +kernel) (by decide) (by decide) (by decide) (by decide) ?_
    refine g_seg [(68, .aload_n 0, 1), (69, .iconst 1, 1)] 70 [(0, .ref x), (1, .int 4)] [.int 1, .ref x] C (by decide +kernel) rfl ?_
    refine g_callV (pc := 70) C mV_X4_flyersWhoAre q217 (h.1.1) rfl rfl (c_X4_flyersWhoAre l D cy h 1) rfl ⟨⟨Nat.le_of_ble_eq_true rfl, Nat.le_of_ble_eq_true rfl⟩, Nat.le_of_ble_eq_true rfl, Nat.le_of_ble_eq_true rfl⟩ rfl (Nat.le_of_ble_eq_true rfl) (by decide +kernel) ?_
    refine g_kI (fun v6 G5 hp4 => ?_)
    obtain ⟨rfl, rfl⟩ := hp4
    exact g_iret (pc := 73) C R (⟨_, rfl, rfl, by first | rfl | (simp [s_countX]; done)⟩) (Nat.le_of_ble_eq_true rfl) (Nat.le_of_ble_eq_true rfl) (by decide +kernel)
  by_cases hw5 : w = 5
  · subst hw5
    refine g_tableIn (pc := 1) (dflt := 91) (lo := 0) (hi := 7) (offs := #[47, 52, 57, 62, 67, 73, 79, 85]) (len := 47) (off := 73) 74 C (by decide +kernel) (by decide) (by decide) (by decide) (by decide) ?_
    refine g_seg [(74, .aload_n 0, 1), (75, .iconst 2, 1)] 76 [(0, .ref x), (1, .int 5)] [.int 2, .ref x] C (by decide +kernel) rfl ?_
    refine g_callV (pc := 76) C mV_X4_flyersWhoAre q217 (h.1.1) rfl rfl (c_X4_flyersWhoAre l D cy h 2) rfl ⟨⟨Nat.le_of_ble_eq_true rfl, Nat.le_of_ble_eq_true rfl⟩, Nat.le_of_ble_eq_true rfl, Nat.le_of_ble_eq_true rfl⟩ rfl (Nat.le_of_ble_eq_true rfl) (by decide +kernel) ?_
    refine g_kI (fun v9 G8 hp7 => ?_)
    obtain ⟨rfl, rfl⟩ := hp7
    exact g_iret (pc := 79) C R (⟨_, rfl, rfl, by first | rfl | (simp [s_countX]; done)⟩) (Nat.le_of_ble_eq_true rfl) (Nat.le_of_ble_eq_true rfl) (by decide +kernel)
  by_cases hw6 : w = 6
  · subst hw6
    refine g_tableIn (pc := 1) (dflt := 91) (lo := 0) (hi := 7) (offs := #[47, 52, 57, 62, 67, 73, 79, 85]) (len := 47) (off := 79) 80 C (by decide +kernel) (by decide) (by decide) (by decide) (by decide) ?_
    refine g_seg [(80, .aload_n 0, 1), (81, .iconst 3, 1)] 82 [(0, .ref x), (1, .int 6)] [.int 3, .ref x] C (by decide +kernel) rfl ?_
    refine g_callV (pc := 82) C mV_X4_flyersWhoAre q217 (h.1.1) rfl rfl (c_X4_flyersWhoAre l D cy h 3) rfl ⟨⟨Nat.le_of_ble_eq_true rfl, Nat.le_of_ble_eq_true rfl⟩, Nat.le_of_ble_eq_true rfl, Nat.le_of_ble_eq_true rfl⟩ rfl (Nat.le_of_ble_eq_true rfl) (by decide +kernel) ?_
    refine g_kI (fun v12 G11 hp10 => ?_)
    obtain ⟨rfl, rfl⟩ := hp10
    exact g_iret (pc := 85) C R (⟨_, rfl, rfl, by first | rfl | (simp [s_countX]; done)⟩) (Nat.le_of_ble_eq_true rfl) (Nat.le_of_ble_eq_true rfl) (by decide +kernel)
  by_cases hw7 : w = 7
  · subst hw7
    refine g_tableIn (pc := 1) (dflt := 91) (lo := 0) (hi := 7) (offs := #[47, 52, 57, 62, 67, 73, 79, 85]) (len := 47) (off := 85) 86 C (by decide +kernel) (by decide) (by decide) (by decide) (by decide) ?_
    refine g_seg [(86, .aload_n 0, 1), (87, .iconst 4, 1)] 88 [(0, .ref x), (1, .int 7)] [.int 4, .ref x] C (by decide +kernel) rfl ?_
    refine g_callV (pc := 88) C mV_X4_flyersWhoAre q217 (h.1.1) rfl rfl (c_X4_flyersWhoAre l D cy h 4) rfl ⟨⟨Nat.le_of_ble_eq_true rfl, Nat.le_of_ble_eq_true rfl⟩, Nat.le_of_ble_eq_true rfl, Nat.le_of_ble_eq_true rfl⟩ rfl (Nat.le_of_ble_eq_true rfl) (by decide +kernel) ?_
    refine g_kI (fun v15 G14 hp13 => ?_)
    obtain ⟨rfl, rfl⟩ := hp13
    exact g_iret (pc := 91) C R (⟨_, rfl, rfl, by first | rfl | (simp [s_countX]; done)⟩) (Nat.le_of_ble_eq_true rfl) (Nat.le_of_ble_eq_true rfl) (by decide +kernel)
  refine g_tableOut (pc := 1) (dflt := 91) (lo := 0) (hi := 7) (offs := #[47, 52, 57, 62, 67, 73, 79, 85]) (len := 47) 92 C (by decide +kernel) (by have a0 := ti_ne hw0; rw [show (0 : Int32).toInt = 0 by decide] at a0; have a1 := ti_ne hw1; rw [show (1 : Int32).toInt = 1 by decide] at a1; have a2 := ti_ne hw2; rw [show (2 : Int32).toInt = 2 by decide] at a2; have a3 := ti_ne hw3; rw [show (3 : Int32).toInt = 3 by decide] at a3; have a4 := ti_ne hw4; rw [show (4 : Int32).toInt = 4 by decide] at a4; have a5 := ti_ne hw5; rw [show (5 : Int32).toInt = 5 by decide] at a5; have a6 := ti_ne hw6; rw [show (6 : Int32).toInt = 6 by decide] at a6; have a7 := ti_ne hw7; rw [show (7 : Int32).toInt = 7 by decide] at a7; omega) (by decide) ?_
  refine g_seg [(92, .aload_n 0, 1)] 93 [(0, .ref x), (1, .int w)] [.ref x] C (by decide +kernel) rfl ?_
  refine g_callV (pc := 93) C mV_X4_openCues q221 (h.1.1) rfl rfl (c_X4_openCues l D cy h) rfl ⟨⟨Nat.le_of_ble_eq_true rfl, Nat.le_of_ble_eq_true rfl⟩, Nat.le_of_ble_eq_true rfl, Nat.le_of_ble_eq_true rfl⟩ rfl (Nat.le_of_ble_eq_true rfl) (by decide +kernel) ?_
  refine g_kI (fun v18 G17 hp16 => ?_)
  obtain ⟨rfl, rfl⟩ := hp16
  exact g_iret (pc := 96) C R (⟨_, rfl, rfl, by first | rfl | (simp [s_countX, hw0, hw1, hw2, hw3, hw4, hw5, hw6, hw7]; done)⟩) (Nat.le_of_ble_eq_true rfl) (Nat.le_of_ble_eq_true rfl) (by decide +kernel)



set_option maxHeartbeats 4000000 in
set_option maxRecDepth 100000 in
theorem c_X4_catcherAt (l : Launch) (D : va_G) (cy : Nat → ClassId) {G : GG} {x : Nat} {ad : Nat → Nat → Nat} {b : Int32} {nt nf nc nn : Nat} {T E Cu N KT KF KC : Rw} (h : RX cy x ad b nt nf nc nn T E Cu N KT KF KC G) (hwok : s_wok T nt) (p0 : Int32) : Ctr l D cy yX4_catcherAt prog_1_method_42_code 4 (some .int) kX4_catcherAt [.ref x, .int p0] G (pI (fun v G' => G' = G ∧ ((∃ t, fst (s_freeX T E nf b p0) nt = some t ∧ v = nI t) ∨ (fst (s_freeX T E nf b p0) nt = none ∧ v = -1)))) := by
  refine Ctr.mk (by decide +kernel) (Nat.le_of_ble_eq_true rfl) ?_
  intro κ C R
  refine g_pc (pc' := 0) rfl ?_
  refine g_seg [(0, .iconst 0, 1), (1, .istore_n 2, 1)] 2 [(2, .int 0), (0, .ref x), (1, .int p0)] [] C (by decide +kernel) rfl ?_
  refine g_subp [1, 2, 0] (lv' := [(0, .ref x), (1, .int p0), (2, .int 0)]) rfl ?_
  have lp1 : ∀ (m k : Nat) (xk : Int32), 6 + 1 ≤ k + m → k ≤ 6 → xk = nI k → (∀ t, t < k → t < nt → s_freeX T E nf b p0 t = false) → PG κ 4 0 0 G [(0, .ref x), (1, .int p0), (2, .int xk)] 2 [] := by
    intro m
    induction m with
    | zero => intro k xk h1 h2; intros; exact absurd h1 (by omega)
    | succ m ih =>
      intro k xk hm hk hx hs
      refine g_seg [(2, .iload_n 2, 1), (3, .aload_n 0, 1)] 4 [(0, .ref x), (1, .int p0), (2, .int xk)] [.ref x, .int xk] C (by decide +kernel) rfl ?_
      refine g_getf (pc := 4) (k := 0) (v := .ref (ad 0 0)) C fl_X4_11 (h.1.1) rfl (by decide +kernel) ?_
      refine g_alenA (pc := 7) (len := 6) (t0 := 1) C (h.1.2.1) rfl (by decide +kernel) ?_
      refine g_icmp_ge (pc := 8) (off := 53) 61 C (by decide +kernel) (by decide) (fun c2 => ?_) (fun c2 => ?_)
      · have hk8 : k = 6 := by have := lp_ge hx (by omega) (by decide) c2; omega
        refine g_seg [(61, .iconst (-1), 1)] 62 [(0, .ref x), (1, .int p0), (2, .int xk)] [.int (-1)] C (by decide +kernel) rfl ?_
        exact g_iret (pc := 62) C R (⟨_, rfl, rfl, Or.inr ⟨fst_none (fun t ht => hs t (by have := h.2.2.2.1; omega) ht), rfl⟩⟩) (Nat.le_of_ble_eq_true rfl) (Nat.le_of_ble_eq_true rfl) (by decide +kernel)
      · have hk8 : k < 6 := by have := lp_lt hx (by omega) (by decide) c2; omega
        refine g_seg [(11, .aload_n 0, 1)] 12 [(0, .ref x), (1, .int p0), (2, .int xk)] [.ref x] C (by decide +kernel) rfl ?_
        refine g_getf (pc := 12) (k := 0) (v := .ref (ad 0 0)) C fl_X4_11 (h.1.1) rfl (by decide +kernel) ?_
        refine g_seg [(15, .iload_n 2, 1)] 16 [(0, .ref x), (1, .int p0), (2, .int xk)] [.int xk, .ref (ad 0 0)] C (by decide +kernel) rfl ?_
        refine g_aaldA (pc := 16) (len := 6) (t0 := 1) (j := k) C (h.1.2.1) rfl (hx) (hk8) (by decide) (by decide +kernel) (fun hi3 => ?_) (fun hi3 => ?_)
        · refine g_seg [(17, .astore_n 3, 1), (18, .aload_n 3, 1)] 19 [(3, .ref (ad 1 k)), (0, .ref x), (1, .int p0), (2, .int xk)] [.ref (ad 1 k)] C (by decide +kernel) rfl ?_
          refine g_ifnull (pc := 19) (off := 36) C (by decide +kernel) ?_
          refine g_seg [(22, .aload_n 3, 1)] 23 [(3, .ref (ad 1 k)), (0, .ref x), (1, .int p0), (2, .int xk)] [.ref (ad 1 k)] C (by decide +kernel) rfl ?_
          refine g_getf (pc := 23) (k := 6) (v := .int (T k 5)) C fl_X4_70 (h.2.1.1 k hi3) rfl (by decide +kernel) ?_
          refine g_if_eq (pc := 26) (off := 29) 55 C (by decide +kernel) (by decide) (fun c4 => ?_) (fun c4 => ?_)
          · refine g_seg [(55, .iinc 2 1, 3), (58, .goto (-56), 3)] 2 [(2, .int (xk + 1)), (3, .ref (ad 1 k)), (0, .ref x), (1, .int p0)] [] C (by decide +kernel) rfl ?_
            refine g_subp [2, 3, 0] (lv' := [(0, .ref x), (1, .int p0), (2, .int (xk + 1))]) rfl ?_
            exact ih (k + 1) (xk + 1) (by omega) (by omega) (lp_s hx) (no_f hs (by simp [s_freeX, c4]))
          · refine g_seg [(29, .aload_n 3, 1), (30, .aload_n 0, 1)] 31 [(3, .ref (ad 1 k)), (0, .ref x), (1, .int p0), (2, .int xk)] [.ref x, .ref (ad 1 k)] C (by decide +kernel) rfl ?_
            refine g_getf (pc := 31) (k := 8) (v := .int b) C fl_X4_53 (h.1.1) rfl (by decide +kernel) ?_
            refine g_callV (pc := 34) C mV_X3_placeIn q161 (h.2.1.1 k hi3) rfl rfl (c_X3_placeIn l D cy G (ad 1 k) (T k 0) (T k 1) (T k 3) (T k 2) (T k 6) (T k 4) (T k 5) (KT k 0) (KT k 1) (h.2.1.1 k hi3) b (hwok k hi3)) rfl ⟨⟨Nat.le_of_ble_eq_true rfl, Nat.le_of_ble_eq_true rfl⟩, Nat.le_of_ble_eq_true rfl, Nat.le_of_ble_eq_true rfl⟩ rfl (Nat.le_of_ble_eq_true rfl) (by decide +kernel) ?_
            refine g_kI (fun v7 G6 hp5 => ?_)
            obtain ⟨rfl, rfl⟩ := hp5
            refine g_seg [(37, .iload_n 1, 1)] 38 [(3, .ref (ad 1 k)), (0, .ref x), (1, .int p0), (2, .int xk)] [.int p0, .int (s_pl (T k 0) (T k 1) (T k 2) (b - (T k 6)))] C (by decide +kernel) rfl ?_
            refine g_callS (pc := 38) C mS_X4_isNear q279 (c_X4_isNear l D cy G6 (s_pl (T k 0) (T k 1) (T k 2) (b - (T k 6))) p0) rfl ⟨⟨Nat.le_of_ble_eq_true rfl, Nat.le_of_ble_eq_true rfl⟩, Nat.le_of_ble_eq_true rfl, Nat.le_of_ble_eq_true rfl⟩ rfl (Nat.le_of_ble_eq_true rfl) (by decide +kernel) ?_
            refine g_kI (fun v10 G9 hp8 => ?_)
            obtain ⟨rfl, hp8⟩ := hp8
            rcases hp8 with ⟨rfl, h11⟩ | ⟨rfl, h11⟩
            · refine g_if_eq (pc := 41) (off := 14) 55 C (by decide +kernel) (by decide) (fun c9 => absurd c9 (by decide)) (fun _ => ?_)
              refine g_seg [(44, .aload_n 0, 1), (45, .iload_n 2, 1)] 46 [(3, .ref (ad 1 k)), (0, .ref x), (1, .int p0), (2, .int xk)] [.int xk, .ref x] C (by decide +kernel) rfl ?_
              refine g_callV (pc := 46) C mV_X4_hangersOf q175 (h.1.1) rfl rfl (c_X4_hangersOf l D cy h xk) rfl ⟨⟨Nat.le_of_ble_eq_true rfl, Nat.le_of_ble_eq_true rfl⟩, Nat.le_of_ble_eq_true rfl, Nat.le_of_ble_eq_true rfl⟩ rfl (Nat.le_of_ble_eq_true rfl) (by decide +kernel) ?_
              refine g_kI (fun v14 G13 hp12 => ?_)
              obtain ⟨rfl, rfl⟩ := hp12
              refine g_seg [(49, .iconst 2, 1)] 50 [(3, .ref (ad 1 k)), (0, .ref x), (1, .int p0), (2, .int xk)] [.int 2, .int (nI (s_hangE E nf xk))] C (by decide +kernel) rfl ?_
              refine g_icmp_ge (pc := 50) (off := 5) 55 C (by decide +kernel) (by decide) (fun c15 => ?_) (fun c15 => ?_)
              · refine g_seg [(55, .iinc 2 1, 3), (58, .goto (-56), 3)] 2 [(2, .int (xk + 1)), (3, .ref (ad 1 k)), (0, .ref x), (1, .int p0)] [] C (by decide +kernel) rfl ?_
                refine g_subp [2, 3, 0] (lv' := [(0, .ref x), (1, .int p0), (2, .int (xk + 1))]) rfl ?_
                exact ih (k + 1) (xk + 1) (by omega) (by omega) (lp_s hx) (no_f hs (by have e9 : ¬ s_hangE E nf (nI k) < 2 := ge2 (by rw [← hx]; exact c15) (hangE_lt (E := E) (t := nI k) (h.2.2.2.2.1)); simp [s_freeX, e9]))
              · refine g_seg [(53, .iload_n 2, 1)] 54 [(3, .ref (ad 1 k)), (0, .ref x), (1, .int p0), (2, .int xk)] [.int xk] C (by decide +kernel) rfl ?_
                exact g_iret (pc := 54) C R (⟨_, rfl, rfl, Or.inl ⟨k, fst_some hi3 (by have e8 : s_near (s_at T k b) p0 = true := h11; have e9 : s_hangE E nf (nI k) < 2 := lt2 (by rw [← hx]; exact c15) (hangE_lt (E := E) (t := nI k) (h.2.2.2.2.1)); simp [s_freeX, e8, e9, c4]) (fun u hu => hs u hu (by omega)), hx⟩⟩) (Nat.le_of_ble_eq_true rfl) (Nat.le_of_ble_eq_true rfl) (by decide +kernel)
            · refine g_if_eq (pc := 41) (off := 14) 55 C (by decide +kernel) (by decide) (fun _ => ?_) (fun c9 => absurd (by decide) c9)
              refine g_seg [(55, .iinc 2 1, 3), (58, .goto (-56), 3)] 2 [(2, .int (xk + 1)), (3, .ref (ad 1 k)), (0, .ref x), (1, .int p0)] [] C (by decide +kernel) rfl ?_
              refine g_subp [2, 3, 0] (lv' := [(0, .ref x), (1, .int p0), (2, .int (xk + 1))]) rfl ?_
              exact ih (k + 1) (xk + 1) (by omega) (by omega) (lp_s hx) (no_f hs (by have e9 : s_near (s_at T k b) p0 = false := h11; simp [s_freeX, e9]))
        · refine g_seg [(17, .astore_n 3, 1), (18, .aload_n 3, 1)] 19 [(3, .null), (0, .ref x), (1, .int p0), (2, .int xk)] [.null] C (by decide +kernel) rfl ?_
          refine g_ifnullN (pc := 19) (off := 36) 55 C (by decide +kernel) (by decide) ?_
          refine g_seg [(55, .iinc 2 1, 3), (58, .goto (-56), 3)] 2 [(2, .int (xk + 1)), (3, .null), (0, .ref x), (1, .int p0)] [] C (by decide +kernel) rfl ?_
          refine g_subp [2, 3, 0] (lv' := [(0, .ref x), (1, .int p0), (2, .int (xk + 1))]) rfl ?_
          exact ih (k + 1) (xk + 1) (by omega) (by omega) (lp_s hx) (no_n hs hi3)
  exact lp1 (6 + 1) 0 0 (by omega) (by omega) (nI_0.symm) (fun t h1 => absurd h1 (by omega))
