theorem lp_ge {x : Int32} {k n : Nat} (hx : x = nI k) (hk : k < 100000) (hn : n < 100000) (h : nI n ≤ x) : n ≤ k := by
  subst hx; rwa [Int32.le_iff_toInt_le, nI_toInt (by omega), nI_toInt (by omega), Int.ofNat_le] at h
theorem lp_lt {x : Int32} {k n : Nat} (hx : x = nI k) (hk : k < 100000) (hn : n < 100000) (h : ¬ nI n ≤ x) : k < n := by
  subst hx; rw [Int32.le_iff_toInt_le, nI_toInt (by omega), nI_toInt (by omega), Int.ofNat_le] at h; omega
theorem lp_gt {x : Int32} {k n : Nat} (hx : x = nI k) (hk : k < 100000) (hn : n < 100000) (h : nI n < x) : n < k := by
  subst hx; rwa [Int32.lt_iff_toInt_lt, nI_toInt (by omega), nI_toInt (by omega), Int.ofNat_lt] at h
theorem lp_ngt {x : Int32} {k n : Nat} (hx : x = nI k) (hk : k < 100000) (hn : n < 100000) (h : ¬ nI n < x) : k ≤ n := by
  subst hx; rw [Int32.lt_iff_toInt_lt, nI_toInt (by omega), nI_toInt (by omega), Int.ofNat_lt] at h; omega
theorem lp_s {x : Int32} {k : Nat} (hx : x = nI k) : x + 1 = nI (k + 1) := by rw [hx]; exact nI_1 k
theorem min_y {k n : Nat} (h : k < n) : min (k + 1) n = min k n + 1 := by omega
theorem min_e {k n : Nat} (h : k < n) : min k n = k := by omega
theorem min_n {k n : Nat} (h : ¬ k < n) : min (k + 1) n = min k n := by omega
theorem cnt_y {s : Int32} {p : Nat → Bool} {k n : Nat} (hs : s = nI (cnt p (min k n))) (h : k < n) (hp : p k = true) : s + 1 = nI (cnt p (min (k + 1) n)) := by
  rw [min_y h, min_e h] at *
  rw [hs]; simp only [cnt, hp, if_true]; exact nI_1 _
theorem cnt_f {s : Int32} {p : Nat → Bool} {k n : Nat} (hs : s = nI (cnt p (min k n))) (h : k < n) (hp : p k = false) : s = nI (cnt p (min (k + 1) n)) := by
  rw [min_y h, min_e h] at *
  rw [hs]; simp [cnt, hp]
theorem cnt_n {s : Int32} {p : Nat → Bool} {k n : Nat} (hs : s = nI (cnt p (min k n))) (h : ¬ k < n) : s = nI (cnt p (min (k + 1) n)) := by
  rw [min_n h]; exact hs
theorem cnt_0 {p : Nat → Bool} {n : Nat} : (0 : Int32) = nI (cnt p (min 0 n)) := by rw [Nat.zero_min]; rfl
theorem cnt_e {s : Int32} {p : Nat → Bool} {k n m : Nat} (hs : s = nI (cnt p (min k n))) (hk : k = m) (hn : n ≤ m) : s = nI (cnt p n) := by
  rw [hs, Nat.min_eq_right (by omega)]
theorem its_n {α : Type} {f : Nat → α → α} {a z : α} {k n : Nat} (hs : z = its f a (min k n)) (h : ¬ k < n) : z = its f a (min (k + 1) n) := by rw [min_n h]; exact hs
theorem its_y {α : Type} {f : Nat → α → α} {a z z' : α} {k n : Nat} (hs : z = its f a (min k n)) (h : k < n) (hz : z' = f k z) : z' = its f a (min (k + 1) n) := by
  rw [min_y h, min_e h] at *
  rw [hz, hs]; rfl
theorem its_0 {α : Type} {f : Nat → α → α} {a : α} {n : Nat} : a = its f a (min 0 n) := by rw [Nat.zero_min]; rfl
theorem its_e {α : Type} {f : Nat → α → α} {a z : α} {k n m : Nat} (hs : z = its f a (min k n)) (hk : k = m) (hn : n ≤ m) : z = its f a n := by
  rw [hs, Nat.min_eq_right (by omega)]
theorem no_n {p : Nat → Bool} {k n : Nat} (hs : ∀ t, t < k → t < n → p t = false) (h : ¬ k < n) : ∀ t, t < k + 1 → t < n → p t = false := fun t h1 h2 => hs t (by omega) h2
theorem no_f {p : Nat → Bool} {k n : Nat} (hs : ∀ t, t < k → t < n → p t = false) (hp : p k = false) : ∀ t, t < k + 1 → t < n → p t = false := fun t h1 h2 => by
  by_cases h : t = k
  · subst h; exact hp
  · exact hs t (by omega) h2
theorem nix2 {n : Int32} {j nt : Nat} (hn : n = nI j) (hj : j < 1000) (h : ¬ j < nt) (hb : nt ≤ 1000) : ∀ i, i < nt → n ≠ nI i := by
  intro i hi e
  have := (nI_eq (by omega) (by omega)).mp (hn.symm.trans e)
  omega
theorem ti_ne {w k : Int32} (h : ¬ w = k) : w.toInt ≠ k.toInt := fun e => h (Int32.toInt_inj.mp e)
def s_hangE (E : Rw) (nf : Nat) (t : Int32) : Nat := cnt (fun f => decide (E f 0 = 1 ∧ E f 1 = t)) nf
def s_toldX (T E : Rw) (nf : Nat) (b : Int32) (t : Nat) (w : Int32) : Int32 :=
  if w = 0 then T t 0 else if w = 1 then T t 1 else if w = 2 then T t 2 else if w = 3 then T t 3 else if w = 4 then T t 4 else if w = 5 then (if T t 5 = 0 then 0 else 1) else if w = 6 then s_at T t b else nI (s_hangE E nf (nI t))
def s_toldFX (E : Rw) (b : Int32) (f : Nat) (w : Int32) : Int32 :=
  if w = 0 then E f 0 else if w = 1 then E f 1 else if w = 2 then (if E f 0 = 2 then E f 2 else 0) else if w = 3 then (if E f 0 = 2 then E f 3 - b else -1) else E f 4
def s_countX (b : Int32) (nt nf nc : Nat) (T E C : Rw) (w : Int32) : Int32 :=
  if w = 0 then b else if w = 1 then nI nt else if w = 2 then nI (cnt (fun t => decide (¬ T t 5 = 0)) nt) else if w = 3 then nI nf else if w = 4 then nI (s_in E nf 1) else if w = 5 then nI (s_in E nf 2) else if w = 6 then nI (s_in E nf 3) else if w = 7 then nI (s_in E nf 4) else nI (cnt (fun k => decide (C k 4 = 0)) nc)
def s_wok (T : Rw) (nt : Nat) : Prop := ∀ t, t < nt → ∃ w, w ≤ 10 ∧ T t 2 = nI w

set_option maxHeartbeats 4000000 in
set_option maxRecDepth 100000 in
theorem c_X4_trapezeNumbered (l : Launch) (D : va_G) (cy : Nat → ClassId) {G : GG} {x : Nat} {ad : Nat → Nat → Nat} {b : Int32} {nt nf nc nn : Nat} {T E Cu N KT KF KC : Rw} (h : RX cy x ad b nt nf nc nn T E Cu N KT KF KC G) (n : Int32) : Ctr l D cy yX4_trapezeNumbered prog_1_method_24_code 2 (some (.object "CircusLines$Trapeze")) kX4_trapezeNumbered [.ref x, .int n] G (pA (fun v G' => G' = G ∧ ((∃ i, i < nt ∧ n = nI i ∧ v = .ref (ad 1 i)) ∨ ((∀ i, i < nt → n ≠ nI i) ∧ v = .null)))) := by
  refine Ctr.mk (by decide +kernel) (Nat.le_of_ble_eq_true rfl) ?_
  intro κ C R
  refine g_pc (pc' := 0) rfl ?_
  refine g_seg [(0, .iload_n 1, 1), (1, .iconst 0, 1), (2, .aload_n 0, 1)] 3 [(0, .ref x), (1, .int n)] [.ref x, .int 0, .int n] C (by decide +kernel) rfl ?_
  refine g_getf (pc := 3) (k := 0) (v := .ref (ad 0 0)) C fl_X4_11 (h.1.1) rfl (by decide +kernel) ?_
  refine g_alenA (pc := 6) (len := 6) (t0 := 1) C (h.1.2.1) rfl (by decide +kernel) ?_
  refine g_seg [(7, .iconst 1, 1), (8, .isub, 1)] 9 [(0, .ref x), (1, .int n)] [.int ((nI 6) - 1), .int 0, .int n] C (by decide +kernel) rfl ?_
  refine g_callS (pc := 9) C mS_X4_isWithin q86 (c_X4_isWithin l D cy G n 0 ((nI 6) - 1)) rfl ⟨⟨Nat.le_of_ble_eq_true rfl, Nat.le_of_ble_eq_true rfl⟩, Nat.le_of_ble_eq_true rfl, Nat.le_of_ble_eq_true rfl⟩ rfl (Nat.le_of_ble_eq_true rfl) (by decide +kernel) ?_
  refine g_kI (fun v3 G2 hp1 => ?_)
  obtain ⟨rfl, hp1⟩ := hp1
  rcases hp1 with ⟨rfl, h4⟩ | ⟨rfl, h4⟩
  · refine g_if_eq (pc := 12) (off := 12) 24 C (by decide +kernel) (by decide) (fun c9 => absurd c9 (by decide)) (fun _ => ?_)
    refine g_seg [(15, .aload_n 0, 1)] 16 [(0, .ref x), (1, .int n)] [.ref x] C (by decide +kernel) rfl ?_
    refine g_getf (pc := 16) (k := 0) (v := .ref (ad 0 0)) C fl_X4_11 (h.1.1) rfl (by decide +kernel) ?_
    refine g_seg [(19, .iload_n 1, 1)] 20 [(0, .ref x), (1, .int n)] [.int n, .ref (ad 0 0)] C (by decide +kernel) rfl ?_
    obtain ⟨j, hj, hn⟩ := in_ix (by decide) (by decide) h4
    refine g_aaldA (pc := 20) (len := 6) (t0 := 1) (j := j) C (h.1.2.1) rfl (hn) (hj) (by decide) (by decide +kernel) (fun hi5 => ?_) (fun hi5 => ?_)
    · refine g_seg [(21, .goto 4, 3)] 25 [(0, .ref x), (1, .int n)] [.ref (ad 1 j)] C (by decide +kernel) rfl ?_
      exact g_aret (pc := 25) C R (Or.inl ⟨_, rfl⟩) (Or.inr ⟨_, rfl⟩) (⟨_, rfl, rfl, Or.inl ⟨j, hi5, hn, rfl⟩⟩) (Nat.le_of_ble_eq_true rfl) (Nat.le_of_ble_eq_true rfl) (by decide +kernel)
    · refine g_seg [(21, .goto 4, 3)] 25 [(0, .ref x), (1, .int n)] [.null] C (by decide +kernel) rfl ?_
      exact g_aret (pc := 25) C R (Or.inl ⟨_, rfl⟩) (Or.inl rfl) (⟨_, rfl, rfl, Or.inr ⟨nix2 hn (by omega) hi5 (by have := h.2.2.2.1; omega), rfl⟩⟩) (Nat.le_of_ble_eq_true rfl) (Nat.le_of_ble_eq_true rfl) (by decide +kernel)
  · refine g_if_eq (pc := 12) (off := 12) 24 C (by decide +kernel) (by decide) (fun _ => ?_) (fun c9 => absurd (by decide) c9)
    refine g_seg [(24, .aconst_null, 1)] 25 [(0, .ref x), (1, .int n)] [.null] C (by decide +kernel) rfl ?_
    exact g_aret (pc := 25) C R (Or.inl ⟨_, rfl⟩) (Or.inl rfl) (⟨_, rfl, rfl, Or.inr ⟨fun i hi => in_nix (by decide) (by decide) h4 i (by have := h.2.2.2.1; omega), rfl⟩⟩) (Nat.le_of_ble_eq_true rfl) (Nat.le_of_ble_eq_true rfl) (by decide +kernel)
set_option maxHeartbeats 4000000 in
set_option maxRecDepth 100000 in
theorem c_X4_flyerNumbered (l : Launch) (D : va_G) (cy : Nat → ClassId) {G : GG} {x : Nat} {ad : Nat → Nat → Nat} {b : Int32} {nt nf nc nn : Nat} {T E Cu N KT KF KC : Rw} (h : RX cy x ad b nt nf nc nn T E Cu N KT KF KC G) (n : Int32) : Ctr l D cy yX4_flyerNumbered prog_1_method_25_code 2 (some (.object "CircusLines$Flyer")) kX4_flyerNumbered [.ref x, .int n] G (pA (fun v G' => G' = G ∧ ((∃ i, i < nf ∧ n = nI i ∧ v = .ref (ad 2 i)) ∨ ((∀ i, i < nf → n ≠ nI i) ∧ v = .null)))) := by
  refine Ctr.mk (by decide +kernel) (Nat.le_of_ble_eq_true rfl) ?_
  intro κ C R
  refine g_pc (pc' := 0) rfl ?_
  refine g_seg [(0, .iload_n 1, 1), (1, .iconst 0, 1), (2, .aload_n 0, 1)] 3 [(0, .ref x), (1, .int n)] [.ref x, .int 0, .int n] C (by decide +kernel) rfl ?_
  refine g_getf (pc := 3) (k := 1) (v := .ref (ad 0 1)) C fl_X4_17 (h.1.1) rfl (by decide +kernel) ?_
  refine g_alenA (pc := 6) (len := 8) (t0 := 2) C (h.1.2.2.1) rfl (by decide +kernel) ?_
  refine g_seg [(7, .iconst 1, 1), (8, .isub, 1)] 9 [(0, .ref x), (1, .int n)] [.int ((nI 8) - 1), .int 0, .int n] C (by decide +kernel) rfl ?_
  refine g_callS (pc := 9) C mS_X4_isWithin q86 (c_X4_isWithin l D cy G n 0 ((nI 8) - 1)) rfl ⟨⟨Nat.le_of_ble_eq_true rfl, Nat.le_of_ble_eq_true rfl⟩, Nat.le_of_ble_eq_true rfl, Nat.le_of_ble_eq_true rfl⟩ rfl (Nat.le_of_ble_eq_true rfl) (by decide +kernel) ?_
  refine g_kI (fun v3 G2 hp1 => ?_)
  obtain ⟨rfl, hp1⟩ := hp1
  rcases hp1 with ⟨rfl, h4⟩ | ⟨rfl, h4⟩
  · refine g_if_eq (pc := 12) (off := 12) 24 C (by decide +kernel) (by decide) (fun c9 => absurd c9 (by decide)) (fun _ => ?_)
    refine g_seg [(15, .aload_n 0, 1)] 16 [(0, .ref x), (1, .int n)] [.ref x] C (by decide +kernel) rfl ?_
    refine g_getf (pc := 16) (k := 1) (v := .ref (ad 0 1)) C fl_X4_17 (h.1.1) rfl (by decide +kernel) ?_
    refine g_seg [(19, .iload_n 1, 1)] 20 [(0, .ref x), (1, .int n)] [.int n, .ref (ad 0 1)] C (by decide +kernel) rfl ?_
    obtain ⟨j, hj, hn⟩ := in_ix (by decide) (by decide) h4
    refine g_aaldA (pc := 20) (len := 8) (t0 := 2) (j := j) C (h.1.2.2.1) rfl (hn) (hj) (by decide) (by decide +kernel) (fun hi5 => ?_) (fun hi5 => ?_)
    · refine g_seg [(21, .goto 4, 3)] 25 [(0, .ref x), (1, .int n)] [.ref (ad 2 j)] C (by decide +kernel) rfl ?_
      exact g_aret (pc := 25) C R (Or.inl ⟨_, rfl⟩) (Or.inr ⟨_, rfl⟩) (⟨_, rfl, rfl, Or.inl ⟨j, hi5, hn, rfl⟩⟩) (Nat.le_of_ble_eq_true rfl) (Nat.le_of_ble_eq_true rfl) (by decide +kernel)
    · refine g_seg [(21, .goto 4, 3)] 25 [(0, .ref x), (1, .int n)] [.null] C (by decide +kernel) rfl ?_
      exact g_aret (pc := 25) C R (Or.inl ⟨_, rfl⟩) (Or.inl rfl) (⟨_, rfl, rfl, Or.inr ⟨nix2 hn (by omega) hi5 (by have := h.2.2.2.2.1; omega), rfl⟩⟩) (Nat.le_of_ble_eq_true rfl) (Nat.le_of_ble_eq_true rfl) (by decide +kernel)
  · refine g_if_eq (pc := 12) (off := 12) 24 C (by decide +kernel) (by decide) (fun _ => ?_) (fun c9 => absurd (by decide) c9)
    refine g_seg [(24, .aconst_null, 1)] 25 [(0, .ref x), (1, .int n)] [.null] C (by decide +kernel) rfl ?_
    exact g_aret (pc := 25) C R (Or.inl ⟨_, rfl⟩) (Or.inl rfl) (⟨_, rfl, rfl, Or.inr ⟨fun i hi => in_nix (by decide) (by decide) h4 i (by have := h.2.2.2.2.1; omega), rfl⟩⟩) (Nat.le_of_ble_eq_true rfl) (Nat.le_of_ble_eq_true rfl) (by decide +kernel)
set_option maxHeartbeats 4000000 in
set_option maxRecDepth 100000 in
theorem c_X4_hangersOf (l : Launch) (D : va_G) (cy : Nat → ClassId) {G : GG} {x : Nat} {ad : Nat → Nat → Nat} {b : Int32} {nt nf nc nn : Nat} {T E Cu N KT KF KC : Rw} (h : RX cy x ad b nt nf nc nn T E Cu N KT KF KC G) (n : Int32) : Ctr l D cy yX4_hangersOf prog_1_method_26_code 7 (some .int) kX4_hangersOf [.ref x, .int n] G (pI (fun v G' => G' = G ∧ v = nI (cnt (fun k => decide (E k 0 = 1 ∧ E k 1 = n)) nf))) := by
  refine Ctr.mk (by decide +kernel) (Nat.le_of_ble_eq_true rfl) ?_
  intro κ C R
  refine g_pc (pc' := 0) rfl ?_
  refine g_seg [(0, .iconst 0, 1), (1, .istore_n 2, 1), (2, .aload_n 0, 1)] 3 [(2, .int 0), (0, .ref x), (1, .int n)] [.ref x] C (by decide +kernel) rfl ?_
  refine g_getf (pc := 3) (k := 1) (v := .ref (ad 0 1)) C fl_X4_17 (h.1.1) rfl (by decide +kernel) ?_
  refine g_seg [(6, .astore_n 3, 1), (7, .aload_n 3, 1)] 8 [(3, .ref (ad 0 1)), (2, .int 0), (0, .ref x), (1, .int n)] [.ref (ad 0 1)] C (by decide +kernel) rfl ?_
  refine g_alenA (pc := 8) (len := 8) (t0 := 2) C (h.1.2.2.1) rfl (by decide +kernel) ?_
  refine g_seg [(9, .istore 4, 2), (11, .iconst 0, 1), (12, .istore 5, 2)] 14 [(5, .int 0), (4, .int (nI 8)), (3, .ref (ad 0 1)), (2, .int 0), (0, .ref x), (1, .int n)] [] C (by decide +kernel) rfl ?_
  refine g_subp [4, 5, 3, 2, 1, 0] (lv' := [(0, .ref x), (1, .int n), (2, .int 0), (3, .ref (ad 0 1)), (4, .int (nI 8)), (5, .int 0)]) rfl ?_
  have lp1 : ∀ (m k : Nat) (s xk : Int32), 8 + 1 ≤ k + m → k ≤ 8 → xk = nI k → s = nI (cnt (fun k => decide (E k 0 = 1 ∧ E k 1 = n)) (min k nf)) → PG κ 7 0 0 G [(0, .ref x), (1, .int n), (2, .int s), (3, .ref (ad 0 1)), (4, .int (nI 8)), (5, .int xk)] 14 [] := by
    intro m
    induction m with
    | zero => intro k s xk h1 h2; intros; exact absurd h1 (by omega)
    | succ m ih =>
      intro k s xk hm hk hx hs
      refine g_seg [(14, .iload 5, 2), (16, .iload 4, 2)] 18 [(0, .ref x), (1, .int n), (2, .int s), (3, .ref (ad 0 1)), (4, .int (nI 8)), (5, .int xk)] [.int (nI 8), .int xk] C (by decide +kernel) rfl ?_
      refine g_icmp_ge (pc := 18) (off := 32) 50 C (by decide +kernel) (by decide) (fun c2 => ?_) (fun c2 => ?_)
      · have hk8 : k = 8 := by have := lp_ge hx (by omega) (by decide) c2; omega
        refine g_seg [(50, .iload_n 2, 1)] 51 [(0, .ref x), (1, .int n), (2, .int s), (3, .ref (ad 0 1)), (4, .int (nI 8)), (5, .int xk)] [.int s] C (by decide +kernel) rfl ?_
        exact g_iret (pc := 51) C R (⟨_, rfl, rfl, cnt_e hs hk8 (h.2.2.2.2.1)⟩) (Nat.le_of_ble_eq_true rfl) (Nat.le_of_ble_eq_true rfl) (by decide +kernel)
      · have hk8 : k < 8 := by have := lp_lt hx (by omega) (by decide) c2; omega
        refine g_seg [(21, .aload_n 3, 1), (22, .iload 5, 2)] 24 [(0, .ref x), (1, .int n), (2, .int s), (3, .ref (ad 0 1)), (4, .int (nI 8)), (5, .int xk)] [.int xk, .ref (ad 0 1)] C (by decide +kernel) rfl ?_
        refine g_aaldA (pc := 24) (len := 8) (t0 := 2) (j := k) C (h.1.2.2.1) rfl (hx) (hk8) (by decide) (by decide +kernel) (fun hi3 => ?_) (fun hi3 => ?_)
        · refine g_seg [(25, .astore 6, 2), (27, .aload 6, 2)] 29 [(6, .ref (ad 2 k)), (0, .ref x), (1, .int n), (2, .int s), (3, .ref (ad 0 1)), (4, .int (nI 8)), (5, .int xk)] [.ref (ad 2 k)] C (by decide +kernel) rfl ?_
          refine g_ifnull (pc := 29) (off := 15) C (by decide +kernel) ?_
          refine g_seg [(32, .aload 6, 2), (34, .iload_n 1, 1)] 35 [(6, .ref (ad 2 k)), (0, .ref x), (1, .int n), (2, .int s), (3, .ref (ad 0 1)), (4, .int (nI 8)), (5, .int xk)] [.int n, .ref (ad 2 k)] C (by decide +kernel) rfl ?_
          refine g_callV (pc := 35) C mV_X1_hangsFrom q179 (h.2.1.2.1 k hi3) rfl rfl (c_X1_hangsFrom l D cy G (ad 2 k) (E k 0) (E k 1) (E k 2) (E k 3) (E k 4) (KF k 0) (KF k 1) (KF k 2) (KF k 3) (KF k 4) n (h.2.1.2.1 k hi3)) rfl ⟨⟨Nat.le_of_ble_eq_true rfl, Nat.le_of_ble_eq_true rfl⟩, Nat.le_of_ble_eq_true rfl, Nat.le_of_ble_eq_true rfl⟩ rfl (Nat.le_of_ble_eq_true rfl) (by decide +kernel) ?_
          refine g_kI (fun v6 G5 hp4 => ?_)
          obtain ⟨rfl, hp4⟩ := hp4
          rcases hp4 with ⟨rfl, h7⟩ | ⟨rfl, h7⟩
          · refine g_if_eq (pc := 38) (off := 6) 44 C (by decide +kernel) (by decide) (fun c9 => absurd c9 (by decide)) (fun _ => ?_)
            refine g_seg [(41, .iinc 2 1, 3), (44, .iinc 5 1, 3), (47, .goto (-33), 3)] 14 [(5, .int (xk + 1)), (2, .int (s + 1)), (6, .ref (ad 2 k)), (0, .ref x), (1, .int n), (3, .ref (ad 0 1)), (4, .int (nI 8))] [] C (by decide +kernel) rfl ?_
            refine g_subp [3, 4, 1, 5, 6, 0] (lv' := [(0, .ref x), (1, .int n), (2, .int (s + 1)), (3, .ref (ad 0 1)), (4, .int (nI 8)), (5, .int (xk + 1))]) rfl ?_
            exact ih (k + 1) (s + 1) (xk + 1) (by omega) (by omega) (lp_s hx) (cnt_y hs hi3 (decide_eq_true h7))
          · refine g_if_eq (pc := 38) (off := 6) 44 C (by decide +kernel) (by decide) (fun _ => ?_) (fun c9 => absurd (by decide) c9)
            refine g_seg [(44, .iinc 5 1, 3), (47, .goto (-33), 3)] 14 [(5, .int (xk + 1)), (6, .ref (ad 2 k)), (0, .ref x), (1, .int n), (2, .int s), (3, .ref (ad 0 1)), (4, .int (nI 8))] [] C (by decide +kernel) rfl ?_
            refine g_subp [2, 3, 4, 5, 6, 0] (lv' := [(0, .ref x), (1, .int n), (2, .int s), (3, .ref (ad 0 1)), (4, .int (nI 8)), (5, .int (xk + 1))]) rfl ?_
            exact ih (k + 1) s (xk + 1) (by omega) (by omega) (lp_s hx) (cnt_f hs hi3 (decide_eq_false h7))
        · refine g_seg [(25, .astore 6, 2), (27, .aload 6, 2)] 29 [(6, .null), (0, .ref x), (1, .int n), (2, .int s), (3, .ref (ad 0 1)), (4, .int (nI 8)), (5, .int xk)] [.null] C (by decide +kernel) rfl ?_
          refine g_ifnullN (pc := 29) (off := 15) 44 C (by decide +kernel) (by decide) ?_
          refine g_seg [(44, .iinc 5 1, 3), (47, .goto (-33), 3)] 14 [(5, .int (xk + 1)), (6, .null), (0, .ref x), (1, .int n), (2, .int s), (3, .ref (ad 0 1)), (4, .int (nI 8))] [] C (by decide +kernel) rfl ?_
          refine g_subp [2, 3, 4, 5, 6, 0] (lv' := [(0, .ref x), (1, .int n), (2, .int s), (3, .ref (ad 0 1)), (4, .int (nI 8)), (5, .int (xk + 1))]) rfl ?_
          exact ih (k + 1) s (xk + 1) (by omega) (by omega) (lp_s hx) (cnt_n hs hi3)
  exact lp1 (8 + 1) 0 0 0 (by omega) (by omega) (nI_0.symm) (cnt_0)
set_option maxHeartbeats 4000000 in
set_option maxRecDepth 100000 in
theorem c_X4_wholeTrapezes (l : Launch) (D : va_G) (cy : Nat → ClassId) {G : GG} {x : Nat} {ad : Nat → Nat → Nat} {b : Int32} {nt nf nc nn : Nat} {T E Cu N KT KF KC : Rw} (h : RX cy x ad b nt nf nc nn T E Cu N KT KF KC G) : Ctr l D cy yX4_wholeTrapezes prog_1_method_32_code 6 (some .int) kX4_wholeTrapezes [.ref x] G (pI (fun v G' => G' = G ∧ v = nI (cnt (fun k => decide (¬ T k 5 = 0)) nt))) := by
  refine Ctr.mk (by decide +kernel) (Nat.le_of_ble_eq_true rfl) ?_
  intro κ C R
  refine g_pc (pc' := 0) rfl ?_
  refine g_seg [(0, .iconst 0, 1), (1, .istore_n 1, 1), (2, .aload_n 0, 1)] 3 [(1, .int 0), (0, .ref x)] [.ref x] C (by decide +kernel) rfl ?_
  refine g_getf (pc := 3) (k := 0) (v := .ref (ad 0 0)) C fl_X4_11 (h.1.1) rfl (by decide +kernel) ?_
  refine g_seg [(6, .astore_n 2, 1), (7, .aload_n 2, 1)] 8 [(2, .ref (ad 0 0)), (1, .int 0), (0, .ref x)] [.ref (ad 0 0)] C (by decide +kernel) rfl ?_
  refine g_alenA (pc := 8) (len := 6) (t0 := 1) C (h.1.2.1) rfl (by decide +kernel) ?_
  refine g_seg [(9, .istore_n 3, 1), (10, .iconst 0, 1), (11, .istore 4, 2)] 13 [(4, .int 0), (3, .int (nI 6)), (2, .ref (ad 0 0)), (1, .int 0), (0, .ref x)] [] C (by decide +kernel) rfl ?_
  refine g_subp [4, 3, 2, 1, 0] (lv' := [(0, .ref x), (1, .int 0), (2, .ref (ad 0 0)), (3, .int (nI 6)), (4, .int 0)]) rfl ?_
  have lp1 : ∀ (m k : Nat) (s xk : Int32), 6 + 1 ≤ k + m → k ≤ 6 → xk = nI k → s = nI (cnt (fun k => decide (¬ T k 5 = 0)) (min k nt)) → PG κ 6 0 0 G [(0, .ref x), (1, .int s), (2, .ref (ad 0 0)), (3, .int (nI 6)), (4, .int xk)] 13 [] := by
    intro m
    induction m with
    | zero => intro k s xk h1 h2; intros; exact absurd h1 (by omega)
    | succ m ih =>
      intro k s xk hm hk hx hs
      refine g_seg [(13, .iload 4, 2), (15, .iload_n 3, 1)] 16 [(0, .ref x), (1, .int s), (2, .ref (ad 0 0)), (3, .int (nI 6)), (4, .int xk)] [.int (nI 6), .int xk] C (by decide +kernel) rfl ?_
      refine g_icmp_ge (pc := 16) (off := 31) 47 C (by decide +kernel) (by decide) (fun c2 => ?_) (fun c2 => ?_)
      · have hk8 : k = 6 := by have := lp_ge hx (by omega) (by decide) c2; omega
        refine g_seg [(47, .iload_n 1, 1)] 48 [(0, .ref x), (1, .int s), (2, .ref (ad 0 0)), (3, .int (nI 6)), (4, .int xk)] [.int s] C (by decide +kernel) rfl ?_
        exact g_iret (pc := 48) C R (⟨_, rfl, rfl, cnt_e hs hk8 (h.2.2.2.1)⟩) (Nat.le_of_ble_eq_true rfl) (Nat.le_of_ble_eq_true rfl) (by decide +kernel)
      · have hk8 : k < 6 := by have := lp_lt hx (by omega) (by decide) c2; omega
        refine g_seg [(19, .aload_n 2, 1), (20, .iload 4, 2)] 22 [(0, .ref x), (1, .int s), (2, .ref (ad 0 0)), (3, .int (nI 6)), (4, .int xk)] [.int xk, .ref (ad 0 0)] C (by decide +kernel) rfl ?_
        refine g_aaldA (pc := 22) (len := 6) (t0 := 1) (j := k) C (h.1.2.1) rfl (hx) (hk8) (by decide) (by decide +kernel) (fun hi3 => ?_) (fun hi3 => ?_)
        · refine g_seg [(23, .astore 5, 2), (25, .aload 5, 2)] 27 [(5, .ref (ad 1 k)), (0, .ref x), (1, .int s), (2, .ref (ad 0 0)), (3, .int (nI 6)), (4, .int xk)] [.ref (ad 1 k)] C (by decide +kernel) rfl ?_
          refine g_ifnull (pc := 27) (off := 14) C (by decide +kernel) ?_
          refine g_seg [(30, .aload 5, 2)] 32 [(5, .ref (ad 1 k)), (0, .ref x), (1, .int s), (2, .ref (ad 0 0)), (3, .int (nI 6)), (4, .int xk)] [.ref (ad 1 k)] C (by decide +kernel) rfl ?_
          refine g_getf (pc := 32) (k := 6) (v := .int (T k 5)) C fl_X4_70 (h.2.1.1 k hi3) rfl (by decide +kernel) ?_
          refine g_if_eq (pc := 35) (off := 6) 41 C (by decide +kernel) (by decide) (fun c4 => ?_) (fun c4 => ?_)
          · refine g_seg [(41, .iinc 4 1, 3), (44, .goto (-31), 3)] 13 [(4, .int (xk + 1)), (5, .ref (ad 1 k)), (0, .ref x), (1, .int s), (2, .ref (ad 0 0)), (3, .int (nI 6))] [] C (by decide +kernel) rfl ?_
            refine g_subp [2, 3, 4, 5, 0] (lv' := [(0, .ref x), (1, .int s), (2, .ref (ad 0 0)), (3, .int (nI 6)), (4, .int (xk + 1))]) rfl ?_
            exact ih (k + 1) s (xk + 1) (by omega) (by omega) (lp_s hx) (cnt_f hs hi3 (decide_eq_false (fun h9 => h9 c4)))
          · refine g_seg [(38, .iinc 1 1, 3), (41, .iinc 4 1, 3), (44, .goto (-31), 3)] 13 [(4, .int (xk + 1)), (1, .int (s + 1)), (5, .ref (ad 1 k)), (0, .ref x), (2, .ref (ad 0 0)), (3, .int (nI 6))] [] C (by decide +kernel) rfl ?_
            refine g_subp [3, 1, 4, 5, 0] (lv' := [(0, .ref x), (1, .int (s + 1)), (2, .ref (ad 0 0)), (3, .int (nI 6)), (4, .int (xk + 1))]) rfl ?_
            exact ih (k + 1) (s + 1) (xk + 1) (by omega) (by omega) (lp_s hx) (cnt_y hs hi3 (decide_eq_true c4))
        · refine g_seg [(23, .astore 5, 2), (25, .aload 5, 2)] 27 [(5, .null), (0, .ref x), (1, .int s), (2, .ref (ad 0 0)), (3, .int (nI 6)), (4, .int xk)] [.null] C (by decide +kernel) rfl ?_
          refine g_ifnullN (pc := 27) (off := 14) 41 C (by decide +kernel) (by decide) ?_
          refine g_seg [(41, .iinc 4 1, 3), (44, .goto (-31), 3)] 13 [(4, .int (xk + 1)), (5, .null), (0, .ref x), (1, .int s), (2, .ref (ad 0 0)), (3, .int (nI 6))] [] C (by decide +kernel) rfl ?_
          refine g_subp [2, 3, 4, 5, 0] (lv' := [(0, .ref x), (1, .int s), (2, .ref (ad 0 0)), (3, .int (nI 6)), (4, .int (xk + 1))]) rfl ?_
          exact ih (k + 1) s (xk + 1) (by omega) (by omega) (lp_s hx) (cnt_n hs hi3)
  exact lp1 (6 + 1) 0 0 0 (by omega) (by omega) (nI_0.symm) (cnt_0)
set_option maxHeartbeats 4000000 in
set_option maxRecDepth 100000 in
theorem c_X4_flyersWhoAre (l : Launch) (D : va_G) (cy : Nat → ClassId) {G : GG} {x : Nat} {ad : Nat → Nat → Nat} {b : Int32} {nt nf nc nn : Nat} {T E Cu N KT KF KC : Rw} (h : RX cy x ad b nt nf nc nn T E Cu N KT KF KC G) (n : Int32) : Ctr l D cy yX4_flyersWhoAre prog_1_method_33_code 7 (some .int) kX4_flyersWhoAre [.ref x, .int n] G (pI (fun v G' => G' = G ∧ v = nI (cnt (fun k => decide (E k 0 = n)) nf))) := by
  refine Ctr.mk (by decide +kernel) (Nat.le_of_ble_eq_true rfl) ?_
  intro κ C R
  refine g_pc (pc' := 0) rfl ?_
  refine g_seg [(0, .iconst 0, 1), (1, .istore_n 2, 1), (2, .aload_n 0, 1)] 3 [(2, .int 0), (0, .ref x), (1, .int n)] [.ref x] C (by decide +kernel) rfl ?_
  refine g_getf (pc := 3) (k := 1) (v := .ref (ad 0 1)) C fl_X4_17 (h.1.1) rfl (by decide +kernel) ?_
  refine g_seg [(6, .astore_n 3, 1), (7, .aload_n 3, 1)] 8 [(3, .ref (ad 0 1)), (2, .int 0), (0, .ref x), (1, .int n)] [.ref (ad 0 1)] C (by decide +kernel) rfl ?_
  refine g_alenA (pc := 8) (len := 8) (t0 := 2) C (h.1.2.2.1) rfl (by decide +kernel) ?_
  refine g_seg [(9, .istore 4, 2), (11, .iconst 0, 1), (12, .istore 5, 2)] 14 [(5, .int 0), (4, .int (nI 8)), (3, .ref (ad 0 1)), (2, .int 0), (0, .ref x), (1, .int n)] [] C (by decide +kernel) rfl ?_
  refine g_subp [4, 5, 3, 2, 1, 0] (lv' := [(0, .ref x), (1, .int n), (2, .int 0), (3, .ref (ad 0 1)), (4, .int (nI 8)), (5, .int 0)]) rfl ?_
  have lp1 : ∀ (m k : Nat) (s xk : Int32), 8 + 1 ≤ k + m → k ≤ 8 → xk = nI k → s = nI (cnt (fun k => decide (E k 0 = n)) (min k nf)) → PG κ 7 0 0 G [(0, .ref x), (1, .int n), (2, .int s), (3, .ref (ad 0 1)), (4, .int (nI 8)), (5, .int xk)] 14 [] := by
    intro m
    induction m with
    | zero => intro k s xk h1 h2; intros; exact absurd h1 (by omega)
    | succ m ih =>
      intro k s xk hm hk hx hs
      refine g_seg [(14, .iload 5, 2), (16, .iload 4, 2)] 18 [(0, .ref x), (1, .int n), (2, .int s), (3, .ref (ad 0 1)), (4, .int (nI 8)), (5, .int xk)] [.int (nI 8), .int xk] C (by decide +kernel) rfl ?_
      refine g_icmp_ge (pc := 18) (off := 32) 50 C (by decide +kernel) (by decide) (fun c2 => ?_) (fun c2 => ?_)
      · have hk8 : k = 8 := by have := lp_ge hx (by omega) (by decide) c2; omega
        refine g_seg [(50, .iload_n 2, 1)] 51 [(0, .ref x), (1, .int n), (2, .int s), (3, .ref (ad 0 1)), (4, .int (nI 8)), (5, .int xk)] [.int s] C (by decide +kernel) rfl ?_
        exact g_iret (pc := 51) C R (⟨_, rfl, rfl, cnt_e hs hk8 (h.2.2.2.2.1)⟩) (Nat.le_of_ble_eq_true rfl) (Nat.le_of_ble_eq_true rfl) (by decide +kernel)
      · have hk8 : k < 8 := by have := lp_lt hx (by omega) (by decide) c2; omega
        refine g_seg [(21, .aload_n 3, 1), (22, .iload 5, 2)] 24 [(0, .ref x), (1, .int n), (2, .int s), (3, .ref (ad 0 1)), (4, .int (nI 8)), (5, .int xk)] [.int xk, .ref (ad 0 1)] C (by decide +kernel) rfl ?_
        refine g_aaldA (pc := 24) (len := 8) (t0 := 2) (j := k) C (h.1.2.2.1) rfl (hx) (hk8) (by decide) (by decide +kernel) (fun hi3 => ?_) (fun hi3 => ?_)
        · refine g_seg [(25, .astore 6, 2), (27, .aload 6, 2)] 29 [(6, .ref (ad 2 k)), (0, .ref x), (1, .int n), (2, .int s), (3, .ref (ad 0 1)), (4, .int (nI 8)), (5, .int xk)] [.ref (ad 2 k)] C (by decide +kernel) rfl ?_
          refine g_ifnull (pc := 29) (off := 15) C (by decide +kernel) ?_
          refine g_seg [(32, .aload 6, 2)] 34 [(6, .ref (ad 2 k)), (0, .ref x), (1, .int n), (2, .int s), (3, .ref (ad 0 1)), (4, .int (nI 8)), (5, .int xk)] [.ref (ad 2 k)] C (by decide +kernel) rfl ?_
          refine g_getf (pc := 34) (k := 0) (v := .int (E k 0)) C fl_X4_229 (h.2.1.2.1 k hi3) rfl (by decide +kernel) ?_
          refine g_seg [(37, .iload_n 1, 1)] 38 [(6, .ref (ad 2 k)), (0, .ref x), (1, .int n), (2, .int s), (3, .ref (ad 0 1)), (4, .int (nI 8)), (5, .int xk)] [.int n, .int (E k 0)] C (by decide +kernel) rfl ?_
          refine g_icmp_ne (pc := 38) (off := 6) 44 C (by decide +kernel) (by decide) (fun c4 => ?_) (fun c4 => ?_)
          · refine g_seg [(44, .iinc 5 1, 3), (47, .goto (-33), 3)] 14 [(5, .int (xk + 1)), (6, .ref (ad 2 k)), (0, .ref x), (1, .int n), (2, .int s), (3, .ref (ad 0 1)), (4, .int (nI 8))] [] C (by decide +kernel) rfl ?_
            refine g_subp [2, 3, 4, 5, 6, 0] (lv' := [(0, .ref x), (1, .int n), (2, .int s), (3, .ref (ad 0 1)), (4, .int (nI 8)), (5, .int (xk + 1))]) rfl ?_
            exact ih (k + 1) s (xk + 1) (by omega) (by omega) (lp_s hx) (cnt_f hs hi3 (decide_eq_false c4))
          · refine g_seg [(41, .iinc 2 1, 3), (44, .iinc 5 1, 3), (47, .goto (-33), 3)] 14 [(5, .int (xk + 1)), (2, .int (s + 1)), (6, .ref (ad 2 k)), (0, .ref x), (1, .int n), (3, .ref (ad 0 1)), (4, .int (nI 8))] [] C (by decide +kernel) rfl ?_
            refine g_subp [3, 4, 1, 5, 6, 0] (lv' := [(0, .ref x), (1, .int n), (2, .int (s + 1)), (3, .ref (ad 0 1)), (4, .int (nI 8)), (5, .int (xk + 1))]) rfl ?_
            exact ih (k + 1) (s + 1) (xk + 1) (by omega) (by omega) (lp_s hx) (cnt_y hs hi3 (decide_eq_true c4))
        · refine g_seg [(25, .astore 6, 2), (27, .aload 6, 2)] 29 [(6, .null), (0, .ref x), (1, .int n), (2, .int s), (3, .ref (ad 0 1)), (4, .int (nI 8)), (5, .int xk)] [.null] C (by decide +kernel) rfl ?_
          refine g_ifnullN (pc := 29) (off := 15) 44 C (by decide +kernel) (by decide) ?_
          refine g_seg [(44, .iinc 5 1, 3), (47, .goto (-33), 3)] 14 [(5, .int (xk + 1)), (6, .null), (0, .ref x), (1, .int n), (2, .int s), (3, .ref (ad 0 1)), (4, .int (nI 8))] [] C (by decide +kernel) rfl ?_
          refine g_subp [2, 3, 4, 5, 6, 0] (lv' := [(0, .ref x), (1, .int n), (2, .int s), (3, .ref (ad 0 1)), (4, .int (nI 8)), (5, .int (xk + 1))]) rfl ?_
          exact ih (k + 1) s (xk + 1) (by omega) (by omega) (lp_s hx) (cnt_n hs hi3)
  exact lp1 (8 + 1) 0 0 0 (by omega) (by omega) (nI_0.symm) (cnt_0)
set_option maxHeartbeats 4000000 in
set_option maxRecDepth 100000 in
theorem c_X4_openCues (l : Launch) (D : va_G) (cy : Nat → ClassId) {G : GG} {x : Nat} {ad : Nat → Nat → Nat} {b : Int32} {nt nf nc nn : Nat} {T E Cu N KT KF KC : Rw} (h : RX cy x ad b nt nf nc nn T E Cu N KT KF KC G) : Ctr l D cy yX4_openCues prog_1_method_34_code 6 (some .int) kX4_openCues [.ref x] G (pI (fun v G' => G' = G ∧ v = nI (cnt (fun k => decide (Cu k 4 = 0)) nc))) := by
  refine Ctr.mk (by decide +kernel) (Nat.le_of_ble_eq_true rfl) ?_
  intro κ C R
  refine g_pc (pc' := 0) rfl ?_
  refine g_seg [(0, .iconst 0, 1), (1, .istore_n 1, 1), (2, .aload_n 0, 1)] 3 [(1, .int 0), (0, .ref x)] [.ref x] C (by decide +kernel) rfl ?_
  refine g_getf (pc := 3) (k := 2) (v := .ref (ad 0 2)) C fl_X4_23 (h.1.1) rfl (by decide +kernel) ?_
  refine g_seg [(6, .astore_n 2, 1), (7, .aload_n 2, 1)] 8 [(2, .ref (ad 0 2)), (1, .int 0), (0, .ref x)] [.ref (ad 0 2)] C (by decide +kernel) rfl ?_
  refine g_alenA (pc := 8) (len := 20) (t0 := 3) C (h.1.2.2.2.1) rfl (by decide +kernel) ?_
  refine g_seg [(9, .istore_n 3, 1), (10, .iconst 0, 1), (11, .istore 4, 2)] 13 [(4, .int 0), (3, .int (nI 20)), (2, .ref (ad 0 2)), (1, .int 0), (0, .ref x)] [] C (by decide +kernel) rfl ?_
  refine g_subp [4, 3, 2, 1, 0] (lv' := [(0, .ref x), (1, .int 0), (2, .ref (ad 0 2)), (3, .int (nI 20)), (4, .int 0)]) rfl ?_
  have lp1 : ∀ (m k : Nat) (s xk : Int32), 20 + 1 ≤ k + m → k ≤ 20 → xk = nI k → s = nI (cnt (fun k => decide (Cu k 4 = 0)) (min k nc)) → PG κ 6 0 0 G [(0, .ref x), (1, .int s), (2, .ref (ad 0 2)), (3, .int (nI 20)), (4, .int xk)] 13 [] := by
    intro m
    induction m with
    | zero => intro k s xk h1 h2; intros; exact absurd h1 (by omega)
    | succ m ih =>
      intro k s xk hm hk hx hs
      refine g_seg [(13, .iload 4, 2), (15, .iload_n 3, 1)] 16 [(0, .ref x), (1, .int s), (2, .ref (ad 0 2)), (3, .int (nI 20)), (4, .int xk)] [.int (nI 20), .int xk] C (by decide +kernel) rfl ?_
      refine g_icmp_ge (pc := 16) (off := 31) 47 C (by decide +kernel) (by decide) (fun c2 => ?_) (fun c2 => ?_)
      · have hk8 : k = 20 := by have := lp_ge hx (by omega) (by decide) c2; omega
        refine g_seg [(47, .iload_n 1, 1)] 48 [(0, .ref x), (1, .int s), (2, .ref (ad 0 2)), (3, .int (nI 20)), (4, .int xk)] [.int s] C (by decide +kernel) rfl ?_
        exact g_iret (pc := 48) C R (⟨_, rfl, rfl, cnt_e hs hk8 (h.2.2.2.2.2.1)⟩) (Nat.le_of_ble_eq_true rfl) (Nat.le_of_ble_eq_true rfl) (by decide +kernel)
      · have hk8 : k < 20 := by have := lp_lt hx (by omega) (by decide) c2; omega
        refine g_seg [(19, .aload_n 2, 1), (20, .iload 4, 2)] 22 [(0, .ref x), (1, .int s), (2, .ref (ad 0 2)), (3, .int (nI 20)), (4, .int xk)] [.int xk, .ref (ad 0 2)] C (by decide +kernel) rfl ?_
        refine g_aaldA (pc := 22) (len := 20) (t0 := 3) (j := k) C (h.1.2.2.2.1) rfl (hx) (hk8) (by decide) (by decide +kernel) (fun hi3 => ?_) (fun hi3 => ?_)
        · refine g_seg [(23, .astore 5, 2), (25, .aload 5, 2)] 27 [(5, .ref (ad 3 k)), (0, .ref x), (1, .int s), (2, .ref (ad 0 2)), (3, .int (nI 20)), (4, .int xk)] [.ref (ad 3 k)] C (by decide +kernel) rfl ?_
          refine g_ifnull (pc := 27) (off := 14) C (by decide +kernel) ?_
          refine g_seg [(30, .aload 5, 2)] 32 [(5, .ref (ad 3 k)), (0, .ref x), (1, .int s), (2, .ref (ad 0 2)), (3, .int (nI 20)), (4, .int xk)] [.ref (ad 3 k)] C (by decide +kernel) rfl ?_
          refine g_getf (pc := 32) (k := 4) (v := .int (Cu k 4)) C fl_X4_248 (h.2.1.2.2.1 k hi3) rfl (by decide +kernel) ?_
          refine g_if_ne (pc := 35) (off := 6) 41 C (by decide +kernel) (by decide) (fun c4 => ?_) (fun c4 => ?_)
          · refine g_seg [(41, .iinc 4 1, 3), (44, .goto (-31), 3)] 13 [(4, .int (xk + 1)), (5, .ref (ad 3 k)), (0, .ref x), (1, .int s), (2, .ref (ad 0 2)), (3, .int (nI 20))] [] C (by decide +kernel) rfl ?_
            refine g_subp [2, 3, 4, 5, 0] (lv' := [(0, .ref x), (1, .int s), (2, .ref (ad 0 2)), (3, .int (nI 20)), (4, .int (xk + 1))]) rfl ?_
            exact ih (k + 1) s (xk + 1) (by omega) (by omega) (lp_s hx) (cnt_f hs hi3 (decide_eq_false c4))
          · refine g_seg [(38, .iinc 1 1, 3), (41, .iinc 4 1, 3), (44, .goto (-31), 3)] 13 [(4, .int (xk + 1)), (1, .int (s + 1)), (5, .ref (ad 3 k)), (0, .ref x), (2, .ref (ad 0 2)), (3, .int (nI 20))] [] C (by decide +kernel) rfl ?_
            refine g_subp [3, 1, 4, 5, 0] (lv' := [(0, .ref x), (1, .int (s + 1)), (2, .ref (ad 0 2)), (3, .int (nI 20)), (4, .int (xk + 1))]) rfl ?_
            exact ih (k + 1) (s + 1) (xk + 1) (by omega) (by omega) (lp_s hx) (cnt_y hs hi3 (decide_eq_true c4))
        · refine g_seg [(23, .astore 5, 2), (25, .aload 5, 2)] 27 [(5, .null), (0, .ref x), (1, .int s), (2, .ref (ad 0 2)), (3, .int (nI 20)), (4, .int xk)] [.null] C (by decide +kernel) rfl ?_
          refine g_ifnullN (pc := 27) (off := 14) 41 C (by decide +kernel) (by decide) ?_
          refine g_seg [(41, .iinc 4 1, 3), (44, .goto (-31), 3)] 13 [(4, .int (xk + 1)), (5, .null), (0, .ref x), (1, .int s), (2, .ref (ad 0 2)), (3, .int (nI 20))] [] C (by decide +kernel) rfl ?_
          refine g_subp [2, 3, 4, 5, 0] (lv' := [(0, .ref x), (1, .int s), (2, .ref (ad 0 2)), (3, .int (nI 20)), (4, .int (xk + 1))]) rfl ?_
          exact ih (k + 1) s (xk + 1) (by omega) (by omega) (lp_s hx) (cnt_n hs hi3)
  exact lp1 (20 + 1) 0 0 0 (by omega) (by omega) (nI_0.symm) (cnt_0)
