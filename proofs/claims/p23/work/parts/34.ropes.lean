/-! ropes -/
theorem st_row {E E' : Rw} {f : Nat} {a n : Int32} (h : E' f = E f) : x_st E' f a n f = x_st E f a n f := by
  funext k
  unfold x_st
  rw [if_pos rfl, if_pos rfl, h]
theorem drops_all {N E F : Rw} {nn nf : Nat} {v p b : Int32} (hs : ∀ f k, f < nf → k < 5 → F f k = zF b E f k) (m : Nat) (hm : m ≤ nf) :
    (∀ f, its (x_drop N nn v p) E m f = if f < m ∧ E f 0 = 1 ∧ E f 1 = v then x_st E f (x_fallc N nn p) (-1) f else E f) ∧ ∀ f k, f < nf → k < 5 → its (y_drop N nn v p) F m f k = zF b (its (x_drop N nn v p) E m) f k := by
  induction m with
  | zero => exact ⟨fun f => by rw [if_neg (fun q => absurd q.1 (Nat.not_lt_zero f))]; rfl, fun f k hf hk => hs f k hf hk⟩
  | succ m ih =>
    obtain ⟨i1, i2⟩ := ih (by omega)
    simp only [its]
    generalize its (x_drop N nn v p) E m = Em at i1 i2 ⊢
    generalize its (y_drop N nn v p) F m = Fm at i2 ⊢
    have em : Em m = E m := by rw [i1 m, if_neg (fun q => absurd q.1 (Nat.lt_irrefl m))]
    have fm0 : Fm m 0 = E m 0 := by rw [i2 m 0 (by omega) (by decide)]; show Em m 0 = _; rw [em]
    have fm1 : Fm m 1 = E m 1 := by rw [i2 m 1 (by omega) (by decide)]; show Em m 1 = _; rw [em]
    by_cases hc : E m 0 = 1 ∧ E m 1 = v
    · have ex : x_drop N nn v p m Em = x_st Em m (x_fallc N nn p) (-1) := by
        unfold x_drop; rw [em, if_pos hc]
      have ey : y_drop N nn v p m Fm = s_fall N nn Fm m p := by
        unfold y_drop; rw [fm0, fm1, if_pos hc]
      rw [ex, ey]
      refine ⟨fun f => ?_, fun f k hf hk => ?_⟩
      · by_cases e : f = m
        · subst e
          rw [if_pos ⟨Nat.lt_succ_self f, hc⟩, st_row em]
        · rw [st_ne e, i1 f]
          by_cases h1 : f < m ∧ E f 0 = 1 ∧ E f 1 = v
          · rw [if_pos h1, if_pos ⟨by omega, h1.2⟩]
          · rw [if_neg h1, if_neg (fun q => h1 ⟨by omega, q.2⟩)]
      · by_cases e : f = m
        · subst e
          obtain ⟨y0, y1, y2, y3, y4⟩ := row_at (F := Fm) (f := f) (a := if s_net N nn p = true then 3 else 4) (b := -1) (c := 0) (d := -1)
          obtain ⟨r0, r1, -, -, r4⟩ := st_at (E := Em) (f := f) (a := x_fallc N nn p) (n := -1)
          have hc2 : ¬ x_fallc N nn p = 2 := by rcases fallc (N := N) (nn := nn) (x := p) with e | e <;> rw [e] <;> decide
          have hq : ¬ x_st Em f (x_fallc N nn p) (-1) f 0 = 2 := by rw [r0]; exact hc2
          rcases (show k = 0 ∨ k = 1 ∨ k = 2 ∨ k = 3 ∨ k = 4 by omega) with rfl | rfl | rfl | rfl | rfl
          · exact y0.trans r0.symm
          · exact y1.trans r1.symm
          · exact y2.trans (zF2n hq).symm
          · exact y3.trans (zF3n hq).symm
          · exact y4.trans ((i2 f 4 hf (by decide)).trans r4.symm)
        · show s_row Fm m _ _ _ _ f k = _
          rw [row_ne e, i2 f k hf hk]
          exact (z_row (F := Fm) (st_ne e)).symm
    · have ex : x_drop N nn v p m Em = Em := by
        unfold x_drop; rw [em, if_neg hc]
      have ey : y_drop N nn v p m Fm = Fm := by
        unfold y_drop; rw [fm0, fm1, if_neg hc]
      rw [ex, ey]
      refine ⟨fun f => ?_, i2⟩
      rw [i1 f]
      by_cases h1 : f < m ∧ E f 0 = 1 ∧ E f 1 = v
      · rw [if_pos h1, if_pos ⟨by omega, h1.2⟩]
      · rw [if_neg h1, if_neg]
        rintro ⟨q1, q2⟩
        by_cases e : f = m
        · subst e; exact hc q2
        · exact h1 ⟨by omega, q2⟩
def wT (bn : Nat) (T T3 : Rw) (t : Nat) : Prop := T3 t = T t ∨ (T t 5 = 1 ∧ s_p (T t 2) (nI bn - T t 6) = 0 ∧ (∀ z, z ≠ 4 → z ≠ 5 → T3 t z = T t z) ∧ ∃ h, h ≤ 2 ∧ T3 t 4 = T t 4 + nI h ∧ ((T3 t 5 = 1 ∧ T t 4 + nI h ≤ T t 3) ∨ (T3 t 5 = 0 ∧ ¬ T t 4 + nI h ≤ T t 3)))
def wF (n : Nat) (T3 E2 E3 : Rw) (f : Nat) : Prop := E3 f = E2 f ∨ (E2 f 0 = 1 ∧ ∃ t, t < n ∧ E2 f 1 = nI t ∧ T3 t 5 = 0 ∧ (E3 f 0 = 3 ∨ E3 f 0 = 4) ∧ E3 f 1 = -1 ∧ E3 f 4 = E2 f 4)
def wR (bn nt nf : Nat) (T E2 : Rw) (n : Nat) (T3 E3 : Rw) : Prop :=
  (∀ t, n ≤ t → T3 t = T t) ∧ (∀ t, t < n → wT bn T T3 t) ∧ (∀ f, f < nf → wF n T3 E2 E3 f) ∧ ∀ t, t < nt → s_hangE E3 nf (nI t) ≤ 2 ∧ (T3 t 5 = 0 → s_hangE E3 nf (nI t) = 0)
theorem wT.congr {bn t : Nat} {T T3 T4 : Rw} (h : wT bn T T3 t) (e : T4 t = T3 t) : wT bn T T4 t := by
  unfold wT at h ⊢
  rw [e]; exact h
theorem wF.up {n f : Nat} {T3 T4 E2 E3 : Rw} (h : wF n T3 E2 E3 f) (e : ∀ t, t < n → T4 t = T3 t) : wF (n + 1) T4 E2 E3 f := by
  rcases h with h | ⟨h0, t, ht, h1, h2, h3⟩
  · exact Or.inl h
  · exact Or.inr ⟨h0, t, by omega, h1, by rw [e t ht]; exact h2, h3⟩
theorem wF.congr {n f : Nat} {T3 E2 E3 E4 : Rw} (h : wF n T3 E2 E3 f) (e : E4 f = E3 f) : wF n T3 E2 E4 f := by
  unfold wF at h ⊢
  rw [e]; exact h
theorem wr_at {T E : Rw} {nf t : Nat} : x_wr T E nf t t 4 = T t 4 + nI (s_hangE E nf (nI t)) ∧ x_wr T E nf t t 5 = (if T t 4 + nI (s_hangE E nf (nI t)) ≤ T t 3 then 1 else 0) ∧ ∀ z, z ≠ 4 → z ≠ 5 → x_wr T E nf t t z = T t z := by
  refine ⟨by simp [x_wr, s_set], by simp [x_wr, s_set], fun z h4 h5 => by simp [x_wr, s_set, h4, h5]⟩
theorem wr_ne {T E : Rw} {nf t u : Nat} (h : u ≠ t) : x_wr T E nf t u = T u := (s_set_ne h).trans (s_set_ne h)
theorem wear_step {bn nt nf nn : Nat} {T E2 N : Rw} {b' : Int32} (hT : ∀ t, t < nt → T t 5 = 0 ∨ T t 5 = 1) (hnt : nt ≤ 6) (hnf : nf ≤ 8) {n : Nat} (hn : n < nt) {T3 E3 S3 F3 : Rw} (h : wR bn nt nf T E2 n T3 E3) (hS : ∀ t k, t < nt → k < 7 → S3 t k = zT (nI bn) T3 t k) (hF : ∀ f k, f < nf → k < 5 → F3 f k = zF b' E3 f k) :
    wR bn nt nf T E2 (n + 1) (x_wear N nn nf (nI bn) n (T3, E3)).1 (x_wear N nn nf (nI bn) n (T3, E3)).2 ∧ (∀ t k, t < nt → k < 7 → (y_wear N nn nf n (S3, F3)).1 t k = zT (nI bn) (x_wear N nn nf (nI bn) n (T3, E3)).1 t k) ∧ ∀ f k, f < nf → k < 5 → (y_wear N nn nf n (S3, F3)).2 f k = zF b' (x_wear N nn nf (nI bn) n (T3, E3)).2 f k := by
  obtain ⟨hO, hW, hL, hH⟩ := h
  have en : T3 n = T n := hO n (Nat.le_refl n)
  have a5 : S3 n 5 = T n 5 := (hS n 5 hn (by decide)).trans (by show T3 n 5 = _; rw [en])
  have a6 : S3 n 6 = nI bn - T n 6 := (hS n 6 hn (by decide)).trans (by show nI bn - T3 n 6 = _; rw [en])
  have a2 : S3 n 2 = T n 2 := (hS n 2 hn (by decide)).trans (by show T3 n 2 = _; rw [en])
  have a3 : S3 n 3 = T n 3 := (hS n 3 hn (by decide)).trans (by show T3 n 3 = _; rw [en])
  have a4 : S3 n 4 = T n 4 := (hS n 4 hn (by decide)).trans (by show T3 n 4 = _; rw [en])
  have a0 : S3 n 0 = T n 0 := (hS n 0 hn (by decide)).trans (by show T3 n 0 = _; rw [en])
  have a1 : S3 n 1 = T n 1 := (hS n 1 hn (by decide)).trans (by show T3 n 1 = _; rw [en])
  have hh : s_hangE F3 nf (nI n) = s_hangE E3 nf (nI n) := hangE_congr (fun f hf => by rw [hF f 0 hf (by decide), hF f 1 hf (by decide)]; exact Iff.rfl)
  have e4 : (4 : Int32) + 2 * T n 2 = 2 * (2 + T n 2) := by grind
  have hP : s_p (T n 2) (nI bn - T n 6) = (nI bn - T n 6) - (nI bn - T n 6) / (4 + 2 * T n 2) * (4 + 2 * T n 2) := by rw [e4]; rfl
  obtain ⟨w4, w5, wz⟩ := wr_at (T := T3) (E := E3) (nf := nf) (t := n)
  rw [en] at w4 w5 wz
  by_cases hc : T n 5 = 1 ∧ s_p (T n 2) (nI bn - T n 6) = 0
  · have hcx : ¬ T3 n 5 = 0 ∧ s_p (T3 n 2) (nI bn - T3 n 6) = 0 := by rw [en]; exact ⟨by rw [hc.1]; decide, hc.2⟩
    have hcy : S3 n 5 = 1 ∧ S3 n 6 - S3 n 6 / (4 + 2 * S3 n 2) * (4 + 2 * S3 n 2) = 0 := by rw [a5, a6, a2]; exact ⟨hc.1, by rw [← hP]; exact hc.2⟩
    by_cases hv : T n 4 + nI (s_hangE E3 nf (nI n)) ≤ T n 3
    · rw [if_pos hv] at w5
      have ex : x_wear N nn nf (nI bn) n (T3, E3) = (x_wr T3 E3 nf n, E3) := by
        unfold x_wear
        rw [if_pos hcx, if_neg (by show ¬ x_wr T3 E3 nf n n 5 = 0; rw [w5]; decide)]
      have ey : y_wear N nn nf n (S3, F3) = (y_worn S3 F3 nf n, F3) := by
        unfold y_wear
        rw [if_pos hcy, if_neg (by show ¬ S3 n 3 < S3 n 4 + nI (s_hangE F3 nf (nI n)); rw [a3, a4, hh]; exact Int32.not_lt.mpr hv)]
      rw [ex, ey]
      refine ⟨⟨fun t ht => (wr_ne (by omega)).trans (hO t (by omega)), fun t ht => ?_, fun f hf => (hL f hf).up (fun t ht => wr_ne (by omega)), fun t ht => ⟨(hH t ht).1, fun h5 => ?_⟩⟩, fun t k ht hk => ?_, hF⟩
      · by_cases e : t = n
        · subst e
          exact Or.inr ⟨hc.1, hc.2, wz, _, (hH t hn).1, w4, Or.inl ⟨w5, hv⟩⟩
        · exact (hW t (by omega)).congr (wr_ne e)
      · by_cases e : t = n
        · subst e
          exact absurd (w5.symm.trans h5) (by decide)
        · exact (hH t ht).2 (by rw [← wr_ne (T := T3) (E := E3) (nf := nf) e]; exact h5)
      · show s_set S3 n 4 (S3 n 4 + nI (s_hangE F3 nf (nI n))) t k = zT (nI bn) (x_wr T3 E3 nf n) t k
        by_cases e : t = n
        · subst e
          rcases (show k = 0 ∨ k = 1 ∨ k = 2 ∨ k = 3 ∨ k = 4 ∨ k = 5 ∨ k = 6 by omega) with rfl | rfl | rfl | rfl | rfl | rfl | rfl
          · exact (set_o (Or.inl (by decide))).trans (a0.trans (wz 0 (by decide) (by decide)).symm)
          · exact (set_o (Or.inl (by decide))).trans (a1.trans (wz 1 (by decide) (by decide)).symm)
          · exact (set_o (Or.inl (by decide))).trans (a2.trans (wz 2 (by decide) (by decide)).symm)
          · exact (set_o (Or.inl (by decide))).trans (a3.trans (wz 3 (by decide) (by decide)).symm)
          · exact set_4.trans ((by rw [a4, hh] : S3 t 4 + nI (s_hangE F3 nf (nI t)) = T t 4 + nI (s_hangE E3 nf (nI t))).trans w4.symm)
          · exact (set_o (Or.inl (by decide))).trans ((a5.trans hc.1).trans w5.symm)
          · refine (set_o (Or.inl (by decide))).trans (a6.trans ?_)
            show nI bn - T t 6 = nI bn - x_wr T3 E3 nf t t 6
            rw [wz 6 (by decide) (by decide)]
        · rw [s_set_ne e, hS t k ht hk]
          unfold zT
          rw [wr_ne e]
    · rw [if_neg hv] at w5
      have ep : s_at (x_wr T3 E3 nf n) n (nI bn) = y_pl S3 n := by
        show s_pl (x_wr T3 E3 nf n n 0) (x_wr T3 E3 nf n n 1) (x_wr T3 E3 nf n n 2) (nI bn - x_wr T3 E3 nf n n 6) = s_pl (S3 n 0) (S3 n 1) (S3 n 2) (S3 n 6)
        rw [wz 0 (by decide) (by decide), wz 1 (by decide) (by decide), wz 2 (by decide) (by decide), wz 6 (by decide) (by decide), a0, a1, a2, a6]
      have ex : x_wear N nn nf (nI bn) n (T3, E3) = (x_wr T3 E3 nf n, its (x_drop N nn (nI n) (y_pl S3 n)) E3 nf) := by
        unfold x_wear
        rw [if_pos hcx, if_pos (by show x_wr T3 E3 nf n n 5 = 0; exact w5), ← ep]
      have ey : y_wear N nn nf n (S3, F3) = (s_set (y_worn S3 F3 nf n) n 5 0, its (y_drop N nn (nI n) (y_pl S3 n)) F3 nf) := by
        unfold y_wear
        rw [if_pos hcy, if_pos (by show S3 n 3 < S3 n 4 + nI (s_hangE F3 nf (nI n)); rw [a3, a4, hh]; exact Int32.not_le.mp hv)]
      obtain ⟨d1, d2⟩ := drops_all (N := N) (nn := nn) (v := nI n) (p := y_pl S3 n) hF nf (Nat.le_refl nf)
      rw [ex, ey]
      generalize its (x_drop N nn (nI n) (y_pl S3 n)) E3 nf = E4 at d1 d2 ⊢
      generalize its (y_drop N nn (nI n) (y_pl S3 n)) F3 nf = F4 at d2 ⊢
      have hcn : ∀ f, E4 f 0 = 1 → E4 f = E3 f ∧ ¬ (f < nf ∧ E3 f 0 = 1 ∧ E3 f 1 = nI n) := fun f h9 => by
        by_cases hq : f < nf ∧ E3 f 0 = 1 ∧ E3 f 1 = nI n
        · exfalso
          rw [d1 f, if_pos hq, (st_at).1] at h9
          rcases fallc (N := N) (nn := nn) (x := y_pl S3 n) with e | e <;> rw [e] at h9 <;> exact absurd h9 (by decide)
        · exact ⟨by rw [d1 f, if_neg hq], hq⟩
      refine ⟨⟨fun t ht => (wr_ne (by omega)).trans (hO t (by omega)), fun t ht => ?_, fun f hf => ?_, fun t ht => ?_⟩, fun t k ht hk => ?_, d2⟩
      · by_cases e : t = n
        · subst e
          exact Or.inr ⟨hc.1, hc.2, wz, _, (hH t hn).1, w4, Or.inr ⟨w5, hv⟩⟩
        · exact (hW t (by omega)).congr (wr_ne e)
      · by_cases hq : f < nf ∧ E3 f 0 = 1 ∧ E3 f 1 = nI n
        · have e4 : E4 f = x_st E3 f (x_fallc N nn (y_pl S3 n)) (-1) f := by rw [d1 f, if_pos hq]
          obtain ⟨r0, r1, -, -, r4⟩ := st_at (E := E3) (f := f) (a := x_fallc N nn (y_pl S3 n)) (n := -1)
          have e32 : E3 f = E2 f := by
            rcases hL f hf with h1 | ⟨-, t, -, -, -, h1, -⟩
            · exact h1
            · exfalso
              rw [hq.2.1] at h1
              rcases h1 with h1 | h1 <;> exact absurd h1 (by decide)
          refine Or.inr ⟨by rw [← e32]; exact hq.2.1, n, Nat.lt_succ_self n, by rw [← e32]; exact hq.2.2, w5, ?_, ?_, ?_⟩
          · show E4 f 0 = 3 ∨ E4 f 0 = 4
            rw [e4, r0]; exact fallc
          · show E4 f 1 = -1
            rw [e4, r1]
          · show E4 f 4 = E2 f 4
            rw [e4, r4, e32]
        · have e4 : E4 f = E3 f := by rw [d1 f, if_neg hq]
          have := (hL f hf).up (T4 := x_wr T3 E3 nf n) (fun t ht => wr_ne (by omega))
          exact this.congr e4
      · have hle : s_hangE E4 nf (nI t) ≤ s_hangE E3 nf (nI t) := cnt_mono (fun f hf hp => by
          rw [decide_eq_true_eq] at hp ⊢
          obtain ⟨e9, -⟩ := hcn f hp.1
          rw [e9] at hp; exact hp)
        refine ⟨Nat.le_trans hle (hH t ht).1, fun h5 => ?_⟩
        by_cases e : t = n
        · subst e
          have : ∀ m, m ≤ nf → cnt (fun f => decide (E4 f 0 = 1 ∧ E4 f 1 = nI t)) m = 0 := by
            intro m
            induction m with
            | zero => intro _; rfl
            | succ m ih =>
              intro hm
              simp only [cnt]
              rw [ih (by omega), if_neg]
              rw [decide_eq_true_eq]
              rintro ⟨q0, q1⟩
              obtain ⟨e9, hq⟩ := hcn m q0
              exact hq ⟨by omega, by rw [← e9]; exact q0, by rw [← e9]; exact q1⟩
          exact this nf (Nat.le_refl nf)
        · have h0 := (hH t ht).2 (by rw [← wr_ne (T := T3) (E := E3) (nf := nf) e]; exact h5)
          rw [h0] at hle
          exact Nat.le_zero.mp hle
      · show s_set (s_set S3 n 4 (S3 n 4 + nI (s_hangE F3 nf (nI n)))) n 5 0 t k = zT (nI bn) (x_wr T3 E3 nf n) t k
        by_cases e : t = n
        · subst e
          rcases (show k = 0 ∨ k = 1 ∨ k = 2 ∨ k = 3 ∨ k = 4 ∨ k = 5 ∨ k = 6 by omega) with rfl | rfl | rfl | rfl | rfl | rfl | rfl
          · exact (by simp [s_set] : _ = S3 t 0).trans (a0.trans (wz 0 (by decide) (by decide)).symm)
          · exact (by simp [s_set] : _ = S3 t 1).trans (a1.trans (wz 1 (by decide) (by decide)).symm)
          · exact (by simp [s_set] : _ = S3 t 2).trans (a2.trans (wz 2 (by decide) (by decide)).symm)
          · exact (by simp [s_set] : _ = S3 t 3).trans (a3.trans (wz 3 (by decide) (by decide)).symm)
          · exact (by simp [s_set] : _ = S3 t 4 + nI (s_hangE F3 nf (nI t))).trans ((by rw [a4, hh] : S3 t 4 + nI (s_hangE F3 nf (nI t)) = T t 4 + nI (s_hangE E3 nf (nI t))).trans w4.symm)
          · exact (by simp [s_set] : _ = (0 : Int32)).trans w5.symm
          · refine (by simp [s_set] : _ = S3 t 6).trans (a6.trans ?_)
            show nI bn - T t 6 = nI bn - x_wr T3 E3 nf t t 6
            rw [wz 6 (by decide) (by decide)]
        · rw [s_set_ne e, s_set_ne e, hS t k ht hk]
          unfold zT
          rw [wr_ne e]
  · have hcx : ¬ (¬ T3 n 5 = 0 ∧ s_p (T3 n 2) (nI bn - T3 n 6) = 0) := fun q => by
      rw [en] at q
      exact hc ⟨(hT n hn).resolve_left q.1, q.2⟩
    have hcy : ¬ (S3 n 5 = 1 ∧ S3 n 6 - S3 n 6 / (4 + 2 * S3 n 2) * (4 + 2 * S3 n 2) = 0) := fun q => by
      rw [a5, a6, a2] at q
      exact hc ⟨q.1, by rw [hP]; exact q.2⟩
    have ex : x_wear N nn nf (nI bn) n (T3, E3) = (T3, E3) := by
      unfold x_wear; rw [if_neg hcx]
    have ey : y_wear N nn nf n (S3, F3) = (S3, F3) := by
      unfold y_wear; rw [if_neg hcy]
    rw [ex, ey]
    refine ⟨⟨fun t ht => hO t (by omega), fun t ht => ?_, fun f hf => (hL f hf).up (fun t ht => rfl), hH⟩, hS, hF⟩
    by_cases e : t = n
    · subst e; exact Or.inl en
    · exact hW t (by omega)
theorem wears_all {bn nt nf nn : Nat} {T E2 N F2 : Rw} {b' : Int32} (hT : ∀ t, t < nt → T t 5 = 0 ∨ T t 5 = 1) (hH : ∀ t, t < nt → s_hangE E2 nf (nI t) ≤ 2 ∧ (T t 5 = 0 → s_hangE E2 nf (nI t) = 0)) (hnt : nt ≤ 6) (hnf : nf ≤ 8) (hF : ∀ f k, f < nf → k < 5 → F2 f k = zF b' E2 f k) (n : Nat) (hn : n ≤ nt) :
    wR bn nt nf T E2 n (its (x_wear N nn nf (nI bn)) (T, E2) n).1 (its (x_wear N nn nf (nI bn)) (T, E2) n).2 ∧ (∀ t k, t < nt → k < 7 → (its (y_wear N nn nf) (zT (nI bn) T, F2) n).1 t k = zT (nI bn) (its (x_wear N nn nf (nI bn)) (T, E2) n).1 t k) ∧ ∀ f k, f < nf → k < 5 → (its (y_wear N nn nf) (zT (nI bn) T, F2) n).2 f k = zF b' (its (x_wear N nn nf (nI bn)) (T, E2) n).2 f k := by
  induction n with
  | zero => exact ⟨⟨fun _ _ => rfl, fun t ht => absurd ht (Nat.not_lt_zero t), fun _ _ => Or.inl rfl, hH⟩, fun _ _ _ _ => rfl, hF⟩
  | succ n ih =>
    obtain ⟨i1, i2, i3⟩ := ih (by omega)
    simp only [its]
    exact wear_step hT hnt hnf (by omega) i1 i2 i3
