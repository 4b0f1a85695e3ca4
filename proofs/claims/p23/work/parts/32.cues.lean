/-! a beat, by its three parts: cues -/
def cF (bn nt : Nat) (T E Cu C1 : Rw) (n f : Nat) (E1 : Rw) : Prop := E f 0 = 1 ∧ ∃ i t, i < n ∧ t < nt ∧ Cu i 0 = nI bn ∧ Cu i 1 = nI f ∧ Cu i 4 = 0 ∧ C1 i 4 = 1 ∧ E f 1 = nI t ∧ E1 f 0 = 2 ∧ E1 f 1 = -1 ∧ E1 f 2 = s_at T t (nI bn) + Cu i 2 ∧ E1 f 3 = nI bn + Cu i 3 ∧ E1 f 4 = E f 4
def cR (bn nt nf : Nat) (T E Cu : Rw) (n : Nat) (E1 C1 : Rw) : Prop :=
  (∀ k z, z ≠ 4 ∨ n ≤ k → C1 k z = Cu k z) ∧
  (∀ k, k < n → (Cu k 0 = nI bn ∧ (C1 k 4 = 1 ∨ C1 k 4 = 2)) ∨ (Cu k 0 ≠ nI bn ∧ C1 k 4 = Cu k 4)) ∧
  ∀ f, f < nf → E1 f = E f ∨ cF bn nt T E Cu C1 n f E1
theorem set_4 {C : Rw} {i : Nat} {v : Int32} : s_set C i 4 v i 4 = v := by simp [s_set]
theorem set_o {C : Rw} {i k z : Nat} {v : Int32} (h : z ≠ 4 ∨ k ≠ i) : s_set C i 4 v k z = C k z := by
  unfold s_set
  rw [if_neg]
  rintro ⟨h1, h2⟩
  rcases h with h | h
  · exact h h2
  · exact h h1
theorem row_ne {F : Rw} {f g : Nat} {a b c d : Int32} (h : g ≠ f) : s_row F f a b c d g = F g := by
  funext k
  simp [s_row, h]
theorem row_at {F : Rw} {f : Nat} {a b c d : Int32} : s_row F f a b c d f 0 = a ∧ s_row F f a b c d f 1 = b ∧ s_row F f a b c d f 2 = c ∧ s_row F f a b c d f 3 = d ∧ s_row F f a b c d f 4 = F f 4 := by
  simp [s_row]
theorem zF2 {b : Int32} {E : Rw} {f : Nat} (h : E f 0 = 2) : zF b E f 2 = E f 2 := if_pos h
theorem zF3 {b : Int32} {E : Rw} {f : Nat} (h : E f 0 = 2) : zF b E f 3 = E f 3 - b := if_pos h
theorem zF2n {b : Int32} {E : Rw} {f : Nat} (h : ¬ E f 0 = 2) : zF b E f 2 = 0 := if_neg h
theorem zF3n {b : Int32} {E : Rw} {f : Nat} (h : ¬ E f 0 = 2) : zF b E f 3 = -1 := if_neg h
theorem cF.mono {bn nt n n' f : Nat} {T E Cu C1 C2 E1 E2 : Rw} (h : cF bn nt T E Cu C1 n f E1) (hn : n ≤ n') (hC : ∀ i, i < n → C2 i 4 = C1 i 4) (hE : E2 f = E1 f) : cF bn nt T E Cu C2 n' f E2 := by
  obtain ⟨h0, i, t, h1, h2, h3, h4, h5, h6, h7, h8⟩ := h
  refine ⟨h0, i, t, by omega, h2, h3, h4, h5, by rw [hC i h1]; exact h6, h7, ?_⟩
  rw [hE]; exact h8
theorem cue_step {bn nt nf nc : Nat} {T E Cu : Rw} (hv : vI bn nt nf nc T E Cu) (hnt : nt ≤ 6) (hnf : nf ≤ 8) (hbn : bn ≤ 60) {n : Nat} (hn : n < nc) {E1 C1 F1 : Rw} (h : cR bn nt nf T E Cu n E1 C1) (hs : ∀ f k, f < nf → k < 5 → F1 f k = zF (nI bn) E1 f k) :
    cR bn nt nf T E Cu (n + 1) (x_cue T nt nf (nI bn) n (E1, C1)).1 (x_cue T nt nf (nI bn) n (E1, C1)).2 ∧ (y_cue (zT (nI bn) T) (nI bn) n (F1, C1)).2 = (x_cue T nt nf (nI bn) n (E1, C1)).2 ∧ ∀ f k, f < nf → k < 5 → (y_cue (zT (nI bn) T) (nI bn) n (F1, C1)).1 f k = zF (nI bn) (x_cue T nt nf (nI bn) n (E1, C1)).1 f k := by
  obtain ⟨hC, hK, hF⟩ := h
  have c0 : C1 n 0 = Cu n 0 := hC n 0 (Or.inl (by decide))
  have c1 : C1 n 1 = Cu n 1 := hC n 1 (Or.inl (by decide))
  have c2 : C1 n 2 = Cu n 2 := hC n 2 (Or.inl (by decide))
  have c3 : C1 n 3 = Cu n 3 := hC n 3 (Or.inl (by decide))
  have c4 : C1 n 4 = Cu n 4 := hC n 4 (Or.inr (Nat.le_refl _))
  obtain ⟨⟨f, hf, ef⟩, ⟨c, hc, ec, hop⟩, -, -⟩ := hv.2.2 n hn
  by_cases h0 : Cu n 0 = nI bn
  · have hcb : c = bn := (nI_eq (by omega) (by omega)).mp (ec.symm.trans h0)
    have hopen : Cu n 4 = 0 := by
      rcases hop with h1 | h1
      · exact h1.2
      · omega
    have eo : ixo nf (C1 n 1) = some f := ixo_some (by omega) hf (c1.trans ef)
    have en : ixn (C1 n 1) = f := ixn_n (c1.trans ef) (by omega)
    -- the two ends: a flyer lets go, or doesn't
    have miss : (ixo nt (E1 f 1) = none ∧ ¬ E1 f 0 = 1) → cR bn nt nf T E Cu (n + 1) (x_cue T nt nf (nI bn) n (E1, C1)).1 (x_cue T nt nf (nI bn) n (E1, C1)).2 ∧ (y_cue (zT (nI bn) T) (nI bn) n (F1, C1)).2 = (x_cue T nt nf (nI bn) n (E1, C1)).2 ∧ ∀ f k, f < nf → k < 5 → (y_cue (zT (nI bn) T) (nI bn) n (F1, C1)).1 f k = zF (nI bn) (x_cue T nt nf (nI bn) n (E1, C1)).1 f k := by
      rintro ⟨m1, m2⟩
      have ex : x_cue T nt nf (nI bn) n (E1, C1) = (E1, s_set C1 n 4 2) := by
        simp only [x_cue, x_go, c0, if_pos h0, eo, m1]
      have ey : y_cue (zT (nI bn) T) (nI bn) n (F1, C1) = (F1, s_set C1 n 4 2) := by
        simp only [y_cue]
        rw [if_pos ⟨c0.trans h0, c4.trans hopen⟩, en, if_neg]
        rw [hs f 0 hf (by decide)]; exact m2
      rw [ex, ey]
      refine ⟨⟨fun k z hkz => ?_, fun k hk => ?_, fun g hg => ?_⟩, rfl, hs⟩
      · exact (set_o (by omega)).trans (hC k z (by omega))
      · by_cases e : k = n
        · subst e; exact Or.inl ⟨h0, Or.inr set_4⟩
        · simp only
          rw [set_o (Or.inr e)]; exact hK k (by omega)
      · rcases hF g hg with h1 | h1
        · exact Or.inl h1
        · exact Or.inr (h1.mono (Nat.le_succ n) (fun i hi => set_o (Or.inr (by omega))) rfl)
    rcases hF f hf with h1 | h1
    · by_cases h2 : E f 0 = 1
      · obtain ⟨t, ht, et⟩ := (hv.2.1 f hf).2.1 h2
        have eto : ixo nt (E1 f 1) = some t := ixo_some (by omega) ht (by rw [h1]; exact et)
        have ex : x_cue T nt nf (nI bn) n (E1, C1) = (s_row E1 f 2 (-1) (s_at T t (nI bn) + Cu n 2) (nI bn + Cu n 3), s_set C1 n 4 1) := by
          simp only [x_cue, x_go, c0, c2, c3, if_pos h0, eo, eto]
        have f0 : F1 f 0 = 1 := by rw [hs f 0 hf (by decide)]; show E1 f 0 = 1; rw [h1]; exact h2
        have f1 : F1 f 1 = nI t := by rw [hs f 1 hf (by decide)]; show E1 f 1 = nI t; rw [h1]; exact et
        have ey : y_cue (zT (nI bn) T) (nI bn) n (F1, C1) = (s_row F1 f 2 (-1) (s_at T t (nI bn) + Cu n 2) (Cu n 3), s_set C1 n 4 1) := by
          simp only [y_cue]
          rw [if_pos ⟨c0.trans h0, c4.trans hopen⟩, en, if_pos f0, f1, ixn_n rfl (by omega), c2, c3]
          rfl
        rw [ex, ey]
        refine ⟨⟨fun k z hkz => ?_, fun k hk => ?_, fun g hg => ?_⟩, rfl, fun g k hg hk => ?_⟩
        · exact (set_o (by omega)).trans (hC k z (by omega))
        · by_cases e : k = n
          · subst e; exact Or.inl ⟨h0, Or.inl set_4⟩
          · simp only
            rw [set_o (Or.inr e)]; exact hK k (by omega)
        · by_cases e : g = f
          · subst e
            obtain ⟨r0, r1, r2, r3, r4⟩ := row_at (F := E1) (f := g) (a := 2) (b := -1) (c := s_at T t (nI bn) + Cu n 2) (d := nI bn + Cu n 3)
            exact Or.inr ⟨h2, n, t, Nat.lt_succ_self n, ht, h0, ef, hopen, set_4, et, r0, r1, r2, r3, r4.trans (by rw [h1])⟩
          · rcases hF g hg with h3 | h3
            · exact Or.inl ((row_ne e).trans h3)
            · exact Or.inr (h3.mono (Nat.le_succ n) (fun i hi => set_o (Or.inr (by omega))) (row_ne e))
        · by_cases e : g = f
          · subst e
            obtain ⟨r0, r1, r2, r3, r4⟩ := row_at (F := E1) (f := g) (a := 2) (b := -1) (c := s_at T t (nI bn) + Cu n 2) (d := nI bn + Cu n 3)
            obtain ⟨y0, y1, y2, y3, y4⟩ := row_at (F := F1) (f := g) (a := 2) (b := -1) (c := s_at T t (nI bn) + Cu n 2) (d := Cu n 3)
            rcases (show k = 0 ∨ k = 1 ∨ k = 2 ∨ k = 3 ∨ k = 4 by omega) with rfl | rfl | rfl | rfl | rfl
            · exact y0.trans r0.symm
            · exact y1.trans r1.symm
            · exact (y2.trans r2.symm).trans (zF2 r0).symm
            · refine y3.trans ((zF3 r0).trans ?_).symm
              rw [r3]
              grind
            · exact y4.trans ((hs g 4 hg (by decide)).trans r4.symm)
          · show s_row F1 f _ _ _ _ g k = zF (nI bn) (s_row E1 f _ _ _ _) g k
            rw [row_ne e, hs g k hg hk]
            unfold zF
            rw [row_ne e]
      · refine miss ⟨ixo_none (fun i hi e => ?_), by rw [h1]; exact h2⟩
        rw [h1, (hv.2.1 f hf).2.2.1 h2] at e
        exact nI_m1 (t := i) (by omega) e.symm
    · obtain ⟨-, i, t, -, -, -, -, -, -, -, q0, q1, -⟩ := h1
      refine miss ⟨ixo_none (fun i hi e => ?_), by rw [q0]; decide⟩
      rw [q1] at e
      exact nI_m1 (t := i) (by omega) e.symm
  · have ex : x_cue T nt nf (nI bn) n (E1, C1) = (E1, C1) := by
      simp only [x_cue, c0, if_neg h0]
    have ey : y_cue (zT (nI bn) T) (nI bn) n (F1, C1) = (F1, C1) := by
      simp only [y_cue]
      rw [if_neg (fun q => h0 (c0.symm.trans q.1))]
    rw [ex, ey]
    refine ⟨⟨fun k z hkz => hC k z (by omega), fun k hk => ?_, fun g hg => ?_⟩, rfl, hs⟩
    · by_cases e : k = n
      · subst e; exact Or.inr ⟨h0, c4⟩
      · exact hK k (by omega)
    · rcases hF g hg with h1 | h1
      · exact Or.inl h1
      · exact Or.inr (h1.mono (Nat.le_succ n) (fun i hi => rfl) rfl)
theorem cues_all {bn nt nf nc : Nat} {T E Cu : Rw} (hv : vI bn nt nf nc T E Cu) (hnt : nt ≤ 6) (hnf : nf ≤ 8) (hbn : bn ≤ 60) (n : Nat) (hn : n ≤ nc) :
    cR bn nt nf T E Cu n (its (x_cue T nt nf (nI bn)) (E, Cu) n).1 (its (x_cue T nt nf (nI bn)) (E, Cu) n).2 ∧ (its (y_cue (zT (nI bn) T) (nI bn)) (zF (nI bn) E, Cu) n).2 = (its (x_cue T nt nf (nI bn)) (E, Cu) n).2 ∧ ∀ f k, f < nf → k < 5 → (its (y_cue (zT (nI bn) T) (nI bn)) (zF (nI bn) E, Cu) n).1 f k = zF (nI bn) (its (x_cue T nt nf (nI bn)) (E, Cu) n).1 f k := by
  induction n with
  | zero => exact ⟨⟨fun _ _ _ => rfl, fun k hk => absurd hk (Nat.not_lt_zero k), fun _ _ => Or.inl rfl⟩, rfl, fun _ _ _ _ => rfl⟩
  | succ n ih =>
    obtain ⟨i1, i2, i3⟩ := ih (by omega)
    simp only [its]
    have h9 := cue_step hv hnt hnf hbn (n := n) (by omega) i1 i3
    have e1 : its (y_cue (zT (nI bn) T) (nI bn)) (zF (nI bn) E, Cu) n = ((its (y_cue (zT (nI bn) T) (nI bn)) (zF (nI bn) E, Cu) n).1, (its (x_cue T nt nf (nI bn)) (E, Cu) n).2) := by rw [← i2]
    rw [e1]
    exact h9
/-- behind the cues flyers are as flyers are -/
theorem cue_vF {bn nt nf nc : Nat} {T E Cu E1 C1 : Rw} (hv : vI bn nt nf nc T E Cu) (hbn : bn ≤ 60) (h : cR bn nt nf T E Cu nc E1 C1) {f : Nat} (hf : f < nf) : vF bn nt E1 f := by
  rcases h.2.2 f hf with h1 | ⟨h0, i, t, hi, ht, -, -, -, -, et, q0, q1, q2, q3, q4⟩
  · unfold vF; rw [h1]; exact hv.2.1 f hf
  · obtain ⟨-, -, ⟨d, hd1, hd2, ed⟩, hr⟩ := hv.2.2 i hi
    refine ⟨Or.inr (Or.inr (Or.inl q0)), fun h9 => absurd (q0.symm.trans h9) (by decide), fun _ => q1, fun _ => ⟨⟨d, hd2, by rw [q3, ed, nI_add]⟩, ?_⟩, ?_⟩
    · rw [bd_iff, q2]
      obtain ⟨m, w, q, h1, h2, -, -, h3, h4, -⟩ := (hv.1 t ht).at hbn 0 (by omega)
      have e0 : nI bn + nI 0 = nI bn := by
        have : nI 0 = (0 : Int32) := rfl
        rw [this, Int32.add_zero]
      rw [e0] at h4
      have e1 : (-20 : Int32).toInt = -20 := by decide
      have e2 : (20 : Int32).toInt = 20 := by decide
      rw [Int32.le_iff_toInt_le, Int32.le_iff_toInt_le, e1, e2] at hr
      rw [i_add (by omega) (by omega)]
      omega
    · rw [q4]; exact (hv.2.1 f hf).2.2.2.2
theorem cnt_mono {p q : Nat → Bool} {n : Nat} (h : ∀ i, i < n → p i = true → q i = true) : cnt p n ≤ cnt q n := by
  induction n with
  | zero => exact Nat.le_refl _
  | succ n ih =>
    simp only [cnt]
    have h1 := ih (fun i hi => h i (by omega))
    by_cases hp : p n = true
    · rw [if_pos hp, if_pos (h n (by omega) hp)]; omega
    · rw [if_neg hp]; omega
theorem cue_hang {bn nt nf nc : Nat} {T E Cu E1 C1 : Rw} {v : Int32} (h : cR bn nt nf T E Cu nc E1 C1) : s_hangE E1 nf v ≤ s_hangE E nf v := by
  refine cnt_mono (fun f hf hp => ?_)
  rw [decide_eq_true_eq] at hp ⊢
  rcases h.2.2 f hf with h1 | ⟨h0, i, t, hi, ht, -, -, -, -, et, q0, -⟩
  · rw [h1] at hp; exact hp
  · rw [q0] at hp; exact absurd hp.1 (by decide)
