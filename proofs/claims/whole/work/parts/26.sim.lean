/-! the class's words against the reference's words -/
def nvT (nt : Nat) (T : Rw) : Prop := s_wok T nt ∧ ∀ t, t < nt → T t 5 = 0 ∨ T t 5 = 1
def nvF (nt nf : Nat) (F : Rw) : Prop := ∀ f, f < nf → (F f 0 = 1 → ∃ t, t < nt ∧ F f 1 = nI t) ∧ (F f 0 ≠ 1 → F f 1 = -1) ∧ (F f 0 ≠ 2 → F f 2 = 0)
def nvC (nf nc : Nat) (C : Rw) (b : Int32) : Prop := ∀ k, k < nc → (∃ f, f < nf ∧ C k 1 = nI f) ∧ (b ≤ C k 0 → C k 4 = 0)
def SF (nt nf : Nat) (E F : Rw) : Prop := relF E F nf ∧ nvF nt nf F
theorem add0 (b : Int32) : b + 0 = b := Int32.add_zero b
theorem hang_eq {E F : Rw} {nt nf t : Nat} (h : SF nt nf E F) (ht : t < 1000) : s_hangE E nf (nI t) = s_hang F nf (nI t) := by
  refine cnt_congr (fun f hf => ?_)
  obtain ⟨h1, h2, -, -⟩ := h.1 f hf
  rw [h1, h2]
  by_cases h3 : F f 1 = nI t
  · have h4 : F f 0 = 1 := by
      by_cases h0 : F f 0 = 1
      · exact h0
      · exact absurd (h3.symm.trans ((h.2 f hf).2.1 h0)) (nI_m1 ht)
    simp [h3, h4]
  · simp [h3]
theorem hang_le {F : Rw} {nf : Nat} {v : Int32} : s_hang F nf v ≤ nf := cnt_le _ _
theorem SF_row {E F E' : Rw} {nt nf f : Nat} {a c d e : Int32} (h : SF nt nf E F) (h0 : E' f 0 = a) (h1 : E' f 1 = c) (h4 : E' f 4 = E f 4) (h23 : a = 2 → E' f 2 = d ∧ E' f 3 = e) (ho : ∀ g, g ≠ f → E' g = E g) (i1 : a = 1 → ∃ t, t < nt ∧ c = nI t) (i2 : a ≠ 1 → c = -1) (i3 : a ≠ 2 → d = 0) : SF nt nf E' (s_row F f a c d e) := by
  refine ⟨fun g hg => ?_, fun g hg => ?_⟩
  · by_cases hgf : g = f
    · subst hgf
      obtain ⟨-, -, k3, -⟩ := h.1 g hg
      refine ⟨by rw [h0]; simp [s_row], by rw [h1]; simp [s_row], by rw [h4, k3]; simp [s_row], fun k => ?_⟩
      have k' : a = 2 := by simpa [s_row] using k
      obtain ⟨p1, p2⟩ := h23 k'
      exact ⟨by rw [p1]; simp [s_row], by rw [p2]; simp [s_row]⟩
    · have := h.1 g hg
      simp only [s_row, if_neg hgf, ho g hgf]
      exact this
  · by_cases hgf : g = f
    · subst hgf
      simp only [s_row, if_true]
      exact ⟨i1, i2, i3⟩
    · simp only [s_row, if_neg hgf]
      exact h.2 g hg
theorem SF_caught {E F : Rw} {nt nf f : Nat} {v w : Int32} (h : SF nt nf E F) (hv : v = w) : SF nt nf (s_set E f 4 v) (s_set F f 4 w) := by
  subst hv
  refine ⟨fun g hg => ?_, fun g hg => ?_⟩
  · obtain ⟨k1, k2, k3, k4⟩ := h.1 g hg
    refine ⟨by simp [s_set, k1], by simp [s_set, k2], ?_, fun k => ?_⟩
    · simp only [s_set]; split <;> first | rfl | exact k3
    · have k' : F g 0 = 2 := by simpa [s_set] using k
      simpa [s_set] using k4 k'
  · have := h.2 g hg
    simpa [s_set] using this
theorem SF_fall {E F : Rw} {nt nf nn f : Nat} {N : Rw} {x : Int32} (h : SF nt nf E F) : SF nt nf (x_st E f (x_fallc N nn x) (-1)) (s_fall N nn F f x) := by
  have ha : (if s_net N nn x = true then (3 : Int32) else 4) ≠ 1 ∧ (if s_net N nn x = true then (3 : Int32) else 4) ≠ 2 := by split <;> decide
  exact SF_row h (by simp [x_st, x_fallc]) (by simp [x_st]) (by simp [x_st]) (fun k => absurd k ha.2) (fun g hg => by funext k; simp [x_st, hg]) (fun k => absurd k ha.1) (fun _ => rfl) (fun _ => rfl)
section SIM
variable {T E F C N : Rw} {nt nf nc nn : Nat} {b : Int32}
theorem sim_cue {k : Nat} (hb : nt ≤ 6 ∧ nf ≤ 8) (h : SF nt nf E F) (hC : ∃ f, f < nf ∧ C k 1 = nI f) (h4 : C k 0 = b → C k 4 = 0) : SF nt nf (x_cue T nt nf b k (E, C)).1 (m_cue T b k (F, C)).1 ∧ (x_cue T nt nf b k (E, C)).2 = (m_cue T b k (F, C)).2 := by
  obtain ⟨f, hf, hCf⟩ := hC
  by_cases h0 : C k 0 = b
  · have ec : ixn (C k 1) = f := ixn_n hCf (by omega)
    have eo : ixo nf (C k 1) = some f := ixo_some (by omega) hf hCf
    obtain ⟨k1, k2, k3, k4⟩ := h.1 f hf
    obtain ⟨i1, i2, i3⟩ := h.2 f hf
    by_cases h1 : F f 0 = 1
    · obtain ⟨t, ht, e1⟩ := i1 h1
      have et : ixo nt (E f 1) = some t := ixo_some (by omega) ht (k2.trans e1)
      have en : ixn (F f 1) = t := ixn_n e1 (by omega)
      simp only [x_cue, m_cue]
      rw [if_pos h0, if_pos ⟨h0, h4 h0⟩]
      simp only [x_go, eo, et]
      rw [ec, if_pos h1, en, add0]
      exact ⟨SF_row h (by simp [s_row]) (by simp [s_row]) (by simp [s_row]) (fun _ => by simp [s_row]) (fun g hg => by funext k; simp [s_row, hg]) (fun q => absurd q (by decide)) (fun _ => rfl) (fun q => absurd rfl q), rfl⟩
    · have et : ixo nt (E f 1) = none := ixo_none (fun i hi e => by
        rw [k2, i2 h1] at e
        exact nI_m1 (t := i) (by omega) e.symm)
      simp only [x_cue, m_cue]
      rw [if_pos h0, if_pos ⟨h0, h4 h0⟩]
      simp only [x_go, eo, et]
      rw [ec, if_neg h1]
      exact ⟨h, rfl⟩
  · simp only [x_cue, m_cue]
    rw [if_neg h0, if_neg (fun q => h0 q.1)]
    exact ⟨h, rfl⟩
theorem mcue_C {k j z : Nat} {FC : Rw × Rw} (h : z ≠ 4 ∨ FC.2 j 0 ≠ b ∨ k ≠ j) : (m_cue T b k FC).2 j z = FC.2 j z := by
  simp only [m_cue]
  split
  · rename_i h0
    have hn : ¬ (j = k ∧ z = 4) := by
      rintro ⟨rfl, rfl⟩
      rcases h with h | h | h
      · exact h rfl
      · exact h h0.1
      · exact h rfl
    split <;> simp only [s_set] <;> rw [if_neg hn]
  · rfl
theorem sim_cues (hb : nt ≤ 6 ∧ nf ≤ 8) (h : SF nt nf E F) (hC : nvC nf nc C b) (n : Nat) (hn : n ≤ nc) : SF nt nf (its (x_cue T nt nf b) (E, C) n).1 (its (m_cue T b) (F, C) n).1 ∧ (its (x_cue T nt nf b) (E, C) n).2 = (its (m_cue T b) (F, C) n).2 ∧ ∀ j z, z ≠ 4 ∨ C j 0 ≠ b ∨ n ≤ j → (its (m_cue T b) (F, C) n).2 j z = C j z := by
  induction n with
  | zero => exact ⟨h, rfl, fun _ _ _ => rfl⟩
  | succ n ih =>
    obtain ⟨i1, i2, i3⟩ := ih (by omega)
    simp only [its]
    have c1 : (its (m_cue T b) (F, C) n).2 n 1 = C n 1 := i3 n 1 (Or.inr (Or.inr (Nat.le_refl _)))
    have c0 : (its (m_cue T b) (F, C) n).2 n 0 = C n 0 := i3 n 0 (Or.inr (Or.inr (Nat.le_refl _)))
    have c4 : (its (m_cue T b) (F, C) n).2 n 4 = C n 4 := i3 n 4 (Or.inr (Or.inr (Nat.le_refl _)))
    have hs := sim_cue (T := T) (k := n) (C := (its (m_cue T b) (F, C) n).2) hb i1 (by rw [c1]; exact (hC n (by omega)).1) (fun e => by rw [c4]; rw [c0] at e; exact (hC n (by omega)).2 (by rw [e]; exact Int32.le_refl _))
    have ex : (its (x_cue T nt nf b) (E, C) n) = ((its (x_cue T nt nf b) (E, C) n).1, (its (m_cue T b) (F, C) n).2) := by rw [← i2]
    refine ⟨?_, ?_, fun j z hj => ?_⟩
    · rw [ex]; exact hs.1
    · rw [ex]; exact hs.2
    · rw [mcue_C, i3 j z]
      · rcases hj with q | q | q
        · exact Or.inl q
        · exact Or.inr (Or.inl q)
        · exact Or.inr (Or.inr (by omega))
      · rcases hj with q | q | q
        · exact Or.inl q
        · exact Or.inr (Or.inl (by rw [i3 j 0 (Or.inl (by decide))]; exact q))
        · exact Or.inr (Or.inr (by omega))
theorem free_eq {x y : Int32} {t : Nat} (hb : nt ≤ 6 ∧ nf ≤ 8) (hT : nvT nt T) (h : SF nt nf E F) (ht : t < nt) (hxy : x = y) : s_freeX T E nf b x t = m_free T F nf b y t := by
  subst hxy
  unfold s_freeX m_free
  rw [hang_eq h (by omega), add0]
  have h1 : (¬ T t 5 = 0) ↔ T t 5 = 1 := by
    rcases hT.2 t ht with e | e <;> rw [e] <;> decide
  have hl := hang_le (F := F) (nf := nf) (v := nI t)
  have h2 : nI (s_hang F nf (nI t)) < 2 ↔ s_hang F nf (nI t) < 2 := by
    generalize s_hang F nf (nI t) = n at hl
    have : ∀ n : Fin 9, (nI n.val < 2 ↔ n.val < 2) := by decide
    exact this ⟨n, by omega⟩
  by_cases a1 : T t 5 = 1 <;> by_cases a2 : s_hang F nf (nI t) < 2 <;> simp [h1, h2, a1, a2]
end SIM
