/-! what is told is the same; what the public methods leave keeps the relation -/
section TOLD
variable {T E F C N : Rw} {nt nf nc nn : Nat} {b : Int32}
theorem told_eq {t k : Nat} (hb : nt ≤ 6 ∧ nf ≤ 8) (hT : nvT nt T) (h : SF nt nf E F) (ht : t < nt) (hk : k < 8) : s_toldX T E nf b t (nI k) = m_told T F nf b t k := by
  have eh := hang_eq h (t := t) (by omega)
  have e5 : (if T t 5 = 0 then (0 : Int32) else 1) = T t 5 := by rcases hT.2 t ht with e | e <;> rw [e] <;> decide
  unfold s_toldX m_told
  rcases (show k = 0 ∨ k = 1 ∨ k = 2 ∨ k = 3 ∨ k = 4 ∨ k = 5 ∨ k = 6 ∨ k = 7 by omega) with rfl | rfl | rfl | rfl | rfl | rfl | rfl | rfl
  · rfl
  · rfl
  · rfl
  · rfl
  · rfl
  · exact e5
  · rw [add0]; rfl
  · rw [← eh]; rfl
theorem toldF_eq {f k : Nat} (h : SF nt nf E F) (hf : f < nf) (hk : k < 5) : s_toldFX E b f (nI k) = m_toldF F b f k := by
  obtain ⟨k1, k2, k3, k4⟩ := h.1 f hf
  have i3 := (h.2 f hf).2.2
  unfold s_toldFX m_toldF
  rw [k1, k2, k3]
  rcases (show k = 0 ∨ k = 1 ∨ k = 2 ∨ k = 3 ∨ k = 4 by omega) with rfl | rfl | rfl | rfl | rfl
  · rfl
  · rfl
  · show (if F f 0 = 2 then E f 2 else 0) = F f 2
    by_cases h2 : F f 0 = 2
    · rw [if_pos h2]; exact (k4 h2).1
    · rw [if_neg h2]; exact (i3 h2).symm
  · show (if F f 0 = 2 then E f 3 - b else -1) = (if F f 0 = 2 then F f 3 - b else -1)
    by_cases h2 : F f 0 = 2
    · rw [if_pos h2, if_pos h2, (k4 h2).2]
    · rw [if_neg h2, if_neg h2]
  · rfl
theorem toldC_eq {i k : Nat} (hk : k < 5) : s_toldC C i (nI k) = C i k := by
  unfold s_toldC
  rcases (show k = 0 ∨ k = 1 ∨ k = 2 ∨ k = 3 ∨ k = 4 by omega) with rfl | rfl | rfl | rfl | rfl <;> rfl
theorem whole_sum {n : Nat} (h : ∀ t, t < n → T t 5 = 0 ∨ T t 5 = 1) : nI (cnt (fun t => decide (¬ T t 5 = 0)) n) = its (fun t s => s + T t 5) 0 n := by
  induction n with
  | zero => rfl
  | succ n ih =>
    simp only [cnt, its]
    rw [← ih (fun t ht => h t (by omega))]
    rcases h n (by omega) with e | e
    · simp [e]
    · have e9 : (if decide (¬ T n 5 = 0) = true then 1 else 0) = 1 := if_pos (decide_eq_true (by rw [e]; decide))
      rw [e9, e, nI_1]
theorem in_eq {v : Int32} (h : SF nt nf E F) : s_in E nf v = s_in F nf v := cnt_congr (fun f hf => by rw [(h.1 f hf).1])
theorem count_eq {w : Int32} (hT : nvT nt T) (h : SF nt nf E F) (hw : 0 ≤ w ∧ w ≤ 8) : s_countX b nt nf nc T E C w = m_count b nt nf nc T F C w := by
  obtain ⟨k, hk, rfl⟩ := in_k (k := 8) (by decide) (by decide) hw
  unfold s_countX m_count
  simp only [in_eq h]
  rw [whole_sum hT.2]
  rcases (show k = 0 ∨ k = 1 ∨ k = 2 ∨ k = 3 ∨ k = 4 ∨ k = 5 ∨ k = 6 ∨ k = 7 ∨ k = 8 by omega) with rfl | rfl | rfl | rfl | rfl | rfl | rfl | rfl | rfl
  · rfl
  · rfl
  · rfl
  · rfl
  · show nI (s_in F nf 1) = nI (s_in F nf (nI 4 - 3)); rw [show nI 4 - 3 = 1 by decide]
  · show nI (s_in F nf 2) = nI (s_in F nf (nI 5 - 3)); rw [show nI 5 - 3 = 2 by decide]
  · show nI (s_in F nf 3) = nI (s_in F nf (nI 6 - 3)); rw [show nI 6 - 3 = 3 by decide]
  · show nI (s_in F nf 4) = nI (s_in F nf (nI 7 - 3)); rw [show nI 7 - 3 = 4 by decide]
  · rfl
theorem its_congr {α : Type} {f g : Nat → α → α} {a : α} {n : Nat} (h : ∀ i, i < n → ∀ x, f i x = g i x) : its f a n = its g a n := by
  induction n with
  | zero => rfl
  | succ n ih => simp only [its]; rw [ih (fun i hi => h i (by omega)), h n (by omega)]
theorem dig_congr {f g : Nat → Int32} {d : Int64} {n : Nat} (h : ∀ i, i < n → f i = g i) : s_dig f d n = s_dig g d n := its_congr (fun i hi x => by rw [h i hi])
theorem dig_add {f : Nat → Int32} {d : Int64} {n k : Nat} : s_dig f d (n + k) = s_dig (fun i => f (n + i)) (s_dig f d n) k := by
  induction k with
  | zero => rfl
  | succ k ih =>
    show s_dig f d ((n + k) + 1) = _
    simp only [s_dig, its] at ih ⊢
    rw [ih]
theorem dig_rows {w : Nat} {A : Rw} {d : Int64} (hw : 0 < w) (n : Nat) : s_dig (fA w A) d (w * n) = its (fun k d => s_dig (fun z => A k z) d w) d n := by
  induction n with
  | zero => rfl
  | succ n ih =>
    rw [Nat.mul_succ, dig_add, ih]
    simp only [its]
    exact dig_congr (fun i hi => fA_at hi)
theorem digest_eq (hb : nt ≤ 6 ∧ nf ≤ 8) (hT : nvT nt T) (h : SF nt nf E F) : s_digest b nt nf nc nn T E C N = m_digest b nt nf nc nn T F C N := by
  unfold s_digest m_digest
  rw [dig_rows (by decide), dig_rows (by decide)]
  have e1 : s_dig (fun w => s_countX b nt nf nc T E C (nI w)) 1061 9 = s_dig (fun w => m_count b nt nf nc T F C (nI w)) 1061 9 := dig_congr (fun i hi => count_eq hT h (by
    have : ∀ i : Fin 9, 0 ≤ nI i.val ∧ nI i.val ≤ 8 := by decide
    exact this ⟨i, hi⟩))
  rw [e1]
  have e2 : ∀ d, its (fun t d => s_dig (fun w => s_toldX T E nf b t (nI w)) d 8) d nt = its (fun t d => s_dig (fun w => m_told T F nf b t w) d 8) d nt := fun d => its_congr (fun t ht x => dig_congr (fun i hi => told_eq hb hT h ht hi))
  rw [e2]
  have e3 : ∀ d, its (fun t d => s_dig (fun w => s_toldFX E b t (nI w)) d 5) d nf = its (fun t d => s_dig (fun w => m_toldF F b t w) d 5) d nf := fun d => its_congr (fun t ht x => dig_congr (fun i hi => toldF_eq h ht hi))
  rw [e3]
  have e4 : ∀ d, its (fun t d => s_dig (fun w => s_toldC C t (nI w)) d 5) d nc = its (fun k d => s_dig (fun z => C k z) d 5) d nc := fun d => its_congr (fun t ht x => dig_congr (fun i hi => toldC_eq hi))
  rw [e4]
  exact its_congr (fun k hk x => rfl)
theorem caught_eq (h : SF nt nf E F) : s_caught E nf = s_caught F nf := caught_same (fun f hf => ((h.1 f hf).2.2.1))
theorem mean_eq (h : SF nt nf E F) : s_mean E nf = s_mean F nf := by
  unfold s_mean
  rw [caught_eq h]
/-! what is added -/
theorem in_10 {w : Int32} (h : 0 ≤ w ∧ w ≤ 10) : ∃ k, k ≤ 10 ∧ w = nI k := by
  obtain ⟨j, h1, h2⟩ := in_k (k := 10) (by decide) (by decide) h
  exact ⟨j, by omega, h2⟩
theorem add_T {mid wid wt sg : Int32} (hT : nvT nt T) (h : okR mid wid wt sg) : nvT (nt + 1) (s_add T nt (rowT mid wid wt sg b)) := by
  refine ⟨fun t ht => ?_, fun t ht => ?_⟩
  · by_cases q : t = nt
    · subst q; simp only [s_add, if_true]; exact in_10 h.2.2.1
    · simp only [s_add, if_neg q]; exact hT.1 t (by omega)
  · by_cases q : t = nt
    · subst q; simp only [s_add, if_true]; exact Or.inr rfl
    · simp only [s_add, if_neg q]; exact hT.2 t (by omega)
theorem SF_T (h : SF nt nf E F) : SF (nt + 1) nf E F := ⟨h.1, fun f hf => ⟨fun q => by obtain ⟨t, h1, h2⟩ := (h.2 f hf).1 q; exact ⟨t, by omega, h2⟩, (h.2 f hf).2⟩⟩
theorem SF_join (h : SF nt nf E F) : SF nt (nf + 1) (s_add E nf rowF) (s_add F nf rowG) := by
  refine ⟨fun f hf => ?_, fun f hf => ?_⟩
  · by_cases q : f = nf
    · subst q
      simp only [s_add, if_true]
      exact ⟨rfl, rfl, rfl, fun k => absurd k (by decide)⟩
    · simp only [s_add, if_neg q]; exact h.1 f (by omega)
  · by_cases q : f = nf
    · subst q
      simp only [s_add, if_true]
      exact ⟨fun k => absurd k (by decide), fun _ => rfl, fun _ => rfl⟩
    · simp only [s_add, if_neg q]; exact h.2 f (by omega)
theorem nvC_join (h : nvC nf nc C b) : nvC (nf + 1) nc C b := fun k hk => ⟨by obtain ⟨f, h1, h2⟩ := (h k hk).1; exact ⟨f, by omega, h2⟩, (h k hk).2⟩
theorem nvC_cue {bt f r tm : Int32} (h : nvC nf nc C b) (hf : ∃ i, i < nf ∧ f = nI i) : nvC nf (nc + 1) (s_add C nc (rowC bt f r tm)) b := by
  intro k hk
  by_cases q : k = nc
  · subst q
    simp only [s_add, if_true]
    exact ⟨hf, fun _ => rfl⟩
  · simp only [s_add, if_neg q]; exact h k (by omega)
theorem nvT_weigh {i : Nat} {p0 : Int32} (hT : nvT nt T) (h : 0 ≤ p0 ∧ p0 ≤ 10) : nvT nt (s_set (s_set T i 2 p0) i 6 b) := by
  refine ⟨fun t ht => ?_, fun t ht => ?_⟩
  · simp only [s_set]
    rw [if_neg (by omega)]
    split
    · exact in_10 h
    · exact hT.1 t ht
  · simp only [s_set]
    rw [if_neg (by omega), if_neg (by omega)]
    exact hT.2 t ht
theorem nvT_mend {i : Nat} (hT : nvT nt T) : nvT nt (s_set (s_set T i 4 0) i 5 1) := nvT_set (nvT_set hT (by decide) (fun q => absurd q (by decide))) (by decide) (fun _ => Or.inr rfl)
theorem SF_mount {i j : Nat} {t : Int32} (h : SF nt nf E F) (hj : j < nt) (ht : t = nI j) : SF nt nf (x_st E i 1 t) (s_row F i 1 t 0 (-1)) :=
  SF_row h (by simp [x_st]) (by simp [x_st]) (by simp [x_st]) (fun k => absurd k (by decide)) (fun g hg => by funext k; simp [x_st, hg]) (fun _ => ⟨j, hj, ht⟩) (fun q => absurd rfl q) (fun _ => rfl)
theorem cnt_one {p q : Nat → Bool} {n i : Nat} (hi : i < n) (h1 : p i = false) (h2 : q i = true) (ho : ∀ j, j < n → j ≠ i → q j = p j) : cnt q n = cnt p n + 1 := by
  induction n with
  | zero => omega
  | succ n ih =>
    simp only [cnt]
    by_cases e : i = n
    · subst e
      rw [cnt_congr (p := q) (q := p) (fun j hj => ho j (by omega) (by omega)), h1, h2]
      simp
    · rw [ih (by omega) (fun j hj => ho j (by omega)), ho n (by omega) (fun q => e q.symm)]
      omega
theorem mount_eq {i j : Nat} {t : Int32} (hb : nt ≤ 6 ∧ nf ≤ 8) (h : SF nt nf E F) (hi : i < nf) (hj : j < nt) (ht : t = nI j) (h0 : F i 0 = 0 ∨ F i 0 = 3) : nI (s_hangE E nf t) + 1 = nI (s_hang (s_row F i 1 t 0 (-1)) nf t) := by
  subst ht
  rw [hang_eq h (by omega), nI_1]
  have hn : ¬ F i 1 = nI j := by
    intro e
    have := (h.2 i hi).2.1 (by rcases h0 with q | q <;> rw [q] <;> decide)
    rw [this] at e
    exact nI_m1 (t := j) (by omega) e.symm
  have : s_hang (s_row F i 1 (nI j) 0 (-1)) nf (nI j) = s_hang F nf (nI j) + 1 := cnt_one hi (by simp [hn]) (by simp [s_row]) (fun g _ hg => by simp [s_row, hg])
  rw [this]
end TOLD
