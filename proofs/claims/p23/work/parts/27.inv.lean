/-! what always holds, between two turns -/
def s_bd (v : Int32) : Prop := -1000 ≤ v ∧ v ≤ 1000
def vT (bn nf : Nat) (T E : Rw) (t : Nat) : Prop := (∃ w, w ≤ 10 ∧ T t 2 = nI w) ∧ (∃ d, d ≤ bn ∧ nI bn - T t 6 = nI d) ∧ (∃ m, m ≤ 99 ∧ T t 0 = nI m) ∧ (∃ w, w ≤ 20 ∧ T t 1 = nI w) ∧ (∃ s z, s ≤ 99 ∧ z ≤ 101 ∧ T t 3 = nI s ∧ T t 4 = nI z ∧ ((T t 5 = 1 ∧ z ≤ s) ∨ (T t 5 = 0 ∧ s < z ∧ s_hangE E nf (nI t) = 0))) ∧ s_hangE E nf (nI t) ≤ 2
def vF (bn nt : Nat) (E : Rw) (f : Nat) : Prop := (E f 0 = 0 ∨ E f 0 = 1 ∨ E f 0 = 2 ∨ E f 0 = 3 ∨ E f 0 = 4) ∧ (E f 0 = 1 → ∃ t, t < nt ∧ E f 1 = nI t) ∧ (E f 0 ≠ 1 → E f 1 = -1) ∧ (E f 0 = 2 → (∃ d, d ≤ 6 ∧ E f 3 = nI (bn + d)) ∧ s_bd (E f 2)) ∧ (∃ c, c ≤ bn ∧ E f 4 = nI c)
def vC (bn nf : Nat) (C : Rw) (k : Nat) : Prop := (∃ f, f < nf ∧ C k 1 = nI f) ∧ (∃ c, c ≤ 100 ∧ C k 0 = nI c ∧ ((bn ≤ c ∧ C k 4 = 0) ∨ (c < bn ∧ (C k 4 = 1 ∨ C k 4 = 2)))) ∧ (∃ d, 1 ≤ d ∧ d ≤ 6 ∧ C k 3 = nI d) ∧ (-20 ≤ C k 2 ∧ C k 2 ≤ 20)
def vI (bn nt nf nc : Nat) (T E C : Rw) : Prop := (∀ t, t < nt → vT bn nf T E t) ∧ (∀ f, f < nf → vF bn nt E f) ∧ ∀ k, k < nc → vC bn nf C k
section VI
variable {bn nt nf nc : Nat} {T E C : Rw}
theorem vI.wok (h : vI bn nt nf nc T E C) : s_wok T nt := fun t ht => (h.1 t ht).1
theorem vI.b5 (h : vI bn nt nf nc T E C) : ∀ t, t < nt → T t 5 = 0 ∨ T t 5 = 1 := fun t ht => by
  obtain ⟨-, -, -, -, ⟨s, z, -, -, -, -, h1 | h1⟩, -⟩ := h.1 t ht
  · exact Or.inr h1.1
  · exact Or.inl h1.1
theorem vI.wS (h : vI bn nt nf nc T E C) (hb : bn ≤ 1000) : y_wS nt (zT (nI bn) T) := fun t ht => by
  obtain ⟨⟨w, hw, e⟩, ⟨d, hd, e2⟩, -⟩ := h.1 t ht
  exact ⟨⟨w, hw, e⟩, d, by omega, e2⟩
theorem vI.wF (h : vI bn nt nf nc T E C) {b : Int32} : y_wF nt nf (zF b E) := fun f hf h1 => (h.2.1 f hf).2.1 h1
theorem vI.wC (h : vI bn nt nf nc T E C) : y_wC nf nc C := fun k hk => (h.2.2 k hk).1
/-- nobody hangs where there is no trapeze yet -/
theorem hang_new (h : ∀ f, f < nf → vF bn nt E f) (hn : nt < 1000) : s_hangE E nf (nI nt) = 0 := by
  unfold s_hangE
  have e : ∀ n, n ≤ nf → cnt (fun f => decide (E f 0 = 1 ∧ E f 1 = nI nt)) n = 0 := by
    intro n
    induction n with
    | zero => intro _; rfl
    | succ n ih =>
      intro hn2
      simp only [cnt]
      rw [ih (by omega), if_neg]
      rw [decide_eq_true_eq]
      rintro ⟨h0, h1⟩
      obtain ⟨t, ht, e⟩ := (h n (by omega)).2.1 h0
      have := (nI_eq (a := nt) (b := t) (by omega) (by omega)).mp (h1.symm.trans e)
      omega
  exact e nf (Nat.le_refl _)
theorem hangE_congr {E E' : Rw} {v : Int32} (h : ∀ f, f < nf → (E' f 0 = 1 ∧ E' f 1 = v ↔ E f 0 = 1 ∧ E f 1 = v)) : s_hangE E' nf v = s_hangE E nf v := cnt_congr (fun f hf => by rw [decide_eq_decide]; exact h f hf)
theorem add_at {T : Rw} {n : Nat} {r : Nat → Int32} : s_add T n r n = r := if_pos rfl
theorem add_ne {T : Rw} {n i : Nat} {r : Nat → Int32} (h : i ≠ n) : s_add T n r i = T i := if_neg h
theorem lt_101 {a : Int32} {n m : Nat} (h : 0 ≤ a) (h2 : a ≤ nI n) (hn : n < 1000) : ∃ k, k ≤ n ∧ a = nI k := by
  obtain ⟨j, hj, rfl⟩ := nI_of (x := a) (Int32.not_lt.mpr h)
  exact ⟨j, (nI_leI hj (by omega)).mp h2, rfl⟩
theorem vI.rig {mid wid wt sg : Nat} (h : vI bn nt nf nc T E C) (hn : nt < 6) (h1 : mid ≤ 99) (h2 : wid ≤ 20) (h3 : wt ≤ 10) (h4 : sg ≤ 99) : vI bn (nt + 1) nf nc (s_add T nt (rowT (nI mid) (nI wid) (nI wt) (nI sg) (nI bn))) E C := by
  refine ⟨fun t ht => ?_, fun f hf => ?_, h.2.2⟩
  · by_cases e : t = nt
    · subst e
      have h0 := hang_new (fun f hf => h.2.1 f hf) (nt := t) (by omega)
      unfold vT
      rw [add_at, h0]
      refine ⟨⟨wt, h3, rfl⟩, ⟨0, by omega, ?_⟩, ⟨mid, h1, rfl⟩, ⟨wid, h2, rfl⟩, ⟨sg, 0, h4, by omega, rfl, rfl, Or.inl ⟨rfl, by omega⟩⟩, by omega⟩
      show nI bn - nI bn = nI 0
      rw [Int32.sub_self]; rfl
    · unfold vT
      rw [add_ne e]
      exact h.1 t (by omega)
  · obtain ⟨a, b, c, d⟩ := h.2.1 f hf
    exact ⟨a, fun h0 => by obtain ⟨t, ht, e⟩ := b h0; exact ⟨t, by omega, e⟩, c, d⟩
theorem vI.weigh {i p : Nat} (h : vI bn nt nf nc T E C) (hi : i < nt) (hp : p ≤ 10) : vI bn nt nf nc (s_set (s_set T i 2 (nI p)) i 6 (nI bn)) E C := by
  refine ⟨fun t ht => ?_, h.2⟩
  by_cases e : t = i
  · subst e
    obtain ⟨-, -, a3, a4, ⟨s, z, b1, b2, b3⟩, a6⟩ := h.1 t hi
    unfold vT
    simp only [s_set]
    simp
    exact ⟨⟨p, hp, rfl⟩, ⟨0, by omega, rfl⟩, a3, a4, ⟨s, b1, z, b2, b3⟩, a6⟩
  · unfold vT
    rw [s_set_ne e, s_set_ne e]
    exact h.1 t ht
theorem vI.mend {i : Nat} (h : vI bn nt nf nc T E C) (hi : i < nt) : vI bn nt nf nc (s_set (s_set T i 4 0) i 5 1) E C := by
  refine ⟨fun t ht => ?_, h.2⟩
  by_cases e : t = i
  · subst e
    obtain ⟨a1, a2, a3, a4, ⟨s, z, b1, b2, b3, b4, b5⟩, a6⟩ := h.1 t hi
    unfold vT
    simp only [s_set]
    simp
    exact ⟨a1, a2, a3, a4, ⟨s, b1, 0, by omega, b3, rfl, by omega⟩, a6⟩
  · unfold vT
    rw [s_set_ne e, s_set_ne e]
    exact h.1 t ht
theorem hang_add {r : Nat → Int32} {v : Int32} (h : ¬ r 0 = 1) : s_hangE (s_add E nf r) (nf + 1) v = s_hangE E nf v := by
  unfold s_hangE
  simp only [cnt]
  rw [if_neg (by rw [add_at]; simp [h])]
  exact cnt_congr (fun f hf => by rw [add_ne (by omega)])
theorem vI.join (h : vI bn nt nf nc T E C) (hn : nf < 8) : vI bn nt (nf + 1) nc T (s_add E nf rowF) C := by
  refine ⟨fun t ht => ?_, fun f hf => ?_, fun k hk => ?_⟩
  · have := h.1 t ht
    unfold vT at this ⊢
    rw [hang_add (by decide)]
    exact this
  · by_cases e : f = nf
    · subst e
      unfold vF
      rw [add_at]
      exact ⟨Or.inl rfl, fun h0 => absurd h0 (by decide), fun _ => rfl, fun h0 => absurd h0 (by decide), 0, by omega, rfl⟩
    · unfold vF
      rw [add_ne e]
      exact h.2.1 f (by omega)
  · obtain ⟨⟨f, hf, e⟩, b⟩ := h.2.2 k hk
    exact ⟨⟨f, by omega, e⟩, b⟩
theorem cnt_one {p q : Nat → Bool} {n i : Nat} (hi : i < n) (h1 : p i = false) (h2 : q i = true) (ho : ∀ j, j < n → j ≠ i → q j = p j) : cnt q n = cnt p n + 1 := by
  induction n with
  | zero => omega
  | succ n ih =>
    simp only [cnt]
    by_cases e : i = n
    · subst e
      rw [cnt_congr (p := q) (q := p) (fun j hj => ho j (by omega) (by omega)), h1, h2]
      simp
    · rw [ih (by omega) (fun j hj => ho j (by omega)), ho n (by omega) (fun q => e q.symm)]
      omega
theorem st_at {E : Rw} {f : Nat} {a n : Int32} : x_st E f a n f 0 = a ∧ x_st E f a n f 1 = n ∧ x_st E f a n f 2 = E f 2 ∧ x_st E f a n f 3 = E f 3 ∧ x_st E f a n f 4 = E f 4 := by
  simp [x_st]
theorem st_ne {E : Rw} {f g : Nat} {a n : Int32} (h : g ≠ f) : x_st E f a n g = E g := by
  funext k
  simp [x_st, h]
theorem hang_mount {i j : Nat} (hi : i < nf) (hj : j < 1000) (h0 : ¬ E i 0 = 1) : s_hangE (x_st E i 1 (nI j)) nf (nI j) = s_hangE E nf (nI j) + 1 :=
  cnt_one hi (by simp [h0]) (by simp [x_st]) (fun g _ hg => by rw [st_ne hg])
theorem hang_mount2 {i j t : Nat} (hj : j < 1000) (ht : t < 1000) (hne : t ≠ j) (h0 : ¬ E i 0 = 1) : s_hangE (x_st E i 1 (nI j)) nf (nI t) = s_hangE E nf (nI t) := by
  refine hangE_congr (fun f hf => ?_)
  by_cases e : f = i
  · subst e
    obtain ⟨e0, e1, -⟩ := st_at (E := E) (f := f) (a := 1) (n := nI j)
    rw [e0, e1]
    constructor
    · rintro ⟨-, h1⟩
      exact absurd ((nI_eq (by omega) (by omega)).mp h1).symm hne
    · rintro ⟨h1, -⟩
      exact absurd h1 h0
  · rw [st_ne e]
theorem vI.mount {i j : Nat} (h : vI bn nt nf nc T E C) (hi : i < nf) (hj : j < nt) (hn : nt ≤ 6) (h0 : E i 0 = 0 ∨ E i 0 = 3) (h5 : ¬ T j 5 = 0) (h2 : s_hangE E nf (nI j) < 2) : vI bn nt nf nc T (x_st E i 1 (nI j)) C := by
  have hne : ¬ E i 0 = 1 := by rcases h0 with e | e <;> rw [e] <;> decide
  refine ⟨fun t ht => ?_, fun f hf => ?_, h.2.2⟩
  · have ht2 := h.1 t ht
    by_cases e : t = j
    · subst e
      unfold vT at ht2 ⊢
      rw [hang_mount hi (by omega) hne]
      obtain ⟨a1, a2, a3, a4, ⟨s, z, b1, b2, b3, b4, b5⟩, a6⟩ := ht2
      refine ⟨a1, a2, a3, a4, ⟨s, z, b1, b2, b3, b4, ?_⟩, by omega⟩
      rcases b5 with b5 | b5
      · exact Or.inl b5
      · exact absurd b5.1 h5
    · unfold vT at ht2 ⊢
      rw [hang_mount2 (by omega) (by omega) e hne]
      exact ht2
  · by_cases e : f = i
    · subst e
      obtain ⟨e0, e1, e2, e3, e4⟩ := st_at (E := E) (f := f) (a := 1) (n := nI j)
      unfold vF
      rw [e0, e1, e2, e3, e4]
      exact ⟨Or.inr (Or.inl rfl), fun _ => ⟨j, hj, rfl⟩, fun q => absurd rfl q, fun q => absurd q (by decide), (h.2.1 f hf).2.2.2.2⟩
    · unfold vF
      rw [st_ne e]
      exact h.2.1 f hf
theorem vI.cue {c f tm : Nat} {r : Int32} (h : vI bn nt nf nc T E C) (hn : nc < 20) (hc : c ≤ 100) (hb : bn ≤ c) (hf : f < nf) (ht : 1 ≤ tm ∧ tm ≤ 6) (hr : -20 ≤ r ∧ r ≤ 20) : vI bn nt nf (nc + 1) T E (s_add C nc (rowC (nI c) (nI f) r (nI tm))) := by
  refine ⟨h.1, h.2.1, fun k hk => ?_⟩
  by_cases e : k = nc
  · subst e
    unfold vC
    rw [add_at]
    exact ⟨⟨f, hf, rfl⟩, ⟨c, hc, rfl, Or.inl ⟨hb, rfl⟩⟩, ⟨tm, ht.1, ht.2, rfl⟩, hr⟩
  · unfold vC
    rw [add_ne e]
    exact h.2.2 k (by omega)
/-! Sim's words beside -/
def rowS (mid wid wt sg : Int32) : Nat → Int32 := fun k => match k with | 0 => mid | 1 => wid | 2 => wt | 3 => sg | 4 => 0 | 5 => 1 | _ => 0
def rowG : Nat → Int32 := fun k => match k with | 1 => -1 | 3 => -1 | _ => 0
theorem z_rig {b mid wid wt sg : Int32} {n : Nat} : ∀ i k, k < 7 → zT b (s_add T n (rowT mid wid wt sg b)) i k = s_add (zT b T) n (rowS mid wid wt sg) i k := by
  intro i k hk
  by_cases e : i = n
  · subst e
    rw [add_at]
    unfold zT
    rw [add_at]
    rcases (show k = 0 ∨ k = 1 ∨ k = 2 ∨ k = 3 ∨ k = 4 ∨ k = 5 ∨ k = 6 by omega) with rfl | rfl | rfl | rfl | rfl | rfl | rfl <;> first | rfl | exact Int32.sub_self _
  · rw [add_ne e]
    unfold zT
    rw [add_ne e]
theorem z_weigh {b p : Int32} {j : Nat} : ∀ i k, zT b (s_set (s_set T j 2 p) j 6 b) i k = s_set (s_set (zT b T) j 2 p) j 6 0 i k := by
  intro i k
  by_cases e : i = j
  · subst e
    unfold zT s_set
    by_cases h6 : k = 6
    · subst h6; simp
    · by_cases h2 : k = 2
      · subst h2; simp
      · simp [h6, h2]
  · rw [s_set_ne e, s_set_ne e]
    unfold zT
    rw [s_set_ne e, s_set_ne e]
theorem z_mend {b : Int32} {j : Nat} : ∀ i k, zT b (s_set (s_set T j 4 0) j 5 1) i k = s_set (s_set (zT b T) j 4 0) j 5 1 i k := by
  intro i k
  by_cases e : i = j
  · subst e
    unfold zT s_set
    by_cases h6 : k = 6
    · subst h6; simp
    · simp [h6]
  · rw [s_set_ne e, s_set_ne e]
    unfold zT
    rw [s_set_ne e, s_set_ne e]
theorem z_join {b : Int32} {n : Nat} : ∀ i k, k < 5 → zF b (s_add E n rowF) i k = s_add (zF b E) n rowG i k := by
  intro i k hk
  by_cases e : i = n
  · subst e
    rw [add_at]
    unfold zF
    rw [add_at]
    rcases (show k = 0 ∨ k = 1 ∨ k = 2 ∨ k = 3 ∨ k = 4 by omega) with rfl | rfl | rfl | rfl | rfl <;> first | rfl | (simp [rowF, rowG])
  · rw [add_ne e]
    unfold zF
    rw [add_ne e]
theorem z_mount {b : Int32} {f : Nat} {v : Int32} : ∀ i k, k < 5 → zF b (x_st E f 1 v) i k = s_row (zF b E) f 1 v 0 (-1) i k := by
  intro i k hk
  by_cases e : i = f
  · subst e
    unfold zF s_row
    rcases (show k = 0 ∨ k = 1 ∨ k = 2 ∨ k = 3 ∨ k = 4 by omega) with rfl | rfl | rfl | rfl | rfl <;> simp [x_st]
  · unfold s_row
    rw [if_neg e]
    unfold zF
    rw [st_ne e]
end VI
