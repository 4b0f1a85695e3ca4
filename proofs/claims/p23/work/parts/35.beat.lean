/-! a whole beat -/
def bF (bn nt nc : Nat) (T E Cu T' E' C' : Rw) (f : Nat) : Prop :=
  (E' f = E f ∧ ¬ (E f 0 = 2 ∧ E f 3 = nI bn)) ∨
  (E f 0 = 1 ∧ ∃ i t, i < nc ∧ t < nt ∧ Cu i 0 = nI bn ∧ Cu i 1 = nI f ∧ Cu i 4 = 0 ∧ C' i 4 = 1 ∧ E f 1 = nI t ∧ E' f 0 = 2 ∧ E' f 1 = -1 ∧ E' f 2 = s_at T t (nI bn) + Cu i 2 ∧ E' f 3 = nI bn + Cu i 3 ∧ E' f 4 = E f 4) ∨
  (E f 0 = 1 ∧ ∃ t, t < nt ∧ E f 1 = nI t ∧ T' t 5 = 0 ∧ (E' f 0 = 3 ∨ E' f 0 = 4) ∧ E' f 1 = -1 ∧ E' f 4 = E f 4) ∨
  ((E f 0 = 2 ∧ E f 3 = nI bn) ∧ ((∃ t, t < nt ∧ E' f 0 = 1 ∧ E' f 1 = nI t) ∨ ((E' f 0 = 3 ∨ E' f 0 = 4) ∧ E' f 1 = -1)) ∧ (E' f 4 = E f 4 ∨ E' f 4 = E f 4 + 1))
def bC (bn : Nat) (Cu C' : Rw) (k : Nat) : Prop := (∀ z, z ≠ 4 → C' k z = Cu k z) ∧ ((Cu k 0 = nI bn ∧ (C' k 4 = 1 ∨ C' k 4 = 2)) ∨ (Cu k 0 ≠ nI bn ∧ C' k 4 = Cu k 4))
theorem its_age {S : Rw} (n : Nat) : ∀ t k, its y_age S n t k = if t < n ∧ k = 6 then S t 6 + 1 else S t k := by
  induction n with
  | zero => intro t k; rw [if_neg (fun q => absurd q.1 (Nat.not_lt_zero t))]; rfl
  | succ n ih =>
    intro t k
    show y_age n (its y_age S n) t k = _
    generalize its y_age S n = Q at ih ⊢
    unfold y_age
    by_cases e : t = n
    · subst e
      by_cases hk : k = 6
      · subst hk
        rw [if_pos ⟨Nat.lt_succ_self t, rfl⟩]
        unfold s_set
        rw [if_pos ⟨rfl, rfl⟩, ih t 6, if_neg (fun q => absurd q.1 (Nat.lt_irrefl t))]
      · rw [if_neg (fun q => hk q.2)]
        unfold s_set
        rw [if_neg (fun q => hk q.2), ih t k, if_neg (fun q => hk q.2)]
    · rw [s_set_ne e, ih t k]
      by_cases hk : t < n ∧ k = 6
      · rw [if_pos hk, if_pos ⟨by omega, hk.2⟩]
      · rw [if_neg hk, if_neg (fun q => hk ⟨by omega, q.2⟩)]
theorem b_flyer {bn nt nf nc : Nat} {T E Cu E1 C' E2 T' E' : Rw} {κ : Int32} (hv : vI bn nt nf nc T E Cu) (hbn : bn ≤ 60) (hc : cR bn nt nf T E Cu nc E1 C') (hl : lR bn nt nf T E1 nf E2 κ) (hw : wR bn nt nf T E2 nt T' E') {f : Nat} (hf : f < nf) : bF bn nt nc T E Cu T' E' C' f := by
  have hL := hl.2.1 f hf
  have hW := hw.2.2.1 f hf
  rcases hc.2.2 f hf with h1 | h1
  · unfold lF at hL
    rw [h1] at hL
    rcases hL with ⟨h2, h3⟩ | ⟨h2, h3⟩
    · rcases hW with h4 | ⟨h4, t, ht, h5, h6, h7, h8, h9⟩
      · exact Or.inl ⟨h4.trans h3, h2⟩
      · rw [h3] at h4 h5 h9
        exact Or.inr (Or.inr (Or.inl ⟨h4, t, ht, h5, h6, h7, h8, h9⟩))
    · refine Or.inr (Or.inr (Or.inr ⟨h2, ?_⟩))
      rcases h3 with ⟨t, ht, -, q0, q1, q4⟩ | ⟨q0, q1, q4⟩
      · rcases hW with h4 | ⟨h4, u, hu, h5, h6, h7, h8, h9⟩
        · exact ⟨Or.inl ⟨t, ht, by rw [h4]; exact q0, by rw [h4]; exact q1⟩, Or.inr (by rw [h4]; exact q4)⟩
        · exact ⟨Or.inr ⟨h7, h8⟩, Or.inr (h9.trans q4)⟩
      · rcases hW with h4 | ⟨h4, u, hu, h5, h6, h7, h8, h9⟩
        · exact ⟨Or.inr ⟨by rw [h4]; exact q0, by rw [h4]; exact q1⟩, Or.inl (by rw [h4]; exact q4)⟩
        · exfalso
          rw [h4] at q0
          rcases q0 with q | q <;> exact absurd q (by decide)
  · obtain ⟨h0, i, t, hi, ht, a0, a1, a4, c4, et, q0, q1, q2, q3, q4⟩ := h1
    obtain ⟨-, -, ⟨d, hd1, hd2, ed⟩, -⟩ := hv.2.2 i hi
    have hne : ¬ E1 f 3 = nI bn := fun h9 => by
      rw [q3, ed, nI_add] at h9
      have := (nI_eq (a := bn + d) (b := bn) (by omega) (by omega)).mp h9
      omega
    have e2 : E2 f = E1 f := by
      rcases hL with ⟨-, h3⟩ | ⟨h2, -⟩
      · exact h3
      · exact absurd h2.2 hne
    have e3 : E' f = E1 f := by
      rcases hW with h4 | ⟨h4, -⟩
      · exact h4.trans e2
      · rw [e2, q0] at h4; exact absurd h4 (by decide)
    exact Or.inr (Or.inl ⟨h0, i, t, hi, ht, a0, a1, a4, c4, et, by rw [e3]; exact q0, by rw [e3]; exact q1, by rw [e3]; exact q2, by rw [e3]; exact q3, by rw [e3]; exact q4⟩)
theorem b_cue {bn nt nf nc : Nat} {T E Cu E1 C' : Rw} (hc : cR bn nt nf T E Cu nc E1 C') {k : Nat} (hk : k < nc) : bC bn Cu C' k := ⟨fun z hz => hc.1 k z (Or.inl hz), hc.2.1 k hk⟩
/-- the invariant, a beat on -/
theorem b_inv {bn nt nf nc : Nat} {T E Cu T' E' C' : Rw} (hv : vI bn nt nf nc T E Cu) (hbn : bn ≤ 60) (hF : ∀ f, f < nf → bF bn nt nc T E Cu T' E' C' f) (hT : ∀ t, t < nt → wT bn T T' t) (hH : ∀ t, t < nt → s_hangE E' nf (nI t) ≤ 2 ∧ (T' t 5 = 0 → s_hangE E' nf (nI t) = 0)) (hC : ∀ k, k < nc → bC bn Cu C' k) : vI (bn + 1) nt nf nc T' E' C' := by
  refine ⟨fun t ht => ?_, fun f hf => ?_, fun k hk => ?_⟩
  · obtain ⟨⟨w, hw, e2⟩, ⟨d, hd, e6⟩, ⟨m, hm, e0⟩, ⟨wd, hwd, e1⟩, ⟨s, z, hs, hz, e3, e4, e5⟩, -⟩ := hv.1 t ht
    obtain ⟨h1, h2⟩ := hH t ht
    have e7 : ∀ v : Int32, v = T t 6 → nI (bn + 1) - v = nI (d + 1) := fun v hv9 => by
      rw [hv9, ← nI_1, ← nI_1, ← e6]; grind
    rcases hT t ht with h3 | ⟨a5, -, aO, h, hh, a4, ah⟩
    · have g0 : T' t 0 = T t 0 := by rw [h3]
      have g1 : T' t 1 = T t 1 := by rw [h3]
      have g2 : T' t 2 = T t 2 := by rw [h3]
      have g3 : T' t 3 = T t 3 := by rw [h3]
      have g4 : T' t 4 = T t 4 := by rw [h3]
      have g5 : T' t 5 = T t 5 := by rw [h3]
      refine ⟨⟨w, hw, g2.trans e2⟩, ⟨d + 1, by omega, e7 _ (by rw [h3])⟩, ⟨m, hm, g0.trans e0⟩, ⟨wd, hwd, g1.trans e1⟩, ⟨s, z, hs, hz, g3.trans e3, g4.trans e4, ?_⟩, h1⟩
      rcases e5 with e5 | e5
      · exact Or.inl ⟨g5.trans e5.1, e5.2⟩
      · exact Or.inr ⟨g5.trans e5.1, e5.2.1, h2 (g5.trans e5.1)⟩
    · have hzs : z ≤ s := by
        rcases e5 with e5 | e5
        · exact e5.2
        · rw [a5] at e5; exact absurd e5.1 (by decide)
      rw [e4, nI_add, e3, nI_leI (by omega) (by omega)] at ah
      refine ⟨⟨w, hw, (aO 2 (by decide) (by decide)).trans e2⟩, ⟨d + 1, by omega, e7 _ (aO 6 (by decide) (by decide))⟩, ⟨m, hm, (aO 0 (by decide) (by decide)).trans e0⟩, ⟨wd, hwd, (aO 1 (by decide) (by decide)).trans e1⟩, ⟨s, z + h, hs, by omega, (aO 3 (by decide) (by decide)).trans e3, by rw [a4, e4, nI_add], ?_⟩, h1⟩
      rcases ah with ah | ah
      · exact Or.inl ah
      · exact Or.inr ⟨ah.1, by omega, h2 ah.1⟩
  · obtain ⟨b0, b1, b2, b3, ⟨c, hc, b4⟩⟩ := hv.2.1 f hf
    rcases hF f hf with ⟨h1, h2⟩ | ⟨h0, i, t, hi, ht, a0, a1, a4, c4, et, q0, q1, q2, q3, q4⟩ | ⟨h0, t, ht, et, h5, q0, q1, q4⟩ | ⟨⟨h0, h3⟩, hr, q4⟩
    · unfold vF
      rw [h1]
      refine ⟨b0, b1, b2, fun h9 => ?_, ⟨c, by omega, b4⟩⟩
      obtain ⟨⟨d, hd, ed⟩, hb⟩ := b3 h9
      refine ⟨⟨d - 1, by omega, ?_⟩, hb⟩
      have : d ≠ 0 := fun hd0 => h2 ⟨h9, by rw [ed, hd0]; rfl⟩
      rw [ed]; congr 1; omega
    · obtain ⟨-, -, ⟨d, hd1, hd2, ed⟩, hrc⟩ := hv.2.2 i hi
      refine ⟨Or.inr (Or.inr (Or.inl q0)), fun h9 => absurd (q0.symm.trans h9) (by decide), fun _ => q1, fun _ => ⟨⟨d - 1, by omega, ?_⟩, ?_⟩, ⟨c, by omega, q4.trans b4⟩⟩
      · rw [q3, ed, nI_add]; congr 1; omega
      · rw [bd_iff, q2]
        obtain ⟨m, w, q, h1, h2, -, -, h3, h4, -⟩ := (hv.1 t ht).at hbn 0 (by omega)
        have e0 : nI bn + nI 0 = nI bn := by
          have : nI 0 = (0 : Int32) := rfl
          rw [this, Int32.add_zero]
        rw [e0] at h4
        have e1 : (-20 : Int32).toInt = -20 := by decide
        have e2 : (20 : Int32).toInt = 20 := by decide
        rw [Int32.le_iff_toInt_le, Int32.le_iff_toInt_le, e1, e2] at hrc
        rw [i_add (by omega) (by omega)]
        omega
    · have hn2 : ¬ E' f 0 = 2 := by rcases q0 with q | q <;> rw [q] <;> decide
      have hn1 : ¬ E' f 0 = 1 := by rcases q0 with q | q <;> rw [q] <;> decide
      exact ⟨by rcases q0 with q | q <;> simp [q], fun h9 => absurd h9 hn1, fun _ => q1, fun h9 => absurd h9 hn2, ⟨c, by omega, q4.trans b4⟩⟩
    · have hcaught : ∃ c, c ≤ bn + 1 ∧ E' f 4 = nI c := by
        rcases q4 with q | q
        · exact ⟨c, by omega, q.trans b4⟩
        · exact ⟨c + 1, by omega, by rw [q, b4, nI_1]⟩
      rcases hr with ⟨t, ht, q0, q1⟩ | ⟨q0, q1⟩
      · exact ⟨Or.inr (Or.inl q0), fun _ => ⟨t, ht, q1⟩, fun h9 => absurd q0 h9, fun h9 => absurd (q0.symm.trans h9) (by decide), hcaught⟩
      · have hn2 : ¬ E' f 0 = 2 := by rcases q0 with q | q <;> rw [q] <;> decide
        have hn1 : ¬ E' f 0 = 1 := by rcases q0 with q | q <;> rw [q] <;> decide
        exact ⟨by rcases q0 with q | q <;> simp [q], fun h9 => absurd h9 hn1, fun _ => q1, fun h9 => absurd h9 hn2, hcaught⟩
  · obtain ⟨⟨f, hf, ef⟩, ⟨c, hc, ec, ho⟩, ⟨d, hd1, hd2, ed⟩, hr⟩ := hv.2.2 k hk
    obtain ⟨hz, hk4⟩ := hC k hk
    refine ⟨⟨f, hf, (hz 1 (by decide)).trans ef⟩, ⟨c, hc, (hz 0 (by decide)).trans ec, ?_⟩, ⟨d, hd1, hd2, (hz 3 (by decide)).trans ed⟩, by rw [hz 2 (by decide)]; exact hr⟩
    rcases hk4 with ⟨h1, h2⟩ | ⟨h1, h2⟩
    · have : c = bn := (nI_eq (by omega) (by omega)).mp (ec.symm.trans h1)
      exact Or.inr ⟨by omega, h2⟩
    · have hne : c ≠ bn := fun e => h1 (by rw [ec, e])
      rw [h2]
      rcases ho with ho | ho
      · exact Or.inl ⟨by omega, ho.2⟩
      · exact Or.inr ⟨by omega, ho.2⟩
/-- all that a beat is -/
def bB (bn nt nf nc : Nat) (T E Cu T' E' C' : Rw) (κ : Int32) : Prop :=
  vI (bn + 1) nt nf nc T' E' C' ∧ (∀ f, f < nf → bF bn nt nc T E Cu T' E' C' f) ∧ (∀ t, t < nt → wT bn T T' t) ∧ (∀ k, k < nc → bC bn Cu C' k) ∧ κ = s_sum E' E nf
theorem beat_all {bn nt nf nc nn : Nat} {T E Cu N : Rw} (hv : vI bn nt nf nc T E Cu) (hbn : bn ≤ 60) (hnt : nt ≤ 6) (hnf : nf ≤ 8) :
    (x_beat N nn nt nf nc (nI bn, T, E, Cu, 0)).1 = nI (bn + 1) ∧ bB bn nt nf nc T E Cu (x_beat N nn nt nf nc (nI bn, T, E, Cu, 0)).2.1 (x_beat N nn nt nf nc (nI bn, T, E, Cu, 0)).2.2.1 (x_beat N nn nt nf nc (nI bn, T, E, Cu, 0)).2.2.2.1 (x_beat N nn nt nf nc (nI bn, T, E, Cu, 0)).2.2.2.2 ∧
    (∀ t k, t < nt → k < 7 → zT (nI (bn + 1)) (x_beat N nn nt nf nc (nI bn, T, E, Cu, 0)).2.1 t k = (y_beat N nn nt nf nc (nI bn) (zT (nI bn) T) (zF (nI bn) E) Cu).1 t k) ∧
    (∀ f k, f < nf → k < 5 → zF (nI (bn + 1)) (x_beat N nn nt nf nc (nI bn, T, E, Cu, 0)).2.2.1 f k = (y_beat N nn nt nf nc (nI bn) (zT (nI bn) T) (zF (nI bn) E) Cu).2.1 f k) ∧
    (y_beat N nn nt nf nc (nI bn) (zT (nI bn) T) (zF (nI bn) E) Cu).2.2 = (x_beat N nn nt nf nc (nI bn, T, E, Cu, 0)).2.2.2.1 := by
  obtain ⟨c1, c2, c3⟩ := cues_all hv hnt hnf hbn nc (Nat.le_refl nc)
  have hE1 := fun f hf => cue_vF hv hbn c1 (f := f) hf
  have hTp : ∀ t, t < nt → (-2000 ≤ (s_at T t (nI bn)).toInt ∧ (s_at T t (nI bn)).toInt ≤ 2000) ∧ (T t 5 = 0 ∨ T t 5 = 1) := fun t ht => ⟨(hv.1 t ht).at0 hbn, hv.b5 t ht⟩
  have hH1 : ∀ t, t < nt → s_hangE (its (x_cue T nt nf (nI bn)) (E, Cu) nc).1 nf (nI t) ≤ 2 ∧ (T t 5 = 0 → s_hangE (its (x_cue T nt nf (nI bn)) (E, Cu) nc).1 nf (nI t) = 0) := fun t ht => by
    have h9 := cue_hang (v := nI t) c1
    obtain ⟨-, -, -, -, ⟨s, z, -, -, -, -, h5⟩, h2⟩ := hv.1 t ht
    refine ⟨by omega, fun h0 => ?_⟩
    rcases h5 with h5 | h5
    · rw [h0] at h5; exact absurd h5.1 (by decide)
    · have := h5.2.2
      omega
  obtain ⟨l1, l2⟩ := lands_all (nn := nn) (N := N) hE1 hTp hH1 hnt hnf hbn c3 nf (Nat.le_refl nf)
  have l2' : ∀ f k, f < nf → k < 5 → its (y_land N nn (zT (nI bn) T) nt nf) (its (y_cue (zT (nI bn) T) (nI bn)) (zF (nI bn) E, Cu) nc).1 nf f k = zF (nI bn + 1) (its (x_land N nn T nt nf (nI bn)) ((its (x_cue T nt nf (nI bn)) (E, Cu) nc).1, 0) nf).1 f k := fun f k hf hk => by
    rw [l2 f k hf hk, if_pos hf]
  obtain ⟨w1, w2, w3⟩ := wears_all (nn := nn) (N := N) hv.b5 l1.2.2.1 hnt hnf l2' nt (Nat.le_refl nt)
  have hF := fun f hf => b_flyer hv hbn c1 l1 w1 (f := f) hf
  have hC := fun k hk => b_cue c1 (k := k) hk
  have hT := fun t ht => w1.2.1 t ht
  refine ⟨nI_1 bn, ⟨b_inv hv hbn hF hT w1.2.2.2 hC, hF, hT, hC, ?_⟩, fun t k ht hk => ?_, fun f k hf hk => ?_, c2⟩
  · show (0 : Int32) + (its (x_land N nn T nt nf (nI bn)) ((its (x_cue T nt nf (nI bn)) (E, Cu) nc).1, 0) nf).2 = s_sum (its (x_wear N nn nf (nI bn)) (T, (its (x_land N nn T nt nf (nI bn)) ((its (x_cue T nt nf (nI bn)) (E, Cu) nc).1, 0) nf).1) nt).2 E nf
    rw [Int32.zero_add, l1.2.2.2]
    have e1 := s_sum_congr (B := E) (n := nf) (A := (its (x_land N nn T nt nf (nI bn)) ((its (x_cue T nt nf (nI bn)) (E, Cu) nc).1, 0) nf).1) (A' := (its (x_wear N nn nf (nI bn)) (T, (its (x_land N nn T nt nf (nI bn)) ((its (x_cue T nt nf (nI bn)) (E, Cu) nc).1, 0) nf).1) nt).2) (fun f hf => by
      rcases w1.2.2.1 f hf with h | ⟨-, t, -, -, -, -, -, h⟩
      · rw [h]
      · exact h)
    rw [e1]
    have e2 : ∀ n, n ≤ nf → s_sum (its (x_land N nn T nt nf (nI bn)) ((its (x_cue T nt nf (nI bn)) (E, Cu) nc).1, 0) nf).1 (its (x_cue T nt nf (nI bn)) (E, Cu) nc).1 n = s_sum (its (x_land N nn T nt nf (nI bn)) ((its (x_cue T nt nf (nI bn)) (E, Cu) nc).1, 0) nf).1 E n := by
      intro n
      induction n with
      | zero => intro _; rfl
      | succ n ih =>
        intro hn
        have e := ih (by omega)
        have e4 : (its (x_cue T nt nf (nI bn)) (E, Cu) nc).1 n 4 = E n 4 := by
          rcases c1.2.2 n (by omega) with h | ⟨-, i, t, -, -, -, -, -, -, -, -, -, -, -, h⟩
          · rw [h]
          · exact h
        simp only [s_sum, its] at e ⊢
        rw [e, e4]
    exact e2 nf (Nat.le_refl nf)
  · show zT (nI (bn + 1)) (its (x_wear N nn nf (nI bn)) (T, _) nt).1 t k = its y_age (its (y_wear N nn nf) (zT (nI bn) T, _) nt).1 nt t k
    rw [its_age]
    by_cases h6 : k = 6
    · subst h6
      rw [if_pos ⟨ht, rfl⟩, w2 t 6 ht (by decide)]
      show nI (bn + 1) - _ = nI bn - _ + 1
      rw [← nI_1]
      grind
    · rw [if_neg (fun q => h6 q.2), w2 t k ht hk]
      unfold zT
      rw [if_neg h6, if_neg h6]
  · show zF (nI (bn + 1)) _ f k = (its (y_wear N nn nf) (zT (nI bn) T, _) nt).2 f k
    rw [w3 f k hf hk, ← nI_1]
    rfl
