/-! what the law looks at behind a beat: cues -/
section CK
variable {bn nt nf nc : Nat} {T E Cu T' E' C' : Rw} {κ' : Int32}
theorem ck_cases (hv : vI bn nt nf nc T E Cu) (hB : bB bn nt nf nc T E Cu T' E' C' κ') (hbn : bn < 50) {k : Nat} (hk : k < nc) :
    ∃ c : Nat, c ≤ 100 ∧ s_toldC C' k 0 = nI c ∧ ((s_toldC Cu k 4 = 0 ∧ s_toldC C' k 4 = 1 ∧ c ≤ bn) ∨ (s_toldC Cu k 4 = 0 ∧ s_toldC C' k 4 = 2 ∧ c ≤ bn) ∨ (s_toldC Cu k 4 = 0 ∧ s_toldC C' k 4 = 0 ∧ bn < c) ∨ (s_toldC Cu k 4 = 1 ∧ s_toldC C' k 4 = 1 ∧ c ≤ bn) ∨ (s_toldC Cu k 4 = 2 ∧ s_toldC C' k 4 = 2 ∧ c ≤ bn)) := by
  obtain ⟨-, ⟨c, hc, ec, ho⟩, -, -⟩ := hv.2.2 k hk
  obtain ⟨hz, h4⟩ := hB.2.2.2.1 k hk
  refine ⟨c, hc, (hz 0 (by decide)).trans ec, ?_⟩
  show (Cu k 4 = 0 ∧ C' k 4 = 1 ∧ c ≤ bn) ∨ (Cu k 4 = 0 ∧ C' k 4 = 2 ∧ c ≤ bn) ∨ (Cu k 4 = 0 ∧ C' k 4 = 0 ∧ bn < c) ∨ (Cu k 4 = 1 ∧ C' k 4 = 1 ∧ c ≤ bn) ∨ (Cu k 4 = 2 ∧ C' k 4 = 2 ∧ c ≤ bn)
  rcases h4 with ⟨h1, h2⟩ | ⟨h1, h2⟩
  · have e : c = bn := (nI_eq (by omega) (by omega)).mp (ec.symm.trans h1)
    have h0 : Cu k 4 = 0 := by
      rcases ho with ho | ho
      · exact ho.2
      · omega
    rcases h2 with h2 | h2
    · exact Or.inl ⟨h0, h2, by omega⟩
    · exact Or.inr (Or.inl ⟨h0, h2, by omega⟩)
  · have hne : c ≠ bn := fun e => h1 (by rw [ec, e])
    rw [h2]
    rcases ho with ⟨ho, h0⟩ | ⟨ho, h0 | h0⟩
    · exact Or.inr (Or.inr (Or.inl ⟨h0, h0, by omega⟩))
    · exact Or.inr (Or.inr (Or.inr (Or.inl ⟨h0, h0, by omega⟩)))
    · exact Or.inr (Or.inr (Or.inr (Or.inr ⟨h0, h0, by omega⟩)))
/-! trapezes -/
theorem tk_same (hB : bB bn nt nf nc T E Cu T' E' C' κ') {t z : Nat} (ht : t < nt) (h4 : z ≠ 4) (h5 : z ≠ 5) : T' t z = T t z := by
  rcases hB.2.2.1 t ht with h | ⟨-, -, h, -⟩
  · rw [h]
  · exact h z h4 h5
theorem tk_at (hB : bB bn nt nf nc T E Cu T' E' C' κ') {t : Nat} (ht : t < nt) : s_at T' t (nI (bn + 1)) = s_at T t (nI bn + 1) := by
  unfold s_at
  rw [tk_same hB ht (by decide) (by decide), tk_same hB ht (by decide) (by decide), tk_same hB ht (by decide) (by decide), tk_same hB ht (by decide) (by decide), nI_1]
theorem tk_told (hB : bB bn nt nf nc T E Cu T' E' C' κ') {t w : Nat} (ht : t < nt) (hw : w < 4) {b b' : Int32} : s_toldX T' E' nf b' t (nI w) = s_toldX T E nf b t (nI w) := by
  rcases (show w = 0 ∨ w = 1 ∨ w = 2 ∨ w = 3 by omega) with rfl | rfl | rfl | rfl
  · exact tk_same hB ht (by decide) (by decide)
  · exact tk_same hB ht (by decide) (by decide)
  · exact tk_same hB ht (by decide) (by decide)
  · exact tk_same hB ht (by decide) (by decide)
theorem tk_abs (hv : vI bn nt nf nc T E Cu) (hbn : bn < 50) {t : Nat} (ht : t < nt) : ¬ T t 1 < (if 0 ≤ s_at T t (nI bn + 1) - T t 0 then s_at T t (nI bn + 1) - T t 0 else 0 - (s_at T t (nI bn + 1) - T t 0)) := by
  obtain ⟨m, w, q, hm, hw, e0, e1, hq, hp, -⟩ := (hv.1 t ht).at (by omega) 1 (by omega)
  have e9 : nI bn + nI 1 = nI bn + 1 := rfl
  rw [e9] at hp
  have m0 : (nI m).toInt = m := nI_toInt (by omega)
  have w0 : (nI w).toInt = w := nI_toInt (by omega)
  have hs : (s_at T t (nI bn + 1) - T t 0).toInt = (q : Int) - w := by
    rw [e0, i_sub (by omega) (by omega), hp, m0]; omega
  have z0 : (0 : Int32).toInt = 0 := by decide
  have hn : (0 - (s_at T t (nI bn + 1) - T t 0)).toInt = w - (q : Int) := by
    rw [i_sub (by omega) (by omega), hs, z0]; omega
  rw [Int32.not_lt, e1]
  split
  · rw [Int32.le_iff_toInt_le, hs, w0]; omega
  · rename_i h
    rw [Int32.le_iff_toInt_le, hs, z0] at h
    rw [Int32.le_iff_toInt_le, hn, w0]; omega
theorem tk_left (hv : vI bn nt nf nc T E Cu) (hbn : bn < 50) {t : Nat} (ht : t < nt) (h : s_p (T t 2) (nI bn - T t 6) = 0) : s_at T t (nI bn) = T t 0 - T t 1 := by
  obtain ⟨m, w, q, hm, hw, e0, e1, hq, hp, h0⟩ := (hv.1 t ht).at (by omega) 0 (by omega)
  have e9 : nI bn + nI 0 = nI bn := by
    have : nI 0 = (0 : Int32) := rfl
    rw [this, Int32.add_zero]
  rw [e9, h0 rfl h] at hp
  apply Int32.toInt_inj.mp
  rw [hp, e0, e1, sub_toInt (by omega) (by omega)]
  omega
/-- the four ways of a trapeze: what was told of 4 and 5, and is -/
theorem tk_cases (hv : vI bn nt nf nc T E Cu) (hB : bB bn nt nf nc T E Cu T' E' C' κ') {t : Nat} (ht : t < nt) :
    (∃ h : Nat, h ≤ 2 ∧ T' t 4 - T t 4 = nI h ∧ (h ≠ 0 → s_p (T t 2) (nI bn - T t 6) = 0) ∧ T t 5 = 1 ∧ T' t 5 = 1 ∧ T' t 4 ≤ T' t 3) ∨
    (∃ h : Nat, h ≤ 2 ∧ T' t 4 - T t 4 = nI h ∧ (h ≠ 0 → s_p (T t 2) (nI bn - T t 6) = 0) ∧ T t 5 = 1 ∧ T' t 5 = 0 ∧ ¬ T' t 4 ≤ T' t 3 ∧ s_hangE E' nf (nI t) = 0) ∨
    (T' t 4 - T t 4 = 0 ∧ T t 5 = 0 ∧ T' t 5 = 0 ∧ ¬ T' t 4 ≤ T' t 3 ∧ s_hangE E' nf (nI t) = 0) := by
  obtain ⟨-, -, -, -, ⟨s, z, hs, hz, e3, e4, e5⟩, -⟩ := hv.1 t ht
  obtain ⟨-, -, -, -, ⟨s', z', hs', hz', e3', e4', e5'⟩, -⟩ := hB.1.1 t ht
  rcases hB.2.2.1 t ht with h | ⟨a5, ap, -, h, hh, a4, -⟩
  · have g4 : T' t 4 = T t 4 := by rw [h]
    have g5 : T' t 5 = T t 5 := by rw [h]
    have g0 : T' t 4 - T t 4 = nI 0 := by rw [g4, Int32.sub_self]; rfl
    rcases e5' with q | q
    · exact Or.inl ⟨0, by omega, g0, fun h9 => absurd rfl h9, g5.symm.trans q.1, q.1, by rw [e4', e3']; exact nI_le q.2 (by omega)⟩
    · exact Or.inr (Or.inr ⟨g0, g5.symm.trans q.1, q.1, by rw [e4', e3']; exact nI_ge q.2.1 (by omega), q.2.2⟩)
  · have g4 : T' t 4 - T t 4 = nI h := by rw [a4]; grind
    rcases e5' with q | q
    · exact Or.inl ⟨h, hh, g4, fun _ => ap, a5, q.1, by rw [e4', e3']; exact nI_le q.2 (by omega)⟩
    · exact Or.inr (Or.inl ⟨h, hh, g4, fun _ => ap, a5, q.1, by rw [e4', e3']; exact nI_ge q.2.1 (by omega), q.2.2⟩)
theorem told_5 {T E : Rw} {nf t : Nat} {b : Int32} {v : Int32} (h : T t 5 = v) (hv : v = 0 ∨ v = 1) : s_toldX T E nf b t 5 = v := by
  have e : s_toldX T E nf b t 5 = if T t 5 = 0 then 0 else 1 := rfl
  rw [e, h]
  rcases hv with hv | hv
  · rw [hv, if_pos rfl]
  · rw [hv]; decide
/-! flyers -/
def FV (E' E : Rw) (b' b : Int32) (k : Nat) (A0 A1 A2 A3 W0 W1 W2 W3 : Int32) : Prop :=
  (s_toldFX E' b' k 0 = A0 ∧ s_toldFX E' b' k 1 = A1 ∧ s_toldFX E' b' k 2 = A2 ∧ s_toldFX E' b' k 3 = A3) ∧ (s_toldFX E b k 0 = W0 ∧ s_toldFX E b k 1 = W1 ∧ s_toldFX E b k 2 = W2 ∧ s_toldFX E b k 3 = W3) ∧ E k 4 ≤ E' k 4
theorem fx_no {E : Rw} {b : Int32} {k : Nat} (h : ¬ E k 0 = 2) : s_toldFX E b k 2 = 0 ∧ s_toldFX E b k 3 = -1 := ⟨if_neg h, if_neg h⟩
theorem fx_fly {E : Rw} {b : Int32} {k : Nat} (h : E k 0 = 2) : s_toldFX E b k 2 = E k 2 ∧ s_toldFX E b k 3 = E k 3 - b := ⟨if_pos h, if_pos h⟩
theorem fk_cases (hv : vI bn nt nf nc T E Cu) (hB : bB bn nt nf nc T E Cu T' E' C' κ') (hbn : bn < 50) {k : Nat} (hk : k < nf) :
    (∃ v : Int32, (v = 0 ∨ v = 3 ∨ v = 4) ∧ E' k 0 = v ∧ FV E' E (nI (bn + 1)) (nI bn) k v (-1) 0 (-1) v (-1) 0 (-1)) ∨
    (∃ t, t < nt ∧ E' k 0 = 1 ∧ E' k 1 = nI t ∧ FV E' E (nI (bn + 1)) (nI bn) k 1 (nI t) 0 (-1) 1 (nI t) 0 (-1)) ∨
    (∃ (d : Nat) (p : Int32), d ≤ 6 ∧ E' k 0 = 2 ∧ FV E' E (nI (bn + 1)) (nI bn) k 2 (-1) p (nI d) 2 (-1) p (nI (d + 1))) ∨
    (∃ (i t d : Nat) (p : Int32), i < nc ∧ t < nt ∧ d ≤ 6 ∧ E' k 0 = 2 ∧ (s_toldC Cu i 4 = 0 ∧ s_toldC C' i 4 = 1 ∧ s_toldC C' i 0 = nI bn ∧ s_toldC C' i 1 = nI k ∧ s_toldC C' i 3 = nI (d + 1) ∧ p = s_at T t (nI bn) + s_toldC C' i 2) ∧ FV E' E (nI (bn + 1)) (nI bn) k 2 (-1) p (nI d) 1 (nI t) 0 (-1)) ∨
    (∃ (t : Nat) (v : Int32), t < nt ∧ (v = 3 ∨ v = 4) ∧ E' k 0 = v ∧ T' t 5 = 0 ∧ FV E' E (nI (bn + 1)) (nI bn) k v (-1) 0 (-1) 1 (nI t) 0 (-1)) ∨
    (∃ (t : Nat) (p : Int32), t < nt ∧ E' k 0 = 1 ∧ E' k 1 = nI t ∧ FV E' E (nI (bn + 1)) (nI bn) k 1 (nI t) 0 (-1) 2 (-1) p 0) ∨
    (∃ (v p : Int32), (v = 3 ∨ v = 4) ∧ E' k 0 = v ∧ FV E' E (nI (bn + 1)) (nI bn) k v (-1) 0 (-1) 2 (-1) p 0) := by
  obtain ⟨b0, b1, b2, b3, ⟨c, hc, b4⟩⟩ := hv.2.1 k hk
  rcases hB.2.1 k hk with ⟨h1, h2⟩ | ⟨h0, i, t, hi, ht, a0, a1, a4, c4, et, q0, q1, q2, q3, q4⟩ | ⟨h0, t, ht, et, h5, q0, q1, q4⟩ | ⟨⟨h0, h3⟩, hr, q4⟩
  · have g0 : E' k 0 = E k 0 := by rw [h1]
    have g1 : E' k 1 = E k 1 := by rw [h1]
    have g2 : E' k 2 = E k 2 := by rw [h1]
    have g3 : E' k 3 = E k 3 := by rw [h1]
    have g4 : E k 4 ≤ E' k 4 := by rw [h1]; exact Int32.le_refl _
    by_cases e1 : E k 0 = 1
    · obtain ⟨t, ht, et⟩ := b1 e1
      have n2 : ¬ E k 0 = 2 := by rw [e1]; decide
      have n2' : ¬ E' k 0 = 2 := by rw [g0]; exact n2
      exact Or.inr (Or.inl ⟨t, ht, g0.trans e1, g1.trans et, ⟨⟨g0.trans e1, g1.trans et, (fx_no n2').1, (fx_no n2').2⟩, ⟨e1, et, (fx_no n2).1, (fx_no n2).2⟩, g4⟩⟩)
    · have m1 : E k 1 = -1 := b2 e1
      by_cases e2 : E k 0 = 2
      · obtain ⟨⟨d, hd, ed⟩, -⟩ := b3 e2
        obtain ⟨d', rfl⟩ : ∃ d', d = d' + 1 := by
          rcases d with _ | d'
          · exact absurd ⟨e2, ed⟩ h2
          · exact ⟨d', rfl⟩
        have w3 : E k 3 - nI bn = nI (d' + 1) := by rw [ed, ← nI_add]; grind
        have a3 : E' k 3 - nI (bn + 1) = nI d' := by
          rw [g3, ed, show bn + (d' + 1) = (bn + 1) + d' by omega, ← nI_add]; grind
        have g02 := g0.trans e2
        exact Or.inr (Or.inr (Or.inl ⟨d', E k 2, by omega, g02, ⟨⟨g02, g1.trans m1, (fx_fly g02).1.trans g2, (fx_fly g02).2.trans a3⟩, ⟨e2, m1, (fx_fly e2).1, (fx_fly e2).2.trans w3⟩, g4⟩⟩))
      · have n2' : ¬ E' k 0 = 2 := by rw [g0]; exact e2
        refine Or.inl ⟨E k 0, ?_, g0, ⟨⟨g0, g1.trans m1, (fx_no n2').1, (fx_no n2').2⟩, ⟨rfl, m1, (fx_no e2).1, (fx_no e2).2⟩, g4⟩⟩
        rcases b0 with h | h | h | h | h
        · exact Or.inl h
        · exact absurd h e1
        · exact absurd h e2
        · exact Or.inr (Or.inl h)
        · exact Or.inr (Or.inr h)
  · obtain ⟨-, -, ⟨d, hd1, hd2, ed⟩, -⟩ := hv.2.2 i hi
    obtain ⟨hz, -⟩ := hB.2.2.2.1 i hi
    obtain ⟨d', rfl⟩ : ∃ d', d = d' + 1 := ⟨d - 1, by omega⟩
    have n2 : ¬ E k 0 = 2 := by rw [h0]; decide
    have a3 : E' k 3 - nI (bn + 1) = nI d' := by
      rw [q3, ed, nI_add, show bn + (d' + 1) = (bn + 1) + d' by omega, ← nI_add]; grind
    have g4 : E k 4 ≤ E' k 4 := by rw [q4]; exact Int32.le_refl _
    refine Or.inr (Or.inr (Or.inr (Or.inl ⟨i, t, d', E' k 2, hi, ht, by omega, q0, ⟨a4, c4, (hz 0 (by decide)).trans a0, (hz 1 (by decide)).trans a1, (hz 3 (by decide)).trans ed, ?_⟩, ⟨⟨q0, q1, (fx_fly q0).1, (fx_fly q0).2.trans a3⟩, ⟨h0, et, (fx_no n2).1, (fx_no n2).2⟩, g4⟩⟩)))
    show E' k 2 = s_at T t (nI bn) + C' i 2
    rw [q2, hz 2 (by decide)]
  · have n2 : ¬ E k 0 = 2 := by rw [h0]; decide
    have n2' : ¬ E' k 0 = 2 := by rcases q0 with q | q <;> rw [q] <;> decide
    have g4 : E k 4 ≤ E' k 4 := by rw [q4]; exact Int32.le_refl _
    exact Or.inr (Or.inr (Or.inr (Or.inr (Or.inl ⟨t, E' k 0, ht, q0, rfl, h5, ⟨⟨rfl, q1, (fx_no n2').1, (fx_no n2').2⟩, ⟨h0, et, (fx_no n2).1, (fx_no n2).2⟩, g4⟩⟩))))
  · have m1 : E k 1 = -1 := b2 (by rw [h0]; decide)
    have w3 : E k 3 - nI bn = 0 := by rw [h3, Int32.sub_self]
    have g4 : E k 4 ≤ E' k 4 := by
      rcases q4 with q | q
      · rw [q]; exact Int32.le_refl _
      · rw [q, b4, nI_1]; exact nI_le (by omega) (by omega)
    rcases hr with ⟨t, ht, q0, q1⟩ | ⟨q0, q1⟩
    · have n2' : ¬ E' k 0 = 2 := by rw [q0]; decide
      exact Or.inr (Or.inr (Or.inr (Or.inr (Or.inr (Or.inl ⟨t, E k 2, ht, q0, q1, ⟨⟨q0, q1, (fx_no n2').1, (fx_no n2').2⟩, ⟨h0, m1, (fx_fly h0).1, (fx_fly h0).2.trans w3⟩, g4⟩⟩)))))
    · have n2' : ¬ E' k 0 = 2 := by rcases q0 with q | q <;> rw [q] <;> decide
      exact Or.inr (Or.inr (Or.inr (Or.inr (Or.inr (Or.inr ⟨E' k 0, E k 2, q0, rfl, ⟨⟨rfl, q1, (fx_no n2').1, (fx_no n2').2⟩, ⟨h0, m1, (fx_fly h0).1, (fx_fly h0).2.trans w3⟩, g4⟩⟩)))))
end CK
