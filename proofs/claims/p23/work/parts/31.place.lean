/-! where a trapeze can be -/
theorem pl_val {mid wid wt d : Int32} {m w u n : Nat} (hm : mid = nI m) (hw : wid = nI w) (hu : wt = nI u) (hd : d = nI n) (h1 : m ≤ 99) (h2 : w ≤ 20) (h3 : u ≤ 10) (h4 : n ≤ 1000) : ∃ q : Nat, q ≤ 2 * w ∧ (s_pl mid wid wt d).toInt = (m : Int) - w + q ∧ (s_p wt d = 0 → q = 0) := by
  have e2 : (2 : Int32) = nI 2 := rfl
  have eh : 2 + wt = nI (2 + u) := by rw [hu, e2, nI_add]
  have ep : s_p wt d = nI (n % (2 * (2 + u))) := y_p hu h3 hd h4
  have hp2 : n % (2 * (2 + u)) < 2 * (2 + u) := Nat.mod_lt _ (by omega)
  generalize n % (2 * (2 + u)) = p at ep hp2
  unfold s_pl
  rw [ep, eh, hm, hw, e2]
  by_cases h : p ≤ 2 + u
  · rw [if_pos (nI_le h (by omega))]
    have hmul : 2 * w * p ≤ 2000 := by
      have : 2 * w * p ≤ 40 * 12 := Nat.mul_le_mul (by omega) (by omega)
      omega
    have hq : 2 * w * p / (2 + u) ≤ 2 * w := by
      refine Nat.div_le_of_le_mul ?_
      rw [Nat.mul_comm (2 + u)]
      exact Nat.mul_le_mul_left _ h
    refine ⟨2 * w * p / (2 + u), hq, ?_, fun h0 => ?_⟩
    · rw [pk_mul, pk_mul, pk_div (by omega) (by omega) (by omega)]
      have e : nI m - nI w + nI (2 * w * p / (2 + u)) = nI (m + 2 * w * p / (2 + u)) - nI w := by rw [← nI_add]; grind
      rw [e, sub_toInt (by omega) (by omega)]
      omega
    · have : p = 0 := (nI_eq (by omega) (by decide)).mp h0
      subst this
      simp
  · rw [if_neg (nI_ge (by omega) (by omega))]
    have hmul : 2 * w * (p - (2 + u)) ≤ 2000 := by
      have : 2 * w * (p - (2 + u)) ≤ 40 * 12 := Nat.mul_le_mul (by omega) (by omega)
      omega
    have hq : 2 * w * (p - (2 + u)) / (2 + u) ≤ 2 * w := by
      refine Nat.div_le_of_le_mul ?_
      rw [Nat.mul_comm (2 + u)]
      exact Nat.mul_le_mul_left _ (by omega)
    refine ⟨2 * w - 2 * w * (p - (2 + u)) / (2 + u), Nat.sub_le _ _, ?_, fun h0 => ?_⟩
    · rw [pk_sub (by omega), pk_mul, pk_mul, pk_div (by omega) (by omega) (by omega), nI_add, sub_toInt (by omega) (by omega)]
      omega
    · have : p = 0 := (nI_eq (by omega) (by decide)).mp h0
      omega
theorem i_sub {a x : Int32} (h1 : -2000 ≤ a.toInt ∧ a.toInt ≤ 2000) (h2 : -2000 ≤ x.toInt ∧ x.toInt ≤ 2000) : (a - x).toInt = a.toInt - x.toInt := by
  rw [Int32.toInt_sub, Int.bmod_def]
  split <;> omega
theorem i_add {a x : Int32} (h1 : -2000 ≤ a.toInt ∧ a.toInt ≤ 2000) (h2 : -2000 ≤ x.toInt ∧ x.toInt ≤ 2000) : (a + x).toInt = a.toInt + x.toInt := by
  rw [Int32.toInt_add, Int.bmod_def]
  split <;> omega
theorem near_iff {a x : Int32} (h1 : -2000 ≤ a.toInt ∧ a.toInt ≤ 2000) (h2 : -2000 ≤ x.toInt ∧ x.toInt ≤ 2000) : s_near a x = true ↔ (a - x ≤ 2 ∧ -2 ≤ a - x) := by
  have e2 : (2 : Int32).toInt = 2 := by decide
  have em : (-2 : Int32).toInt = -2 := by decide
  simp only [s_near, Bool.and_eq_true, decide_eq_true_eq, Int32.le_iff_toInt_le, i_sub h1 h2, i_sub h2 h1, e2, em]
  omega
theorem bd_iff {v : Int32} : s_bd v ↔ (-1000 ≤ v.toInt ∧ v.toInt ≤ 1000) := by
  have e1 : (-1000 : Int32).toInt = -1000 := by decide
  have e2 : (1000 : Int32).toInt = 1000 := by decide
  unfold s_bd
  rw [Int32.le_iff_toInt_le, Int32.le_iff_toInt_le, e1, e2]
section PLC
variable {bn nf : Nat} {T E : Rw} {t : Nat}
/-- a trapeze's place, now and a beat later -/
theorem vT.at (h : vT bn nf T E t) (hb : bn ≤ 60) (k : Nat) (hk : k ≤ 1) : ∃ m w q : Nat, m ≤ 99 ∧ w ≤ 20 ∧ T t 0 = nI m ∧ T t 1 = nI w ∧ q ≤ 2 * w ∧ (s_at T t (nI bn + nI k)).toInt = (m : Int) - w + q ∧ (k = 0 → s_p (T t 2) (nI bn - T t 6) = 0 → q = 0) := by
  obtain ⟨⟨u, hu, e2⟩, ⟨d, hd, e6⟩, ⟨m, hm, e0⟩, ⟨w, hw, e1⟩, -⟩ := h
  have e7 : nI bn + nI k - T t 6 = nI (d + k) := by
    have e8 : nI bn + nI k - T t 6 = (nI bn - T t 6) + nI k := by grind
    rw [e8, e6, nI_add]
  obtain ⟨q, q1, q2, q3⟩ := pl_val e0 e1 e2 e7 hm hw hu (by omega)
  refine ⟨m, w, q, hm, hw, e0, e1, q1, q2, fun hk0 h9 => q3 ?_⟩
  subst hk0
  have e9 : nI bn + nI 0 - T t 6 = nI bn - T t 6 := by
    have : nI 0 = (0 : Int32) := rfl
    rw [this, Int32.add_zero]
  rw [e9]; exact h9
theorem vT.at0 (h : vT bn nf T E t) (hb : bn ≤ 60) : -2000 ≤ (s_at T t (nI bn)).toInt ∧ (s_at T t (nI bn)).toInt ≤ 2000 := by
  obtain ⟨m, w, q, h1, h2, -, -, h3, h4, -⟩ := h.at hb 0 (by omega)
  have : nI bn + nI 0 = nI bn := by
    have : nI 0 = (0 : Int32) := rfl
    rw [this, Int32.add_zero]
  rw [this] at h4
  omega
end PLC
