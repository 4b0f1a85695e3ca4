/-! what the class's public methods do to the ring -/
def s_add (T : Rw) (n : Nat) (r : Nat → Int32) : Rw := fun i => if i = n then r else T i
def adU (ad : Nat → Nat → Nat) (k n q : Nat) : Nat → Nat → Nat := fun a i => if a = k ∧ i = n then q else ad a i
def z0 : Nat → Int32 := fun _ => 0
def rowT (mid wid wt st b : Int32) : Nat → Int32 := fun k => match k with | 0 => mid | 1 => wid | 2 => wt | 3 => st | 4 => 0 | 5 => 1 | _ => b
def rowF : Nat → Int32 := fun k => match k with | 1 => -1 | _ => 0
def rowC (bt f r t : Int32) : Nat → Int32 := fun k => match k with | 0 => bt | 1 => f | 2 => r | 3 => t | _ => 0
def rowN (a c : Int32) : Nat → Int32 := fun k => match k with | 0 => a | _ => c
def okR (mid wid wt st : Int32) : Prop := (0 ≤ mid ∧ mid ≤ 99) ∧ (1 ≤ wid ∧ wid ≤ 20) ∧ (0 ≤ wt ∧ wt ≤ 10) ∧ (1 ≤ st ∧ st ≤ 99)
def okN (a c : Int32) : Prop := (-50 ≤ a ∧ a ≤ 150) ∧ (-50 ≤ c ∧ c ≤ 150) ∧ a ≤ c
def okC (bt r t : Int32) : Prop := (-20 ≤ r ∧ r ≤ 20) ∧ (1 ≤ t ∧ t ≤ 6) ∧ bt ≤ 9999
theorem cap_y {n k : Nat} (hk : 0 < k) (hk2 : k < 1000) (hn : n < 1000) (h : 0 ≤ nI n ∧ nI n ≤ nI k - 1) : n < k := by
  obtain ⟨j, hj, e⟩ := in_ix hk hk2 h
  have := (nI_eq (by omega) (by omega)).mp e
  omega
theorem cap_n {n k : Nat} (hk : 0 < k) (hk2 : k < 1000) (h : ¬ (0 ≤ nI n ∧ nI n ≤ nI k - 1)) : ¬ n < k := fun h9 => in_nix hk hk2 h n h9 rfl
section RXA
variable {cy : Nat → ClassId} {x : Nat} {ad : Nat → Nat → Nat} {b : Int32} {nt nf nc nn : Nat} {T E C N KT KF KC : Rw} {G : GG} {q : Nat} {e : va_E}
theorem g_fresh {a : Nat} {e0 : va_E} (hq : G q = none) (ha : G a = some e0) : a ≠ q := fun h => by rw [h, hq] at ha; cases ha
theorem RX.nw (h : RX cy x ad b nt nf nc nn T E C N KT KF KC G) (hq : G q = none) : RX cy x ad b nt nf nc nn T E C N KT KF KC (g_up G q e) := by
  obtain ⟨⟨h1, h2, h3, h4, h5⟩, ⟨k1, k2, k3, k4⟩, hi, hb⟩ := h
  exact ⟨⟨by rw [g_up_ne (g_fresh hq h1)]; exact h1, by rw [g_up_ne (g_fresh hq h2)]; exact h2, by rw [g_up_ne (g_fresh hq h3)]; exact h3, by rw [g_up_ne (g_fresh hq h4)]; exact h4, by rw [g_up_ne (g_fresh hq h5)]; exact h5⟩, ⟨fun i hi => by rw [g_up_ne (g_fresh hq (k1 i hi))]; exact k1 i hi, fun i hi => by rw [g_up_ne (g_fresh hq (k2 i hi))]; exact k2 i hi, fun i hi => by rw [g_up_ne (g_fresh hq (k3 i hi))]; exact k3 i hi, fun i hi => by rw [g_up_ne (g_fresh hq (k4 i hi))]; exact k4 i hi⟩, hi, hb⟩
theorem va_up_add {ad0 : Nat → Nat} {n q : Nat} (hn : n < 1000) : va_up (fun i => if i < n then some (ad0 i) else none) (nI n).toNatClampNeg (some q) = (fun i => if i < n + 1 then some (if i = n then q else ad0 i) else none) := by
  rw [nI_clamp (by omega)]
  funext i
  unfold va_up
  by_cases h : i = n
  · subst h; simp
  · rw [if_neg h, if_neg h]
    dsimp only
    by_cases h1 : i < n
    · rw [if_pos h1, if_pos (by omega)]
    · rw [if_neg h1, if_neg (by omega)]
theorem RX_addT {r kr : Nat → Int32} (h : RX cy x ad b nt nf nc nn T E C N KT KF KC G) (hq : G q = none) (hn : nt < 6) : RX cy x (adU ad 1 nt q) b (nt + 1) nf nc nn (s_add T nt r) E C N (s_add KT nt kr) KF KC (g_up (g_up (g_up G q (oT (s_add T nt r) (s_add KT nt kr) nt)) (ad 0 0) (.inl (cy 1, 6, .inr (.inr (.inr (.inr (va_up (fun i => if i < nt then some (ad 1 i) else none) (nI nt).toNatClampNeg (some q)))))))) x (.inr (4, [.ref (ad 0 0), .ref (ad 0 1), .ref (ad 0 2), .ref (ad 0 3), .int (nI nt + 1), .int (nI nf), .int (nI nc), .int (nI nn), .int b]))) := by
  have hw := RX.nw (e := oT (s_add T nt r) (s_add KT nt kr) nt) h hq
  obtain ⟨⟨h1, h2, h3, h4, h5⟩, ⟨k1, k2, k3, k4⟩, ⟨i1, i2, i3⟩, hb⟩ := hw
  have hqq : g_up G q (oT (s_add T nt r) (s_add KT nt kr) nt) q = some (oT (s_add T nt r) (s_add KT nt kr) nt) := g_up_self ..
  have e1 : (.inl (cy 1, 6, .inr (.inr (.inr (.inr (va_up (fun i => if i < nt then some (ad 1 i) else none) (nI nt).toNatClampNeg (some q)))))) : va_E) = oA (cy 1) 6 (adU ad 1 nt q 1) (nt + 1) := by
    rw [va_up_add (by omega)]
    simp only [oA]
    congr 2
    simp [adU]
  have e2 : (.inr (4, [.ref (ad 0 0), .ref (ad 0 1), .ref (ad 0 2), .ref (ad 0 3), .int (nI nt + 1), .int (nI nf), .int (nI nc), .int (nI nn), .int b]) : va_E) = oX (adU ad 1 nt q) b (nt + 1) nf nc nn := by
    simp [oX, adU, nI_1]
  rw [e1, e2]
  have ax : ad 0 0 ≠ x := fun h9 => by rw [h9, h1] at h2; cases h2
  have old : ∀ (a : Nat) (e0 : va_E), g_up G q (oT (s_add T nt r) (s_add KT nt kr) nt) a = some e0 → a ≠ ad 0 0 → a ≠ x → ∀ {ar ob : va_E}, g_up (g_up (g_up G q (oT (s_add T nt r) (s_add KT nt kr) nt)) (ad 0 0) ar) x ob a = some e0 := fun a e0 ha n1 n2 => by intro ar ob; rw [g_up_ne n2, g_up_ne n1]; exact ha
  have ne : ∀ (a : Nat) (e0 e9 : va_E) (a9 : Nat), g_up G q (oT (s_add T nt r) (s_add KT nt kr) nt) a = some e0 → g_up G q (oT (s_add T nt r) (s_add KT nt kr) nt) a9 = some e9 → e0 ≠ e9 → a ≠ a9 := fun a e0 e9 a9 ha h9 hne h8 => hne (Option.some.inj (by rw [← ha, ← h9, h8]))
  have h0 := h.2.1.1
  exact ⟨⟨g_up_self .., by rw [show adU ad 1 nt q 0 0 = ad 0 0 by simp [adU], g_up_ne ax, g_up_self], by rw [show adU ad 1 nt q 0 1 = ad 0 1 by simp [adU], show oA (cy 2) 8 (adU ad 1 nt q 2) nf = oA (cy 2) 8 (ad 2) nf by simp [oA, adU]]; exact old _ _ h3 (ne _ _ _ _ h3 h2 (by simp [oA])) (ne _ _ _ _ h3 h1 (by simp [oA, oX])), by rw [show adU ad 1 nt q 0 2 = ad 0 2 by simp [adU], show oA (cy 3) 20 (adU ad 1 nt q 3) nc = oA (cy 3) 20 (ad 3) nc by simp [oA, adU]]; exact old _ _ h4 (ne _ _ _ _ h4 h2 (by simp [oA])) (ne _ _ _ _ h4 h1 (by simp [oA, oX])), by rw [show adU ad 1 nt q 0 3 = ad 0 3 by simp [adU], show oA (cy 4) 3 (adU ad 1 nt q 4) nn = oA (cy 4) 3 (ad 4) nn by simp [oA, adU]]; exact old _ _ h5 (ne _ _ _ _ h5 h2 (by simp [oA])) (ne _ _ _ _ h5 h1 (by simp [oA, oX]))⟩, ⟨fun i hi => by
    by_cases hin : i = nt
    · subst hin
      rw [show adU ad 1 i q 1 i = q by simp [adU]]
      exact old _ _ hqq (ne _ _ _ _ hqq h2 (by simp [oA, oT])) (ne _ _ _ _ hqq h1 (by simp [oX, oT]))
    · have hi2 : i < nt := by omega
      rw [show adU ad 1 nt q 1 i = ad 1 i by simp [adU, hin]]
      have e4 : oT (s_add T nt r) (s_add KT nt kr) i = oT T KT i := by simp [oT, s_add, hin]
      rw [e4]
      exact old _ _ (k1 i hi2) (ne _ _ _ _ (k1 i hi2) h2 (by simp [oA, oT])) (ne _ _ _ _ (k1 i hi2) h1 (by simp [oX, oT])),
  fun i hi => by rw [show adU ad 1 nt q 2 i = ad 2 i by simp [adU]]; exact old _ _ (k2 i hi) (ne _ _ _ _ (k2 i hi) h2 (by simp [oA, oF])) (ne _ _ _ _ (k2 i hi) h1 (by simp [oX, oF])),
  fun i hi => by rw [show adU ad 1 nt q 3 i = ad 3 i by simp [adU]]; exact old _ _ (k3 i hi) (ne _ _ _ _ (k3 i hi) h2 (by simp [oA, oC])) (ne _ _ _ _ (k3 i hi) h1 (by simp [oX, oC])),
  fun i hi => by rw [show adU ad 1 nt q 4 i = ad 4 i by simp [adU]]; exact old _ _ (k4 i hi) (ne _ _ _ _ (k4 i hi) h2 (by simp [oA, oN])) (ne _ _ _ _ (k4 i hi) h1 (by simp [oX, oN]))⟩, ⟨fun i j hi hj hij => by
    by_cases hin : i = nt
    · by_cases hjn : j = nt
      · omega
      · rw [show adU ad 1 nt q 1 i = q by simp [adU, hin], show adU ad 1 nt q 1 j = ad 1 j by simp [adU, hjn]] at hij
        exact absurd hij.symm (g_fresh hq (h0 j (by omega)))
    · by_cases hjn : j = nt
      · rw [show adU ad 1 nt q 1 j = q by simp [adU, hjn], show adU ad 1 nt q 1 i = ad 1 i by simp [adU, hin]] at hij
        exact absurd hij (g_fresh hq (h0 i (by omega)))
      · rw [show adU ad 1 nt q 1 i = ad 1 i by simp [adU, hin], show adU ad 1 nt q 1 j = ad 1 j by simp [adU, hjn]] at hij
        exact i1 i j (by omega) (by omega) hij,
  fun i j hi hj hij => by rw [show adU ad 1 nt q 2 i = ad 2 i by simp [adU], show adU ad 1 nt q 2 j = ad 2 j by simp [adU]] at hij; exact i2 i j hi hj hij,
  fun i j hi hj hij => by rw [show adU ad 1 nt q 3 i = ad 3 i by simp [adU], show adU ad 1 nt q 3 j = ad 3 j by simp [adU]] at hij; exact i3 i j hi hj hij⟩, by omega⟩
theorem RX_addF {r kr : Nat → Int32} (h : RX cy x ad b nt nf nc nn T E C N KT KF KC G) (hq : G q = none) (hn : nf < 8) : RX cy x (adU ad 2 nf q) b nt (nf + 1) nc nn T (s_add E nf r) C N KT (s_add KF nf kr) KC (g_up (g_up (g_up G q (oF (s_add E nf r) (s_add KF nf kr) nf)) (ad 0 1) (.inl (cy 2, 8, .inr (.inr (.inr (.inr (va_up (fun i => if i < nf then some (ad 2 i) else none) (nI nf).toNatClampNeg (some q)))))))) x (.inr (4, [.ref (ad 0 0), .ref (ad 0 1), .ref (ad 0 2), .ref (ad 0 3), .int (nI nt), .int (nI nf + 1), .int (nI nc), .int (nI nn), .int b]))) := by
  have hw := RX.nw (e := oF (s_add E nf r) (s_add KF nf kr) nf) h hq
  obtain ⟨⟨h1, h2, h3, h4, h5⟩, ⟨k1, k2, k3, k4⟩, ⟨i1, i2, i3⟩, hb⟩ := hw
  have hqq : g_up G q (oF (s_add E nf r) (s_add KF nf kr) nf) q = some (oF (s_add E nf r) (s_add KF nf kr) nf) := g_up_self ..
  have e1 : (.inl (cy 2, 8, .inr (.inr (.inr (.inr (va_up (fun i => if i < nf then some (ad 2 i) else none) (nI nf).toNatClampNeg (some q)))))) : va_E) = oA (cy 2) 8 (adU ad 2 nf q 2) (nf + 1) := by
    rw [va_up_add (by omega)]
    simp only [oA]
    congr 2
    simp [adU]
  have e2 : (.inr (4, [.ref (ad 0 0), .ref (ad 0 1), .ref (ad 0 2), .ref (ad 0 3), .int (nI nt), .int (nI nf + 1), .int (nI nc), .int (nI nn), .int b]) : va_E) = oX (adU ad 2 nf q) b nt (nf + 1) nc nn := by
    simp [oX, adU, nI_1]
  rw [e1, e2]
  have ax : ad 0 1 ≠ x := fun h9 => by rw [h9, h1] at h3; cases h3
  have old : ∀ (a : Nat) (e0 : va_E), g_up G q (oF (s_add E nf r) (s_add KF nf kr) nf) a = some e0 → a ≠ ad 0 1 → a ≠ x → ∀ {ar ob : va_E}, g_up (g_up (g_up G q (oF (s_add E nf r) (s_add KF nf kr) nf)) (ad 0 1) ar) x ob a = some e0 := fun a e0 ha n1 n2 => by intro ar ob; rw [g_up_ne n2, g_up_ne n1]; exact ha
  have ne : ∀ (a : Nat) (e0 e9 : va_E) (a9 : Nat), g_up G q (oF (s_add E nf r) (s_add KF nf kr) nf) a = some e0 → g_up G q (oF (s_add E nf r) (s_add KF nf kr) nf) a9 = some e9 → e0 ≠ e9 → a ≠ a9 := fun a e0 e9 a9 ha h9 hne h8 => hne (Option.some.inj (by rw [← ha, ← h9, h8]))
  have h0 := h.2.1.2.1
  exact ⟨⟨g_up_self .., by rw [show adU ad 2 nf q 0 0 = ad 0 0 by simp [adU], show oA (cy 1) 6 (adU ad 2 nf q 1) nt = oA (cy 1) 6 (ad 1) nt by simp [oA, adU]]; exact old _ _ h2 (ne _ _ _ _ h2 h3 (by simp [oA])) (ne _ _ _ _ h2 h1 (by simp [oA, oX])), by rw [show adU ad 2 nf q 0 1 = ad 0 1 by simp [adU], g_up_ne ax, g_up_self], by rw [show adU ad 2 nf q 0 2 = ad 0 2 by simp [adU], show oA (cy 3) 20 (adU ad 2 nf q 3) nc = oA (cy 3) 20 (ad 3) nc by simp [oA, adU]]; exact old _ _ h4 (ne _ _ _ _ h4 h3 (by simp [oA])) (ne _ _ _ _ h4 h1 (by simp [oA, oX])), by rw [show adU ad 2 nf q 0 3 = ad 0 3 by simp [adU], show oA (cy 4) 3 (adU ad 2 nf q 4) nn = oA (cy 4) 3 (ad 4) nn by simp [oA, adU]]; exact old _ _ h5 (ne _ _ _ _ h5 h3 (by simp [oA])) (ne _ _ _ _ h5 h1 (by simp [oA, oX]))⟩, ⟨fun i hi => by rw [show adU ad 2 nf q 1 i = ad 1 i by simp [adU]]; exact old _ _ (k1 i hi) (ne _ _ _ _ (k1 i hi) h3 (by simp [oA, oT])) (ne _ _ _ _ (k1 i hi) h1 (by simp [oX, oT])),
  fun i hi => by
    by_cases hin : i = nf
    · subst hin
      rw [show adU ad 2 i q 2 i = q by simp [adU]]
      exact old _ _ hqq (ne _ _ _ _ hqq h3 (by simp [oA, oF])) (ne _ _ _ _ hqq h1 (by simp [oX, oF]))
    · have hi2 : i < nf := by omega
      rw [show adU ad 2 nf q 2 i = ad 2 i by simp [adU, hin]]
      have e4 : oF (s_add E nf r) (s_add KF nf kr) i = oF E KF i := by simp [oF, s_add, hin]
      rw [e4]
      exact old _ _ (k2 i hi2) (ne _ _ _ _ (k2 i hi2) h3 (by simp [oA, oF])) (ne _ _ _ _ (k2 i hi2) h1 (by simp [oX, oF])),
  fun i hi => by rw [show adU ad 2 nf q 3 i = ad 3 i by simp [adU]]; exact old _ _ (k3 i hi) (ne _ _ _ _ (k3 i hi) h3 (by simp [oA, oC])) (ne _ _ _ _ (k3 i hi) h1 (by simp [oX, oC])),
  fun i hi => by rw [show adU ad 2 nf q 4 i = ad 4 i by simp [adU]]; exact old _ _ (k4 i hi) (ne _ _ _ _ (k4 i hi) h3 (by simp [oA, oN])) (ne _ _ _ _ (k4 i hi) h1 (by simp [oX, oN]))⟩, ⟨fun i j hi hj hij => by rw [show adU ad 2 nf q 1 i = ad 1 i by simp [adU], show adU ad 2 nf q 1 j = ad 1 j by simp [adU]] at hij; exact i1 i j hi hj hij,
  fun i j hi hj hij => by
    by_cases hin : i = nf
    · by_cases hjn : j = nf
      · omega
      · rw [show adU ad 2 nf q 2 i = q by simp [adU, hin], show adU ad 2 nf q 2 j = ad 2 j by simp [adU, hjn]] at hij
        exact absurd hij.symm (g_fresh hq (h0 j (by omega)))
    · by_cases hjn : j = nf
      · rw [show adU ad 2 nf q 2 j = q by simp [adU, hjn], show adU ad 2 nf q 2 i = ad 2 i by simp [adU, hin]] at hij
        exact absurd hij (g_fresh hq (h0 i (by omega)))
      · rw [show adU ad 2 nf q 2 i = ad 2 i by simp [adU, hin], show adU ad 2 nf q 2 j = ad 2 j by simp [adU, hjn]] at hij
        exact i2 i j (by omega) (by omega) hij,
  fun i j hi hj hij => by rw [show adU ad 2 nf q 3 i = ad 3 i by simp [adU], show adU ad 2 nf q 3 j = ad 3 j by simp [adU]] at hij; exact i3 i j hi hj hij⟩, by omega⟩
theorem RX_addC {r kr : Nat → Int32} (h : RX cy x ad b nt nf nc nn T E C N KT KF KC G) (hq : G q = none) (hn : nc < 20) : RX cy x (adU ad 3 nc q) b nt nf (nc + 1) nn T E (s_add C nc r) N KT KF (s_add KC nc kr) (g_up (g_up (g_up G q (oC (s_add C nc r) (s_add KC nc kr) nc)) (ad 0 2) (.inl (cy 3, 20, .inr (.inr (.inr (.inr (va_up (fun i => if i < nc then some (ad 3 i) else none) (nI nc).toNatClampNeg (some q)))))))) x (.inr (4, [.ref (ad 0 0), .ref (ad 0 1), .ref (ad 0 2), .ref (ad 0 3), .int (nI nt), .int (nI nf), .int (nI nc + 1), .int (nI nn), .int b]))) := by
  have hw := RX.nw (e := oC (s_add C nc r) (s_add KC nc kr) nc) h hq
  obtain ⟨⟨h1, h2, h3, h4, h5⟩, ⟨k1, k2, k3, k4⟩, ⟨i1, i2, i3⟩, hb⟩ := hw
  have hqq : g_up G q (oC (s_add C nc r) (s_add KC nc kr) nc) q = some (oC (s_add C nc r) (s_add KC nc kr) nc) := g_up_self ..
  have e1 : (.inl (cy 3, 20, .inr (.inr (.inr (.inr (va_up (fun i => if i < nc then some (ad 3 i) else none) (nI nc).toNatClampNeg (some q)))))) : va_E) = oA (cy 3) 20 (adU ad 3 nc q 3) (nc + 1) := by
    rw [va_up_add (by omega)]
    simp only [oA]
    congr 2
    simp [adU]
  have e2 : (.inr (4, [.ref (ad 0 0), .ref (ad 0 1), .ref (ad 0 2), .ref (ad 0 3), .int (nI nt), .int (nI nf), .int (nI nc + 1), .int (nI nn), .int b]) : va_E) = oX (adU ad 3 nc q) b nt nf (nc + 1) nn := by
    simp [oX, adU, nI_1]
  rw [e1, e2]
  have ax : ad 0 2 ≠ x := fun h9 => by rw [h9, h1] at h4; cases h4
  have old : ∀ (a : Nat) (e0 : va_E), g_up G q (oC (s_add C nc r) (s_add KC nc kr) nc) a = some e0 → a ≠ ad 0 2 → a ≠ x → ∀ {ar ob : va_E}, g_up (g_up (g_up G q (oC (s_add C nc r) (s_add KC nc kr) nc)) (ad 0 2) ar) x ob a = some e0 := fun a e0 ha n1 n2 => by intro ar ob; rw [g_up_ne n2, g_up_ne n1]; exact ha
  have ne : ∀ (a : Nat) (e0 e9 : va_E) (a9 : Nat), g_up G q (oC (s_add C nc r) (s_add KC nc kr) nc) a = some e0 → g_up G q (oC (s_add C nc r) (s_add KC nc kr) nc) a9 = some e9 → e0 ≠ e9 → a ≠ a9 := fun a e0 e9 a9 ha h9 hne h8 => hne (Option.some.inj (by rw [← ha, ← h9, h8]))
  have h0 := h.2.1.2.2.1
  exact ⟨⟨g_up_self .., by rw [show adU ad 3 nc q 0 0 = ad 0 0 by simp [adU], show oA (cy 1) 6 (adU ad 3 nc q 1) nt = oA (cy 1) 6 (ad 1) nt by simp [oA, adU]]; exact old _ _ h2 (ne _ _ _ _ h2 h4 (by simp [oA])) (ne _ _ _ _ h2 h1 (by simp [oA, oX])), by rw [show adU ad 3 nc q 0 1 = ad 0 1 by simp [adU], show oA (cy 2) 8 (adU ad 3 nc q 2) nf = oA (cy 2) 8 (ad 2) nf by simp [oA, adU]]; exact old _ _ h3 (ne _ _ _ _ h3 h4 (by simp [oA])) (ne _ _ _ _ h3 h1 (by simp [oA, oX])), by rw [show adU ad 3 nc q 0 2 = ad 0 2 by simp [adU], g_up_ne ax, g_up_self], by rw [show adU ad 3 nc q 0 3 = ad 0 3 by simp [adU], show oA (cy 4) 3 (adU ad 3 nc q 4) nn = oA (cy 4) 3 (ad 4) nn by simp [oA, adU]]; exact old _ _ h5 (ne _ _ _ _ h5 h4 (by simp [oA])) (ne _ _ _ _ h5 h1 (by simp [oA, oX]))⟩, ⟨fun i hi => by rw [show adU ad 3 nc q 1 i = ad 1 i by simp [adU]]; exact old _ _ (k1 i hi) (ne _ _ _ _ (k1 i hi) h4 (by simp [oA, oT])) (ne _ _ _ _ (k1 i hi) h1 (by simp [oX, oT])),
  fun i hi => by rw [show adU ad 3 nc q 2 i = ad 2 i by simp [adU]]; exact old _ _ (k2 i hi) (ne _ _ _ _ (k2 i hi) h4 (by simp [oA, oF])) (ne _ _ _ _ (k2 i hi) h1 (by simp [oX, oF])),
  fun i hi => by
    by_cases hin : i = nc
    · subst hin
      rw [show adU ad 3 i q 3 i = q by simp [adU]]
      exact old _ _ hqq (ne _ _ _ _ hqq h4 (by simp [oA, oC])) (ne _ _ _ _ hqq h1 (by simp [oX, oC]))
    · have hi2 : i < nc := by omega
      rw [show adU ad 3 nc q 3 i = ad 3 i by simp [adU, hin]]
      have e4 : oC (s_add C nc r) (s_add KC nc kr) i = oC C KC i := by simp [oC, s_add, hin]
      rw [e4]
      exact old _ _ (k3 i hi2) (ne _ _ _ _ (k3 i hi2) h4 (by simp [oA, oC])) (ne _ _ _ _ (k3 i hi2) h1 (by simp [oX, oC])),
  fun i hi => by rw [show adU ad 3 nc q 4 i = ad 4 i by simp [adU]]; exact old _ _ (k4 i hi) (ne _ _ _ _ (k4 i hi) h4 (by simp [oA, oN])) (ne _ _ _ _ (k4 i hi) h1 (by simp [oX, oN]))⟩, ⟨fun i j hi hj hij => by rw [show adU ad 3 nc q 1 i = ad 1 i by simp [adU], show adU ad 3 nc q 1 j = ad 1 j by simp [adU]] at hij; exact i1 i j hi hj hij,
  fun i j hi hj hij => by rw [show adU ad 3 nc q 2 i = ad 2 i by simp [adU], show adU ad 3 nc q 2 j = ad 2 j by simp [adU]] at hij; exact i2 i j hi hj hij,
  fun i j hi hj hij => by
    by_cases hin : i = nc
    · by_cases hjn : j = nc
      · omega
      · rw [show adU ad 3 nc q 3 i = q by simp [adU, hin], show adU ad 3 nc q 3 j = ad 3 j by simp [adU, hjn]] at hij
        exact absurd hij.symm (g_fresh hq (h0 j (by omega)))
    · by_cases hjn : j = nc
      · rw [show adU ad 3 nc q 3 j = q by simp [adU, hjn], show adU ad 3 nc q 3 i = ad 3 i by simp [adU, hin]] at hij
        exact absurd hij (g_fresh hq (h0 i (by omega)))
      · rw [show adU ad 3 nc q 3 i = ad 3 i by simp [adU, hin], show adU ad 3 nc q 3 j = ad 3 j by simp [adU, hjn]] at hij
        exact i3 i j (by omega) (by omega) hij⟩, by omega⟩
theorem RX_addN {r : Nat → Int32} (h : RX cy x ad b nt nf nc nn T E C N KT KF KC G) (hq : G q = none) (hn : nn < 3) : RX cy x (adU ad 4 nn q) b nt nf nc (nn + 1) T E C (s_add N nn r) KT KF KC (g_up (g_up (g_up G q (oN (s_add N nn r)  nn)) (ad 0 3) (.inl (cy 4, 3, .inr (.inr (.inr (.inr (va_up (fun i => if i < nn then some (ad 4 i) else none) (nI nn).toNatClampNeg (some q)))))))) x (.inr (4, [.ref (ad 0 0), .ref (ad 0 1), .ref (ad 0 2), .ref (ad 0 3), .int (nI nt), .int (nI nf), .int (nI nc), .int (nI nn + 1), .int b]))) := by
  have hw := RX.nw (e := oN (s_add N nn r)  nn) h hq
  obtain ⟨⟨h1, h2, h3, h4, h5⟩, ⟨k1, k2, k3, k4⟩, ⟨i1, i2, i3⟩, hb⟩ := hw
  have hqq : g_up G q (oN (s_add N nn r)  nn) q = some (oN (s_add N nn r)  nn) := g_up_self ..
  have e1 : (.inl (cy 4, 3, .inr (.inr (.inr (.inr (va_up (fun i => if i < nn then some (ad 4 i) else none) (nI nn).toNatClampNeg (some q)))))) : va_E) = oA (cy 4) 3 (adU ad 4 nn q 4) (nn + 1) := by
    rw [va_up_add (by omega)]
    simp only [oA]
    congr 2
    simp [adU]
  have e2 : (.inr (4, [.ref (ad 0 0), .ref (ad 0 1), .ref (ad 0 2), .ref (ad 0 3), .int (nI nt), .int (nI nf), .int (nI nc), .int (nI nn + 1), .int b]) : va_E) = oX (adU ad 4 nn q) b nt nf nc (nn + 1) := by
    simp [oX, adU, nI_1]
  rw [e1, e2]
  have ax : ad 0 3 ≠ x := fun h9 => by rw [h9, h1] at h5; cases h5
  have old : ∀ (a : Nat) (e0 : va_E), g_up G q (oN (s_add N nn r)  nn) a = some e0 → a ≠ ad 0 3 → a ≠ x → ∀ {ar ob : va_E}, g_up (g_up (g_up G q (oN (s_add N nn r)  nn)) (ad 0 3) ar) x ob a = some e0 := fun a e0 ha n1 n2 => by intro ar ob; rw [g_up_ne n2, g_up_ne n1]; exact ha
  have ne : ∀ (a : Nat) (e0 e9 : va_E) (a9 : Nat), g_up G q (oN (s_add N nn r)  nn) a = some e0 → g_up G q (oN (s_add N nn r)  nn) a9 = some e9 → e0 ≠ e9 → a ≠ a9 := fun a e0 e9 a9 ha h9 hne h8 => hne (Option.some.inj (by rw [← ha, ← h9, h8]))
  exact ⟨⟨g_up_self .., by rw [show adU ad 4 nn q 0 0 = ad 0 0 by simp [adU], show oA (cy 1) 6 (adU ad 4 nn q 1) nt = oA (cy 1) 6 (ad 1) nt by simp [oA, adU]]; exact old _ _ h2 (ne _ _ _ _ h2 h5 (by simp [oA])) (ne _ _ _ _ h2 h1 (by simp [oA, oX])), by rw [show adU ad 4 nn q 0 1 = ad 0 1 by simp [adU], show oA (cy 2) 8 (adU ad 4 nn q 2) nf = oA (cy 2) 8 (ad 2) nf by simp [oA, adU]]; exact old _ _ h3 (ne _ _ _ _ h3 h5 (by simp [oA])) (ne _ _ _ _ h3 h1 (by simp [oA, oX])), by rw [show adU ad 4 nn q 0 2 = ad 0 2 by simp [adU], show oA (cy 3) 20 (adU ad 4 nn q 3) nc = oA (cy 3) 20 (ad 3) nc by simp [oA, adU]]; exact old _ _ h4 (ne _ _ _ _ h4 h5 (by simp [oA])) (ne _ _ _ _ h4 h1 (by simp [oA, oX])), by rw [show adU ad 4 nn q 0 3 = ad 0 3 by simp [adU], g_up_ne ax, g_up_self]⟩, ⟨fun i hi => by rw [show adU ad 4 nn q 1 i = ad 1 i by simp [adU]]; exact old _ _ (k1 i hi) (ne _ _ _ _ (k1 i hi) h5 (by simp [oA, oT])) (ne _ _ _ _ (k1 i hi) h1 (by simp [oX, oT])),
  fun i hi => by rw [show adU ad 4 nn q 2 i = ad 2 i by simp [adU]]; exact old _ _ (k2 i hi) (ne _ _ _ _ (k2 i hi) h5 (by simp [oA, oF])) (ne _ _ _ _ (k2 i hi) h1 (by simp [oX, oF])),
  fun i hi => by rw [show adU ad 4 nn q 3 i = ad 3 i by simp [adU]]; exact old _ _ (k3 i hi) (ne _ _ _ _ (k3 i hi) h5 (by simp [oA, oC])) (ne _ _ _ _ (k3 i hi) h1 (by simp [oX, oC])),
  fun i hi => by
    by_cases hin : i = nn
    · subst hin
      rw [show adU ad 4 i q 4 i = q by simp [adU]]
      exact old _ _ hqq (ne _ _ _ _ hqq h5 (by simp [oA, oN])) (ne _ _ _ _ hqq h1 (by simp [oX, oN]))
    · have hi2 : i < nn := by omega
      rw [show adU ad 4 nn q 4 i = ad 4 i by simp [adU, hin]]
      have e4 : oN (s_add N nn r)  i = oN N  i := by simp [oN, s_add, hin]
      rw [e4]
      exact old _ _ (k4 i hi2) (ne _ _ _ _ (k4 i hi2) h5 (by simp [oA, oN])) (ne _ _ _ _ (k4 i hi2) h1 (by simp [oX, oN]))⟩, ⟨fun i j hi hj hij => by rw [show adU ad 4 nn q 1 i = ad 1 i by simp [adU], show adU ad 4 nn q 1 j = ad 1 j by simp [adU]] at hij; exact i1 i j hi hj hij,
  fun i j hi hj hij => by rw [show adU ad 4 nn q 2 i = ad 2 i by simp [adU], show adU ad 4 nn q 2 j = ad 2 j by simp [adU]] at hij; exact i2 i j hi hj hij,
  fun i j hi hj hij => by rw [show adU ad 4 nn q 3 i = ad 3 i by simp [adU], show adU ad 4 nn q 3 j = ad 3 j by simp [adU]] at hij; exact i3 i j hi hj hij⟩, by omega⟩
end RXA
