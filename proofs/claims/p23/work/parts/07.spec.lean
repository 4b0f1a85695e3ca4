/-! WHAT THE RINGS ARE: pure words -/
abbrev Rw : Type := Nat → Nat → Int32
def cnt (p : Nat → Bool) : Nat → Nat
  | 0 => 0
  | n + 1 => cnt p n + (if p n = true then 1 else 0)
def fst (p : Nat → Bool) : Nat → Option Nat
  | 0 => none
  | n + 1 => match fst p n with
    | some t => some t
    | none => if p n = true then some n else none
def its {α : Type} (f : Nat → α → α) (a : α) : Nat → α
  | 0 => a
  | n + 1 => f n (its f a n)
theorem cnt_le (p : Nat → Bool) (n : Nat) : cnt p n ≤ n := by
  induction n with
  | zero => exact Nat.le_refl _
  | succ n ih => simp only [cnt]; split <;> omega
theorem cnt_congr {p q : Nat → Bool} {n : Nat} (h : ∀ i, i < n → p i = q i) : cnt p n = cnt q n := by
  induction n with
  | zero => rfl
  | succ n ih => simp only [cnt]; rw [ih (fun i hi => h i (by omega)), h n (by omega)]
theorem fst_none {p : Nat → Bool} {n : Nat} (h : ∀ t, t < n → p t = false) : fst p n = none := by
  induction n with
  | zero => rfl
  | succ n ih => simp only [fst]; rw [ih (fun t ht => h t (by omega)), h n (by omega)]; rfl
theorem fst_some {p : Nat → Bool} {n t : Nat} (ht : t < n) (hp : p t = true) (h : ∀ u, u < t → p u = false) : fst p n = some t := by
  induction n with
  | zero => omega
  | succ n ih =>
    simp only [fst]
    by_cases hn : t < n
    · rw [ih hn]
    · have : t = n := by omega
      subst this
      rw [fst_none h, hp]; rfl
theorem fst_inv {p : Nat → Bool} {n t : Nat} (h : fst p n = some t) : t < n ∧ p t = true ∧ ∀ u, u < t → p u = false := by
  induction n with
  | zero => cases h
  | succ n ih =>
    simp only [fst] at h
    cases h1 : fst p n with
    | some u => rw [h1] at h; cases h; obtain ⟨a, b, c⟩ := ih h1; exact ⟨by omega, b, c⟩
    | none =>
      rw [h1] at h
      simp only at h
      split at h
      · rename_i hp
        cases h
        refine ⟨by omega, hp, fun u hu => ?_⟩
        cases hq : p u with
        | false => rfl
        | true =>
          exfalso
          have hx : ∀ m, u < m → fst p m ≠ none := by
            intro m
            induction m with
            | zero => intro h; omega
            | succ m ihm =>
              intro hm
              simp only [fst]
              by_cases hlt : u < m
              · cases hf : fst p m with
                | none => exact absurd hf (ihm hlt)
                | some v => simp
              · have : u = m := by omega
                subst this
                cases hf : fst p u with
                | none => simp [hq]
                | some v => simp
          exact hx _ hu h1
      · cases h
theorem fst_congr {p q : Nat → Bool} {n : Nat} (h : ∀ i, i < n → p i = q i) : fst p n = fst q n := by
  induction n with
  | zero => rfl
  | succ n ih => simp only [fst]; rw [ih (fun i hi => h i (by omega)), h n (by omega)]
/-- where a trapeze is -/
def s_p (wt d : Int32) : Int32 := d - d / (2 * (2 + wt)) * (2 * (2 + wt))
def s_pl (mid wid wt d : Int32) : Int32 := if s_p wt d ≤ 2 + wt then mid - wid + 2 * wid * s_p wt d / (2 + wt) else mid + wid - 2 * wid * (s_p wt d - (2 + wt)) / (2 + wt)
def s_at (T : Rw) (t : Nat) (b : Int32) : Int32 := s_pl (T t 0) (T t 1) (T t 2) (b - T t 6)
def s_near (a b : Int32) : Bool := decide (a - b ≤ 2) && decide (b - a ≤ 2)
def s_hang (F : Rw) (nf : Nat) (t : Int32) : Nat := cnt (fun f => decide (F f 1 = t)) nf
def s_in (F : Rw) (nf : Nat) (v : Int32) : Nat := cnt (fun f => decide (F f 0 = v)) nf
def s_net (N : Rw) (nn : Nat) (x : Int32) : Bool := (fst (fun k => decide (N k 0 ≤ x) && decide (x ≤ N k 1)) nn).isSome
def s_row (F : Rw) (f : Nat) (a b c d : Int32) : Rw := fun i k => if i = f then (match k with | 0 => a | 1 => b | 2 => c | 3 => d | _ => F f k) else F i k
def s_set (C : Rw) (i k : Nat) (v : Int32) : Rw := fun a b => if a = i ∧ b = k then v else C a b
def s_fall (N : Rw) (nn : Nat) (F : Rw) (f : Nat) (x : Int32) : Rw := s_row F f (if s_net N nn x = true then 3 else 4) (-1) 0 (-1)
def s_cue (T : Rw) (b : Int32) (k : Nat) (FC : Rw × Rw) : Rw × Rw :=
  if FC.2 k 0 = b then
    (if FC.1 (FC.2 k 1).toNatClampNeg 0 = 1 then (s_row FC.1 (FC.2 k 1).toNatClampNeg 2 (-1) (s_at T (FC.1 (FC.2 k 1).toNatClampNeg 1).toNatClampNeg b + FC.2 k 2) (b + FC.2 k 3), s_set FC.2 k 4 1)
    else (FC.1, s_set FC.2 k 4 2))
  else FC
def s_free (T F : Rw) (nf : Nat) (b x : Int32) (t : Nat) : Bool := decide (T t 5 = 1) && s_near (s_at T t b) x && decide (s_hang F nf (nI t) < 2)
def s_land (N : Rw) (nn : Nat) (T : Rw) (nt nf : Nat) (b : Int32) (f : Nat) (F : Rw) : Rw :=
  if F f 0 = 2 ∧ F f 3 = b then
    (match fst (s_free T F nf b (F f 2)) nt with
    | some t => s_set (s_row F f 1 (nI t) 0 (-1)) f 4 (F f 4 + 1)
    | none => s_fall N nn F f (F f 2))
  else F
def s_left (T : Rw) (t : Nat) (b : Int32) : Bool := decide (s_p (T t 2) (b - T t 6) = 0)
def s_drop (N : Rw) (nn : Nat) (t : Nat) (x : Int32) (f : Nat) (F : Rw) : Rw := if F f 1 = nI t then s_fall N nn F f x else F
def s_wear (N : Rw) (nn nf : Nat) (b : Int32) (t : Nat) (TF : Rw × Rw) : Rw × Rw :=
  if TF.1 t 5 = 1 ∧ s_left TF.1 t b = true then
    (if TF.1 t 4 + nI (s_hang TF.2 nf (nI t)) ≤ TF.1 t 3 then (s_set TF.1 t 4 (TF.1 t 4 + nI (s_hang TF.2 nf (nI t))), TF.2)
    else (s_set (s_set TF.1 t 4 (TF.1 t 4 + nI (s_hang TF.2 nf (nI t)))) t 5 0, its (s_drop N nn t (s_at TF.1 t b)) TF.2 nf))
  else TF
/-- what a beat changes: the beat, trapezes, flyers, cues -/
abbrev Sb : Type := Nat × Rw × Rw × Rw
def s_beat (N : Rw) (nn nt nf nc : Nat) (S : Sb) : Sb :=
  let FC := its (s_cue S.2.1 (nI S.1)) (S.2.2.1, S.2.2.2) nc
  let TF := its (s_wear N nn nf (nI S.1)) (S.2.1, its (s_land N nn S.2.1 nt nf (nI S.1)) FC.1 nf) nt
  (S.1 + 1, TF.1, TF.2, FC.2)
def s_beats (N : Rw) (nn nt nf nc : Nat) (S : Sb) (n : Nat) : Sb := its (fun _ S => s_beat N nn nt nf nc S) S n
def s_caught (F : Rw) (nf : Nat) : Int32 := its (fun f s => s + F f 4) 0 nf
/-- what is told -/
def s_told (T F : Rw) (nf : Nat) (b : Int32) (t : Nat) (w : Int32) : Int32 :=
  if w = 0 then T t 0 else if w = 1 then T t 1 else if w = 2 then T t 2 else if w = 3 then T t 3 else if w = 4 then T t 4 else if w = 5 then T t 5 else if w = 6 then s_at T t b else nI (s_hang F nf (nI t))
def s_toldF (F : Rw) (b : Int32) (f : Nat) (w : Int32) : Int32 :=
  if w = 0 then F f 0 else if w = 1 then F f 1 else if w = 2 then F f 2 else if w = 3 then (if F f 0 = 2 then F f 3 - b else -1) else F f 4
def s_toldC (C : Rw) (k : Nat) (w : Int32) : Int32 :=
  if w = 0 then C k 0 else if w = 1 then C k 1 else if w = 2 then C k 2 else if w = 3 then C k 3 else C k 4
def s_count (b : Int32) (nt nf nc : Nat) (T F C : Rw) (w : Int32) : Int32 :=
  if w = 0 then b else if w = 1 then nI nt else if w = 2 then nI (cnt (fun t => decide (T t 5 = 1)) nt) else if w = 3 then nI nf else if w = 4 then nI (s_in F nf 1) else if w = 5 then nI (s_in F nf 2) else if w = 6 then nI (s_in F nf 3) else if w = 7 then nI (s_in F nf 4) else nI (cnt (fun k => decide (C k 4 = 0)) nc)
/-- digests -/
def s_dig (f : Nat → Int32) (d : Int64) (n : Nat) : Int64 := its (fun i d => d * 31 + (f i).toInt64) d n
/-! what always holds -/
def s_ok (b nt nf nc nn : Nat) (T F C : Rw) : Prop :=
  (nt ≤ 6 ∧ nf ≤ 8 ∧ nc ≤ 20 ∧ nn ≤ 3 ∧ b < 2 ^ 30) ∧
  (∀ t, t < nt → (∃ w, w ≤ 10 ∧ T t 2 = nI w) ∧ (T t 5 = 0 ∨ T t 5 = 1)) ∧
  (∀ f, f < nf → (F f 0 = 1 → ∃ t, t < nt ∧ F f 1 = nI t) ∧ (F f 0 ≠ 1 → F f 1 = -1) ∧ (F f 0 ≠ 2 → F f 2 = 0)) ∧
  (∀ k, k < nc → (∃ f, f < nf ∧ C k 1 = nI f) ∧ (nI b ≤ C k 0 → C k 4 = 0))
/-! the class's own heap -/
def oT (T KT : Rw) (i : Nat) : va_E := .inr (3, [.int (T i 0), .int (T i 1), .int (T i 3), .int (T i 2), .int (T i 6), .int (T i 4), .int (T i 5), .int (KT i 0), .int (KT i 1)])
def oF (E KF : Rw) (i : Nat) : va_E := .inr (1, [.int (E i 0), .int (E i 1), .int (E i 2), .int (E i 3), .int (E i 4), .int (KF i 0), .int (KF i 1), .int (KF i 2), .int (KF i 3), .int (KF i 4)])
def oC (C KC : Rw) (i : Nat) : va_E := .inr (0, [.int (C i 0), .int (C i 1), .int (C i 2), .int (C i 3), .int (C i 4), .int (KC i 0)])
def oN (N : Rw) (i : Nat) : va_E := .inr (2, [.int (N i 0), .int (N i 1)])
def oX (ad : Nat → Nat → Nat) (b : Int32) (nt nf nc nn : Nat) : va_E := .inr (4, [.ref (ad 0 0), .ref (ad 0 1), .ref (ad 0 2), .ref (ad 0 3), .int (nI nt), .int (nI nf), .int (nI nc), .int (nI nn), .int b])
def RX (cy : Nat → ClassId) (x : Nat) (ad : Nat → Nat → Nat) (b : Int32) (nt nf nc nn : Nat) (T E C N KT KF KC : Rw) (G : GG) : Prop :=
  (G x = some (oX ad b nt nf nc nn) ∧ G (ad 0 0) = some (oA (cy 1) 6 (ad 1) nt) ∧ G (ad 0 1) = some (oA (cy 2) 8 (ad 2) nf) ∧ G (ad 0 2) = some (oA (cy 3) 20 (ad 3) nc) ∧ G (ad 0 3) = some (oA (cy 4) 3 (ad 4) nn)) ∧
  ((∀ i, i < nt → G (ad 1 i) = some (oT T KT i)) ∧ (∀ i, i < nf → G (ad 2 i) = some (oF E KF i)) ∧ (∀ i, i < nc → G (ad 3 i) = some (oC C KC i)) ∧ (∀ i, i < nn → G (ad 4 i) = some (oN N i))) ∧
  ((∀ i j, i < nt → j < nt → ad 1 i = ad 1 j → i = j) ∧ (∀ i j, i < nf → j < nf → ad 2 i = ad 2 j → i = j) ∧ (∀ i j, i < nc → j < nc → ad 3 i = ad 3 j → i = j)) ∧ (nt ≤ 6 ∧ nf ≤ 8 ∧ nc ≤ 20 ∧ nn ≤ 3)
theorem g_oth {G : GG} {a q : Nat} {e e0 e' : va_E} (h : G q = some e') (ha : G a = some e0) (hne : e' ≠ e0) : g_up G a e q = some e' := by
  by_cases hq : q = a
  · subst hq; exact absurd (Option.some.inj (h.symm.trans ha)) hne
  · rw [g_up_ne hq]; exact h
section RXU
variable {cy : Nat → ClassId} {x : Nat} {ad : Nat → Nat → Nat} {b : Int32} {nt nf nc nn : Nat} {T E C N KT KF KC : Rw} {G : GG}
theorem RX.setT {T' KT' : Rw} {i : Nat} (h : RX cy x ad b nt nf nc nn T E C N KT KF KC G) (hi : i < nt) (ho : ∀ j, j < nt → j ≠ i → oT T' KT' j = oT T KT j) : RX cy x ad b nt nf nc nn T' E C N KT' KF KC (g_up G (ad 1 i) (oT T' KT' i)) := by
  obtain ⟨⟨h1, h2, h3, h4, h5⟩, ⟨k1, k2, k3, k4⟩, ⟨i1, i2, i3⟩, hb⟩ := h
  have ha := k1 i hi
  refine ⟨⟨g_oth h1 ha (by simp [oX, oT]), g_oth h2 ha (by simp [oA, oT]), g_oth h3 ha (by simp [oA, oT]), g_oth h4 ha (by simp [oA, oT]), g_oth h5 ha (by simp [oA, oT])⟩, ⟨fun j hj => ?_, fun j hj => g_oth (k2 j hj) ha (by simp [oF, oT]), fun j hj => g_oth (k3 j hj) ha (by simp [oC, oT]), fun j hj => g_oth (k4 j hj) ha (by simp [oN, oT])⟩, ⟨i1, i2, i3⟩, hb⟩
  by_cases hji : j = i
  · subst hji; exact g_up_self ..
  · rw [g_up_ne (fun q => hji (i1 j i hj hi q)), k1 j hj, ho j hj hji]
theorem RX.setF {E' KF' : Rw} {i : Nat} (h : RX cy x ad b nt nf nc nn T E C N KT KF KC G) (hi : i < nf) (ho : ∀ j, j < nf → j ≠ i → oF E' KF' j = oF E KF j) : RX cy x ad b nt nf nc nn T E' C N KT KF' KC (g_up G (ad 2 i) (oF E' KF' i)) := by
  obtain ⟨⟨h1, h2, h3, h4, h5⟩, ⟨k1, k2, k3, k4⟩, ⟨i1, i2, i3⟩, hb⟩ := h
  have ha := k2 i hi
  refine ⟨⟨g_oth h1 ha (by simp [oX, oF]), g_oth h2 ha (by simp [oA, oF]), g_oth h3 ha (by simp [oA, oF]), g_oth h4 ha (by simp [oA, oF]), g_oth h5 ha (by simp [oA, oF])⟩, ⟨fun j hj => g_oth (k1 j hj) ha (by simp [oF, oT]), fun j hj => ?_, fun j hj => g_oth (k3 j hj) ha (by simp [oC, oF]), fun j hj => g_oth (k4 j hj) ha (by simp [oN, oF])⟩, ⟨i1, i2, i3⟩, hb⟩
  by_cases hji : j = i
  · subst hji; exact g_up_self ..
  · rw [g_up_ne (fun q => hji (i2 j i hj hi q)), k2 j hj, ho j hj hji]
theorem RX.setC {C' KC' : Rw} {i : Nat} (h : RX cy x ad b nt nf nc nn T E C N KT KF KC G) (hi : i < nc) (ho : ∀ j, j < nc → j ≠ i → oC C' KC' j = oC C KC j) : RX cy x ad b nt nf nc nn T E C' N KT KF KC' (g_up G (ad 3 i) (oC C' KC' i)) := by
  obtain ⟨⟨h1, h2, h3, h4, h5⟩, ⟨k1, k2, k3, k4⟩, ⟨i1, i2, i3⟩, hb⟩ := h
  have ha := k3 i hi
  refine ⟨⟨g_oth h1 ha (by simp [oX, oC]), g_oth h2 ha (by simp [oA, oC]), g_oth h3 ha (by simp [oA, oC]), g_oth h4 ha (by simp [oA, oC]), g_oth h5 ha (by simp [oA, oC])⟩, ⟨fun j hj => g_oth (k1 j hj) ha (by simp [oC, oT]), fun j hj => g_oth (k2 j hj) ha (by simp [oC, oF]), fun j hj => ?_, fun j hj => g_oth (k4 j hj) ha (by simp [oN, oC])⟩, ⟨i1, i2, i3⟩, hb⟩
  by_cases hji : j = i
  · subst hji; exact g_up_self ..
  · rw [g_up_ne (fun q => hji (i3 j i hj hi q)), k3 j hj, ho j hj hji]
theorem RX.setB {b' : Int32} (h : RX cy x ad b nt nf nc nn T E C N KT KF KC G) : RX cy x ad b' nt nf nc nn T E C N KT KF KC (g_up G x (oX ad b' nt nf nc nn)) := by
  obtain ⟨⟨h1, h2, h3, h4, h5⟩, ⟨k1, k2, k3, k4⟩, ⟨i1, i2, i3⟩, hb⟩ := h
  exact ⟨⟨g_up_self .., g_oth h2 h1 (by simp [oA, oX]), g_oth h3 h1 (by simp [oA, oX]), g_oth h4 h1 (by simp [oA, oX]), g_oth h5 h1 (by simp [oA, oX])⟩, ⟨fun j hj => g_oth (k1 j hj) h1 (by simp [oX, oT]), fun j hj => g_oth (k2 j hj) h1 (by simp [oX, oF]), fun j hj => g_oth (k3 j hj) h1 (by simp [oC, oX]), fun j hj => g_oth (k4 j hj) h1 (by simp [oN, oX])⟩, ⟨i1, i2, i3⟩, hb⟩
end RXU
/-- the class's flyers against the words' flyers: where this one doesn't fly, goal and landing beat are old -/
def relF (E F : Rw) (nf : Nat) : Prop := ∀ f, f < nf → E f 0 = F f 0 ∧ E f 1 = F f 1 ∧ E f 4 = F f 4 ∧ (F f 0 = 2 → E f 2 = F f 2 ∧ E f 3 = F f 3)
