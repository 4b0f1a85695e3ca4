/-! landings -/
def s_sum (A B : Rw) (n : Nat) : Int32 := its (fun f z => z + (A f 4 - B f 4)) 0 n
theorem s_sum_congr {A A' B : Rw} {n : Nat} (h : ∀ f, f < n → A' f 4 = A f 4) : s_sum A' B n = s_sum A B n := by
  induction n with
  | zero => rfl
  | succ n ih =>
    have e := ih (fun f hf => h f (by omega))
    simp only [s_sum, its] at e ⊢
    rw [e, h n (by omega)]
def lF (bn nt : Nat) (T E1 E2 : Rw) (f : Nat) : Prop := (¬ (E1 f 0 = 2 ∧ E1 f 3 = nI bn) ∧ E2 f = E1 f) ∨ ((E1 f 0 = 2 ∧ E1 f 3 = nI bn) ∧ ((∃ t, t < nt ∧ T t 5 = 1 ∧ E2 f 0 = 1 ∧ E2 f 1 = nI t ∧ E2 f 4 = E1 f 4 + 1) ∨ ((E2 f 0 = 3 ∨ E2 f 0 = 4) ∧ E2 f 1 = -1 ∧ E2 f 4 = E1 f 4)))
theorem lF.congr {bn nt f : Nat} {T E1 E2 E3 : Rw} (h : lF bn nt T E1 E2 f) (e : E3 f = E2 f) : lF bn nt T E1 E3 f := by
  unfold lF at h ⊢
  rw [e]; exact h
def lR (bn nt nf : Nat) (T E1 : Rw) (n : Nat) (E2 : Rw) (κ : Int32) : Prop :=
  (∀ f, n ≤ f → E2 f = E1 f) ∧ (∀ f, f < n → lF bn nt T E1 E2 f) ∧ (∀ t, t < nt → s_hangE E2 nf (nI t) ≤ 2 ∧ (T t 5 = 0 → s_hangE E2 nf (nI t) = 0)) ∧ κ = s_sum E2 E1 n
theorem hang_zF {F E : Rw} {nf n : Nat} {v b b' : Int32} (hs : ∀ f k, f < nf → k < 5 → F f k = zF (if f < n then b else b') E f k) : s_hangE F nf v = s_hangE E nf v :=
  hangE_congr (fun f hf => by rw [hs f 0 hf (by decide), hs f 1 hf (by decide)]; exact Iff.rfl)
theorem free_eq {bn nt nf n : Nat} {T E F : Rw} {x : Int32} {b : Int32} (hT : ∀ t, t < nt → (-2000 ≤ (s_at T t (nI bn)).toInt ∧ (s_at T t (nI bn)).toInt ≤ 2000) ∧ (T t 5 = 0 ∨ T t 5 = 1)) (hnf : nf ≤ 8) (hs : ∀ f k, f < nf → k < 5 → F f k = zF (if f < n then b else nI bn) E f k) (hx : s_bd x) : fst (s_freeX T E nf (nI bn) x) nt = fst (y_free (zT (nI bn) T) F nf x) nt := by
  refine fst_congr (fun t ht => ?_)
  obtain ⟨h1, h2⟩ := hT t ht
  rw [bd_iff] at hx
  have hh : s_hangE F nf (nI t) = s_hangE E nf (nI t) := hang_zF hs
  have hl : s_hangE E nf (nI t) ≤ nf := cnt_le _ _
  rw [Bool.eq_iff_iff]
  simp only [s_freeX, y_free, Bool.and_eq_true, decide_eq_true_eq, hh, near_iff (x := x) h1 ⟨by omega, by omega⟩]
  have e5 : zT (nI bn) T t 5 = T t 5 := rfl
  have e6 : y_pl (zT (nI bn) T) t = s_at T t (nI bn) := rfl
  have e7 : nI (s_hangE E nf (nI t)) < 2 ↔ s_hangE E nf (nI t) < 2 := nI_ltI (b := 2) (by omega) (by omega)
  rw [e5, e6, e7]
  have e8 : ¬ T t 5 = 0 ↔ T t 5 = 1 := by rcases h2 with e | e <;> rw [e] <;> decide
  rw [e8]
  constructor
  · rintro ⟨⟨a, b1, b2⟩, c⟩; exact ⟨a, c, b1, b2⟩
  · rintro ⟨a, c, b1, b2⟩; exact ⟨⟨a, b1, b2⟩, c⟩
theorem hang_set {E : Rw} {nf f k : Nat} {v w : Int32} (hk : 2 ≤ k) : s_hangE (s_set E f k w) nf v = s_hangE E nf v :=
  hangE_congr (fun g hg => by simp only [s_set]; rw [if_neg (by omega), if_neg (by omega)])
theorem hang_fall {E : Rw} {nf f : Nat} {c v : Int32} (h0 : ¬ E f 0 = 1) (hc : ¬ c = 1) : s_hangE (x_st E f c (-1)) nf v = s_hangE E nf v := by
  refine hangE_congr (fun g hg => ?_)
  by_cases e : g = f
  · subst e
    obtain ⟨e0, e1, -⟩ := st_at (E := E) (f := g) (a := c) (n := -1)
    rw [e0, e1]
    exact ⟨fun q => absurd q.1 hc, fun q => absurd q.1 h0⟩
  · rw [st_ne e]
theorem fallc {N : Rw} {nn : Nat} {x : Int32} : x_fallc N nn x = 3 ∨ x_fallc N nn x = 4 := by
  unfold x_fallc
  split
  · exact Or.inl rfl
  · exact Or.inr rfl
theorem z_b {b b' : Int32} {E : Rw} {f k : Nat} (h : ¬ E f 0 = 2) (hk : k < 5) : zF b E f k = zF b' E f k := by
  rcases (show k = 0 ∨ k = 1 ∨ k = 2 ∨ k = 3 ∨ k = 4 by omega) with rfl | rfl | rfl | rfl | rfl
  · rfl
  · rfl
  · rfl
  · rw [zF3n h, zF3n h]
  · rfl
theorem z_row {b : Int32} {E E' F : Rw} {f : Nat} (h : E' f = E f) {k : Nat} : zF b E' f k = zF b E f k := by
  unfold zF
  rw [h]
theorem land_step {bn nt nf nn : Nat} {T E1 N : Rw} (hE : ∀ f, f < nf → vF bn nt E1 f) (hT : ∀ t, t < nt → (-2000 ≤ (s_at T t (nI bn)).toInt ∧ (s_at T t (nI bn)).toInt ≤ 2000) ∧ (T t 5 = 0 ∨ T t 5 = 1)) (hnt : nt ≤ 6) (hnf : nf ≤ 8) (hbn : bn ≤ 60) {n : Nat} (hn : n < nf) {E2 F2 : Rw} {κ : Int32} (h : lR bn nt nf T E1 n E2 κ) (hs : ∀ f k, f < nf → k < 5 → F2 f k = zF (if f < n then nI bn + 1 else nI bn) E2 f k) :
    lR bn nt nf T E1 (n + 1) (x_land N nn T nt nf (nI bn) n (E2, κ)).1 (x_land N nn T nt nf (nI bn) n (E2, κ)).2 ∧ ∀ f k, f < nf → k < 5 → y_land N nn (zT (nI bn) T) nt nf n F2 f k = zF (if f < n + 1 then nI bn + 1 else nI bn) (x_land N nn T nt nf (nI bn) n (E2, κ)).1 f k := by
  obtain ⟨hO, hF, hH, hK⟩ := h
  have en : E2 n = E1 n := hO n (Nat.le_refl n)
  have f0 : F2 n 0 = E2 n 0 := hs n 0 hn (by decide)
  have hif : ∀ f, f ≠ n → (if f < n + 1 then nI bn + 1 else nI bn) = (if f < n then nI bn + 1 else nI bn) := fun f hf => by
    by_cases h1 : f < n
    · rw [if_pos h1, if_pos (by omega)]
    · rw [if_neg h1, if_neg (by omega)]
  -- a flyer whom nothing befalls
  have quiet : x_land N nn T nt nf (nI bn) n (E2, κ) = (E2, κ) → ¬ (E1 n 0 = 2 ∧ E1 n 3 = nI bn) → lR bn nt nf T E1 (n + 1) (x_land N nn T nt nf (nI bn) n (E2, κ)).1 (x_land N nn T nt nf (nI bn) n (E2, κ)).2 := by
    intro ex hq
    rw [ex]
    refine ⟨fun f hf => hO f (by omega), fun f hf => ?_, hH, ?_⟩
    · by_cases e : f = n
      · subst e; exact Or.inl ⟨hq, en⟩
      · exact hF f (by omega)
    · show κ = s_sum E2 E1 (n + 1)
      simp only [s_sum, its]
      rw [en]
      have : E1 n 4 - E1 n 4 = 0 := Int32.sub_self _
      rw [this, Int32.add_zero]
      exact hK
  -- a flyer whose row alone is new
  have fresh : ∀ (E3 : Rw) (κ3 : Int32), x_land N nn T nt nf (nI bn) n (E2, κ) = (E3, κ3) → (∀ g, g ≠ n → E3 g = E2 g) → (E1 n 0 = 2 ∧ E1 n 3 = nI bn) → lF bn nt T E1 E3 n → (∀ t, t < nt → s_hangE E3 nf (nI t) ≤ 2 ∧ (T t 5 = 0 → s_hangE E3 nf (nI t) = 0)) → κ3 = κ + (E3 n 4 - E1 n 4) → lR bn nt nf T E1 (n + 1) (x_land N nn T nt nf (nI bn) n (E2, κ)).1 (x_land N nn T nt nf (nI bn) n (E2, κ)).2 := by
    intro E3 κ3 ex ho hq hl hh hk
    rw [ex]
    refine ⟨fun f hf => (ho f (by omega)).trans (hO f (by omega)), fun f hf => ?_, hh, ?_⟩
    · by_cases e : f = n
      · subst e; exact hl
      · exact (hF f (by omega)).congr (ho f e)
    · show κ3 = s_sum E3 E1 (n + 1)
      have e := s_sum_congr (A := E2) (A' := E3) (B := E1) (n := n) (fun f hf => by rw [ho f (by omega)])
      rw [hk, hK, ← e]
      rfl
  by_cases hfl : E1 n 0 = 2
  · obtain ⟨⟨d, hd, e3⟩, hx⟩ := (hE n hn).2.2.2.1 hfl
    have fl2 : E2 n 0 = 2 := by rw [en]; exact hfl
    have e32 : E2 n 3 = nI (bn + d) := by rw [en]; exact e3
    have hz : (if n < n then nI bn + 1 else nI bn) = nI bn := if_neg (Nat.lt_irrefl n)
    have f3 : F2 n 3 = nI d := by
      rw [hs n 3 hn (by decide), hz, zF3 fl2, e32, ← nI_add]
      grind
    have f2 : F2 n 2 = E2 n 2 := by rw [hs n 2 hn (by decide), zF2 fl2]
    by_cases hd0 : d = 0
    · have hb3 : E1 n 3 = nI bn := by rw [e3, hd0]; rfl
      have hb32 : E2 n 3 = nI bn := by rw [en]; exact hb3
      have efr := free_eq (n := n) (b := nI bn + 1) hT hnf hs (x := E2 n 2) (by rw [en]; exact hx)
      have yc : y_land N nn (zT (nI bn) T) nt nf n F2 = (match fst (y_free (zT (nI bn) T) F2 nf (F2 n 2)) nt with
        | some t => s_set (s_row F2 n 1 (nI t) 0 (-1)) n 4 (F2 n 4 + 1)
        | none => s_fall N nn F2 n (F2 n 2)) := by
        unfold y_land
        rw [if_pos (f0.trans fl2), if_neg (by rw [f3, hd0]; decide)]
        rfl
      rw [f2, ← efr] at yc
      cases hfs : fst (s_freeX T E2 nf (nI bn) (E2 n 2)) nt with
      | some t =>
        rw [hfs] at yc
        simp only at yc
        obtain ⟨ht, hfree, -⟩ := fst_inv hfs
        simp only [s_freeX, Bool.and_eq_true, decide_eq_true_eq] at hfree
        have h5 : T t 5 = 1 := (hT t ht).2.resolve_left hfree.1.1
        have ex : x_land N nn T nt nf (nI bn) n (E2, κ) = (s_set (x_st E2 n 1 (nI t)) n 4 (E2 n 4 + 1), κ + 1) := by
          simp only [x_land, if_pos (show E2 n 0 = 2 ∧ E2 n 3 = nI bn from ⟨fl2, hb32⟩), hfs]
        obtain ⟨s0, s1, s2, s3, s4⟩ := st_at (E := E2) (f := n) (a := 1) (n := nI t)
        have r0 : s_set (x_st E2 n 1 (nI t)) n 4 (E2 n 4 + 1) n 0 = 1 := (set_o (Or.inl (by decide))).trans s0
        have r1 : s_set (x_st E2 n 1 (nI t)) n 4 (E2 n 4 + 1) n 1 = nI t := (set_o (Or.inl (by decide))).trans s1
        have r4 : s_set (x_st E2 n 1 (nI t)) n 4 (E2 n 4 + 1) n 4 = E2 n 4 + 1 := set_4
        have ro : ∀ g, g ≠ n → s_set (x_st E2 n 1 (nI t)) n 4 (E2 n 4 + 1) g = E2 g := fun g hg => (s_set_ne hg).trans (st_ne hg)
        have hne1 : ¬ E2 n 0 = 1 := by rw [fl2]; decide
        refine ⟨fresh _ _ ex ro ⟨hfl, hb3⟩ (Or.inr ⟨⟨hfl, hb3⟩, Or.inl ⟨t, ht, h5, r0, r1, by rw [r4, en]⟩⟩) (fun u hu => ?_) (by rw [r4, en]; grind), fun f k hf hk => ?_⟩
        · rw [hang_set (by decide)]
          by_cases e : u = t
          · subst e
            rw [hang_mount hn (by omega) hne1]
            refine ⟨by omega, fun h9 => ?_⟩
            rw [h5] at h9; exact absurd h9 (by decide)
          · rw [hang_mount2 (by omega) (by omega) e hne1]
            exact hH u hu
        · rw [yc, ex]
          by_cases e : f = n
          · subst e
            have hq : ¬ s_set (x_st E2 f 1 (nI t)) f 4 (E2 f 4 + 1) f 0 = 2 := by rw [r0]; decide
            obtain ⟨y0, y1, y2, y3, y4⟩ := row_at (F := F2) (f := f) (a := 1) (b := nI t) (c := 0) (d := -1)
            rcases (show k = 0 ∨ k = 1 ∨ k = 2 ∨ k = 3 ∨ k = 4 by omega) with rfl | rfl | rfl | rfl | rfl
            · exact ((set_o (Or.inl (by decide))).trans y0).trans r0.symm
            · exact ((set_o (Or.inl (by decide))).trans y1).trans r1.symm
            · exact ((set_o (Or.inl (by decide))).trans y2).trans (zF2n hq).symm
            · exact ((set_o (Or.inl (by decide))).trans y3).trans (zF3n hq).symm
            · refine set_4.trans (Eq.trans ?_ r4.symm)
              rw [hs f 4 hf (by decide)]
              rfl
          · rw [s_set_ne e, row_ne e, hs f k hf hk, hif f e]
            exact (z_row (F := F2) (ro f e)).symm
      | none =>
        rw [hfs] at yc
        simp only at yc
        have ex : x_land N nn T nt nf (nI bn) n (E2, κ) = (x_st E2 n (x_fallc N nn (E2 n 2)) (-1), κ) := by
          simp only [x_land, if_pos (show E2 n 0 = 2 ∧ E2 n 3 = nI bn from ⟨fl2, hb32⟩), hfs]
        obtain ⟨r0, r1, -, -, r4⟩ := st_at (E := E2) (f := n) (a := x_fallc N nn (E2 n 2)) (n := -1)
        have hne1 : ¬ E2 n 0 = 1 := by rw [fl2]; decide
        have hc1 : ¬ x_fallc N nn (E2 n 2) = 1 := by rcases fallc (N := N) (nn := nn) (x := E2 n 2) with e | e <;> rw [e] <;> decide
        have hc2 : ¬ x_fallc N nn (E2 n 2) = 2 := by rcases fallc (N := N) (nn := nn) (x := E2 n 2) with e | e <;> rw [e] <;> decide
        refine ⟨fresh _ _ ex (fun g hg => st_ne hg) ⟨hfl, hb3⟩ (Or.inr ⟨⟨hfl, hb3⟩, Or.inr ⟨by rw [r0]; exact fallc, r1, by rw [r4, en]⟩⟩) (fun u hu => by rw [hang_fall hne1 hc1]; exact hH u hu) (by rw [r4, en]; grind), fun f k hf hk => ?_⟩
        rw [yc, ex]
        by_cases e : f = n
        · subst e
          obtain ⟨y0, y1, y2, y3, y4⟩ := row_at (F := F2) (f := f) (a := if s_net N nn (E2 f 2) = true then 3 else 4) (b := -1) (c := 0) (d := -1)
          have hq : ¬ x_st E2 f (x_fallc N nn (E2 f 2)) (-1) f 0 = 2 := by rw [r0]; exact hc2
          rcases (show k = 0 ∨ k = 1 ∨ k = 2 ∨ k = 3 ∨ k = 4 by omega) with rfl | rfl | rfl | rfl | rfl
          · exact y0.trans r0.symm
          · exact y1.trans r1.symm
          · exact y2.trans (zF2n hq).symm
          · exact y3.trans (zF3n hq).symm
          · exact y4.trans ((hs f 4 hf (by decide)).trans r4.symm)
        · show s_row F2 n _ _ _ _ f k = _
          rw [row_ne e, hs f k hf hk, hif f e]
          exact (z_row (F := F2) (st_ne e)).symm
    · have hne : ¬ E2 n 3 = nI bn := fun h9 => by
        have := (nI_eq (a := bn + d) (b := bn) (by omega) (by omega)).mp (e32.symm.trans h9)
        omega
      have ex : x_land N nn T nt nf (nI bn) n (E2, κ) = (E2, κ) := by
        simp only [x_land, if_neg (show ¬ (E2 n 0 = 2 ∧ E2 n 3 = nI bn) from fun q => hne q.2)]
      refine ⟨quiet ex (fun q => hne (by rw [en]; exact q.2)), fun f k hf hk => ?_⟩
      rw [ex]
      have yc : y_land N nn (zT (nI bn) T) nt nf n F2 = s_set F2 n 3 (F2 n 3 - 1) := by
        unfold y_land
        rw [if_pos (f0.trans fl2), if_pos (by rw [f3]; exact nI_lt (a := 0) (by omega) (by omega))]
      rw [yc]
      by_cases e : f = n
      · subst e
        have hz2 : (if f < f + 1 then nI bn + 1 else nI bn) = nI bn + 1 := if_pos (Nat.lt_succ_self f)
        rw [hz2]
        rcases (show k = 0 ∨ k = 1 ∨ k = 2 ∨ k = 3 ∨ k = 4 by omega) with rfl | rfl | rfl | rfl | rfl
        · exact (by simp [s_set] : s_set F2 f 3 (F2 f 3 - 1) f 0 = F2 f 0).trans f0
        · exact (by simp [s_set] : s_set F2 f 3 (F2 f 3 - 1) f 1 = F2 f 1).trans (hs f 1 hf (by decide))
        · exact ((by simp [s_set] : s_set F2 f 3 (F2 f 3 - 1) f 2 = F2 f 2).trans f2).trans (zF2 fl2).symm
        · refine (by simp [s_set] : s_set F2 f 3 (F2 f 3 - 1) f 3 = F2 f 3 - 1).trans ?_
          rw [zF3 fl2, f3, e32, ← nI_add]
          grind
        · exact (by simp [s_set] : s_set F2 f 3 (F2 f 3 - 1) f 4 = F2 f 4).trans (hs f 4 hf (by decide))
      · rw [s_set_ne e, hs f k hf hk, hif f e]
  · have hne : ¬ E2 n 0 = 2 := by rw [en]; exact hfl
    have ex : x_land N nn T nt nf (nI bn) n (E2, κ) = (E2, κ) := by
      simp only [x_land, if_neg (show ¬ (E2 n 0 = 2 ∧ E2 n 3 = nI bn) from fun q => hne q.1)]
    refine ⟨quiet ex (fun q => hfl q.1), fun f k hf hk => ?_⟩
    rw [ex]
    have yc : y_land N nn (zT (nI bn) T) nt nf n F2 = F2 := by
      unfold y_land
      rw [if_neg (by rw [f0]; exact hne)]
    rw [yc, hs f k hf hk]
    by_cases e : f = n
    · subst e; exact z_b hne hk
    · rw [hif f e]
theorem lands_all {bn nt nf nn : Nat} {T E1 N F1 : Rw} (hE : ∀ f, f < nf → vF bn nt E1 f) (hT : ∀ t, t < nt → (-2000 ≤ (s_at T t (nI bn)).toInt ∧ (s_at T t (nI bn)).toInt ≤ 2000) ∧ (T t 5 = 0 ∨ T t 5 = 1)) (hH : ∀ t, t < nt → s_hangE E1 nf (nI t) ≤ 2 ∧ (T t 5 = 0 → s_hangE E1 nf (nI t) = 0)) (hnt : nt ≤ 6) (hnf : nf ≤ 8) (hbn : bn ≤ 60) (hs : ∀ f k, f < nf → k < 5 → F1 f k = zF (nI bn) E1 f k) (n : Nat) (hn : n ≤ nf) :
    lR bn nt nf T E1 n (its (x_land N nn T nt nf (nI bn)) (E1, 0) n).1 (its (x_land N nn T nt nf (nI bn)) (E1, 0) n).2 ∧ ∀ f k, f < nf → k < 5 → its (y_land N nn (zT (nI bn) T) nt nf) F1 n f k = zF (if f < n then nI bn + 1 else nI bn) (its (x_land N nn T nt nf (nI bn)) (E1, 0) n).1 f k := by
  induction n with
  | zero => exact ⟨⟨fun _ _ => rfl, fun f hf => absurd hf (Nat.not_lt_zero f), hH, rfl⟩, fun f k hf hk => by rw [if_neg (Nat.not_lt_zero f)]; exact hs f k hf hk⟩
  | succ n ih =>
    obtain ⟨i1, i2⟩ := ih (by omega)
    simp only [its]
    exact land_step hE hT hnt hnf hbn (by omega) i1 i2
