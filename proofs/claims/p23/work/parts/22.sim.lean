/-! what Sim's methods do, word by word -/
theorem s_set_ne {W : Rw} {i j k : Nat} {v : Int32} (h : j ≠ i) : s_set W i k v j = W j := by
  funext a
  unfold s_set
  rw [if_neg (fun q => h q.1)]
theorem row4_eq {F : Rw} {i : Nat} {a b c d : Int32} : s_set (s_set (s_set (s_set F i 0 a) i 1 b) i 2 c) i 3 d = s_row F i a b c d := by
  funext x k
  unfold s_set s_row
  by_cases h : x = i
  · subst h
    match k with
    | 0 => simp
    | 1 => simp
    | 2 => simp
    | 3 => simp
    | k + 4 => simp
  · simp [h]
def ixn (v : Int32) : Nat := v.toNatClampNeg
theorem ixn_n {n : Nat} {v : Int32} (h : v = nI n) (hn : n < 1000) : ixn v = n := by rw [h]; exact nI_clamp (by omega)
abbrev y_pl (S : Rw) (t : Nat) : Int32 := s_pl (S t 0) (S t 1) (S t 2) (S t 6)
def y_cue (S : Rw) (b : Int32) (k : Nat) (FC : Rw × Rw) : Rw × Rw :=
  if FC.2 k 0 = b ∧ FC.2 k 4 = 0 then
    (if FC.1 (ixn (FC.2 k 1)) 0 = 1 then (s_row FC.1 (ixn (FC.2 k 1)) 2 (-1) (y_pl S (ixn (FC.1 (ixn (FC.2 k 1)) 1)) + FC.2 k 2) (FC.2 k 3), s_set FC.2 k 4 1)
    else (FC.1, s_set FC.2 k 4 2))
  else FC
def y_free (S F : Rw) (nf : Nat) (x : Int32) (t : Nat) : Bool := decide (S t 5 = 1 ∧ nI (s_hangE F nf (nI t)) < 2 ∧ y_pl S t - x ≤ 2 ∧ -2 ≤ y_pl S t - x)
def y_land (N : Rw) (nn : Nat) (S : Rw) (nt nf : Nat) (f : Nat) (F : Rw) : Rw :=
  if F f 0 = 2 then
    (if 0 < F f 3 then s_set F f 3 (F f 3 - 1)
    else match fst (y_free S F nf (F f 2)) nt with
      | some t => s_set (s_row F f 1 (nI t) 0 (-1)) f 4 (F f 4 + 1)
      | none => s_fall N nn F f (F f 2))
  else F
def y_drop (N : Rw) (nn : Nat) (t x : Int32) (f : Nat) (F : Rw) : Rw := if F f 0 = 1 ∧ F f 1 = t then s_fall N nn F f x else F
def y_worn (S F : Rw) (nf t : Nat) : Rw := s_set S t 4 (S t 4 + nI (s_hangE F nf (nI t)))
def y_wear (N : Rw) (nn nf : Nat) (t : Nat) (SF : Rw × Rw) : Rw × Rw :=
  if SF.1 t 5 = 1 ∧ SF.1 t 6 - SF.1 t 6 / (4 + 2 * SF.1 t 2) * (4 + 2 * SF.1 t 2) = 0 then
    (if SF.1 t 3 < SF.1 t 4 + nI (s_hangE SF.2 nf (nI t)) then (s_set (y_worn SF.1 SF.2 nf t) t 5 0, its (y_drop N nn (nI t) (y_pl SF.1 t)) SF.2 nf)
    else (y_worn SF.1 SF.2 nf t, SF.2))
  else SF
def y_age (t : Nat) (S : Rw) : Rw := s_set S t 6 (S t 6 + 1)
def y_beat (N : Rw) (nn nt nf nc : Nat) (b : Int32) (S F C : Rw) : Rw × Rw × Rw :=
  let FC := its (y_cue S b) (F, C) nc
  let SF := its (y_wear N nn nf) (S, its (y_land N nn S nt nf) FC.1 nf) nt
  (its y_age SF.1 nt, SF.2, FC.2)
/-- who hangs hangs from a trapeze; who is called is one of the flyers; trapezes are as trapezes are -/
def y_wF (nt nf : Nat) (F : Rw) : Prop := ∀ f, f < nf → F f 0 = 1 → ∃ t, t < nt ∧ F f 1 = nI t
def y_wC (nf nc : Nat) (C : Rw) : Prop := ∀ k, k < nc → ∃ f, f < nf ∧ C k 1 = nI f
def y_wS (nt : Nat) (S : Rw) : Prop := ∀ t, t < nt → (∃ w, w ≤ 10 ∧ S t 2 = nI w) ∧ ∃ d, d ≤ 1000 ∧ S t 6 = nI d
theorem y_wF.row {nt nf f : Nat} {F : Rw} {a b c d : Int32} (h : y_wF nt nf F) (ha : a = 1 → ∃ t, t < nt ∧ b = nI t) : y_wF nt nf (s_row F f a b c d) := by
  intro i hi h1
  by_cases e : i = f
  · subst e
    simp only [s_row, if_true] at h1 ⊢
    exact ha h1
  · simp only [s_row, if_neg e] at h1 ⊢
    exact h i hi h1
theorem y_wF.fall {N : Rw} {nn nt nf f : Nat} {F : Rw} {x : Int32} (h : y_wF nt nf F) : y_wF nt nf (s_fall N nn F f x) := by
  refine h.row (fun e => ?_)
  split at e <;> exact absurd e (by decide)
theorem y_wF.set {nt nf f k : Nat} {F : Rw} {v : Int32} (h : y_wF nt nf F) (hk : 2 ≤ k) : y_wF nt nf (s_set F f k v) := by
  intro i hi h1
  simp only [s_set] at h1 ⊢
  rw [if_neg (by omega)] at h1 ⊢
  exact h i hi h1
theorem y_wC.set {nf nc k : Nat} {C : Rw} {v : Int32} (h : y_wC nf nc C) : y_wC nf nc (s_set C k 4 v) := by
  intro i hi
  simp only [s_set]
  rw [if_neg (by omega)]
  exact h i hi
theorem y_wS.set {nt i k : Nat} {S : Rw} {v : Int32} (h : y_wS nt S) (h2 : k ≠ 2) (h6 : k ≠ 6) : y_wS nt (s_set S i k v) := by
  intro t ht
  simp only [s_set]
  rw [if_neg (fun q => h2 q.2.symm), if_neg (fun q => h6 q.2.symm)]
  exact h t ht
theorem y_hne {x : Int32} (h : ∃ w, w ≤ 10 ∧ x = nI w) : ¬ (4 + 2 * x) = 0 := by
  obtain ⟨w, hw, rfl⟩ := h
  have : (4 : Int32) + 2 * nI w = nI (4 + 2 * w) := by
    have e : (2 : Int32) = nI 2 := rfl
    have e4 : (4 : Int32) = nI 4 := rfl
    rw [e, e4, pk_mul, nI_add]
  rw [this]
  exact nI_ne0 (by omega) (by omega)
theorem y_h2 {w : Nat} {x : Int32} (h : x = nI w) : 2 * (2 + x) = nI (2 * (2 + w)) := by
  have e : (2 : Int32) = nI 2 := rfl
  rw [h, e, nI_add, pk_mul]
theorem y_p {w n : Nat} {x d : Int32} (hx : x = nI w) (hw : w ≤ 10) (hd : d = nI n) (hn : n ≤ 1000) : s_p x d = nI (n % (2 * (2 + w))) := by
  unfold s_p
  rw [y_h2 hx, hd, pk_rem (by omega) (by omega) (by omega)]
/-- the least free one, looked for from above -/
def y_at (p : Nat → Bool) (n j : Nat) (v : Int32) : Prop := (v = -1 ∧ ∀ i, j ≤ i → i < n → p i = false) ∨ ∃ t, v = nI t ∧ j ≤ t ∧ t < n ∧ p t = true ∧ ∀ i, j ≤ i → i < t → p i = false
theorem y_at.y {p : Nat → Bool} {n j : Nat} (hj : j < n) (hp : p j = true) : y_at p n j (nI j) := Or.inr ⟨j, rfl, Nat.le_refl _, hj, hp, fun i h1 h2 => absurd h2 (by omega)⟩
theorem y_at.n {p : Nat → Bool} {n j : Nat} {v : Int32} (h : y_at p n (j + 1) v) (hp : p j = false) : y_at p n j v := by
  rcases h with ⟨h1, h2⟩ | ⟨t, h1, h2, h3, h4, h5⟩
  · refine Or.inl ⟨h1, fun i hi hn => ?_⟩
    by_cases e : i = j
    · subst e; exact hp
    · exact h2 i (by omega) hn
  · refine Or.inr ⟨t, h1, by omega, h3, h4, fun i hi hn => ?_⟩
    by_cases e : i = j
    · subst e; exact hp
    · exact h5 i (by omega) hn
theorem y_at.e {p : Nat → Bool} {n : Nat} {v : Int32} (h : y_at p n 0 v) (hn : n < 1000) : (v < 0 ∧ fst p n = none) ∨ ∃ t, ¬ v < 0 ∧ v = nI t ∧ t < n ∧ fst p n = some t := by
  rcases h with ⟨h1, h2⟩ | ⟨t, h1, h2, h3, h4, h5⟩
  · exact Or.inl ⟨by rw [h1]; decide, fst_none (fun i hi => h2 i (Nat.zero_le _) hi)⟩
  · exact Or.inr ⟨t, by rw [h1]; exact nI_pos (by omega), h1, h3, fst_some h3 h4 (fun u hu => h5 u (Nat.zero_le _) hu)⟩
theorem y_at.s {p : Nat → Bool} {n : Nat} {v : Int32} (h : y_at p n 0 v) (hn : n < 1000) (hv : 0 ≤ v) : ∃ t, v = nI t ∧ t < n ∧ fst p n = some t := by
  rcases h.e hn with ⟨h9, -⟩ | ⟨t, -, h1, h2, h3⟩
  · exact absurd h9 (Int32.not_lt.mpr hv)
  · exact ⟨t, h1, h2, h3⟩
theorem y_at.z {p : Nat → Bool} {n : Nat} {v : Int32} (h : y_at p n 0 v) (hn : n < 1000) (hv : ¬ 0 ≤ v) : fst p n = none := by
  rcases h.e hn with ⟨-, h9⟩ | ⟨t, h1, -, -, -⟩
  · exact h9
  · exact absurd (Int32.not_le.mp hv) h1
theorem y_j0 {j : Nat} {x : Int32} (h : x = nI j - 1) (hj : j ≤ 1000) (hx : x < 0) : j = 0 := by
  rcases j with _ | j
  · rfl
  · rw [h, nI_pred] at hx
    exact absurd hx (nI_pos (by omega))
theorem y_j1 {j : Nat} {x : Int32} (h : x = nI j - 1) (hx : ¬ x < 0) : ∃ i, j = i + 1 := by
  rcases j with _ | j
  · rw [h] at hx
    exact absurd (by decide) hx
  · exact ⟨j, rfl⟩

theorem y_hne1 {w : Nat} {x : Int32} (hw : w ≤ 10) (h : x = nI w) : ¬ (2 + x) = 0 := by
  have e : (2 : Int32) = nI 2 := rfl
  rw [h, e, nI_add]
  exact nI_ne0 (by omega) (by omega)
set_option maxHeartbeats 4000000 in
set_option maxRecDepth 100000 in
theorem c_X5_place (l : Launch) (D : va_G) (cy : Nat → ClassId) (G : GG) (a : Nat) (f : Nat → Int32) (ha : G a = some (oR (cy 0) 7 f)) (w n : Nat) (hw : w ≤ 10) (m0 w0 t0 : Int32) (h0 : f 0 = m0) (h1 : f 1 = w0) (h2 : f 2 = t0) (hfw : t0 = nI w) (d : Int32) (hd : d = nI n) (hn : n ≤ 1000) : Ctr l D cy yX5_place prog_7_method_5_code 6 (some .int) kX5_place [.ref a, .int d] G (pI (fun v G' => G' = G ∧ v = s_pl m0 w0 t0 d)) := by
  subst h0 h1 h2
  refine Ctr.mk (by decide +kernel) (Nat.le_of_ble_eq_true rfl) ?_
  intro κ C R
  refine g_pc (pc' := 0) rfl ?_
  refine g_seg [(0, .iconst 2, 1), (1, .aload_n 0, 1), (2, .iconst 2, 1)] 3 [(0, .ref a), (1, .int d)] [.int 2, .ref a, .int 2] C (by decide +kernel) rfl ?_
  refine g_ialdM (pc := 3) (n := 7) 2 (f 2) C ha rfl (by decide) (by decide) (cut_lt (by decide)) (by decide +kernel) ?_
  refine g_seg [(4, .iadd, 1), (5, .istore_n 2, 1), (6, .iload_n 1, 1), (7, .istore_n 3, 1)] 8 [(3, .int d), (2, .int (2 + (f 2))), (0, .ref a), (1, .int d)] [] C (by decide +kernel) rfl ?_
  refine g_subp [2, 3, 1, 0] (lv' := [(0, .ref a), (1, .int d), (2, .int (2 + (f 2))), (3, .int d)]) rfl ?_
  have lp1 : ∀ (m k : Nat) (xp : Int32), n + 1 ≤ k + m → k ≤ n → (∃ r, xp = nI r ∧ r + k * (2 * (2 + w)) = n) → PG κ 6 0 0 G [(0, .ref a), (1, .int d), (2, .int (2 + (f 2))), (3, .int xp)] 8 [] := by
    intro m
    induction m with
    | zero => intro k xp h1 h2; intros; exact absurd h1 (by omega)
    | succ m ih =>
      intro k xp hm hk hr
      refine g_seg [(8, .iload_n 3, 1), (9, .iconst 2, 1), (10, .iload_n 2, 1), (11, .imul, 1)] 12 [(0, .ref a), (1, .int d), (2, .int (2 + (f 2))), (3, .int xp)] [.int (2 * (2 + (f 2))), .int xp] C (by decide +kernel) rfl ?_
      refine g_icmp_lt (pc := 12) (off := 12) 24 C (by decide +kernel) (by decide) (fun c2 => ?_) (fun c2 => ?_)
      · obtain ⟨r, hr1, hr2⟩ := hr
        have hr3 : r < 2 * (2 + w) := by have e9 := c2; rw [y_h2 hfw, hr1, nI_ltI (by omega) (by omega)] at e9; exact e9
        have hp : xp = s_p (f 2) d := by rw [y_p hfw hw hd hn, hr1]; congr 1; rw [← hr2, Nat.add_mul_mod_self_right, Nat.mod_eq_of_lt hr3]
        refine g_seg [(24, .iload_n 3, 1), (25, .iload_n 2, 1)] 26 [(0, .ref a), (1, .int d), (2, .int (2 + (f 2))), (3, .int xp)] [.int (2 + (f 2)), .int xp] C (by decide +kernel) rfl ?_
        refine g_icmp_le (pc := 26) (off := 9) 35 C (by decide +kernel) (by decide) (fun c3 => ?_) (fun c3 => ?_)
        · refine g_seg [(35, .iload_n 3, 1), (36, .istore 4, 2), (38, .iconst 2, 1), (39, .aload_n 0, 1), (40, .iconst 1, 1)] 41 [(4, .int xp), (0, .ref a), (1, .int d), (2, .int (2 + (f 2))), (3, .int xp)] [.int 1, .ref a, .int 2] C (by decide +kernel) rfl ?_
          refine g_ialdM (pc := 41) (n := 7) 1 (f 1) C ha rfl (by decide) (by decide) (cut_lt (by decide)) (by decide +kernel) ?_
          refine g_seg [(42, .imul, 1), (43, .iload 4, 2), (45, .imul, 1), (46, .iload_n 2, 1)] 47 [(4, .int xp), (0, .ref a), (1, .int d), (2, .int (2 + (f 2))), (3, .int xp)] [.int (2 + (f 2)), .int ((2 * (f 1)) * xp)] C (by decide +kernel) rfl ?_
          refine g_idiv (pc := 47) C (by decide +kernel) (y_hne1 hw hfw) ?_
          refine g_seg [(48, .istore 5, 2), (50, .iload_n 3, 1), (51, .iload_n 2, 1)] 52 [(5, .int (((2 * (f 1)) * xp) / (2 + (f 2)))), (4, .int xp), (0, .ref a), (1, .int d), (2, .int (2 + (f 2))), (3, .int xp)] [.int (2 + (f 2)), .int xp] C (by decide +kernel) rfl ?_
          refine g_icmp_le (pc := 52) (off := 16) 68 C (by decide +kernel) (by decide) (fun _ => ?_) (fun c9 => absurd (c3) c9)
          refine g_seg [(68, .aload_n 0, 1), (69, .iconst 0, 1)] 70 [(5, .int (((2 * (f 1)) * xp) / (2 + (f 2)))), (4, .int xp), (0, .ref a), (1, .int d), (2, .int (2 + (f 2))), (3, .int xp)] [.int 0, .ref a] C (by decide +kernel) rfl ?_
          refine g_ialdM (pc := 70) (n := 7) 0 (f 0) C ha rfl (by decide) (by decide) (cut_lt (by decide)) (by decide +kernel) ?_
          refine g_seg [(71, .aload_n 0, 1), (72, .iconst 1, 1)] 73 [(5, .int (((2 * (f 1)) * xp) / (2 + (f 2)))), (4, .int xp), (0, .ref a), (1, .int d), (2, .int (2 + (f 2))), (3, .int xp)] [.int 1, .ref a, .int (f 0)] C (by decide +kernel) rfl ?_
          refine g_ialdM (pc := 73) (n := 7) 1 (f 1) C ha rfl (by decide) (by decide) (cut_lt (by decide)) (by decide +kernel) ?_
          refine g_seg [(74, .isub, 1), (75, .iload 5, 2), (77, .iadd, 1)] 78 [(5, .int (((2 * (f 1)) * xp) / (2 + (f 2)))), (4, .int xp), (0, .ref a), (1, .int d), (2, .int (2 + (f 2))), (3, .int xp)] [.int (((f 0) - (f 1)) + (((2 * (f 1)) * xp) / (2 + (f 2))))] C (by decide +kernel) rfl ?_
          exact g_iret (pc := 78) C R (⟨_, rfl, rfl, by unfold s_pl; rw [← hp, if_pos c3]⟩) (Nat.le_of_ble_eq_true rfl) (Nat.le_of_ble_eq_true rfl) (by decide +kernel)
        · refine g_seg [(29, .iload_n 3, 1), (30, .iload_n 2, 1), (31, .isub, 1), (32, .goto 4, 3), (36, .istore 4, 2), (38, .iconst 2, 1), (39, .aload_n 0, 1), (40, .iconst 1, 1)] 41 [(4, .int (xp - (2 + (f 2)))), (0, .ref a), (1, .int d), (2, .int (2 + (f 2))), (3, .int xp)] [.int 1, .ref a, .int 2] C (by decide +kernel) rfl ?_
          refine g_ialdM (pc := 41) (n := 7) 1 (f 1) C ha rfl (by decide) (by decide) (cut_lt (by decide)) (by decide +kernel) ?_
          refine g_seg [(42, .imul, 1), (43, .iload 4, 2), (45, .imul, 1), (46, .iload_n 2, 1)] 47 [(4, .int (xp - (2 + (f 2)))), (0, .ref a), (1, .int d), (2, .int (2 + (f 2))), (3, .int xp)] [.int (2 + (f 2)), .int ((2 * (f 1)) * (xp - (2 + (f 2))))] C (by decide +kernel) rfl ?_
          refine g_idiv (pc := 47) C (by decide +kernel) (y_hne1 hw hfw) ?_
          refine g_seg [(48, .istore 5, 2), (50, .iload_n 3, 1), (51, .iload_n 2, 1)] 52 [(5, .int (((2 * (f 1)) * (xp - (2 + (f 2)))) / (2 + (f 2)))), (4, .int (xp - (2 + (f 2)))), (0, .ref a), (1, .int d), (2, .int (2 + (f 2))), (3, .int xp)] [.int (2 + (f 2)), .int xp] C (by decide +kernel) rfl ?_
          refine g_icmp_le (pc := 52) (off := 16) 68 C (by decide +kernel) (by decide) (fun c9 => absurd c9 (c3)) (fun _ => ?_)
          refine g_seg [(55, .aload_n 0, 1), (56, .iconst 0, 1)] 57 [(5, .int (((2 * (f 1)) * (xp - (2 + (f 2)))) / (2 + (f 2)))), (4, .int (xp - (2 + (f 2)))), (0, .ref a), (1, .int d), (2, .int (2 + (f 2))), (3, .int xp)] [.int 0, .ref a] C (by decide +kernel) rfl ?_
          refine g_ialdM (pc := 57) (n := 7) 0 (f 0) C ha rfl (by decide) (by decide) (cut_lt (by decide)) (by decide +kernel) ?_
          refine g_seg [(58, .aload_n 0, 1), (59, .iconst 1, 1)] 60 [(5, .int (((2 * (f 1)) * (xp - (2 + (f 2)))) / (2 + (f 2)))), (4, .int (xp - (2 + (f 2)))), (0, .ref a), (1, .int d), (2, .int (2 + (f 2))), (3, .int xp)] [.int 1, .ref a, .int (f 0)] C (by decide +kernel) rfl ?_
          refine g_ialdM (pc := 60) (n := 7) 1 (f 1) C ha rfl (by decide) (by decide) (cut_lt (by decide)) (by decide +kernel) ?_
          refine g_seg [(61, .iadd, 1), (62, .iload 5, 2), (64, .isub, 1), (65, .goto 13, 3)] 78 [(5, .int (((2 * (f 1)) * (xp - (2 + (f 2)))) / (2 + (f 2)))), (4, .int (xp - (2 + (f 2)))), (0, .ref a), (1, .int d), (2, .int (2 + (f 2))), (3, .int xp)] [.int (((f 0) + (f 1)) - (((2 * (f 1)) * (xp - (2 + (f 2)))) / (2 + (f 2))))] C (by decide +kernel) rfl ?_
          exact g_iret (pc := 78) C R (⟨_, rfl, rfl, by unfold s_pl; rw [← hp, if_neg c3]⟩) (Nat.le_of_ble_eq_true rfl) (Nat.le_of_ble_eq_true rfl) (by decide +kernel)
      · obtain ⟨r, hr1, hr2⟩ := hr
        have hr3 : 2 * (2 + w) ≤ r := by have e9 := c2; rw [y_h2 hfw, hr1, nI_ltI (by omega) (by omega)] at e9; omega
        have hk9 : k + 1 ≤ n := by have := Nat.le_mul_of_pos_right k (show 0 < 2 * (2 + w) by omega); omega
        refine g_seg [(15, .iload_n 3, 1), (16, .iconst 2, 1), (17, .iload_n 2, 1), (18, .imul, 1), (19, .isub, 1), (20, .istore_n 3, 1), (21, .goto (-13), 3)] 8 [(3, .int (xp - (2 * (2 + (f 2))))), (0, .ref a), (1, .int d), (2, .int (2 + (f 2)))] [] C (by decide +kernel) rfl ?_
        refine g_subp [1, 2, 3, 0] (lv' := [(0, .ref a), (1, .int d), (2, .int (2 + (f 2))), (3, .int (xp - (2 * (2 + (f 2)))))]) rfl ?_
        exact ih (k + 1) (xp - (2 * (2 + (f 2)))) (by omega) (by omega) (⟨r - 2 * (2 + w), by rw [y_h2 hfw, hr1, pk_sub hr3], by have e9 : (k + 1) * (2 * (2 + w)) = k * (2 * (2 + w)) + 2 * (2 + w) := Nat.succ_mul _ _; omega⟩)
  exact lp1 (n + 1) 0 d (by omega) (by omega) (⟨n, hd, by omega⟩)
set_option maxHeartbeats 4000000 in
set_option maxRecDepth 100000 in
theorem c_X5_hang (l : Launch) (D : va_G) (cy : Nat → ClassId) {G : GG} {s : Nat} {rt : Nat → Nat} {rd : Nat → Nat → Nat} {b : Int32} {nt nf nc nn : Nat} {S F Cu N : Rw} (h : RS cy s rt rd b nt nf nc nn S F Cu N G) (t : Int32) : Ctr l D cy yX5_hang prog_7_method_6_code 7 (some .int) kX5_hang [.ref s, .int t] G (pI (fun v G' => G' = G ∧ v = nI (s_hangE F nf t))) := by
  refine Ctr.mk (by decide +kernel) (Nat.le_of_ble_eq_true rfl) ?_
  intro κ C R
  have hbd := h.2.2.2
  refine g_pc (pc' := 0) rfl ?_
  refine g_seg [(0, .iconst 0, 1), (1, .istore_n 2, 1), (2, .aload_n 0, 1)] 3 [(2, .int 0), (0, .ref s), (1, .int t)] [.ref s] C (by decide +kernel) rfl ?_
  refine g_getf (pc := 3) (k := 1) (v := .ref (rt 1)) C fl_X5_15 (h.1.1) rfl (by decide +kernel) ?_
  refine g_seg [(6, .astore_n 3, 1), (7, .aload_n 3, 1)] 8 [(3, .ref (rt 1)), (2, .int 0), (0, .ref s), (1, .int t)] [.ref (rt 1)] C (by decide +kernel) rfl ?_
  refine g_alenI (pc := 8) C (h.1.2.2.1) (by decide +kernel) ?_
  refine g_seg [(9, .istore 4, 2), (11, .iconst 0, 1), (12, .istore 5, 2)] 14 [(5, .int 0), (4, .int (nI nf)), (3, .ref (rt 1)), (2, .int 0), (0, .ref s), (1, .int t)] [] C (by decide +kernel) rfl ?_
  refine g_subp [4, 5, 3, 2, 1, 0] (lv' := [(0, .ref s), (1, .int t), (2, .int 0), (3, .ref (rt 1)), (4, .int (nI nf)), (5, .int 0)]) rfl ?_
  have lp1 : ∀ (m k : Nat) (z xk : Int32), nf + 1 ≤ k + m → k ≤ nf → xk = nI k → z = nI (cnt (fun k => decide (F k 0 = 1 ∧ F k 1 = t)) k) → PG κ 7 0 0 G [(0, .ref s), (1, .int t), (2, .int z), (3, .ref (rt 1)), (4, .int (nI nf)), (5, .int xk)] 14 [] := by
    intro m
    induction m with
    | zero => intro k z xk h1 h2; intros; exact absurd h1 (by omega)
    | succ m ih =>
      intro k z xk hm hk hx hs
      refine g_seg [(14, .iload 5, 2), (16, .iload 4, 2)] 18 [(0, .ref s), (1, .int t), (2, .int z), (3, .ref (rt 1)), (4, .int (nI nf)), (5, .int xk)] [.int (nI nf), .int xk] C (by decide +kernel) rfl ?_
      refine g_icmp_ge (pc := 18) (off := 39) 57 C (by decide +kernel) (by decide) (fun c2 => ?_) (fun c2 => ?_)
      · have hk8 : k = nf := by have := lp_ge hx (by omega) (by omega) c2; omega
        refine g_seg [(57, .iload_n 2, 1)] 58 [(0, .ref s), (1, .int t), (2, .int z), (3, .ref (rt 1)), (4, .int (nI nf)), (5, .int xk)] [.int z] C (by decide +kernel) rfl ?_
        exact g_iret (pc := 58) C R (⟨_, rfl, rfl, by rw [hs, hk8]; rfl⟩) (Nat.le_of_ble_eq_true rfl) (Nat.le_of_ble_eq_true rfl) (by decide +kernel)
      · have hk8 : k < nf := lp_lt hx (by omega) (by omega) c2
        refine g_seg [(21, .aload_n 3, 1), (22, .iload 5, 2)] 24 [(0, .ref s), (1, .int t), (2, .int z), (3, .ref (rt 1)), (4, .int (nI nf)), (5, .int xk)] [.int xk, .ref (rt 1)] C (by decide +kernel) rfl ?_
        refine g_aaldS (pc := 24) (j := k) C (h.1.2.2.1) (hx) (hk8) (by omega) (by decide +kernel) ?_
        refine g_seg [(25, .astore 6, 2), (27, .iload_n 2, 1), (28, .aload 6, 2), (30, .iconst 0, 1)] 31 [(6, .ref (rd 1 k)), (0, .ref s), (1, .int t), (2, .int z), (3, .ref (rt 1)), (4, .int (nI nf)), (5, .int xk)] [.int 0, .ref (rd 1 k), .int z] C (by decide +kernel) rfl ?_
        refine g_ialdM (pc := 31) (n := 5) 0 (F k 0) C (h.2.1.2.1 k hk8) rfl (by decide) (by decide) (cut_lt (by decide)) (by decide +kernel) ?_
        refine g_seg [(32, .iconst 1, 1)] 33 [(6, .ref (rd 1 k)), (0, .ref s), (1, .int t), (2, .int z), (3, .ref (rt 1)), (4, .int (nI nf)), (5, .int xk)] [.int 1, .int (F k 0), .int z] C (by decide +kernel) rfl ?_
        refine g_icmp_ne (pc := 33) (off := 15) 48 C (by decide +kernel) (by decide) (fun c3 => ?_) (fun c3 => ?_)
        · refine g_seg [(48, .iconst 0, 1), (49, .iadd, 1), (50, .istore_n 2, 1), (51, .iinc 5 1, 3), (54, .goto (-40), 3)] 14 [(5, .int (xk + 1)), (2, .int (z + 0)), (6, .ref (rd 1 k)), (0, .ref s), (1, .int t), (3, .ref (rt 1)), (4, .int (nI nf))] [] C (by decide +kernel) rfl ?_
          refine g_subp [3, 4, 1, 5, 6, 0] (lv' := [(0, .ref s), (1, .int t), (2, .int (z + 0)), (3, .ref (rt 1)), (4, .int (nI nf)), (5, .int (xk + 1))]) rfl ?_
          exact ih (k + 1) (z + 0) (xk + 1) (by omega) (by omega) (lp_s hx) (cntU_n hs (decide_eq_false (fun h9 => c3 h9.1)))
        · refine g_seg [(36, .aload 6, 2), (38, .iconst 1, 1)] 39 [(6, .ref (rd 1 k)), (0, .ref s), (1, .int t), (2, .int z), (3, .ref (rt 1)), (4, .int (nI nf)), (5, .int xk)] [.int 1, .ref (rd 1 k), .int z] C (by decide +kernel) rfl ?_
          refine g_ialdM (pc := 39) (n := 5) 1 (F k 1) C (h.2.1.2.1 k hk8) rfl (by decide) (by decide) (cut_lt (by decide)) (by decide +kernel) ?_
          refine g_seg [(40, .iload_n 1, 1)] 41 [(6, .ref (rd 1 k)), (0, .ref s), (1, .int t), (2, .int z), (3, .ref (rt 1)), (4, .int (nI nf)), (5, .int xk)] [.int t, .int (F k 1), .int z] C (by decide +kernel) rfl ?_
          refine g_icmp_ne (pc := 41) (off := 7) 48 C (by decide +kernel) (by decide) (fun c4 => ?_) (fun c4 => ?_)
          · refine g_seg [(48, .iconst 0, 1), (49, .iadd, 1), (50, .istore_n 2, 1), (51, .iinc 5 1, 3), (54, .goto (-40), 3)] 14 [(5, .int (xk + 1)), (2, .int (z + 0)), (6, .ref (rd 1 k)), (0, .ref s), (1, .int t), (3, .ref (rt 1)), (4, .int (nI nf))] [] C (by decide +kernel) rfl ?_
            refine g_subp [3, 4, 1, 5, 6, 0] (lv' := [(0, .ref s), (1, .int t), (2, .int (z + 0)), (3, .ref (rt 1)), (4, .int (nI nf)), (5, .int (xk + 1))]) rfl ?_
            exact ih (k + 1) (z + 0) (xk + 1) (by omega) (by omega) (lp_s hx) (cntU_n hs (decide_eq_false (fun h9 => c4 h9.2)))
          · refine g_seg [(44, .iconst 1, 1), (45, .goto 4, 3), (49, .iadd, 1), (50, .istore_n 2, 1), (51, .iinc 5 1, 3), (54, .goto (-40), 3)] 14 [(5, .int (xk + 1)), (2, .int (z + 1)), (6, .ref (rd 1 k)), (0, .ref s), (1, .int t), (3, .ref (rt 1)), (4, .int (nI nf))] [] C (by decide +kernel) rfl ?_
            refine g_subp [3, 4, 1, 5, 6, 0] (lv' := [(0, .ref s), (1, .int t), (2, .int (z + 1)), (3, .ref (rt 1)), (4, .int (nI nf)), (5, .int (xk + 1))]) rfl ?_
            exact ih (k + 1) (z + 1) (xk + 1) (by omega) (by omega) (lp_s hx) (cntU_y hs (decide_eq_true ⟨c3, c4⟩))
  exact lp1 (nf + 1) 0 0 0 (by omega) (by omega) (nI_0.symm) (rfl)
set_option maxHeartbeats 4000000 in
set_option maxRecDepth 100000 in
theorem c_X5_in (l : Launch) (D : va_G) (cy : Nat → ClassId) {G : GG} {s : Nat} {rt : Nat → Nat} {rd : Nat → Nat → Nat} {b : Int32} {nt nf nc nn : Nat} {S F Cu N : Rw} (h : RS cy s rt rd b nt nf nc nn S F Cu N G) (t : Int32) : Ctr l D cy yX5_in prog_7_method_11_code 7 (some .int) kX5_in [.ref s, .int t] G (pI (fun v G' => G' = G ∧ v = nI (cnt (fun k => decide (F k 0 = t)) nf))) := by
  refine Ctr.mk (by decide +kernel) (Nat.le_of_ble_eq_true rfl) ?_
  intro κ C R
  have hbd := h.2.2.2
  refine g_pc (pc' := 0) rfl ?_
  refine g_seg [(0, .iconst 0, 1), (1, .istore_n 2, 1), (2, .aload_n 0, 1)] 3 [(2, .int 0), (0, .ref s), (1, .int t)] [.ref s] C (by decide +kernel) rfl ?_
  refine g_getf (pc := 3) (k := 1) (v := .ref (rt 1)) C fl_X5_15 (h.1.1) rfl (by decide +kernel) ?_
  refine g_seg [(6, .astore_n 3, 1), (7, .aload_n 3, 1)] 8 [(3, .ref (rt 1)), (2, .int 0), (0, .ref s), (1, .int t)] [.ref (rt 1)] C (by decide +kernel) rfl ?_
  refine g_alenI (pc := 8) C (h.1.2.2.1) (by decide +kernel) ?_
  refine g_seg [(9, .istore 4, 2), (11, .iconst 0, 1), (12, .istore 5, 2)] 14 [(5, .int 0), (4, .int (nI nf)), (3, .ref (rt 1)), (2, .int 0), (0, .ref s), (1, .int t)] [] C (by decide +kernel) rfl ?_
  refine g_subp [4, 5, 3, 2, 1, 0] (lv' := [(0, .ref s), (1, .int t), (2, .int 0), (3, .ref (rt 1)), (4, .int (nI nf)), (5, .int 0)]) rfl ?_
  have lp1 : ∀ (m k : Nat) (z xk : Int32), nf + 1 ≤ k + m → k ≤ nf → xk = nI k → z = nI (cnt (fun k => decide (F k 0 = t)) k) → PG κ 7 0 0 G [(0, .ref s), (1, .int t), (2, .int z), (3, .ref (rt 1)), (4, .int (nI nf)), (5, .int xk)] 14 [] := by
    intro m
    induction m with
    | zero => intro k z xk h1 h2; intros; exact absurd h1 (by omega)
    | succ m ih =>
      intro k z xk hm hk hx hs
      refine g_seg [(14, .iload 5, 2), (16, .iload 4, 2)] 18 [(0, .ref s), (1, .int t), (2, .int z), (3, .ref (rt 1)), (4, .int (nI nf)), (5, .int xk)] [.int (nI nf), .int xk] C (by decide +kernel) rfl ?_
      refine g_icmp_ge (pc := 18) (off := 31) 49 C (by decide +kernel) (by decide) (fun c2 => ?_) (fun c2 => ?_)
      · have hk8 : k = nf := by have := lp_ge hx (by omega) (by omega) c2; omega
        refine g_seg [(49, .iload_n 2, 1)] 50 [(0, .ref s), (1, .int t), (2, .int z), (3, .ref (rt 1)), (4, .int (nI nf)), (5, .int xk)] [.int z] C (by decide +kernel) rfl ?_
        exact g_iret (pc := 50) C R (⟨_, rfl, rfl, by rw [hs, hk8]⟩) (Nat.le_of_ble_eq_true rfl) (Nat.le_of_ble_eq_true rfl) (by decide +kernel)
      · have hk8 : k < nf := lp_lt hx (by omega) (by omega) c2
        refine g_seg [(21, .aload_n 3, 1), (22, .iload 5, 2)] 24 [(0, .ref s), (1, .int t), (2, .int z), (3, .ref (rt 1)), (4, .int (nI nf)), (5, .int xk)] [.int xk, .ref (rt 1)] C (by decide +kernel) rfl ?_
        refine g_aaldS (pc := 24) (j := k) C (h.1.2.2.1) (hx) (hk8) (by omega) (by decide +kernel) ?_
        refine g_seg [(25, .astore 6, 2), (27, .iload_n 2, 1), (28, .aload 6, 2), (30, .iconst 0, 1)] 31 [(6, .ref (rd 1 k)), (0, .ref s), (1, .int t), (2, .int z), (3, .ref (rt 1)), (4, .int (nI nf)), (5, .int xk)] [.int 0, .ref (rd 1 k), .int z] C (by decide +kernel) rfl ?_
        refine g_ialdM (pc := 31) (n := 5) 0 (F k 0) C (h.2.1.2.1 k hk8) rfl (by decide) (by decide) (cut_lt (by decide)) (by decide +kernel) ?_
        refine g_seg [(32, .iload_n 1, 1)] 33 [(6, .ref (rd 1 k)), (0, .ref s), (1, .int t), (2, .int z), (3, .ref (rt 1)), (4, .int (nI nf)), (5, .int xk)] [.int t, .int (F k 0), .int z] C (by decide +kernel) rfl ?_
        refine g_icmp_ne (pc := 33) (off := 7) 40 C (by decide +kernel) (by decide) (fun c3 => ?_) (fun c3 => ?_)
        · refine g_seg [(40, .iconst 0, 1), (41, .iadd, 1), (42, .istore_n 2, 1), (43, .iinc 5 1, 3), (46, .goto (-32), 3)] 14 [(5, .int (xk + 1)), (2, .int (z + 0)), (6, .ref (rd 1 k)), (0, .ref s), (1, .int t), (3, .ref (rt 1)), (4, .int (nI nf))] [] C (by decide +kernel) rfl ?_
          refine g_subp [3, 4, 1, 5, 6, 0] (lv' := [(0, .ref s), (1, .int t), (2, .int (z + 0)), (3, .ref (rt 1)), (4, .int (nI nf)), (5, .int (xk + 1))]) rfl ?_
          exact ih (k + 1) (z + 0) (xk + 1) (by omega) (by omega) (lp_s hx) (cntU_n hs (decide_eq_false c3))
        · refine g_seg [(36, .iconst 1, 1), (37, .goto 4, 3), (41, .iadd, 1), (42, .istore_n 2, 1), (43, .iinc 5 1, 3), (46, .goto (-32), 3)] 14 [(5, .int (xk + 1)), (2, .int (z + 1)), (6, .ref (rd 1 k)), (0, .ref s), (1, .int t), (3, .ref (rt 1)), (4, .int (nI nf))] [] C (by decide +kernel) rfl ?_
          refine g_subp [3, 4, 1, 5, 6, 0] (lv' := [(0, .ref s), (1, .int t), (2, .int (z + 1)), (3, .ref (rt 1)), (4, .int (nI nf)), (5, .int (xk + 1))]) rfl ?_
          exact ih (k + 1) (z + 1) (xk + 1) (by omega) (by omega) (lp_s hx) (cntU_y hs (decide_eq_true c3))
  exact lp1 (nf + 1) 0 0 0 (by omega) (by omega) (nI_0.symm) (rfl)
set_option maxHeartbeats 4000000 in
set_option maxRecDepth 100000 in
theorem c_X5_open (l : Launch) (D : va_G) (cy : Nat → ClassId) {G : GG} {s : Nat} {rt : Nat → Nat} {rd : Nat → Nat → Nat} {b : Int32} {nt nf nc nn : Nat} {S F Cu N : Rw} (h : RS cy s rt rd b nt nf nc nn S F Cu N G) : Ctr l D cy yX5_open prog_7_method_12_code 6 (some .int) kX5_open [.ref s] G (pI (fun v G' => G' = G ∧ v = nI (cnt (fun k => decide (Cu k 4 = 0)) nc))) := by
  refine Ctr.mk (by decide +kernel) (Nat.le_of_ble_eq_true rfl) ?_
  intro κ C R
  have hbd := h.2.2.2
  refine g_pc (pc' := 0) rfl ?_
  refine g_seg [(0, .iconst 0, 1), (1, .istore_n 1, 1), (2, .aload_n 0, 1)] 3 [(1, .int 0), (0, .ref s)] [.ref s] C (by decide +kernel) rfl ?_
  refine g_getf (pc := 3) (k := 2) (v := .ref (rt 2)) C fl_X5_18 (h.1.1) rfl (by decide +kernel) ?_
  refine g_seg [(6, .astore_n 2, 1), (7, .aload_n 2, 1)] 8 [(2, .ref (rt 2)), (1, .int 0), (0, .ref s)] [.ref (rt 2)] C (by decide +kernel) rfl ?_
  refine g_alenI (pc := 8) C (h.1.2.2.2.1) (by decide +kernel) ?_
  refine g_seg [(9, .istore_n 3, 1), (10, .iconst 0, 1), (11, .istore 4, 2)] 13 [(4, .int 0), (3, .int (nI nc)), (2, .ref (rt 2)), (1, .int 0), (0, .ref s)] [] C (by decide +kernel) rfl ?_
  refine g_subp [4, 3, 2, 1, 0] (lv' := [(0, .ref s), (1, .int 0), (2, .ref (rt 2)), (3, .int (nI nc)), (4, .int 0)]) rfl ?_
  have lp1 : ∀ (m k : Nat) (z xk : Int32), nc + 1 ≤ k + m → k ≤ nc → xk = nI k → z = nI (cnt (fun k => decide (Cu k 4 = 0)) k) → PG κ 6 0 0 G [(0, .ref s), (1, .int z), (2, .ref (rt 2)), (3, .int (nI nc)), (4, .int xk)] 13 [] := by
    intro m
    induction m with
    | zero => intro k z xk h1 h2; intros; exact absurd h1 (by omega)
    | succ m ih =>
      intro k z xk hm hk hx hs
      refine g_seg [(13, .iload 4, 2), (15, .iload_n 3, 1)] 16 [(0, .ref s), (1, .int z), (2, .ref (rt 2)), (3, .int (nI nc)), (4, .int xk)] [.int (nI nc), .int xk] C (by decide +kernel) rfl ?_
      refine g_icmp_ge (pc := 16) (off := 30) 46 C (by decide +kernel) (by decide) (fun c2 => ?_) (fun c2 => ?_)
      · have hk8 : k = nc := by have := lp_ge hx (by omega) (by omega) c2; omega
        refine g_seg [(46, .iload_n 1, 1)] 47 [(0, .ref s), (1, .int z), (2, .ref (rt 2)), (3, .int (nI nc)), (4, .int xk)] [.int z] C (by decide +kernel) rfl ?_
        exact g_iret (pc := 47) C R (⟨_, rfl, rfl, by rw [hs, hk8]⟩) (Nat.le_of_ble_eq_true rfl) (Nat.le_of_ble_eq_true rfl) (by decide +kernel)
      · have hk8 : k < nc := lp_lt hx (by omega) (by omega) c2
        refine g_seg [(19, .aload_n 2, 1), (20, .iload 4, 2)] 22 [(0, .ref s), (1, .int z), (2, .ref (rt 2)), (3, .int (nI nc)), (4, .int xk)] [.int xk, .ref (rt 2)] C (by decide +kernel) rfl ?_
        refine g_aaldS (pc := 22) (j := k) C (h.1.2.2.2.1) (hx) (hk8) (by omega) (by decide +kernel) ?_
        refine g_seg [(23, .astore 5, 2), (25, .iload_n 1, 1), (26, .aload 5, 2), (28, .iconst 4, 1)] 29 [(5, .ref (rd 2 k)), (0, .ref s), (1, .int z), (2, .ref (rt 2)), (3, .int (nI nc)), (4, .int xk)] [.int 4, .ref (rd 2 k), .int z] C (by decide +kernel) rfl ?_
        refine g_ialdM (pc := 29) (n := 5) 4 (Cu k 4) C (h.2.1.2.2.1 k hk8) rfl (by decide) (by decide) (cut_lt (by decide)) (by decide +kernel) ?_
        refine g_if_ne (pc := 30) (off := 7) 37 C (by decide +kernel) (by decide) (fun c3 => ?_) (fun c3 => ?_)
        · refine g_seg [(37, .iconst 0, 1), (38, .iadd, 1), (39, .istore_n 1, 1), (40, .iinc 4 1, 3), (43, .goto (-30), 3)] 13 [(4, .int (xk + 1)), (1, .int (z + 0)), (5, .ref (rd 2 k)), (0, .ref s), (2, .ref (rt 2)), (3, .int (nI nc))] [] C (by decide +kernel) rfl ?_
          refine g_subp [3, 1, 4, 5, 0] (lv' := [(0, .ref s), (1, .int (z + 0)), (2, .ref (rt 2)), (3, .int (nI nc)), (4, .int (xk + 1))]) rfl ?_
          exact ih (k + 1) (z + 0) (xk + 1) (by omega) (by omega) (lp_s hx) (cntU_n hs (decide_eq_false c3))
        · refine g_seg [(33, .iconst 1, 1), (34, .goto 4, 3), (38, .iadd, 1), (39, .istore_n 1, 1), (40, .iinc 4 1, 3), (43, .goto (-30), 3)] 13 [(4, .int (xk + 1)), (1, .int (z + 1)), (5, .ref (rd 2 k)), (0, .ref s), (2, .ref (rt 2)), (3, .int (nI nc))] [] C (by decide +kernel) rfl ?_
          refine g_subp [3, 1, 4, 5, 0] (lv' := [(0, .ref s), (1, .int (z + 1)), (2, .ref (rt 2)), (3, .int (nI nc)), (4, .int (xk + 1))]) rfl ?_
          exact ih (k + 1) (z + 1) (xk + 1) (by omega) (by omega) (lp_s hx) (cntU_y hs (decide_eq_true c3))
  exact lp1 (nc + 1) 0 0 0 (by omega) (by omega) (nI_0.symm) (rfl)
theorem y_net {p : Nat → Bool} {k : Nat} (h : ∀ t, t < k → p t = false) (hp : p k = false) : ∀ t, t < k + 1 → p t = false := by
  intro t ht
  by_cases e : t = k
  · subst e; exact hp
  · exact h t (by omega)
set_option maxHeartbeats 4000000 in
set_option maxRecDepth 100000 in
theorem c_X5_net (l : Launch) (D : va_G) (cy : Nat → ClassId) {G : GG} {s : Nat} {rt : Nat → Nat} {rd : Nat → Nat → Nat} {b : Int32} {nt nf nc nn : Nat} {S F Cu N : Rw} (h : RS cy s rt rd b nt nf nc nn S F Cu N G) (p0 : Int32) : Ctr l D cy yX5_net prog_7_method_7_code 6 (some .boolean) kX5_net [.ref s, .int p0] G (pI (fun v G' => G' = G ∧ ((v = 1 ∧ s_net N nn p0 = true) ∨ (v = 0 ∧ s_net N nn p0 = false)))) := by
  refine Ctr.mk (by decide +kernel) (Nat.le_of_ble_eq_true rfl) ?_
  intro κ C R
  have hbd := h.2.2.2
  refine g_pc (pc' := 0) rfl ?_
  refine g_seg [(0, .aload_n 0, 1)] 1 [(0, .ref s), (1, .int p0)] [.ref s] C (by decide +kernel) rfl ?_
  refine g_getf (pc := 1) (k := 3) (v := .ref (rt 3)) C fl_X5_21 (h.1.1) rfl (by decide +kernel) ?_
  refine g_seg [(4, .astore_n 2, 1), (5, .aload_n 2, 1)] 6 [(2, .ref (rt 3)), (0, .ref s), (1, .int p0)] [.ref (rt 3)] C (by decide +kernel) rfl ?_
  refine g_alenI (pc := 6) C (h.1.2.2.2.2) (by decide +kernel) ?_
  refine g_seg [(7, .istore_n 3, 1), (8, .iconst 0, 1), (9, .istore 4, 2)] 11 [(4, .int 0), (3, .int (nI nn)), (2, .ref (rt 3)), (0, .ref s), (1, .int p0)] [] C (by decide +kernel) rfl ?_
  refine g_subp [3, 4, 2, 1, 0] (lv' := [(0, .ref s), (1, .int p0), (2, .ref (rt 3)), (3, .int (nI nn)), (4, .int 0)]) rfl ?_
  have lp1 : ∀ (m k : Nat) (xk : Int32), nn + 1 ≤ k + m → k ≤ nn → xk = nI k → (∀ t, t < k → (decide (N t 0 ≤ p0) && decide (p0 ≤ N t 1)) = false) → PG κ 6 0 0 G [(0, .ref s), (1, .int p0), (2, .ref (rt 3)), (3, .int (nI nn)), (4, .int xk)] 11 [] := by
    intro m
    induction m with
    | zero => intro k xk h1 h2; intros; exact absurd h1 (by omega)
    | succ m ih =>
      intro k xk hm hk hx hs
      refine g_seg [(11, .iload 4, 2), (13, .iload_n 3, 1)] 14 [(0, .ref s), (1, .int p0), (2, .ref (rt 3)), (3, .int (nI nn)), (4, .int xk)] [.int (nI nn), .int xk] C (by decide +kernel) rfl ?_
      refine g_icmp_ge (pc := 14) (off := 33) 47 C (by decide +kernel) (by decide) (fun c2 => ?_) (fun c2 => ?_)
      · have hk8 : k = nn := by have := lp_ge hx (by omega) (by omega) c2; omega
        refine g_seg [(47, .iconst 0, 1)] 48 [(0, .ref s), (1, .int p0), (2, .ref (rt 3)), (3, .int (nI nn)), (4, .int xk)] [.int 0] C (by decide +kernel) rfl ?_
        exact g_zret (pc := 48) C R (by first | rfl | decide) (⟨_, rfl, rfl, Or.inr ⟨rfl, by unfold s_net; rw [fst_none (fun t ht => hs t (by omega))]; rfl⟩⟩) (Nat.le_of_ble_eq_true rfl) (Nat.le_of_ble_eq_true rfl) (by decide +kernel)
      · have hk8 : k < nn := lp_lt hx (by omega) (by omega) c2
        refine g_seg [(17, .aload_n 2, 1), (18, .iload 4, 2)] 20 [(0, .ref s), (1, .int p0), (2, .ref (rt 3)), (3, .int (nI nn)), (4, .int xk)] [.int xk, .ref (rt 3)] C (by decide +kernel) rfl ?_
        refine g_aaldS (pc := 20) (j := k) C (h.1.2.2.2.2) (hx) (hk8) (by omega) (by decide +kernel) ?_
        refine g_seg [(21, .astore 5, 2), (23, .iload_n 1, 1), (24, .aload 5, 2), (26, .iconst 0, 1)] 27 [(5, .ref (rd 3 k)), (0, .ref s), (1, .int p0), (2, .ref (rt 3)), (3, .int (nI nn)), (4, .int xk)] [.int 0, .ref (rd 3 k), .int p0] C (by decide +kernel) rfl ?_
        refine g_ialdM (pc := 27) (n := 2) 0 (N k 0) C (h.2.1.2.2.2 k hk8) rfl (by decide) (by decide) (cut_lt (by decide)) (by decide +kernel) ?_
        refine g_icmp_lt (pc := 28) (off := 13) 41 C (by decide +kernel) (by decide) (fun c3 => ?_) (fun c3 => ?_)
        · refine g_seg [(41, .iinc 4 1, 3), (44, .goto (-33), 3)] 11 [(4, .int (xk + 1)), (5, .ref (rd 3 k)), (0, .ref s), (1, .int p0), (2, .ref (rt 3)), (3, .int (nI nn))] [] C (by decide +kernel) rfl ?_
          refine g_subp [2, 3, 4, 5, 0] (lv' := [(0, .ref s), (1, .int p0), (2, .ref (rt 3)), (3, .int (nI nn)), (4, .int (xk + 1))]) rfl ?_
          exact ih (k + 1) (xk + 1) (by omega) (by omega) (lp_s hx) (y_net hs (by rw [decide_eq_false (Int32.not_le.mpr c3)]; rfl))
        · refine g_seg [(31, .iload_n 1, 1), (32, .aload 5, 2), (34, .iconst 1, 1)] 35 [(5, .ref (rd 3 k)), (0, .ref s), (1, .int p0), (2, .ref (rt 3)), (3, .int (nI nn)), (4, .int xk)] [.int 1, .ref (rd 3 k), .int p0] C (by decide +kernel) rfl ?_
          refine g_ialdM (pc := 35) (n := 2) 1 (N k 1) C (h.2.1.2.2.2 k hk8) rfl (by decide) (by decide) (cut_lt (by decide)) (by decide +kernel) ?_
          refine g_icmp_gt (pc := 36) (off := 5) 41 C (by decide +kernel) (by decide) (fun c4 => ?_) (fun c4 => ?_)
          · refine g_seg [(41, .iinc 4 1, 3), (44, .goto (-33), 3)] 11 [(4, .int (xk + 1)), (5, .ref (rd 3 k)), (0, .ref s), (1, .int p0), (2, .ref (rt 3)), (3, .int (nI nn))] [] C (by decide +kernel) rfl ?_
            refine g_subp [2, 3, 4, 5, 0] (lv' := [(0, .ref s), (1, .int p0), (2, .ref (rt 3)), (3, .int (nI nn)), (4, .int (xk + 1))]) rfl ?_
            exact ih (k + 1) (xk + 1) (by omega) (by omega) (lp_s hx) (y_net hs (by rw [decide_eq_false (Int32.not_le.mpr c4), Bool.and_false]))
          · refine g_seg [(39, .iconst 1, 1)] 40 [(5, .ref (rd 3 k)), (0, .ref s), (1, .int p0), (2, .ref (rt 3)), (3, .int (nI nn)), (4, .int xk)] [.int 1] C (by decide +kernel) rfl ?_
            exact g_zret (pc := 40) C R (by first | rfl | decide) (⟨_, rfl, rfl, Or.inl ⟨rfl, by unfold s_net; rw [fst_some hk8 (by rw [decide_eq_true (Int32.not_lt.mp c3), decide_eq_true (Int32.not_lt.mp c4)]; rfl) hs]; rfl⟩⟩) (Nat.le_of_ble_eq_true rfl) (Nat.le_of_ble_eq_true rfl) (by decide +kernel)
  exact lp1 (nn + 1) 0 0 (by omega) (by omega) (nI_0.symm) (fun t h1 => absurd h1 (by omega))
set_option maxHeartbeats 4000000 in
set_option maxRecDepth 100000 in
theorem c_X5_state (l : Launch) (D : va_G) (cy : Nat → ClassId) {G : GG} {s : Nat} {rt : Nat → Nat} {rd : Nat → Nat → Nat} {b : Int32} {nt nf nc nn : Nat} {S F Cu N : Rw} (h : RS cy s rt rd b nt nf nc nn S F Cu N G) (i : Nat) (hi : i < nf) (a1 a2 a3 a4 : Int32) : Ctr l D cy yX5_state prog_7_method_8_code 6 none kX5_state [.ref s, .ref (rd 1 i), .int a1, .int a2, .int a3, .int a4] G (pV (fun G' => RS cy s rt rd b nt nf nc nn S (s_row F i a1 a2 a3 a4) Cu N G')) := by
  refine Ctr.mk (by decide +kernel) (Nat.le_of_ble_eq_true rfl) ?_
  intro κ C R
  have hbd := h.2.2.2
  refine g_pc (pc' := 0) rfl ?_
  refine g_seg [(0, .aload_n 1, 1), (1, .iconst 0, 1), (2, .iload_n 2, 1)] 3 [(0, .ref s), (1, .ref (rd 1 i)), (2, .int a1), (3, .int a2), (4, .int a3), (5, .int a4)] [.int a1, .int 0, .ref (rd 1 i)] C (by decide +kernel) rfl ?_
  refine g_iastM (pc := 3) (n := 5) 0 (cut 5 ((s_set F i 0 a1) i)) C (h.2.1.2.1 i hi) rfl (by decide) (by decide) (cut_upd (by decide)) (by decide +kernel) ?_
  refine g_abs (P := fun G9 => RS cy s rt rd b nt nf nc nn S (s_set F i 0 a1) Cu N G9) (RS.w1 h hi (fun j9 h9 => s_set_ne h9)) (fun G1 h2 => ?_)
  refine g_seg [(4, .aload_n 1, 1), (5, .iconst 1, 1), (6, .iload_n 3, 1)] 7 [(0, .ref s), (1, .ref (rd 1 i)), (2, .int a1), (3, .int a2), (4, .int a3), (5, .int a4)] [.int a2, .int 1, .ref (rd 1 i)] C (by decide +kernel) rfl ?_
  refine g_iastM (pc := 7) (n := 5) 1 (cut 5 ((s_set (s_set F i 0 a1) i 1 a2) i)) C (h2.2.1.2.1 i hi) rfl (by decide) (by decide) (cut_upd (by decide)) (by decide +kernel) ?_
  refine g_abs (P := fun G9 => RS cy s rt rd b nt nf nc nn S (s_set (s_set F i 0 a1) i 1 a2) Cu N G9) (RS.w1 h2 hi (fun j9 h9 => s_set_ne h9)) (fun G3 h4 => ?_)
  refine g_seg [(8, .aload_n 1, 1), (9, .iconst 2, 1), (10, .iload 4, 2)] 12 [(0, .ref s), (1, .ref (rd 1 i)), (2, .int a1), (3, .int a2), (4, .int a3), (5, .int a4)] [.int a3, .int 2, .ref (rd 1 i)] C (by decide +kernel) rfl ?_
  refine g_iastM (pc := 12) (n := 5) 2 (cut 5 ((s_set (s_set (s_set F i 0 a1) i 1 a2) i 2 a3) i)) C (h4.2.1.2.1 i hi) rfl (by decide) (by decide) (cut_upd (by decide)) (by decide +kernel) ?_
  refine g_abs (P := fun G9 => RS cy s rt rd b nt nf nc nn S (s_set (s_set (s_set F i 0 a1) i 1 a2) i 2 a3) Cu N G9) (RS.w1 h4 hi (fun j9 h9 => s_set_ne h9)) (fun G5 h6 => ?_)
  refine g_seg [(13, .aload_n 1, 1), (14, .iconst 3, 1), (15, .iload 5, 2)] 17 [(0, .ref s), (1, .ref (rd 1 i)), (2, .int a1), (3, .int a2), (4, .int a3), (5, .int a4)] [.int a4, .int 3, .ref (rd 1 i)] C (by decide +kernel) rfl ?_
  refine g_iastM (pc := 17) (n := 5) 3 (cut 5 ((s_set (s_set (s_set (s_set F i 0 a1) i 1 a2) i 2 a3) i 3 a4) i)) C (h6.2.1.2.1 i hi) rfl (by decide) (by decide) (cut_upd (by decide)) (by decide +kernel) ?_
  refine g_abs (P := fun G9 => RS cy s rt rd b nt nf nc nn S (s_set (s_set (s_set (s_set F i 0 a1) i 1 a2) i 2 a3) i 3 a4) Cu N G9) (RS.w1 h6 hi (fun j9 h9 => s_set_ne h9)) (fun G7 h8 => ?_)
  exact g_vret (pc := 18) C R (⟨rfl, by rw [← row4_eq]; exact h8⟩) (Nat.le_of_ble_eq_true rfl) (Nat.le_of_ble_eq_true rfl) (by decide +kernel)
set_option maxHeartbeats 4000000 in
set_option maxRecDepth 100000 in
theorem c_X5_falls (l : Launch) (D : va_G) (cy : Nat → ClassId) {G : GG} {s : Nat} {rt : Nat → Nat} {rd : Nat → Nat → Nat} {b : Int32} {nt nf nc nn : Nat} {S F Cu N : Rw} (h : RS cy s rt rd b nt nf nc nn S F Cu N G) (i : Nat) (hi : i < nf) (p0 : Int32) : Ctr l D cy yX5_falls prog_7_method_9_code 3 none kX5_falls [.ref s, .ref (rd 1 i), .int p0] G (pV (fun G' => RS cy s rt rd b nt nf nc nn S (s_fall N nn F i p0) Cu N G')) := by
  refine Ctr.mk (by decide +kernel) (Nat.le_of_ble_eq_true rfl) ?_
  intro κ C R
  have hbd := h.2.2.2
  refine g_pc (pc' := 0) rfl ?_
  refine g_seg [(0, .aload_n 0, 1), (1, .aload_n 1, 1), (2, .aload_n 0, 1), (3, .iload_n 2, 1)] 4 [(0, .ref s), (1, .ref (rd 1 i)), (2, .int p0)] [.int p0, .ref s, .ref (rd 1 i), .ref s] C (by decide +kernel) rfl ?_
  refine g_callV (pc := 4) C mV_X5_net q370 (h.1.1) rfl rfl (c_X5_net l D cy h p0) rfl ⟨⟨Nat.le_of_ble_eq_true rfl, Nat.le_of_ble_eq_true rfl⟩, Nat.le_of_ble_eq_true rfl, Nat.le_of_ble_eq_true rfl⟩ rfl (Nat.le_of_ble_eq_true rfl) (by decide +kernel) ?_
  refine g_kI (fun v3 G2 hp1 => ?_)
  obtain ⟨rfl, hp1⟩ := hp1
  rcases hp1 with ⟨rfl, h4⟩ | ⟨rfl, h4⟩
  · refine g_if_eq (pc := 7) (off := 7) 14 C (by decide +kernel) (by decide) (fun c9 => absurd c9 (by decide)) (fun _ => ?_)
    refine g_seg [(10, .iconst 3, 1), (11, .goto 4, 3), (15, .iconst (-1), 1), (16, .iconst 0, 1), (17, .iconst (-1), 1)] 18 [(0, .ref s), (1, .ref (rd 1 i)), (2, .int p0)] [.int (-1), .int 0, .int (-1), .int 3, .ref (rd 1 i), .ref s] C (by decide +kernel) rfl ?_
    refine g_callV (pc := 18) C mV_X5_state q358 (h.1.1) rfl rfl (c_X5_state l D cy h i hi 3 (-1) 0 (-1)) rfl ⟨⟨Nat.le_of_ble_eq_true rfl, Nat.le_of_ble_eq_true rfl⟩, Nat.le_of_ble_eq_true rfl, Nat.le_of_ble_eq_true rfl⟩ rfl (Nat.le_of_ble_eq_true rfl) (by decide +kernel) ?_
    refine g_kV (fun G5 h6 => ?_)
    exact g_vret (pc := 21) C R (⟨rfl, by unfold s_fall; rw [if_pos h4]; exact h6⟩) (Nat.le_of_ble_eq_true rfl) (Nat.le_of_ble_eq_true rfl) (by decide +kernel)
  · refine g_if_eq (pc := 7) (off := 7) 14 C (by decide +kernel) (by decide) (fun _ => ?_) (fun c9 => absurd (by decide) c9)
    refine g_seg [(14, .iconst 4, 1), (15, .iconst (-1), 1), (16, .iconst 0, 1), (17, .iconst (-1), 1)] 18 [(0, .ref s), (1, .ref (rd 1 i)), (2, .int p0)] [.int (-1), .int 0, .int (-1), .int 4, .ref (rd 1 i), .ref s] C (by decide +kernel) rfl ?_
    refine g_callV (pc := 18) C mV_X5_state q358 (h.1.1) rfl rfl (c_X5_state l D cy h i hi 4 (-1) 0 (-1)) rfl ⟨⟨Nat.le_of_ble_eq_true rfl, Nat.le_of_ble_eq_true rfl⟩, Nat.le_of_ble_eq_true rfl, Nat.le_of_ble_eq_true rfl⟩ rfl (Nat.le_of_ble_eq_true rfl) (by decide +kernel) ?_
    refine g_kV (fun G7 h8 => ?_)
    exact g_vret (pc := 21) C R (⟨rfl, by unfold s_fall; rw [if_neg (by rw [h4]; decide)]; exact h8⟩) (Nat.le_of_ble_eq_true rfl) (Nat.le_of_ble_eq_true rfl) (by decide +kernel)
