/-! landings, ropes, beats -/
theorem caught_same {F F' : Rw} {n : Nat} (h : ∀ f, f < n → F' f 4 = F f 4) : s_caught F' n = s_caught F n := by
  induction n with
  | zero => rfl
  | succ n ih =>
    have e := ih (fun f hf => h f (by omega))
    simp only [s_caught, its] at e ⊢
    rw [e, h n (by omega)]
theorem caught_one {F F' : Rw} {n f : Nat} (hf : f < n) (h1 : F' f 4 = F f 4 + 1) (ho : ∀ g, g < n → g ≠ f → F' g 4 = F g 4) : s_caught F' n = s_caught F n + 1 := by
  induction n with
  | zero => omega
  | succ n ih =>
    by_cases hfn : f = n
    · subst hfn
      have e := caught_same (F := F) (F' := F') (n := f) (fun g hg => ho g (by omega) (by omega))
      simp only [s_caught, its] at e ⊢
      rw [e, h1, Int32.add_assoc]
    · have e := ih (by omega) (fun g hg => ho g (by omega))
      simp only [s_caught, its] at e ⊢
      rw [e, ho n (by omega) (fun q => hfn q.symm), Int32.add_assoc, Int32.add_comm 1, Int32.add_assoc]
theorem fall_4 {N : Rw} {nn f g : Nat} {F : Rw} {x : Int32} : s_fall N nn F f x g 4 = F g 4 := by
  unfold s_fall s_row
  split
  · rename_i h; subst h; rfl
  · rfl
section SIM2
variable {T E F C N : Rw} {nt nf nc nn : Nat} {b κ : Int32}
theorem sim_land {f : Nat} (hb : nt ≤ 6 ∧ nf ≤ 8) (hT : nvT nt T) (h : SF nt nf E F) (hf : f < nf) : SF nt nf (x_land N nn T nt nf b f (E, κ)).1 (m_lnd N nn T nt nf b f F) ∧ (x_land N nn T nt nf b f (E, κ)).2 + s_caught F nf = κ + s_caught (m_lnd N nn T nt nf b f F) nf := by
  obtain ⟨k1, k2, k3, k4⟩ := h.1 f hf
  by_cases h2 : F f 0 = 2
  · obtain ⟨p2, p3⟩ := k4 h2
    by_cases h3 : F f 3 = b
    · have efr : fst (s_freeX T E nf b (E f 2)) nt = fst (m_free T F nf b (F f 2)) nt := fst_congr (fun t ht => free_eq hb hT h ht p2)
      simp only [x_land, m_lnd, m_land]
      rw [if_pos ⟨k1.trans h2, p3.trans h3⟩, if_pos ⟨h2, h3⟩, efr]
      cases hfs : fst (m_free T F nf b (F f 2)) nt with
      | none =>
        simp only
        rw [p2]
        exact ⟨SF_fall h, by rw [caught_same (fun g _ => fall_4)]⟩
      | some t =>
        simp only
        have ht := (fst_inv hfs).1
        refine ⟨SF_caught (SF_row h (by simp [x_st]) (by simp [x_st]) (by simp [x_st]) (fun q => absurd q (by decide)) (fun g hg => by funext k; simp [x_st, hg]) (fun _ => ⟨t, ht, rfl⟩) (fun q => absurd rfl q) (fun _ => rfl)) (by rw [k3]; simp [s_row]), ?_⟩
        rw [caught_one (F := F) (F' := s_set (s_row F f 1 (nI t) 0 (-1)) f 4 (s_row F f 1 (nI t) 0 (-1) f 4 + 1)) hf (by simp [s_set, s_row]) (fun g _ hg => by simp [s_set, s_row, hg])]
        rw [Int32.add_assoc, Int32.add_comm 1]
    · simp only [x_land, m_lnd]
      rw [if_neg (fun q => h3 (p3.symm.trans q.2)), if_neg (fun q => h3 q.2)]
      exact ⟨h, rfl⟩
  · simp only [x_land, m_lnd]
    rw [if_neg (fun q => h2 (k1.symm.trans q.1)), if_neg (fun q => h2 q.1)]
    exact ⟨h, rfl⟩
theorem sim_lands (hb : nt ≤ 6 ∧ nf ≤ 8) (hT : nvT nt T) (h : SF nt nf E F) (n : Nat) (hn : n ≤ nf) : SF nt nf (its (x_land N nn T nt nf b) (E, κ) n).1 (its (m_lnd N nn T nt nf b) F n) ∧ (its (x_land N nn T nt nf b) (E, κ) n).2 + s_caught F nf = κ + s_caught (its (m_lnd N nn T nt nf b) F n) nf := by
  induction n with
  | zero => exact ⟨h, rfl⟩
  | succ n ih =>
    obtain ⟨i1, i2⟩ := ih (by omega)
    have hs := sim_land (N := N) (nn := nn) (b := b) (κ := (its (x_land N nn T nt nf b) (E, κ) n).2) hb hT i1 (f := n) (by omega)
    simp only [its]
    refine ⟨hs.1, ?_⟩
    have e := hs.2
    have e2 : (x_land N nn T nt nf b n (its (x_land N nn T nt nf b) (E, κ) n)).2 + s_caught (its (m_lnd N nn T nt nf b) F n) nf + s_caught F nf = κ + s_caught (m_lnd N nn T nt nf b n (its (m_lnd N nn T nt nf b) F n)) nf + s_caught (its (m_lnd N nn T nt nf b) F n) nf := by
      rw [show (x_land N nn T nt nf b n (its (x_land N nn T nt nf b) (E, κ) n)).2 + s_caught (its (m_lnd N nn T nt nf b) F n) nf = (its (x_land N nn T nt nf b) (E, κ) n).2 + s_caught (m_lnd N nn T nt nf b n (its (m_lnd N nn T nt nf b) F n)) nf from e]
      rw [Int32.add_assoc, Int32.add_comm (s_caught (m_lnd _ _ _ _ _ _ _ _) nf), ← Int32.add_assoc, i2, Int32.add_assoc, Int32.add_comm (s_caught (its _ _ _) nf), ← Int32.add_assoc]
    rw [Int32.add_assoc, Int32.add_comm (s_caught (its _ _ _) nf), ← Int32.add_assoc] at e2
    exact (Int32.add_left_inj _).mp e2
theorem sim_drop {f t : Nat} {x : Int32} (h : SF nt nf E F) (ht : t < 1000) (hf : f < nf) : SF nt nf (x_drop N nn (nI t) x f E) (s_drop N nn t x f F) ∧ s_caught (s_drop N nn t x f F) nf = s_caught F nf := by
  obtain ⟨k1, k2, -, -⟩ := h.1 f hf
  unfold x_drop s_drop
  by_cases h3 : F f 1 = nI t
  · have h4 : F f 0 = 1 := by
      by_cases h0 : F f 0 = 1
      · exact h0
      · exact absurd (h3.symm.trans ((h.2 f hf).2.1 h0)) (nI_m1 ht)
    rw [if_pos ⟨k1.trans h4, k2.trans h3⟩, if_pos h3]
    exact ⟨SF_fall h, caught_same (fun g _ => fall_4)⟩
  · rw [if_neg (fun q => h3 (k2.symm.trans q.2)), if_neg h3]
    exact ⟨h, rfl⟩
theorem sim_drops {t : Nat} {x : Int32} (h : SF nt nf E F) (ht : t < 1000) (n : Nat) (hn : n ≤ nf) : SF nt nf (its (x_drop N nn (nI t) x) E n) (its (s_drop N nn t x) F n) ∧ s_caught (its (s_drop N nn t x) F n) nf = s_caught F nf := by
  induction n with
  | zero => exact ⟨h, rfl⟩
  | succ n ih =>
    obtain ⟨i1, i2⟩ := ih (by omega)
    have hs := sim_drop (N := N) (nn := nn) (x := x) i1 ht (f := n) (by omega)
    exact ⟨hs.1, hs.2.trans i2⟩
theorem nvT_set {t k : Nat} {v : Int32} (h : nvT nt T) (hk : k ≠ 2) (hv : k = 5 → v = 0 ∨ v = 1) : nvT nt (s_set T t k v) := by
  refine ⟨wok_set h.1 hk, fun i hi => ?_⟩
  simp only [s_set]
  split
  · rename_i q; exact hv q.2.symm
  · exact h.2 i hi
theorem sim_wear {t : Nat} (hb : nt ≤ 6 ∧ nf ≤ 8) (hT : nvT nt T) (h : SF nt nf E F) (ht : t < nt) : (x_wear N nn nf b t (T, E)).1 = (m_wear N nn nf b t (T, F)).1 ∧ SF nt nf (x_wear N nn nf b t (T, E)).2 (m_wear N nn nf b t (T, F)).2 ∧ nvT nt (m_wear N nn nf b t (T, F)).1 ∧ s_caught (m_wear N nn nf b t (T, F)).2 nf = s_caught F nf := by
  have eh := hang_eq h (t := t) (by omega)
  simp only [x_wear, m_wear]
  by_cases hc : ¬ T t 5 = 0 ∧ s_p (T t 2) (b - T t 6) = 0
  · have h5 : T t 5 = 1 := (hT.2 t ht).resolve_left hc.1
    rw [if_pos hc, if_pos hc]
    have e4 : m_rope T F nf t t 4 = T t 4 + nI (s_hang F nf (nI t)) := by simp [m_rope, s_set]
    have e3 : m_rope T F nf t t 3 = T t 3 := by simp [m_rope, s_set]
    rw [e4, e3]
    by_cases hv : T t 4 + nI (s_hang F nf (nI t)) ≤ T t 3
    · have ex : x_wr T E nf t = m_rope T F nf t := by
        unfold x_wr m_rope
        rw [eh, if_pos hv]
        funext i k
        simp only [s_set]
        by_cases q : i = t ∧ k = 5
        · obtain ⟨rfl, rfl⟩ := q
          simp [h5]
        · rw [if_neg q]
      have e5 : ¬ x_wr T E nf t t 5 = 0 := by rw [ex]; simp [m_rope, s_set, h5]
      rw [if_neg e5, if_pos hv, ex]
      exact ⟨rfl, h, nvT_set hT (by decide) (fun q => absurd q (by decide)), rfl⟩
    · have ex : x_wr T E nf t = s_set (m_rope T F nf t) t 5 0 := by
        unfold x_wr m_rope
        rw [eh, if_neg hv]
      have e5 : x_wr T E nf t t 5 = 0 := by rw [ex]; simp [s_set]
      rw [if_pos e5, if_neg hv, ex, add0]
      have hd := sim_drops (N := N) (nn := nn) (x := s_at (s_set (m_rope T F nf t) t 5 0) t b) h (t := t) (by omega) nf (Nat.le_refl _)
      exact ⟨rfl, hd.1, nvT_set (nvT_set hT (by decide) (fun q => absurd q (by decide))) (by decide) (fun _ => Or.inl rfl), hd.2⟩
  · rw [if_neg hc, if_neg hc]
    exact ⟨rfl, h, hT, rfl⟩
theorem sim_wears (hb : nt ≤ 6 ∧ nf ≤ 8) (hT : nvT nt T) (h : SF nt nf E F) (n : Nat) (hn : n ≤ nt) : (its (x_wear N nn nf b) (T, E) n).1 = (its (m_wear N nn nf b) (T, F) n).1 ∧ SF nt nf (its (x_wear N nn nf b) (T, E) n).2 (its (m_wear N nn nf b) (T, F) n).2 ∧ nvT nt (its (m_wear N nn nf b) (T, F) n).1 ∧ s_caught (its (m_wear N nn nf b) (T, F) n).2 nf = s_caught F nf := by
  induction n with
  | zero => exact ⟨rfl, h, hT, rfl⟩
  | succ n ih =>
    obtain ⟨i1, i2, i3, i4⟩ := ih (by omega)
    have hs := sim_wear (N := N) (nn := nn) (b := b) hb i3 i2 (t := n) (by omega)
    have ex : its (x_wear N nn nf b) (T, E) n = ((its (m_wear N nn nf b) (T, F) n).1, (its (x_wear N nn nf b) (T, E) n).2) := by rw [← i1]
    simp only [its]
    rw [ex]
    exact ⟨hs.1, hs.2.1, hs.2.2.1, hs.2.2.2.trans i4⟩
theorem cue_caught {k : Nat} {FC : Rw × Rw} : s_caught (m_cue T b k FC).1 nf = s_caught FC.1 nf := by
  simp only [m_cue]
  split
  · split
    · exact caught_same (fun g _ => by
        simp only [s_row]
        split
        · rename_i q; rw [q]
        · rfl)
    · rfl
  · rfl
theorem cues_caught {FC : Rw × Rw} (n : Nat) : s_caught (its (m_cue T b) FC n).1 nf = s_caught FC.1 nf := by
  induction n with
  | zero => rfl
  | succ n ih => exact cue_caught.trans ih
theorem sim_beat {bn : Nat} (hb : nt ≤ 6 ∧ nf ≤ 8) (hbn : bn + 1 < 2 ^ 31) (hT : nvT nt T) (h : SF nt nf E F) (hC : nvC nf nc C (nI bn)) : ∃ T' E' F' C' κ', x_beat N nn nt nf nc (nI bn, T, E, C, κ) = (nI (bn + 1), T', E', C', κ') ∧ m_beat N nn nt nf nc (nI bn, T, F, C) = (nI (bn + 1), T', F', C') ∧ nvT nt T' ∧ SF nt nf E' F' ∧ nvC nf nc C' (nI (bn + 1)) ∧ κ' + s_caught F nf = κ + s_caught F' nf := by
  obtain ⟨a1, a2, a3⟩ := sim_cues (T := T) hb h hC nc (Nat.le_refl _)
  obtain ⟨l1, l2⟩ := sim_lands (N := N) (nn := nn) (b := nI bn) (κ := 0) hb hT a1 nf (Nat.le_refl _)
  obtain ⟨w1, w2, w3, w4⟩ := sim_wears (N := N) (nn := nn) (b := nI bn) hb hT l1 nt (Nat.le_refl _)
  refine ⟨_, _, _, (its (m_cue T (nI bn)) (F, C) nc).2, κ + (its (x_land N nn T nt nf (nI bn)) ((its (x_cue T nt nf (nI bn)) (E, C) nc).1, 0) nf).2, ?_, ?_, w3, w2, ?_, ?_⟩
  · simp only [x_beat]
    rw [nI_1, ← a2, ← w1]
  · simp only [m_beat]
    rw [nI_1]
  · intro k hk
    obtain ⟨c1, c2⟩ := hC k hk
    rw [a3 k 1 (Or.inl (by decide)), a3 k 0 (Or.inl (by decide))]
    refine ⟨c1, fun hle => ?_⟩
    have hlt : nI bn < C k 0 := by
      rw [Int32.le_iff_toInt_le, nI_toInt hbn] at hle
      rw [Int32.lt_iff_toInt_lt, nI_toInt (by omega)]
      omega
    rw [a3 k 4 (Or.inr (Or.inl (fun q => by rw [q] at hlt; exact Int32.lt_irrefl hlt)))]
    exact c2 (Int32.le_of_lt hlt)
  · rw [w4, Int32.add_assoc]
    have e := l2
    rw [cues_caught, Int32.zero_add] at e
    rw [show s_caught F nf = s_caught (F, C).1 nf from rfl, e]
theorem sim_beats {bn : Nat} (hb : nt ≤ 6 ∧ nf ≤ 8) (hT : nvT nt T) (h : SF nt nf E F) (hC : nvC nf nc C (nI bn)) (n : Nat) (hbn : bn + n < 2 ^ 31) : ∃ T' E' F' C' κ', x_beats N nn nt nf nc (nI bn, T, E, C, κ) n = (nI (bn + n), T', E', C', κ') ∧ m_beats N nn nt nf nc (nI bn, T, F, C) n = (nI (bn + n), T', F', C') ∧ nvT nt T' ∧ SF nt nf E' F' ∧ nvC nf nc C' (nI (bn + n)) ∧ κ' + s_caught F nf = κ + s_caught F' nf := by
  induction n with
  | zero => exact ⟨T, E, F, C, κ, rfl, rfl, hT, h, hC, rfl⟩
  | succ n ih =>
    obtain ⟨T1, E1, F1, C1, κ1, e1, e2, e3, e4, e5, e6⟩ := ih (by omega)
    obtain ⟨T2, E2, F2, C2, κ2, g1, g2, g3, g4, g5, g6⟩ := sim_beat (N := N) (nn := nn) (κ := κ1) hb (bn := bn + n) (by omega) e3 e4 e5
    refine ⟨T2, E2, F2, C2, κ2, ?_, ?_, g3, g4, g5, ?_⟩
    · unfold x_beats at e1 ⊢
      simp only [its]
      rw [e1, g1]; rfl
    · unfold m_beats at e2 ⊢
      simp only [its]
      rw [e2, g2]; rfl
    · have e7 : κ2 + s_caught F nf + s_caught F1 nf = κ + s_caught F2 nf + s_caught F1 nf := by
        rw [Int32.add_assoc, Int32.add_comm (s_caught F nf), ← Int32.add_assoc, g6, Int32.add_assoc, Int32.add_comm (s_caught F2 nf), ← Int32.add_assoc, e6, Int32.add_assoc, Int32.add_comm (s_caught F1 nf), ← Int32.add_assoc]
      exact (Int32.add_left_inj _).mp e7
end SIM2
