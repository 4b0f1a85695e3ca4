/-! the reference's own heap -/
def fA (w : Nat) (T : Rw) : Nat → Int32 := fun j => T (j / w) (j % w)
def oM (am : Nat → Nat) (th : Int32) (nt nf nc nn : Nat) : va_E := .inr (5, [.int th, .int (nI nt), .int (nI nf), .int (nI nc), .int (nI nn), .ref (am 0), .ref (am 1), .ref (am 2), .ref (am 3), .ref (am 4)])
def RM (cy : Nat → ClassId) (m : Nat) (am : Nat → Nat) (th b : Int32) (nt nf nc nn : Nat) (T F C N : Rw) (G : GG) : Prop :=
  (G m = some (oM am th nt nf nc nn) ∧ G (am 0) = some (.inl (cy 0, 42, .inl (fA 7 T))) ∧ G (am 1) = some (.inl (cy 0, 40, .inl (fA 5 F))) ∧ G (am 2) = some (.inl (cy 0, 100, .inl (fA 5 C))) ∧ G (am 3) = some (.inl (cy 0, 6, .inl (fA 2 N))) ∧ G (am 4) = some (.inl (cy 0, 1, .inl (fun _ => b)))) ∧
  (∀ i j, i < 5 → j < 5 → am i = am j → i = j) ∧ (nt ≤ 6 ∧ nf ≤ 8 ∧ nc ≤ 20 ∧ nn ≤ 3)
theorem fA_at {w i k : Nat} {T : Rw} (hk : k < w) : fA w T (w * i + k) = T i k := by
  unfold fA
  have h1 : (w * i + k) / w = i := by rw [Nat.mul_add_div (by omega), Nat.div_eq_of_lt hk]; omega
  have h2 : (w * i + k) % w = k := by rw [Nat.mul_add_mod]; exact Nat.mod_eq_of_lt hk
  rw [h1, h2]
theorem upd_fA {w i k : Nat} {T : Rw} {v : Int32} (hk : k < w) : upd (fA w T) (w * i + k) v = fA w (s_set T i k v) := by
  funext j
  unfold upd fA s_set
  have h1 : (w * i + k) / w = i := by rw [Nat.mul_add_div (by omega), Nat.div_eq_of_lt hk]; omega
  have h2 : (w * i + k) % w = k := by rw [Nat.mul_add_mod]; exact Nat.mod_eq_of_lt hk
  by_cases h : j = w * i + k
  · subst h
    rw [if_pos rfl, if_pos ⟨h1, h2⟩]
  · rw [if_neg h, if_neg]
    intro h9
    have := Nat.div_add_mod j w
    rw [h9.1, h9.2] at this
    exact h this.symm
theorem ixM (w i k : Nat) : nI w * nI i + nI k = nI (w * i + k) := by rw [pk_mul, nI_add]
theorem ixM0 (w i : Nat) : nI w * nI i = nI (w * i + 0) := by rw [pk_mul]; rfl
theorem row_4 {F : Rw} {i : Nat} {a b c d : Int32} : s_set (s_set (s_set (s_set F i 0 a) i 1 b) i 2 c) i 3 d = s_row F i a b c d := by
  funext x k
  unfold s_set s_row
  by_cases h : x = i
  · subst h
    match k with
    | 0 => simp
    | 1 => simp
    | 2 => simp
    | 3 => simp
    | k + 4 => simp
  · simp [h]
section RMU
variable {cy : Nat → ClassId} {m : Nat} {am : Nat → Nat} {th b : Int32} {nt nf nc nn : Nat} {T F C N : Rw} {G : GG}
theorem RM.neq {i j : Nat} (h : RM cy m am th b nt nf nc nn T F C N G) (hi : i < 5) (hj : j < 5) (hij : i ≠ j) : am i ≠ am j := fun e => hij (h.2.1 i j hi hj e)
theorem RM.nem {i : Nat} (h : RM cy m am th b nt nf nc nn T F C N G) (hi : i < 5) : am i ≠ m := by
  intro e
  obtain ⟨⟨h0, h1, h2, h3, h4, h5⟩, -⟩ := h
  rcases (show i = 0 ∨ i = 1 ∨ i = 2 ∨ i = 3 ∨ i = 4 by omega) with rfl | rfl | rfl | rfl | rfl
  · rw [e, h0] at h1; cases h1
  · rw [e, h0] at h2; cases h2
  · rw [e, h0] at h3; cases h3
  · rw [e, h0] at h4; cases h4
  · rw [e, h0] at h5; cases h5
theorem RM.obj {th' : Int32} {nt' nf' nc' nn' : Nat} (h : RM cy m am th b nt nf nc nn T F C N G) (hb : nt' ≤ 6 ∧ nf' ≤ 8 ∧ nc' ≤ 20 ∧ nn' ≤ 3) : RM cy m am th' b nt' nf' nc' nn' T F C N (g_up G m (oM am th' nt' nf' nc' nn')) := by
  have n := fun i hi => RM.nem (i := i) h hi
  obtain ⟨⟨h0, h1, h2, h3, h4, h5⟩, hd, -⟩ := h
  exact ⟨⟨g_up_self .., by rw [g_up_ne (n 0 (by omega))]; exact h1, by rw [g_up_ne (n 1 (by omega))]; exact h2, by rw [g_up_ne (n 2 (by omega))]; exact h3, by rw [g_up_ne (n 3 (by omega))]; exact h4, by rw [g_up_ne (n 4 (by omega))]; exact h5⟩, hd, hb⟩
theorem RM.a0 {T' : Rw} (h : RM cy m am th b nt nf nc nn T F C N G) : RM cy m am th b nt nf nc nn T' F C N (g_up G (am 0) (.inl (cy 0, 42, .inl (fA 7 T')))) := by
  have n := fun i hi hne => RM.neq (i := i) (j := 0) h hi (by omega) hne
  have nm := (RM.nem (i := 0) h (by omega)).symm
  obtain ⟨⟨h0, h1, h2, h3, h4, h5⟩, hd, hb⟩ := h
  exact ⟨⟨by rw [g_up_ne nm]; exact h0, g_up_self .., by rw [g_up_ne (n 1 (by omega) (by omega))]; exact h2, by rw [g_up_ne (n 2 (by omega) (by omega))]; exact h3, by rw [g_up_ne (n 3 (by omega) (by omega))]; exact h4, by rw [g_up_ne (n 4 (by omega) (by omega))]; exact h5⟩, hd, hb⟩
theorem RM.a1 {F' : Rw} (h : RM cy m am th b nt nf nc nn T F C N G) : RM cy m am th b nt nf nc nn T F' C N (g_up G (am 1) (.inl (cy 0, 40, .inl (fA 5 F')))) := by
  have n := fun i hi hne => RM.neq (i := i) (j := 1) h hi (by omega) hne
  have nm := (RM.nem (i := 1) h (by omega)).symm
  obtain ⟨⟨h0, h1, h2, h3, h4, h5⟩, hd, hb⟩ := h
  exact ⟨⟨by rw [g_up_ne nm]; exact h0, by rw [g_up_ne (n 0 (by omega) (by omega))]; exact h1, g_up_self .., by rw [g_up_ne (n 2 (by omega) (by omega))]; exact h3, by rw [g_up_ne (n 3 (by omega) (by omega))]; exact h4, by rw [g_up_ne (n 4 (by omega) (by omega))]; exact h5⟩, hd, hb⟩
theorem RM.a2 {C' : Rw} (h : RM cy m am th b nt nf nc nn T F C N G) : RM cy m am th b nt nf nc nn T F C' N (g_up G (am 2) (.inl (cy 0, 100, .inl (fA 5 C')))) := by
  have n := fun i hi hne => RM.neq (i := i) (j := 2) h hi (by omega) hne
  have nm := (RM.nem (i := 2) h (by omega)).symm
  obtain ⟨⟨h0, h1, h2, h3, h4, h5⟩, hd, hb⟩ := h
  exact ⟨⟨by rw [g_up_ne nm]; exact h0, by rw [g_up_ne (n 0 (by omega) (by omega))]; exact h1, by rw [g_up_ne (n 1 (by omega) (by omega))]; exact h2, g_up_self .., by rw [g_up_ne (n 3 (by omega) (by omega))]; exact h4, by rw [g_up_ne (n 4 (by omega) (by omega))]; exact h5⟩, hd, hb⟩
theorem RM.a3 {N' : Rw} (h : RM cy m am th b nt nf nc nn T F C N G) : RM cy m am th b nt nf nc nn T F C N' (g_up G (am 3) (.inl (cy 0, 6, .inl (fA 2 N')))) := by
  have n := fun i hi hne => RM.neq (i := i) (j := 3) h hi (by omega) hne
  have nm := (RM.nem (i := 3) h (by omega)).symm
  obtain ⟨⟨h0, h1, h2, h3, h4, h5⟩, hd, hb⟩ := h
  exact ⟨⟨by rw [g_up_ne nm]; exact h0, by rw [g_up_ne (n 0 (by omega) (by omega))]; exact h1, by rw [g_up_ne (n 1 (by omega) (by omega))]; exact h2, by rw [g_up_ne (n 2 (by omega) (by omega))]; exact h3, g_up_self .., by rw [g_up_ne (n 4 (by omega) (by omega))]; exact h5⟩, hd, hb⟩
theorem RM.a4 {b' : Int32} (h : RM cy m am th b nt nf nc nn T F C N G) : RM cy m am th b' nt nf nc nn T F C N (g_up G (am 4) (.inl (cy 0, 1, .inl (fun _ => b')))) := by
  have n := fun i hi hne => RM.neq (i := i) (j := 4) h hi (by omega) hne
  have nm := (RM.nem (i := 4) h (by omega)).symm
  obtain ⟨⟨h0, h1, h2, h3, h4, h5⟩, hd, hb⟩ := h
  exact ⟨⟨by rw [g_up_ne nm]; exact h0, by rw [g_up_ne (n 0 (by omega) (by omega))]; exact h1, by rw [g_up_ne (n 1 (by omega) (by omega))]; exact h2, by rw [g_up_ne (n 2 (by omega) (by omega))]; exact h3, by rw [g_up_ne (n 3 (by omega) (by omega))]; exact h4, g_up_self ..⟩, hd, hb⟩
end RMU
section PGM
variable {κ : Kx} {l0 : Launch} {D0 : va_G} {cy0 : Nat → ClassId} {y : MethodName} {nL ce sl index : Nat} {cc : ByteArray} {rm : Room} {ret : Option FieldType} {G : GG} {lv : LV} {pc : Nat} {st rest : List Value} {a : Nat}
theorem g_ialdM {n : Nat} {f : Nat → Int32} {x : Int32} (j : Nat) (v : Int32) (C : g_OK κ l0 D0 cy0 y nL cc rm ret) (ha : G a = some (.inl (cy0 0, n, .inl f))) (hx : x = nI j) (hj : j < n) (hn : n < 2 ^ 31) (hv : f j = v) (hd : decode cc pc = .ok (.iaload, 1)) (kk : PG κ nL ce sl G lv (pc + 1) (.int v :: rest)) : PG κ nL ce sl G lv pc (.int x :: .ref a :: rest) := by
  refine g_iald C ha (by rw [hx]; exact vp_in_nI hj hn) hd ?_
  rw [hx, nI_clamp (by omega), hv]
  exact kk
theorem g_iastM {n : Nat} {f : Nat → Int32} {x z : Int32} (j : Nat) (f' : Nat → Int32) (C : g_OK κ l0 D0 cy0 y nL cc rm ret) (ha : G a = some (.inl (cy0 0, n, .inl f))) (hx : x = nI j) (hj : j < n) (hn : n < 2 ^ 31) (hv : upd f j z = f') (hd : decode cc pc = .ok (.iastore, 1)) (kk : PG κ nL ce sl (g_up G a (.inl (cy0 0, n, .inl f'))) lv (pc + 1) rest) : PG κ nL ce sl G lv pc (.int z :: .int x :: .ref a :: rest) := by
  refine g_iast C ha (by rw [hx]; exact vp_in_nI hj hn) hd ?_
  rw [hx, nI_clamp (by omega), hv]
  exact kk
end PGM
theorem in_ix0 {n : Int32} {k : Nat} (hk2 : k < 1000) (h : 0 ≤ n ∧ n ≤ nI k - 1) : ∃ j, j < k ∧ n = nI j := by
  rcases Nat.eq_zero_or_pos k with rfl | hk
  · exfalso
    obtain ⟨h1, h2⟩ := h
    have e : nI 0 - 1 = -1 := by decide
    rw [e] at h2
    rw [Int32.le_iff_toInt_le] at h1 h2
    have e1 : (-1 : Int32).toInt = -1 := by decide
    rw [Int32.toInt_zero] at h1
    omega
  · exact in_ix hk hk2 h
theorem in_nix0 {n : Int32} {k : Nat} (hk2 : k < 1000) (h : ¬ (0 ≤ n ∧ n ≤ nI k - 1)) : ∀ j, j < k → n ≠ nI j := fun j hj => in_nix (by omega) hk2 h j hj
theorem cntU_y {s : Int32} {p : Nat → Bool} {k : Nat} (hs : s = nI (cnt p k)) (hp : p k = true) : s + 1 = nI (cnt p (k + 1)) := by
  rw [hs]; simp only [cnt, hp, if_true]; exact nI_1 _
theorem cntU_n {s : Int32} {p : Nat → Bool} {k : Nat} (hs : s = nI (cnt p k)) (hp : p k = false) : s + 0 = nI (cnt p (k + 1)) := by
  rw [hs]; simp [cnt, hp]
theorem near_abs {a b : Int32} : ((if 0 ≤ a - b then a - b else 0 - (a - b)) ≤ 2) ↔ s_near a b = true := by
  have e : b - a = 0 - (a - b) := by simp [Int32.sub_eq_add_neg, Int32.neg_add, Int32.add_comm]
  simp only [s_near, Bool.and_eq_true, decide_eq_true_eq, e]
  generalize a - b = d
  have e2 : (2 : Int32).toInt = 2 := by decide
  have e0 : (0 : Int32).toInt = 0 := by decide
  have hn : (0 - d).toInt = if d.toInt = -2147483648 then -2147483648 else -d.toInt := by
    have h1 := d.toInt_lt
    have h2 := d.le_toInt
    rw [Int32.toInt_sub, e0]
    split <;> rename_i h <;> simp only [Int.zero_sub] <;> rw [Int.bmod_def] <;> omega
  simp only [Int32.le_iff_toInt_le, e2, e0]
  have h1 := d.toInt_lt
  have h2 := d.le_toInt
  split
  · rename_i h
    rw [hn]
    constructor
    · intro h3; refine ⟨h3, ?_⟩; split <;> omega
    · exact fun h3 => h3.1
  · rename_i h
    rw [hn]
    constructor
    · intro h3; refine ⟨by omega, h3⟩
    · exact fun h3 => h3.2
