/-! what the reference's beat does, word by word -/
def ixn (v : Int32) : Nat := v.toNatClampNeg
theorem ixn_n {n : Nat} {v : Int32} (h : v = nI n) (hn : n < 1000) : ixn v = n := by rw [h]; exact nI_clamp (by omega)
def m_told (T F : Rw) (nf : Nat) (b : Int32) (t w : Nat) : Int32 := if w < 6 then T t w else if w = 6 then s_at T t (b + 0) else nI (s_hang F nf (nI t))
def m_toldF (F : Rw) (b : Int32) (f w : Nat) : Int32 := if w = 3 then (if F f 0 = 2 then F f 3 - b else -1) else F f w
def m_count (b : Int32) (nt nf nc : Nat) (T F C : Rw) (w : Int32) : Int32 :=
  if w = 0 then b else if w = 1 then nI nt else if w = 2 then its (fun t s => s + T t 5) 0 nt else if w = 3 then nI nf else if w = 8 then nI (cnt (fun k => decide (C k 4 = 0)) nc) else nI (s_in F nf (w - 3))
def m_cue (T : Rw) (b : Int32) (k : Nat) (FC : Rw × Rw) : Rw × Rw :=
  if FC.2 k 0 = b ∧ FC.2 k 4 = 0 then
    (if FC.1 (ixn (FC.2 k 1)) 0 = 1 then (s_row FC.1 (ixn (FC.2 k 1)) 2 (-1) (s_at T (ixn (FC.1 (ixn (FC.2 k 1)) 1)) (b + 0) + FC.2 k 2) (b + FC.2 k 3), s_set FC.2 k 4 1)
    else (FC.1, s_set FC.2 k 4 2))
  else FC
def m_free (T F : Rw) (nf : Nat) (b x : Int32) (t : Nat) : Bool := decide (T t 5 = 1 ∧ nI (s_hang F nf (nI t)) < 2) && s_near (s_at T t (b + 0)) x
def m_land (N : Rw) (nn : Nat) (T : Rw) (nt nf : Nat) (b : Int32) (f : Nat) (F : Rw) : Rw :=
  match fst (m_free T F nf b (F f 2)) nt with
  | some t => s_set (s_row F f 1 (nI t) 0 (-1)) f 4 (s_row F f 1 (nI t) 0 (-1) f 4 + 1)
  | none => s_fall N nn F f (F f 2)
def m_lnd (N : Rw) (nn : Nat) (T : Rw) (nt nf : Nat) (b : Int32) (f : Nat) (F : Rw) : Rw := if F f 0 = 2 ∧ F f 3 = b then m_land N nn T nt nf b f F else F
def m_rope (T F : Rw) (nf t : Nat) : Rw := s_set T t 4 (T t 4 + nI (s_hang F nf (nI t)))
def m_wear (N : Rw) (nn nf : Nat) (b : Int32) (t : Nat) (TF : Rw × Rw) : Rw × Rw :=
  if ¬ TF.1 t 5 = 0 ∧ s_p (TF.1 t 2) (b - TF.1 t 6) = 0 then
    (if m_rope TF.1 TF.2 nf t t 4 ≤ m_rope TF.1 TF.2 nf t t 3 then (m_rope TF.1 TF.2 nf t, TF.2)
    else (s_set (m_rope TF.1 TF.2 nf t) t 5 0, its (s_drop N nn t (s_at (s_set (m_rope TF.1 TF.2 nf t) t 5 0) t (b + 0))) TF.2 nf))
  else TF
abbrev Mb : Type := Int32 × Rw × Rw × Rw
def m_beat (N : Rw) (nn nt nf nc : Nat) (S : Mb) : Mb :=
  let FC := its (m_cue S.2.1 S.1) (S.2.2.1, S.2.2.2) nc
  let TF := its (m_wear N nn nf S.1) (S.2.1, its (m_lnd N nn S.2.1 nt nf S.1) FC.1 nf) nt
  (S.1 + 1, TF.1, TF.2, FC.2)
def m_beats (N : Rw) (nn nt nf nc : Nat) (S : Mb) (n : Nat) : Mb := its (fun _ S => m_beat N nn nt nf nc S) S n
/-- who hangs hangs from a trapeze; who is called is one of the flyers -/
def m_wF (nt nf : Nat) (F : Rw) : Prop := ∀ f, f < nf → F f 0 = 1 → ∃ t, t < nt ∧ F f 1 = nI t
def m_wC (nf nc : Nat) (C : Rw) : Prop := ∀ k, k < nc → ∃ f, f < nf ∧ C k 1 = nI f
theorem wF_row {nt nf f : Nat} {F : Rw} {a b c d : Int32} (h : m_wF nt nf F) (ha : a = 1 → ∃ t, t < nt ∧ b = nI t) : m_wF nt nf (s_row F f a b c d) := by
  intro i hi h1
  by_cases e : i = f
  · subst e
    simp only [s_row, if_true] at h1 ⊢
    exact ha h1
  · simp only [s_row, if_neg e] at h1 ⊢
    exact h i hi h1
theorem wF_fall {N : Rw} {nn nt nf f : Nat} {F : Rw} {x : Int32} (h : m_wF nt nf F) : m_wF nt nf (s_fall N nn F f x) := by
  refine wF_row h (fun e => ?_)
  split at e <;> exact absurd e (by decide)
theorem wF_set {nt nf f : Nat} {F : Rw} {v : Int32} (h : m_wF nt nf F) : m_wF nt nf (s_set F f 4 v) := by
  intro i hi h1
  simp only [s_set] at h1 ⊢
  rw [if_neg (by omega)] at h1 ⊢
  exact h i hi h1
theorem wC_set {nf nc k : Nat} {C : Rw} {v : Int32} (h : m_wC nf nc C) : m_wC nf nc (s_set C k 4 v) := by
  intro i hi
  simp only [s_set]
  rw [if_neg (by omega)]
  exact h i hi
theorem wFC_cue {T : Rw} {b : Int32} {k nt nf nc : Nat} {FC : Rw × Rw} (h : m_wF nt nf FC.1) (hc : m_wC nf nc FC.2) : m_wF nt nf (m_cue T b k FC).1 ∧ m_wC nf nc (m_cue T b k FC).2 := by
  unfold m_cue
  split
  · split
    · exact ⟨wF_row h (fun e => absurd e (by decide)), wC_set hc⟩
    · exact ⟨h, wC_set hc⟩
  · exact ⟨h, hc⟩
theorem wFC_cues {T : Rw} {b : Int32} {nt nf nc : Nat} {FC : Rw × Rw} (h : m_wF nt nf FC.1) (hc : m_wC nf nc FC.2) (n : Nat) : m_wF nt nf (its (m_cue T b) FC n).1 ∧ m_wC nf nc (its (m_cue T b) FC n).2 := by
  induction n with
  | zero => exact ⟨h, hc⟩
  | succ n ih => exact wFC_cue ih.1 ih.2
theorem wF_land {N T : Rw} {nn nt nf f : Nat} {b : Int32} {F : Rw} (h : m_wF nt nf F) : m_wF nt nf (m_lnd N nn T nt nf b f F) := by
  unfold m_lnd m_land
  split
  · split
    · rename_i t ht
      exact wF_set (wF_row h (fun _ => ⟨t, (fst_inv ht).1, rfl⟩))
    · exact wF_fall h
  · exact h
theorem wF_its {nt nf : Nat} {g : Nat → Rw → Rw} (hg : ∀ f F, m_wF nt nf F → m_wF nt nf (g f F)) {F : Rw} (h : m_wF nt nf F) (n : Nat) : m_wF nt nf (its g F n) := by
  induction n with
  | zero => exact h
  | succ n ih => exact hg n _ ih
theorem wF_drop {N : Rw} {nn nt nf t f : Nat} {x : Int32} {F : Rw} (h : m_wF nt nf F) : m_wF nt nf (s_drop N nn t x f F) := by
  unfold s_drop
  split
  · exact wF_fall h
  · exact h
theorem wTF_wear {N : Rw} {nn nt nf t : Nat} {b : Int32} {TF : Rw × Rw} (hw : s_wok TF.1 nt) (h : m_wF nt nf TF.2) : s_wok (m_wear N nn nf b t TF).1 nt ∧ m_wF nt nf (m_wear N nn nf b t TF).2 := by
  unfold m_wear
  split
  · split
    · exact ⟨wok_set hw (by decide), h⟩
    · exact ⟨wok_set (wok_set hw (by decide)) (by decide), wF_its (fun f F h => wF_drop h) h nf⟩
  · exact ⟨hw, h⟩
theorem wTF_wears {N : Rw} {nn nt nf : Nat} {b : Int32} {TF : Rw × Rw} (hw : s_wok TF.1 nt) (h : m_wF nt nf TF.2) (n : Nat) : s_wok (its (m_wear N nn nf b) TF n).1 nt ∧ m_wF nt nf (its (m_wear N nn nf b) TF n).2 := by
  induction n with
  | zero => exact ⟨hw, h⟩
  | succ n ih => exact wTF_wear ih.1 ih.2
def m_wS (nt nf nc : Nat) (S : Mb) : Prop := s_wok S.2.1 nt ∧ m_wF nt nf S.2.2.1 ∧ m_wC nf nc S.2.2.2
theorem wS_beat {N : Rw} {nn nt nf nc : Nat} {S : Mb} (h : m_wS nt nf nc S) : m_wS nt nf nc (m_beat N nn nt nf nc S) := by
  obtain ⟨h1, h2, h3⟩ := h
  have a := wFC_cues (T := S.2.1) (b := S.1) (FC := (S.2.2.1, S.2.2.2)) h2 h3 nc
  have c := wTF_wears (N := N) (nn := nn) (nf := nf) (b := S.1) (TF := (_, its (m_lnd N nn S.2.1 nt nf S.1) _ nf)) h1 (wF_its (fun f F h => wF_land h) a.1 nf) nt
  exact ⟨c.1, c.2, a.2⟩
theorem wS_beats {N : Rw} {nn nt nf nc : Nat} {S : Mb} (h : m_wS nt nf nc S) (n : Nat) : m_wS nt nf nc (m_beats N nn nt nf nc S n) := by
  induction n with
  | zero => exact h
  | succ n ih => exact wS_beat ih
section PG1
variable {κ : Kx} {l0 : Launch} {D0 : va_G} {cy0 : Nat → ClassId} {y : MethodName} {nL ce sl : Nat} {cc : ByteArray} {rm : Room} {ret : Option FieldType} {G : GG} {lv : LV} {pc : Nat} {rest : List Value} {a : Nat}
theorem g_arx {n : Nat} {c9 : ClassId} {f f' : Nat → Int32} {st : List Value} (hf : ∀ j, j < n → f j = f' j) (k : PG κ nL ce sl (g_up G a (.inl (c9, n, .inl f'))) lv pc st) : PG κ nL ce sl (g_up G a (.inl (c9, n, .inl f))) lv pc st := by
  intro H locs ls hw hl
  refine k H locs ls ⟨fun b e' hb => ?_, hw.2⟩ hl
  by_cases hq : b = a
  · subst hq
    rw [g_up_self] at hb
    cases hb
    have h1 := hw.1 b _ (g_up_self ..)
    refine ⟨?_, h1.2⟩
    have h2 : H[b]? = some (arrV c9 n (fun j => .int (f j))) := h1.1
    show H[b]? = some (arrV c9 n (fun j => .int (f' j)))
    rw [h2]
    unfold arrV
    congr 2
    congr 1
    funext j
    show Value.int (f j.val) = Value.int (f' j.val)
    rw [hf j.val j.isLt]
  · exact hw.1 b e' (by rw [g_up_ne hq] at hb ⊢; exact hb)
theorem g_iastM1 {b x z : Int32} (C : g_OK κ l0 D0 cy0 y nL cc rm ret) (ha : G a = some (.inl (cy0 0, 1, .inl (fun _ => b)))) (hx : x = nI 0) (hd : decode cc pc = .ok (.iastore, 1)) (kk : PG κ nL ce sl (g_up G a (.inl (cy0 0, 1, .inl (fun _ => z)))) lv (pc + 1) rest) : PG κ nL ce sl G lv pc (.int z :: .int x :: .ref a :: rest) := by
  refine g_iast C ha (by rw [hx]; exact vp_in_nI (by decide) (by decide)) hd ?_
  refine g_arx (fun j hj => ?_) kk
  rw [hx, nI_clamp (by decide)]
  have : j = 0 := by omega
  subst this
  simp [upd]
end PG1

set_option maxHeartbeats 4000000 in
set_option maxRecDepth 100000 in
theorem c_X5_trapezeTold (l : Launch) (D : va_G) (cy : Nat → ClassId) {G : GG} {m : Nat} {am : Nat → Nat} {th b : Int32} {nt nf nc nn : Nat} {T F Cu N : Rw} (h : RM cy m am th b nt nf nc nn T F Cu N G) (hwok : s_wok T nt) (i : Nat) (hi : i < nt) (kk : Nat) (hkk : kk < 8) (t w : Int32) (ht : t = nI i) (hw : w = nI kk) : Ctr l D cy yX5_trapezeTold prog_7_method_22_code 3 (some .int) kX5_trapezeTold [.ref m, .int t, .int w] G (pI (fun v G' => G' = G ∧ v = m_told T F nf b i kk)) := by
  refine Ctr.mk (by decide +kernel) (Nat.le_of_ble_eq_true rfl) ?_
  intro κ C R
  have hbd := h.2.2
  refine g_pc (pc' := 0) rfl ?_
  refine g_seg [(0, .iload_n 2, 1), (1, .bipush 6, 2)] 3 [(0, .ref m), (1, .int t), (2, .int w)] [.int 6, .int w] C (by decide +kernel) rfl ?_
  refine g_icmp_ge (pc := 3) (off := 12) 15 C (by decide +kernel) (by decide) (fun c1 => ?_) (fun c1 => ?_)
  · have hk8 : ¬ kk < 6 := by have := lp_ge hw (by omega) (n := 6) (by decide) c1; omega
    refine g_seg [(15, .iload_n 2, 1), (16, .bipush 6, 2)] 18 [(0, .ref m), (1, .int t), (2, .int w)] [.int 6, .int w] C (by decide +kernel) rfl ?_
    refine g_icmp_ne (pc := 18) (off := 12) 30 C (by decide +kernel) (by decide) (fun c2 => ?_) (fun c2 => ?_)
    · have hk9 : ¬ kk = 6 := fun h9 => c2 (by rw [hw, h9]; rfl)
      refine g_seg [(30, .aload_n 0, 1), (31, .iload_n 1, 1)] 32 [(0, .ref m), (1, .int t), (2, .int w)] [.int t, .ref m] C (by decide +kernel) rfl ?_
      refine g_callV (pc := 32) C mV_X5_hanging q763 (h.1.1) rfl rfl (c_X5_hanging l D cy h t) rfl ⟨⟨Nat.le_of_ble_eq_true rfl, Nat.le_of_ble_eq_true rfl⟩, Nat.le_of_ble_eq_true rfl, Nat.le_of_ble_eq_true rfl⟩ rfl (Nat.le_of_ble_eq_true rfl) (by decide +kernel) ?_
      refine g_kI (fun v5 G4 hp3 => ?_)
      obtain ⟨rfl, rfl⟩ := hp3
      exact g_iret (pc := 35) C R (⟨_, rfl, rfl, by unfold m_told; rw [if_neg hk8, if_neg hk9, ht]; rfl⟩) (Nat.le_of_ble_eq_true rfl) (Nat.le_of_ble_eq_true rfl) (by decide +kernel)
    · have hk9 : kk = 6 := (nI_eq (by omega) (by decide)).mp (hw.symm.trans c2)
      refine g_seg [(21, .aload_n 0, 1), (22, .iload_n 1, 1), (23, .iconst 0, 1)] 24 [(0, .ref m), (1, .int t), (2, .int w)] [.int 0, .int t, .ref m] C (by decide +kernel) rfl ?_
      refine g_callV (pc := 24) C mV_X5_placeOf q779 (h.1.1) rfl rfl (c_X5_placeOf l D cy h i (by omega) t 0 (ht) (hwok i (by omega))) rfl ⟨⟨Nat.le_of_ble_eq_true rfl, Nat.le_of_ble_eq_true rfl⟩, Nat.le_of_ble_eq_true rfl, Nat.le_of_ble_eq_true rfl⟩ rfl (Nat.le_of_ble_eq_true rfl) (by decide +kernel) ?_
      refine g_kI (fun v8 G7 hp6 => ?_)
      obtain ⟨rfl, rfl⟩ := hp6
      refine g_seg [(27, .goto 8, 3)] 35 [(0, .ref m), (1, .int t), (2, .int w)] [.int (s_at T i (b + 0))] C (by decide +kernel) rfl ?_
      exact g_iret (pc := 35) C R (⟨_, rfl, rfl, by unfold m_told; rw [if_neg hk8, if_pos hk9]⟩) (Nat.le_of_ble_eq_true rfl) (Nat.le_of_ble_eq_true rfl) (by decide +kernel)
  · have hk8 : kk < 6 := lp_lt hw (by omega) (n := 6) (by decide) c1
    refine g_seg [(6, .aload_n 0, 1), (7, .iload_n 1, 1), (8, .iload_n 2, 1)] 9 [(0, .ref m), (1, .int t), (2, .int w)] [.int w, .int t, .ref m] C (by decide +kernel) rfl ?_
    refine g_callV (pc := 9) C mV_X5_ri q723 (h.1.1) rfl rfl (c_X5_ri l D cy h i kk (by omega) (by omega) t w (ht) (hw)) rfl ⟨⟨Nat.le_of_ble_eq_true rfl, Nat.le_of_ble_eq_true rfl⟩, Nat.le_of_ble_eq_true rfl, Nat.le_of_ble_eq_true rfl⟩ rfl (Nat.le_of_ble_eq_true rfl) (by decide +kernel) ?_
    refine g_kI (fun v11 G10 hp9 => ?_)
    obtain ⟨rfl, rfl⟩ := hp9
    refine g_seg [(12, .goto 23, 3)] 35 [(0, .ref m), (1, .int t), (2, .int w)] [.int (T i kk)] C (by decide +kernel) rfl ?_
    exact g_iret (pc := 35) C R (⟨_, rfl, rfl, by unfold m_told; rw [if_pos hk8]⟩) (Nat.le_of_ble_eq_true rfl) (Nat.le_of_ble_eq_true rfl) (by decide +kernel)
set_option maxHeartbeats 4000000 in
set_option maxRecDepth 100000 in
theorem c_X5_flyerTold (l : Launch) (D : va_G) (cy : Nat → ClassId) {G : GG} {m : Nat} {am : Nat → Nat} {th b : Int32} {nt nf nc nn : Nat} {T F Cu N : Rw} (h : RM cy m am th b nt nf nc nn T F Cu N G) (i : Nat) (hi : i < nf) (kk : Nat) (hkk : kk < 5) (t w : Int32) (ht : t = nI i) (hw : w = nI kk) : Ctr l D cy yX5_flyerTold prog_7_method_24_code 3 (some .int) kX5_flyerTold [.ref m, .int t, .int w] G (pI (fun v G' => G' = G ∧ v = m_toldF F b i kk)) := by
  refine Ctr.mk (by decide +kernel) (Nat.le_of_ble_eq_true rfl) ?_
  intro κ C R
  have hbd := h.2.2
  refine g_pc (pc' := 0) rfl ?_
  refine g_seg [(0, .iload_n 2, 1), (1, .iconst 3, 1)] 2 [(0, .ref m), (1, .int t), (2, .int w)] [.int 3, .int w] C (by decide +kernel) rfl ?_
  refine g_icmp_ne (pc := 2) (off := 33) 35 C (by decide +kernel) (by decide) (fun c1 => ?_) (fun c1 => ?_)
  · have hk8 : ¬ kk = 3 := fun h9 => c1 (by rw [hw, h9]; rfl)
    refine g_seg [(35, .aload_n 0, 1), (36, .iload_n 1, 1), (37, .iload_n 2, 1)] 38 [(0, .ref m), (1, .int t), (2, .int w)] [.int w, .int t, .ref m] C (by decide +kernel) rfl ?_
    refine g_callV (pc := 38) C mV_X5_pe q755 (h.1.1) rfl rfl (c_X5_pe l D cy h i kk (by omega) (by omega) t w (ht) (hw)) rfl ⟨⟨Nat.le_of_ble_eq_true rfl, Nat.le_of_ble_eq_true rfl⟩, Nat.le_of_ble_eq_true rfl, Nat.le_of_ble_eq_true rfl⟩ rfl (Nat.le_of_ble_eq_true rfl) (by decide +kernel) ?_
    refine g_kI (fun v4 G3 hp2 => ?_)
    obtain ⟨rfl, rfl⟩ := hp2
    exact g_iret (pc := 41) C R (⟨_, rfl, rfl, by unfold m_toldF; rw [if_neg hk8]⟩) (Nat.le_of_ble_eq_true rfl) (Nat.le_of_ble_eq_true rfl) (by decide +kernel)
  · have hk8 : kk = 3 := (nI_eq (by omega) (by decide)).mp (hw.symm.trans c1)
    refine g_seg [(5, .aload_n 0, 1), (6, .iload_n 1, 1), (7, .iconst 0, 1)] 8 [(0, .ref m), (1, .int t), (2, .int w)] [.int 0, .int t, .ref m] C (by decide +kernel) rfl ?_
    refine g_callV (pc := 8) C mV_X5_pe q755 (h.1.1) rfl rfl (c_X5_pe l D cy h i 0 (by omega) (by omega) t 0 (ht) (rfl)) rfl ⟨⟨Nat.le_of_ble_eq_true rfl, Nat.le_of_ble_eq_true rfl⟩, Nat.le_of_ble_eq_true rfl, Nat.le_of_ble_eq_true rfl⟩ rfl (Nat.le_of_ble_eq_true rfl) (by decide +kernel) ?_
    refine g_kI (fun v7 G6 hp5 => ?_)
    obtain ⟨rfl, rfl⟩ := hp5
    refine g_seg [(11, .iconst 2, 1)] 12 [(0, .ref m), (1, .int t), (2, .int w)] [.int 2, .int (F i 0)] C (by decide +kernel) rfl ?_
    refine g_icmp_ne (pc := 12) (off := 19) 31 C (by decide +kernel) (by decide) (fun c8 => ?_) (fun c8 => ?_)
    · refine g_seg [(31, .iconst (-1), 1), (32, .goto 9, 3)] 41 [(0, .ref m), (1, .int t), (2, .int w)] [.int (-1)] C (by decide +kernel) rfl ?_
      exact g_iret (pc := 41) C R (⟨_, rfl, rfl, by unfold m_toldF; rw [if_pos hk8, if_neg c8]⟩) (Nat.le_of_ble_eq_true rfl) (Nat.le_of_ble_eq_true rfl) (by decide +kernel)
    · refine g_seg [(15, .aload_n 0, 1), (16, .iload_n 1, 1), (17, .iconst 3, 1)] 18 [(0, .ref m), (1, .int t), (2, .int w)] [.int 3, .int t, .ref m] C (by decide +kernel) rfl ?_
      refine g_callV (pc := 18) C mV_X5_pe q755 (h.1.1) rfl rfl (c_X5_pe l D cy h i 3 (by omega) (by omega) t 3 (ht) (rfl)) rfl ⟨⟨Nat.le_of_ble_eq_true rfl, Nat.le_of_ble_eq_true rfl⟩, Nat.le_of_ble_eq_true rfl, Nat.le_of_ble_eq_true rfl⟩ rfl (Nat.le_of_ble_eq_true rfl) (by decide +kernel) ?_
      refine g_kI (fun v11 G10 hp9 => ?_)
      obtain ⟨rfl, rfl⟩ := hp9
      refine g_seg [(21, .aload_n 0, 1)] 22 [(0, .ref m), (1, .int t), (2, .int w)] [.ref m, .int (F i 3)] C (by decide +kernel) rfl ?_
      refine g_getf (pc := 22) (k := 9) (v := .ref (am 4)) C fl_X5_22 (h.1.1) rfl (by decide +kernel) ?_
      refine g_seg [(25, .iconst 0, 1)] 26 [(0, .ref m), (1, .int t), (2, .int w)] [.int 0, .ref (am 4), .int (F i 3)] C (by decide +kernel) rfl ?_
      refine g_ialdM (pc := 26) (n := 1) 0 b C (h.1.2.2.2.2.2) nI_0.symm (by decide) (by decide) rfl (by decide +kernel) ?_
      refine g_seg [(27, .isub, 1), (28, .goto 13, 3)] 41 [(0, .ref m), (1, .int t), (2, .int w)] [.int ((F i 3) - b)] C (by decide +kernel) rfl ?_
      exact g_iret (pc := 41) C R (⟨_, rfl, rfl, by unfold m_toldF; rw [if_pos hk8, if_pos c8]⟩) (Nat.le_of_ble_eq_true rfl) (Nat.le_of_ble_eq_true rfl) (by decide +kernel)
set_option maxHeartbeats 4000000 in
set_option maxRecDepth 100000 in
theorem c_X5_counted (l : Launch) (D : va_G) (cy : Nat → ClassId) {G : GG} {m : Nat} {am : Nat → Nat} {th b : Int32} {nt nf nc nn : Nat} {T F Cu N : Rw} (h : RM cy m am th b nt nf nc nn T F Cu N G) (w : Int32) : Ctr l D cy yX5_counted prog_7_method_28_code 4 (some .int) kX5_counted [.ref m, .int w] G (pI (fun v G' => G' = G ∧ v = m_count b nt nf nc T F Cu w)) := by
  refine Ctr.mk (by decide +kernel) (Nat.le_of_ble_eq_true rfl) ?_
  intro κ C R
  have hbd := h.2.2
  refine g_pc (pc' := 0) rfl ?_
  refine g_seg [(0, .iconst 0, 1), (1, .istore_n 2, 1), (2, .iload_n 1, 1)] 3 [(2, .int 0), (0, .ref m), (1, .int w)] [.int w] C (by decide +kernel) rfl ?_
  by_cases hw0 : w = 0
  · subst hw0
    refine g_tableIn (pc := 3) (dflt := 132) (lo := 0) (hi := 8) (offs := #[49, 56, 61, 88, 132, 132, 132, 132, 93]) (len := 49) (off := 49) 52 C (by decide +kernel) (by decide) (by decide) (by decide) (by decide) ?_
    refine g_seg [(52, .aload_n 0, 1)] 53 [(2, .int 0), (0, .ref m), (1, .int 0)] [.ref m] C (by decide +kernel) rfl ?_
    refine g_getf (pc := 53) (k := 9) (v := .ref (am 4)) C fl_X5_22 (h.1.1) rfl (by decide +kernel) ?_
    refine g_seg [(56, .iconst 0, 1)] 57 [(2, .int 0), (0, .ref m), (1, .int 0)] [.int 0, .ref (am 4)] C (by decide +kernel) rfl ?_
    refine g_ialdM (pc := 57) (n := 1) 0 b C (h.1.2.2.2.2.2) nI_0.symm (by decide) (by decide) rfl (by decide +kernel) ?_
    exact g_iret (pc := 58) C R (⟨_, rfl, rfl, by first | rfl | (simp [m_count, s_in]; done)⟩) (Nat.le_of_ble_eq_true rfl) (Nat.le_of_ble_eq_true rfl) (by decide +kernel)
  by_cases hw1 : w = 1
  · subst hw1
    refine g_tableIn (pc := 3) (dflt := 132) (lo := 0) (hi := 8) (offs := #[49, 56, 61, 88, 132, 132, 132, 132, 93]) (len := 49) (off := 56) 59 C (by decide +kernel) (by decide) (by decide) (by decide) (by decide) ?_
    refine g_seg [(59, .aload_n 0, 1)] 60 [(2, .int 0), (0, .ref m), (1, .int 1)] [.ref m] C (by decide +kernel) rfl ?_
    refine g_getf (pc := 60) (k := 1) (v := .int (nI nt)) C fl_X5_29 (h.1.1) rfl (by decide +kernel) ?_
    exact g_iret (pc := 63) C R (⟨_, rfl, rfl, by first | rfl | (simp [m_count, s_in]; done)⟩) (Nat.le_of_ble_eq_true rfl) (Nat.le_of_ble_eq_true rfl) (by decide +kernel)
  by_cases hw2 : w = 2
  · subst hw2
    refine g_tableIn (pc := 3) (dflt := 132) (lo := 0) (hi := 8) (offs := #[49, 56, 61, 88, 132, 132, 132, 132, 93]) (len := 49) (off := 61) 64 C (by decide +kernel) (by decide) (by decide) (by decide) (by decide) ?_
    refine g_seg [(64, .iconst 0, 1), (65, .istore_n 3, 1)] 66 [(3, .int 0), (2, .int 0), (0, .ref m), (1, .int 2)] [] C (by decide +kernel) rfl ?_
    refine g_subp [2, 3, 1, 0] (lv' := [(0, .ref m), (1, .int 2), (2, .int 0), (3, .int 0)]) rfl ?_
    have lp1 : ∀ (n0 k : Nat) (s xk : Int32), nt + 1 ≤ k + n0 → k ≤ nt → xk = nI k → s = its (fun t s => s + T t 5) 0 k → PG κ 4 0 0 G [(0, .ref m), (1, .int 2), (2, .int s), (3, .int xk)] 66 [] := by
      intro n0
      induction n0 with
      | zero => intro k s xk h1 h2; intros; exact absurd h1 (by omega)
      | succ n0 ih =>
        intro k s xk hm hk hx hs
        refine g_seg [(66, .iload_n 3, 1), (67, .aload_n 0, 1)] 68 [(0, .ref m), (1, .int 2), (2, .int s), (3, .int xk)] [.ref m, .int xk] C (by decide +kernel) rfl ?_
        refine g_getf (pc := 68) (k := 1) (v := .int (nI nt)) C fl_X5_29 (h.1.1) rfl (by decide +kernel) ?_
        refine g_icmp_ge (pc := 71) (off := 18) 89 C (by decide +kernel) (by decide) (fun c2 => ?_) (fun c2 => ?_)
        · have hk8 : k = nt := by have := lp_ge hx (by omega) (by omega) c2; omega
          refine g_seg [(89, .iload_n 2, 1)] 90 [(0, .ref m), (1, .int 2), (2, .int s), (3, .int xk)] [.int s] C (by decide +kernel) rfl ?_
          exact g_iret (pc := 90) C R (⟨_, rfl, rfl, by rw [hs, hk8]; first | rfl | (simp [m_count]; done)⟩) (Nat.le_of_ble_eq_true rfl) (Nat.le_of_ble_eq_true rfl) (by decide +kernel)
        · have hk8 : k < nt := lp_lt hx (by omega) (by omega) c2
          refine g_seg [(74, .iload_n 2, 1), (75, .aload_n 0, 1), (76, .iload_n 3, 1), (77, .iconst 5, 1)] 78 [(0, .ref m), (1, .int 2), (2, .int s), (3, .int xk)] [.int 5, .int xk, .ref m, .int s] C (by decide +kernel) rfl ?_
          refine g_callV (pc := 78) C mV_X5_ri q723 (h.1.1) rfl rfl (c_X5_ri l D cy h k 5 (by omega) (by omega) xk 5 (hx) (rfl)) rfl ⟨⟨Nat.le_of_ble_eq_true rfl, Nat.le_of_ble_eq_true rfl⟩, Nat.le_of_ble_eq_true rfl, Nat.le_of_ble_eq_true rfl⟩ rfl (Nat.le_of_ble_eq_true rfl) (by decide +kernel) ?_
          refine g_kI (fun v5 G4 hp3 => ?_)
          obtain ⟨rfl, rfl⟩ := hp3
          refine g_seg [(81, .iadd, 1), (82, .istore_n 2, 1), (83, .iinc 3 1, 3), (86, .goto (-20), 3)] 66 [(3, .int (xk + 1)), (2, .int (s + (T k 5))), (0, .ref m), (1, .int 2)] [] C (by decide +kernel) rfl ?_
          refine g_subp [2, 3, 1, 0] (lv' := [(0, .ref m), (1, .int 2), (2, .int (s + (T k 5))), (3, .int (xk + 1))]) rfl ?_
          exact ih (k + 1) (s + (T k 5)) (xk + 1) (by omega) (by omega) (lp_s hx) (by rw [hs]; rfl)
    exact lp1 (nt + 1) 0 0 0 (by omega) (by omega) (nI_0.symm) (rfl)
  by_cases hw3 : w = 3
  · subst hw3
    refine g_tableIn (pc := 3) (dflt := 132) (lo := 0) (hi := 8) (offs := #[49, 56, 61, 88, 132, 132, 132, 132, 93]) (len := 49) (off := 88) 91 C (by decide +kernel) (by decide) (by decide) (by decide) (by decide) ?_
    refine g_seg [(91, .aload_n 0, 1)] 92 [(2, .int 0), (0, .ref m), (1, .int 3)] [.ref m] C (by decide +kernel) rfl ?_
    refine g_getf (pc := 92) (k := 2) (v := .int (nI nf)) C fl_X5_36 (h.1.1) rfl (by decide +kernel) ?_
    exact g_iret (pc := 95) C R (⟨_, rfl, rfl, by first | rfl | (simp [m_count, s_in]; done)⟩) (Nat.le_of_ble_eq_true rfl) (Nat.le_of_ble_eq_true rfl) (by decide +kernel)
  by_cases hw4 : w = 4
  · subst hw4
    refine g_tableIn (pc := 3) (dflt := 132) (lo := 0) (hi := 8) (offs := #[49, 56, 61, 88, 132, 132, 132, 132, 93]) (len := 49) (off := 132) 135 C (by decide +kernel) (by decide) (by decide) (by decide) (by decide) ?_
    refine g_seg [(135, .aload_n 0, 1), (136, .iload_n 1, 1), (137, .iconst 3, 1), (138, .isub, 1)] 139 [(2, .int 0), (0, .ref m), (1, .int 4)] [.int (4 - 3), .ref m] C (by decide +kernel) rfl ?_
    refine g_callV (pc := 139) C mV_X5_inState q806 (h.1.1) rfl rfl (c_X5_inState l D cy h (4 - 3)) rfl ⟨⟨Nat.le_of_ble_eq_true rfl, Nat.le_of_ble_eq_true rfl⟩, Nat.le_of_ble_eq_true rfl, Nat.le_of_ble_eq_true rfl⟩ rfl (Nat.le_of_ble_eq_true rfl) (by decide +kernel) ?_
    refine g_kI (fun v8 G7 hp6 => ?_)
    obtain ⟨rfl, rfl⟩ := hp6
    exact g_iret (pc := 142) C R (⟨_, rfl, rfl, by first | rfl | (simp [m_count, s_in]; done)⟩) (Nat.le_of_ble_eq_true rfl) (Nat.le_of_ble_eq_true rfl) (by decide +kernel)
  by_cases hw5 : w = 5
  · subst hw5
    refine g_tableIn (pc := 3) (dflt := 132) (lo := 0) (hi := 8) (offs := #[49, 56, 61, 88, 132, 132, 132, 132, 93]) (len := 49) (off := 132) 135 C (by decide +kernel) (by decide) (by decide) (by decide) (by decide) ?_
    refine g_seg [(135, .aload_n 0, 1), (136, .iload_n 1, 1), (137, .iconst 3, 1), (138, .isub, 1)] 139 [(2, .int 0), (0, .ref m), (1, .int 5)] [.int (5 - 3), .ref m] C (by decide +kernel) rfl ?_
    refine g_callV (pc := 139) C mV_X5_inState q806 (h.1.1) rfl rfl (c_X5_inState l D cy h (5 - 3)) rfl ⟨⟨Nat.le_of_ble_eq_true rfl, Nat.le_of_ble_eq_true rfl⟩, Nat.le_of_ble_eq_true rfl, Nat.le_of_ble_eq_true rfl⟩ rfl (Nat.le_of_ble_eq_true rfl) (by decide +kernel) ?_
    refine g_kI (fun v11 G10 hp9 => ?_)
    obtain ⟨rfl, rfl⟩ := hp9
    exact g_iret (pc := 142) C R (⟨_, rfl, rfl, by first | rfl | (simp [m_count, s_in]; done)⟩) (Nat.le_of_ble_eq_true rfl) (Nat.le_of_ble_eq_true rfl) (by decide +kernel)
  by_cases hw6 : w = 6
  · subst hw6
    refine g_tableIn (pc := 3) (dflt := 132) (lo := 0) (hi := 8) (offs := #[49, 56, 61, 88, 132, 132, 132, 132, 93]) (len := 49) (off := 132) 135 C (by decide +kernel) (by decide) (by decide) (by decide) (by decide) ?_
    refine g_seg [(135, .aload_n 0, 1), (136, .iload_n 1, 1), (137, .iconst 3, 1), (138, .isub, 1)] 139 [(2, .int 0), (0, .ref m), (1, .int 6)] [.int (6 - 3), .ref m] C (by decide +kernel) rfl ?_
    refine g_callV (pc := 139) C mV_X5_inState q806 (h.1.1) rfl rfl (c_X5_inState l D cy h (6 - 3)) rfl ⟨⟨Nat.le_of_ble_eq_true rfl, Nat.le_of_ble_eq_true rfl⟩, Nat.le_of_ble_eq_true rfl, Nat.le_of_ble_eq_true rfl⟩ rfl (Nat.le_of_ble_eq_true rfl) (by decide +kernel) ?_
    refine g_kI (fun v14 G13 hp12 => ?_)
    obtain ⟨rfl, rfl⟩ := hp12
    exact g_iret (pc := 142) C R (⟨_, rfl, rfl, by first | rfl | (simp [m_count, s_in]; done)⟩) (Nat.le_of_ble_eq_true rfl) (Nat.le_of_ble_eq_true rfl) (by decide +kernel)
  by_cases hw7 : w = 7
  · subst hw7
    refine g_tableIn (pc := 3) (dflt := 132) (lo := 0) (hi := 8) (offs := #[49, 56, 61, 88, 132, 132, 132, 132, 93]) (len := 49) (off := 132) 135 C (by decide +kernel) (by decide) (by decide) (by decide) (by decide) ?_
    refine g_seg [(135, .aload_n 0, 1), (136, .iload_n 1, 1), (137, .iconst 3, 1), (138, .isub, 1)] 139 [(2, .int 0), (0, .ref m), (1, .int 7)] [.int (7 - 3), .ref m] C (by decide +kernel) rfl ?_
    refine g_callV (pc := 139) C mV_X5_inState q806 (h.1.1) rfl rfl (c_X5_inState l D cy h (7 - 3)) rfl ⟨⟨Nat.le_of_ble_eq_true rfl, Nat.le_of_ble_eq_true rfl⟩, Nat.le_of_ble_eq_true rfl, Nat.le_of_ble_eq_true rfl⟩ rfl (Nat.le_of_ble_eq_true rfl) (by decide +kernel) ?_
    refine g_kI (fun v17 G16 hp15 => ?_)
    obtain ⟨rfl, rfl⟩ := hp15
    exact g_iret (pc := 142) C R (⟨_, rfl, rfl, by first | rfl | (simp [m_count, s_in]; done)⟩) (Nat.le_of_ble_eq_true rfl) (Nat.le_of_ble_eq_true rfl) (by decide +kernel)
  by_cases hw8 : w = 8
  · subst hw8
    refine g_tableIn (pc := 3) (dflt := 132) (lo := 0) (hi := 8) (offs := #[49, 56, 61, 88, 132, 132, 132, 132, 93]) (len := 49) (off := 93) 96 C (by decide +kernel) (by decide) (by decide) (by decide) (by decide) ?_
    refine g_seg [(96, .iconst 0, 1), (97, .istore_n 3, 1)] 98 [(3, .int 0), (2, .int 0), (0, .ref m), (1, .int 8)] [] C (by decide +kernel) rfl ?_
    refine g_subp [2, 3, 1, 0] (lv' := [(0, .ref m), (1, .int 8), (2, .int 0), (3, .int 0)]) rfl ?_
    have lp18 : ∀ (n0 k : Nat) (s xk : Int32), nc + 1 ≤ k + n0 → k ≤ nc → xk = nI k → s = nI (cnt (fun k => decide (Cu k 4 = 0)) k) → PG κ 4 0 0 G [(0, .ref m), (1, .int 8), (2, .int s), (3, .int xk)] 98 [] := by
      intro n0
      induction n0 with
      | zero => intro k s xk h1 h2; intros; exact absurd h1 (by omega)
      | succ n0 ih =>
        intro k s xk hm hk hx hs
        refine g_seg [(98, .iload_n 3, 1), (99, .aload_n 0, 1)] 100 [(0, .ref m), (1, .int 8), (2, .int s), (3, .int xk)] [.ref m, .int xk] C (by decide +kernel) rfl ?_
        refine g_getf (pc := 100) (k := 3) (v := .int (nI nc)) C fl_X5_80 (h.1.1) rfl (by decide +kernel) ?_
        refine g_icmp_ge (pc := 103) (off := 30) 133 C (by decide +kernel) (by decide) (fun c19 => ?_) (fun c19 => ?_)
        · have hk8 : k = nc := by have := lp_ge hx (by omega) (by omega) c19; omega
          refine g_seg [(133, .iload_n 2, 1)] 134 [(0, .ref m), (1, .int 8), (2, .int s), (3, .int xk)] [.int s] C (by decide +kernel) rfl ?_
          exact g_iret (pc := 134) C R (⟨_, rfl, rfl, by rw [hs, hk8]; first | rfl | (simp [m_count]; done)⟩) (Nat.le_of_ble_eq_true rfl) (Nat.le_of_ble_eq_true rfl) (by decide +kernel)
        · have hk8 : k < nc := lp_lt hx (by omega) (by omega) c19
          refine g_seg [(106, .iload_n 2, 1), (107, .aload_n 0, 1)] 108 [(0, .ref m), (1, .int 8), (2, .int s), (3, .int xk)] [.ref m, .int s] C (by decide +kernel) rfl ?_
          refine g_getf (pc := 108) (k := 7) (v := .ref (am 2)) C fl_X5_16 (h.1.1) rfl (by decide +kernel) ?_
          refine g_seg [(111, .iconst 5, 1), (112, .iload_n 3, 1), (113, .imul, 1), (114, .iconst 4, 1), (115, .iadd, 1)] 116 [(0, .ref m), (1, .int 8), (2, .int s), (3, .int xk)] [.int ((5 * xk) + 4), .ref (am 2), .int s] C (by decide +kernel) rfl ?_
          refine g_ialdM (pc := 116) (n := 100) (5 * k + 4) (Cu k 4) C (h.1.2.2.2.1) (by rw [hx]; exact ixM 5 k 4) (by omega) (by decide) (fA_at (by omega)) (by decide +kernel) ?_
          refine g_if_ne (pc := 117) (off := 7) 124 C (by decide +kernel) (by decide) (fun c20 => ?_) (fun c20 => ?_)
          · refine g_seg [(124, .iconst 0, 1), (125, .iadd, 1), (126, .istore_n 2, 1), (127, .iinc 3 1, 3), (130, .goto (-32), 3)] 98 [(3, .int (xk + 1)), (2, .int (s + 0)), (0, .ref m), (1, .int 8)] [] C (by decide +kernel) rfl ?_
            refine g_subp [2, 3, 1, 0] (lv' := [(0, .ref m), (1, .int 8), (2, .int (s + 0)), (3, .int (xk + 1))]) rfl ?_
            exact ih (k + 1) (s + 0) (xk + 1) (by omega) (by omega) (lp_s hx) (cntU_n hs (decide_eq_false c20))
          · refine g_seg [(120, .iconst 1, 1), (121, .goto 4, 3), (125, .iadd, 1), (126, .istore_n 2, 1), (127, .iinc 3 1, 3), (130, .goto (-32), 3)] 98 [(3, .int (xk + 1)), (2, .int (s + 1)), (0, .ref m), (1, .int 8)] [] C (by decide +kernel) rfl ?_
            refine g_subp [2, 3, 1, 0] (lv' := [(0, .ref m), (1, .int 8), (2, .int (s + 1)), (3, .int (xk + 1))]) rfl ?_
            exact ih (k + 1) (s + 1) (xk + 1) (by omega) (by omega) (lp_s hx) (cntU_y hs (decide_eq_true c20))
    exact lp18 (nc + 1) 0 0 0 (by omega) (by omega) (nI_0.symm) (rfl)
  refine g_tableOut (pc := 3) (dflt := 132) (lo := 0) (hi := 8) (offs := #[49, 56, 61, 88, 132, 132, 132, 132, 93]) (len := 49) 135 C (by decide +kernel) (by have a0 := ti_ne hw0; rw [show (0 : Int32).toInt = 0 by decide] at a0; have a1 := ti_ne hw1; rw [show (1 : Int32).toInt = 1 by decide] at a1; have a2 := ti_ne hw2; rw [show (2 : Int32).toInt = 2 by decide] at a2; have a3 := ti_ne hw3; rw [show (3 : Int32).toInt = 3 by decide] at a3; have a4 := ti_ne hw4; rw [show (4 : Int32).toInt = 4 by decide] at a4; have a5 := ti_ne hw5; rw [show (5 : Int32).toInt = 5 by decide] at a5; have a6 := ti_ne hw6; rw [show (6 : Int32).toInt = 6 by decide] at a6; have a7 := ti_ne hw7; rw [show (7 : Int32).toInt = 7 by decide] at a7; have a8 := ti_ne hw8; rw [show (8 : Int32).toInt = 8 by decide] at a8; omega) (by decide) ?_
  refine g_seg [(135, .aload_n 0, 1), (136, .iload_n 1, 1), (137, .iconst 3, 1), (138, .isub, 1)] 139 [(2, .int 0), (0, .ref m), (1, .int w)] [.int (w - 3), .ref m] C (by decide +kernel) rfl ?_
  refine g_callV (pc := 139) C mV_X5_inState q806 (h.1.1) rfl rfl (c_X5_inState l D cy h (w - 3)) rfl ⟨⟨Nat.le_of_ble_eq_true rfl, Nat.le_of_ble_eq_true rfl⟩, Nat.le_of_ble_eq_true rfl, Nat.le_of_ble_eq_true rfl⟩ rfl (Nat.le_of_ble_eq_true rfl) (by decide +kernel) ?_
  refine g_kI (fun v23 G22 hp21 => ?_)
  obtain ⟨rfl, rfl⟩ := hp21
  exact g_iret (pc := 142) C R (⟨_, rfl, rfl, by first | rfl | (simp [m_count, s_in, hw0, hw1, hw2, hw3, hw4, hw5, hw6, hw7, hw8]; done)⟩) (Nat.le_of_ble_eq_true rfl) (Nat.le_of_ble_eq_true rfl) (by decide +kernel)
set_option maxHeartbeats 4000000 in
set_option maxRecDepth 100000 in
theorem c_X5_isNet (l : Launch) (D : va_G) (cy : Nat → ClassId) {G : GG} {m : Nat} {am : Nat → Nat} {th b : Int32} {nt nf nc nn : Nat} {T F Cu N : Rw} (h : RM cy m am th b nt nf nc nn T F Cu N G) (p0 : Int32) : Ctr l D cy yX5_isNet prog_7_method_31_code 3 (some .boolean) kX5_isNet [.ref m, .int p0] G (pI (fun v G' => G' = G ∧ ((v = 1 ∧ s_net N nn p0 = true) ∨ (v = 0 ∧ s_net N nn p0 = false)))) := by
  refine Ctr.mk (by decide +kernel) (Nat.le_of_ble_eq_true rfl) ?_
  intro κ C R
  have hbd := h.2.2
  refine g_pc (pc' := 0) rfl ?_
  refine g_seg [(0, .iconst 0, 1), (1, .istore_n 2, 1)] 2 [(2, .int 0), (0, .ref m), (1, .int p0)] [] C (by decide +kernel) rfl ?_
  refine g_subp [1, 2, 0] (lv' := [(0, .ref m), (1, .int p0), (2, .int 0)]) rfl ?_
  have lp1 : ∀ (n0 k : Nat) (xk : Int32), nn + 1 ≤ k + n0 → k ≤ nn → xk = nI k → (∀ t, t < k → t < nn → (decide (N t 0 ≤ p0) && decide (p0 ≤ N t 1)) = false) → PG κ 3 0 0 G [(0, .ref m), (1, .int p0), (2, .int xk)] 2 [] := by
    intro n0
    induction n0 with
    | zero => intro k xk h1 h2; intros; exact absurd h1 (by omega)
    | succ n0 ih =>
      intro k xk hm hk hx hs
      refine g_seg [(2, .iload_n 2, 1), (3, .aload_n 0, 1)] 4 [(0, .ref m), (1, .int p0), (2, .int xk)] [.ref m, .int xk] C (by decide +kernel) rfl ?_
      refine g_getf (pc := 4) (k := 4) (v := .int (nI nn)) C fl_X5_61 (h.1.1) rfl (by decide +kernel) ?_
      refine g_icmp_ge (pc := 7) (off := 36) 43 C (by decide +kernel) (by decide) (fun c2 => ?_) (fun c2 => ?_)
      · have hk8 : k = nn := by have := lp_ge hx (by omega) (by omega) c2; omega
        refine g_seg [(43, .iconst 0, 1)] 44 [(0, .ref m), (1, .int p0), (2, .int xk)] [.int 0] C (by decide +kernel) rfl ?_
        exact g_zret (pc := 44) C R (by first | rfl | decide) (⟨_, rfl, rfl, Or.inr ⟨rfl, net_n (k := k) (by omega) hs⟩⟩) (Nat.le_of_ble_eq_true rfl) (Nat.le_of_ble_eq_true rfl) (by decide +kernel)
      · have hk8 : k < nn := lp_lt hx (by omega) (by omega) c2
        refine g_seg [(10, .iload_n 1, 1), (11, .aload_n 0, 1)] 12 [(0, .ref m), (1, .int p0), (2, .int xk)] [.ref m, .int p0] C (by decide +kernel) rfl ?_
        refine g_getf (pc := 12) (k := 8) (v := .ref (am 3)) C fl_X5_19 (h.1.1) rfl (by decide +kernel) ?_
        refine g_seg [(15, .iconst 2, 1), (16, .iload_n 2, 1), (17, .imul, 1)] 18 [(0, .ref m), (1, .int p0), (2, .int xk)] [.int (2 * xk), .ref (am 3), .int p0] C (by decide +kernel) rfl ?_
        refine g_ialdM (pc := 18) (n := 6) (2 * k + 0) (N k 0) C (h.1.2.2.2.2.1) (by rw [hx]; exact ixM0 2 k) (by omega) (by decide) (fA_at (by omega)) (by decide +kernel) ?_
        refine g_seg [(19, .aload_n 0, 1)] 20 [(0, .ref m), (1, .int p0), (2, .int xk)] [.ref m, .int (N k 0), .int p0] C (by decide +kernel) rfl ?_
        refine g_getf (pc := 20) (k := 8) (v := .ref (am 3)) C fl_X5_19 (h.1.1) rfl (by decide +kernel) ?_
        refine g_seg [(23, .iconst 2, 1), (24, .iload_n 2, 1), (25, .imul, 1), (26, .iconst 1, 1), (27, .iadd, 1)] 28 [(0, .ref m), (1, .int p0), (2, .int xk)] [.int ((2 * xk) + 1), .ref (am 3), .int (N k 0), .int p0] C (by decide +kernel) rfl ?_
        refine g_ialdM (pc := 28) (n := 6) (2 * k + 1) (N k 1) C (h.1.2.2.2.2.1) (by rw [hx]; exact ixM 2 k 1) (by omega) (by decide) (fA_at (by omega)) (by decide +kernel) ?_
        refine g_callS (pc := 29) C mS_X5_isIn q705 (c_X5_isIn l D cy G p0 (N k 0) (N k 1)) rfl ⟨⟨Nat.le_of_ble_eq_true rfl, Nat.le_of_ble_eq_true rfl⟩, Nat.le_of_ble_eq_true rfl, Nat.le_of_ble_eq_true rfl⟩ rfl (Nat.le_of_ble_eq_true rfl) (by decide +kernel) ?_
        refine g_kI (fun v5 G4 hp3 => ?_)
        obtain ⟨rfl, hp3⟩ := hp3
        rcases hp3 with ⟨rfl, h6⟩ | ⟨rfl, h6⟩
        · refine g_if_eq (pc := 32) (off := 5) 37 C (by decide +kernel) (by decide) (fun c9 => absurd c9 (by decide)) (fun _ => ?_)
          refine g_seg [(35, .iconst 1, 1)] 36 [(0, .ref m), (1, .int p0), (2, .int xk)] [.int 1] C (by decide +kernel) rfl ?_
          exact g_zret (pc := 36) C R (by first | rfl | decide) (⟨_, rfl, rfl, Or.inl ⟨rfl, net_y hk8 h6 hs⟩⟩) (Nat.le_of_ble_eq_true rfl) (Nat.le_of_ble_eq_true rfl) (by decide +kernel)
        · refine g_if_eq (pc := 32) (off := 5) 37 C (by decide +kernel) (by decide) (fun _ => ?_) (fun c9 => absurd (by decide) c9)
          refine g_seg [(37, .iinc 2 1, 3), (40, .goto (-38), 3)] 2 [(2, .int (xk + 1)), (0, .ref m), (1, .int p0)] [] C (by decide +kernel) rfl ?_
          refine g_subp [1, 2, 0] (lv' := [(0, .ref m), (1, .int p0), (2, .int (xk + 1))]) rfl ?_
          exact ih (k + 1) (xk + 1) (by omega) (by omega) (lp_s hx) (no_f hs (net_f h6))
  exact lp1 (nn + 1) 0 0 (by omega) (by omega) (nI_0.symm) (fun t h1 => absurd h1 (by omega))
set_option maxHeartbeats 4000000 in
set_option maxRecDepth 100000 in
theorem c_X5_falls (l : Launch) (D : va_G) (cy : Nat → ClassId) {G : GG} {m : Nat} {am : Nat → Nat} {th b : Int32} {nt nf nc nn : Nat} {T F Cu N : Rw} (h : RM cy m am th b nt nf nc nn T F Cu N G) (i : Nat) (hi : i < 8) (t p0 : Int32) (ht : t = nI i) : Ctr l D cy yX5_falls prog_7_method_33_code 3 none kX5_falls [.ref m, .int t, .int p0] G (pV (fun G' => RM cy m am th b nt nf nc nn T (s_fall N nn F i p0) Cu N G')) := by
  refine Ctr.mk (by decide +kernel) (Nat.le_of_ble_eq_true rfl) ?_
  intro κ C R
  have hbd := h.2.2
  refine g_pc (pc' := 0) rfl ?_
  refine g_seg [(0, .aload_n 0, 1), (1, .iload_n 1, 1), (2, .aload_n 0, 1), (3, .iload_n 2, 1)] 4 [(0, .ref m), (1, .int t), (2, .int p0)] [.int p0, .ref m, .int t, .ref m] C (by decide +kernel) rfl ?_
  refine g_callV (pc := 4) C mV_X5_isNet q818 (h.1.1) rfl rfl (c_X5_isNet l D cy h p0) rfl ⟨⟨Nat.le_of_ble_eq_true rfl, Nat.le_of_ble_eq_true rfl⟩, Nat.le_of_ble_eq_true rfl, Nat.le_of_ble_eq_true rfl⟩ rfl (Nat.le_of_ble_eq_true rfl) (by decide +kernel) ?_
  refine g_kI (fun v3 G2 hp1 => ?_)
  obtain ⟨rfl, hp1⟩ := hp1
  rcases hp1 with ⟨rfl, h4⟩ | ⟨rfl, h4⟩
  · refine g_if_eq (pc := 7) (off := 7) 14 C (by decide +kernel) (by decide) (fun c9 => absurd c9 (by decide)) (fun _ => ?_)
    refine g_seg [(10, .iconst 3, 1), (11, .goto 4, 3), (15, .iconst (-1), 1), (16, .iconst 0, 1), (17, .iconst (-1), 1)] 18 [(0, .ref m), (1, .int t), (2, .int p0)] [.int (-1), .int 0, .int (-1), .int 3, .int t, .ref m] C (by decide +kernel) rfl ?_
    refine g_callV (pc := 18) C mV_X5_set q743 (h.1.1) rfl rfl (c_X5_set l D cy h i (by omega) t 3 (-1) 0 (-1) (ht)) rfl ⟨⟨Nat.le_of_ble_eq_true rfl, Nat.le_of_ble_eq_true rfl⟩, Nat.le_of_ble_eq_true rfl, Nat.le_of_ble_eq_true rfl⟩ rfl (Nat.le_of_ble_eq_true rfl) (by decide +kernel) ?_
    refine g_kV (fun G5 h6 => ?_)
    exact g_vret (pc := 21) C R (⟨rfl, by unfold s_fall; rw [if_pos h4]; exact h6⟩) (Nat.le_of_ble_eq_true rfl) (Nat.le_of_ble_eq_true rfl) (by decide +kernel)
  · refine g_if_eq (pc := 7) (off := 7) 14 C (by decide +kernel) (by decide) (fun _ => ?_) (fun c9 => absurd (by decide) c9)
    refine g_seg [(14, .iconst 4, 1), (15, .iconst (-1), 1), (16, .iconst 0, 1), (17, .iconst (-1), 1)] 18 [(0, .ref m), (1, .int t), (2, .int p0)] [.int (-1), .int 0, .int (-1), .int 4, .int t, .ref m] C (by decide +kernel) rfl ?_
    refine g_callV (pc := 18) C mV_X5_set q743 (h.1.1) rfl rfl (c_X5_set l D cy h i (by omega) t 4 (-1) 0 (-1) (ht)) rfl ⟨⟨Nat.le_of_ble_eq_true rfl, Nat.le_of_ble_eq_true rfl⟩, Nat.le_of_ble_eq_true rfl, Nat.le_of_ble_eq_true rfl⟩ rfl (Nat.le_of_ble_eq_true rfl) (by decide +kernel) ?_
    refine g_kV (fun G7 h8 => ?_)
    exact g_vret (pc := 21) C R (⟨rfl, by unfold s_fall; rw [if_neg (by rw [h4]; decide)]; exact h8⟩) (Nat.le_of_ble_eq_true rfl) (Nat.le_of_ble_eq_true rfl) (by decide +kernel)
set_option maxHeartbeats 4000000 in
set_option maxRecDepth 100000 in
theorem c_X5_cuesOn (l : Launch) (D : va_G) (cy : Nat → ClassId) {G : GG} {m : Nat} {am : Nat → Nat} {th b : Int32} {nt nf nc nn : Nat} {T F Cu N : Rw} (h : RM cy m am th b nt nf nc nn T F Cu N G) (hwok : s_wok T nt) (hwF : m_wF nt nf F) (hwC : m_wC nf nc Cu) : Ctr l D cy yX5_cuesOn prog_7_method_34_code 4 none kX5_cuesOn [.ref m] G (pV (fun G' => RM cy m am th b nt nf nc nn T (its (m_cue T b) (F, Cu) nc).1 (its (m_cue T b) (F, Cu) nc).2 N G')) := by
  refine Ctr.mk (by decide +kernel) (Nat.le_of_ble_eq_true rfl) ?_
  intro κ C R
  have hbd := h.2.2
  refine g_pc (pc' := 0) rfl ?_
  refine g_seg [(0, .iconst 0, 1), (1, .istore_n 1, 1)] 2 [(1, .int 0), (0, .ref m)] [] C (by decide +kernel) rfl ?_
  refine g_subp [1, 0] (lv' := [(0, .ref m), (1, .int 0)]) rfl ?_
  have lp1 : ∀ (n0 k : Nat) (F1 C1 : Rw) (G1 : GG) (xk : Int32), nc + 1 ≤ k + n0 → k ≤ nc → xk = nI k → (F1, C1) = its (m_cue T b) (F, Cu) k → RM cy m am th b nt nf nc nn T F1 C1 N G1 → m_wF nt nf F1 → m_wC nf nc C1 → PG κ 4 0 0 G1 [(0, .ref m), (1, .int xk)] 2 [] := by
    intro n0
    induction n0 with
    | zero => intro k F1 C1 G1 xk h1 h2; intros; exact absurd h1 (by omega)
    | succ n0 ih =>
      intro k F1 C1 G1 xk hm hk hx hs h1 hwF1 hwC1
      refine g_seg [(2, .iload_n 1, 1), (3, .aload_n 0, 1)] 4 [(0, .ref m), (1, .int xk)] [.ref m, .int xk] C (by decide +kernel) rfl ?_
      refine g_getf (pc := 4) (k := 3) (v := .int (nI nc)) C fl_X5_80 (h1.1.1) rfl (by decide +kernel) ?_
      refine g_icmp_ge (pc := 7) (off := 138) 145 C (by decide +kernel) (by decide) (fun c2 => ?_) (fun c2 => ?_)
      · have hk8 : k = nc := by have := lp_ge hx (by omega) (by omega) c2; omega
        exact g_vret (pc := 145) C R (⟨rfl, by rw [hk8] at hs; rw [← hs]; exact h1⟩) (Nat.le_of_ble_eq_true rfl) (Nat.le_of_ble_eq_true rfl) (by decide +kernel)
      · have hk8 : k < nc := lp_lt hx (by omega) (by omega) c2
        obtain ⟨f, hf, hC⟩ := hwC1 k hk8
        refine g_seg [(10, .aload_n 0, 1)] 11 [(0, .ref m), (1, .int xk)] [.ref m] C (by decide +kernel) rfl ?_
        refine g_getf (pc := 11) (k := 7) (v := .ref (am 2)) C fl_X5_16 (h1.1.1) rfl (by decide +kernel) ?_
        refine g_seg [(14, .iconst 5, 1), (15, .iload_n 1, 1), (16, .imul, 1)] 17 [(0, .ref m), (1, .int xk)] [.int (5 * xk), .ref (am 2)] C (by decide +kernel) rfl ?_
        refine g_ialdM (pc := 17) (n := 100) (5 * k + 0) (C1 k 0) C (h1.1.2.2.2.1) (by rw [hx]; exact ixM0 5 k) (by omega) (by decide) (fA_at (by omega)) (by decide +kernel) ?_
        refine g_seg [(18, .aload_n 0, 1)] 19 [(0, .ref m), (1, .int xk)] [.ref m, .int (C1 k 0)] C (by decide +kernel) rfl ?_
        refine g_getf (pc := 19) (k := 9) (v := .ref (am 4)) C fl_X5_22 (h1.1.1) rfl (by decide +kernel) ?_
        refine g_seg [(22, .iconst 0, 1)] 23 [(0, .ref m), (1, .int xk)] [.int 0, .ref (am 4), .int (C1 k 0)] C (by decide +kernel) rfl ?_
        refine g_ialdM (pc := 23) (n := 1) 0 b C (h1.1.2.2.2.2.2) nI_0.symm (by decide) (by decide) rfl (by decide +kernel) ?_
        refine g_icmp_ne (pc := 24) (off := 115) 139 C (by decide +kernel) (by decide) (fun c3 => ?_) (fun c3 => ?_)
        · refine g_seg [(139, .iinc 1 1, 3), (142, .goto (-140), 3)] 2 [(1, .int (xk + 1)), (0, .ref m)] [] C (by decide +kernel) rfl ?_
          refine g_subp [1, 0] (lv' := [(0, .ref m), (1, .int (xk + 1))]) rfl ?_
          exact ih (k + 1) F1 C1 G1 (xk + 1) (by omega) (by omega) (lp_s hx) (by rw [its, ← hs]; exact (if_neg (fun h9 => c3 h9.1)).symm) (h1) (hwF1) (hwC1)
        · refine g_seg [(27, .aload_n 0, 1)] 28 [(0, .ref m), (1, .int xk)] [.ref m] C (by decide +kernel) rfl ?_
          refine g_getf (pc := 28) (k := 7) (v := .ref (am 2)) C fl_X5_16 (h1.1.1) rfl (by decide +kernel) ?_
          refine g_seg [(31, .iconst 5, 1), (32, .iload_n 1, 1), (33, .imul, 1), (34, .iconst 4, 1), (35, .iadd, 1)] 36 [(0, .ref m), (1, .int xk)] [.int ((5 * xk) + 4), .ref (am 2)] C (by decide +kernel) rfl ?_
          refine g_ialdM (pc := 36) (n := 100) (5 * k + 4) (C1 k 4) C (h1.1.2.2.2.1) (by rw [hx]; exact ixM 5 k 4) (by omega) (by decide) (fA_at (by omega)) (by decide +kernel) ?_
          refine g_if_eq (pc := 37) (off := 6) 43 C (by decide +kernel) (by decide) (fun c4 => ?_) (fun c4 => ?_)
          · refine g_seg [(43, .aload_n 0, 1)] 44 [(0, .ref m), (1, .int xk)] [.ref m] C (by decide +kernel) rfl ?_
            refine g_getf (pc := 44) (k := 7) (v := .ref (am 2)) C fl_X5_16 (h1.1.1) rfl (by decide +kernel) ?_
            refine g_seg [(47, .iconst 5, 1), (48, .iload_n 1, 1), (49, .imul, 1), (50, .iconst 1, 1), (51, .iadd, 1)] 52 [(0, .ref m), (1, .int xk)] [.int ((5 * xk) + 1), .ref (am 2)] C (by decide +kernel) rfl ?_
            refine g_ialdM (pc := 52) (n := 100) (5 * k + 1) (C1 k 1) C (h1.1.2.2.2.1) (by rw [hx]; exact ixM 5 k 1) (by omega) (by decide) (fA_at (by omega)) (by decide +kernel) ?_
            refine g_seg [(53, .istore_n 2, 1), (54, .aload_n 0, 1), (55, .iload_n 2, 1), (56, .iconst 0, 1)] 57 [(2, .int (C1 k 1)), (0, .ref m), (1, .int xk)] [.int 0, .int (C1 k 1), .ref m] C (by decide +kernel) rfl ?_
            refine g_callV (pc := 57) C mV_X5_pe q755 (h1.1.1) rfl rfl (c_X5_pe l D cy h1 f 0 (by omega) (by omega) (C1 k 1) 0 (hC) (rfl)) rfl ⟨⟨Nat.le_of_ble_eq_true rfl, Nat.le_of_ble_eq_true rfl⟩, Nat.le_of_ble_eq_true rfl, Nat.le_of_ble_eq_true rfl⟩ rfl (Nat.le_of_ble_eq_true rfl) (by decide +kernel) ?_
            refine g_kI (fun v7 G6 hp5 => ?_)
            obtain ⟨rfl, rfl⟩ := hp5
            refine g_seg [(60, .iconst 1, 1)] 61 [(2, .int (C1 k 1)), (0, .ref m), (1, .int xk)] [.int 1, .int (F1 f 0)] C (by decide +kernel) rfl ?_
            refine g_icmp_ne (pc := 61) (off := 7) 68 C (by decide +kernel) (by decide) (fun c8 => ?_) (fun c8 => ?_)
            · refine g_seg [(68, .iconst 0, 1), (69, .istore_n 3, 1), (70, .iload_n 3, 1)] 71 [(3, .int 0), (2, .int (C1 k 1)), (0, .ref m), (1, .int xk)] [.int 0] C (by decide +kernel) rfl ?_
              refine g_if_eq (pc := 71) (off := 49) 120 C (by decide +kernel) (by decide) (fun _ => ?_) (fun c9 => absurd (by decide) c9)
              refine g_seg [(120, .aload_n 0, 1)] 121 [(3, .int 0), (2, .int (C1 k 1)), (0, .ref m), (1, .int xk)] [.ref m] C (by decide +kernel) rfl ?_
              refine g_getf (pc := 121) (k := 7) (v := .ref (am 2)) C fl_X5_16 (h1.1.1) rfl (by decide +kernel) ?_
              refine g_seg [(124, .iconst 5, 1), (125, .iload_n 1, 1), (126, .imul, 1), (127, .iconst 4, 1), (128, .iadd, 1), (129, .iload_n 3, 1)] 130 [(3, .int 0), (2, .int (C1 k 1)), (0, .ref m), (1, .int xk)] [.int 0, .int ((5 * xk) + 4), .ref (am 2)] C (by decide +kernel) rfl ?_
              refine g_if_eq (pc := 130) (off := 7) 137 C (by decide +kernel) (by decide) (fun _ => ?_) (fun c9 => absurd (by decide) c9)
              refine g_seg [(137, .iconst 2, 1)] 138 [(3, .int 0), (2, .int (C1 k 1)), (0, .ref m), (1, .int xk)] [.int 2, .int ((5 * xk) + 4), .ref (am 2)] C (by decide +kernel) rfl ?_
              refine g_iastM (pc := 138) (n := 100) (5 * k + 4) (fA 5 (s_set C1 k 4 2)) C (h1.1.2.2.2.1) (by rw [hx]; exact ixM 5 k 4) (by omega) (by decide) (upd_fA (by omega)) (by decide +kernel) ?_
              refine g_abs (P := fun G9 => RM cy m am th b nt nf nc nn T F1 (s_set C1 k 4 2) N G9) (RM.a2 h1) (fun G9 h10 => ?_)
              refine g_seg [(139, .iinc 1 1, 3), (142, .goto (-140), 3)] 2 [(1, .int (xk + 1)), (3, .int 0), (2, .int (C1 k 1)), (0, .ref m)] [] C (by decide +kernel) rfl ?_
              refine g_subp [3, 0] (lv' := [(0, .ref m), (1, .int (xk + 1))]) rfl ?_
              exact ih (k + 1) F1 (s_set C1 k 4 2) G9 (xk + 1) (by omega) (by omega) (lp_s hx) (by rw [its, ← hs]; simp only [m_cue]; rw [if_pos ⟨c3, c4⟩, ixn_n hC (by omega), if_neg c8]) (h10) (hwF1) (wC_set hwC1)
            · obtain ⟨t, ht, hF⟩ := hwF1 f hf c8
              refine g_seg [(64, .iconst 1, 1), (65, .goto 4, 3), (69, .istore_n 3, 1), (70, .iload_n 3, 1)] 71 [(3, .int 1), (2, .int (C1 k 1)), (0, .ref m), (1, .int xk)] [.int 1] C (by decide +kernel) rfl ?_
              refine g_if_eq (pc := 71) (off := 49) 120 C (by decide +kernel) (by decide) (fun c9 => absurd c9 (by decide)) (fun _ => ?_)
              refine g_seg [(74, .aload_n 0, 1), (75, .iload_n 2, 1), (76, .iconst 2, 1), (77, .iconst (-1), 1), (78, .aload_n 0, 1), (79, .aload_n 0, 1), (80, .iload_n 2, 1), (81, .iconst 1, 1)] 82 [(3, .int 1), (2, .int (C1 k 1)), (0, .ref m), (1, .int xk)] [.int 1, .int (C1 k 1), .ref m, .ref m, .int (-1), .int 2, .int (C1 k 1), .ref m] C (by decide +kernel) rfl ?_
              refine g_callV (pc := 82) C mV_X5_pe q755 (h1.1.1) rfl rfl (c_X5_pe l D cy h1 f 1 (by omega) (by omega) (C1 k 1) 1 (hC) (rfl)) rfl ⟨⟨Nat.le_of_ble_eq_true rfl, Nat.le_of_ble_eq_true rfl⟩, Nat.le_of_ble_eq_true rfl, Nat.le_of_ble_eq_true rfl⟩ rfl (Nat.le_of_ble_eq_true rfl) (by decide +kernel) ?_
              refine g_kI (fun v13 G12 hp11 => ?_)
              obtain ⟨rfl, rfl⟩ := hp11
              refine g_seg [(85, .iconst 0, 1)] 86 [(3, .int 1), (2, .int (C1 k 1)), (0, .ref m), (1, .int xk)] [.int 0, .int (F1 f 1), .ref m, .int (-1), .int 2, .int (C1 k 1), .ref m] C (by decide +kernel) rfl ?_
              refine g_callV (pc := 86) C mV_X5_placeOf q779 (h1.1.1) rfl rfl (c_X5_placeOf l D cy h1 t (by omega) (F1 f 1) 0 (hF) (hwok t (by omega))) rfl ⟨⟨Nat.le_of_ble_eq_true rfl, Nat.le_of_ble_eq_true rfl⟩, Nat.le_of_ble_eq_true rfl, Nat.le_of_ble_eq_true rfl⟩ rfl (Nat.le_of_ble_eq_true rfl) (by decide +kernel) ?_
              refine g_kI (fun v16 G15 hp14 => ?_)
              obtain ⟨rfl, rfl⟩ := hp14
              refine g_seg [(89, .aload_n 0, 1)] 90 [(3, .int 1), (2, .int (C1 k 1)), (0, .ref m), (1, .int xk)] [.ref m, .int (s_at T t (b + 0)), .int (-1), .int 2, .int (C1 k 1), .ref m] C (by decide +kernel) rfl ?_
              refine g_getf (pc := 90) (k := 7) (v := .ref (am 2)) C fl_X5_16 (h1.1.1) rfl (by decide +kernel) ?_
              refine g_seg [(93, .iconst 5, 1), (94, .iload_n 1, 1), (95, .imul, 1), (96, .iconst 2, 1), (97, .iadd, 1)] 98 [(3, .int 1), (2, .int (C1 k 1)), (0, .ref m), (1, .int xk)] [.int ((5 * xk) + 2), .ref (am 2), .int (s_at T t (b + 0)), .int (-1), .int 2, .int (C1 k 1), .ref m] C (by decide +kernel) rfl ?_
              refine g_ialdM (pc := 98) (n := 100) (5 * k + 2) (C1 k 2) C (h1.1.2.2.2.1) (by rw [hx]; exact ixM 5 k 2) (by omega) (by decide) (fA_at (by omega)) (by decide +kernel) ?_
              refine g_seg [(99, .iadd, 1), (100, .aload_n 0, 1)] 101 [(3, .int 1), (2, .int (C1 k 1)), (0, .ref m), (1, .int xk)] [.ref m, .int ((s_at T t (b + 0)) + (C1 k 2)), .int (-1), .int 2, .int (C1 k 1), .ref m] C (by decide +kernel) rfl ?_
              refine g_getf (pc := 101) (k := 9) (v := .ref (am 4)) C fl_X5_22 (h1.1.1) rfl (by decide +kernel) ?_
              refine g_seg [(104, .iconst 0, 1)] 105 [(3, .int 1), (2, .int (C1 k 1)), (0, .ref m), (1, .int xk)] [.int 0, .ref (am 4), .int ((s_at T t (b + 0)) + (C1 k 2)), .int (-1), .int 2, .int (C1 k 1), .ref m] C (by decide +kernel) rfl ?_
              refine g_ialdM (pc := 105) (n := 1) 0 b C (h1.1.2.2.2.2.2) nI_0.symm (by decide) (by decide) rfl (by decide +kernel) ?_
              refine g_seg [(106, .aload_n 0, 1)] 107 [(3, .int 1), (2, .int (C1 k 1)), (0, .ref m), (1, .int xk)] [.ref m, .int b, .int ((s_at T t (b + 0)) + (C1 k 2)), .int (-1), .int 2, .int (C1 k 1), .ref m] C (by decide +kernel) rfl ?_
              refine g_getf (pc := 107) (k := 7) (v := .ref (am 2)) C fl_X5_16 (h1.1.1) rfl (by decide +kernel) ?_
              refine g_seg [(110, .iconst 5, 1), (111, .iload_n 1, 1), (112, .imul, 1), (113, .iconst 3, 1), (114, .iadd, 1)] 115 [(3, .int 1), (2, .int (C1 k 1)), (0, .ref m), (1, .int xk)] [.int ((5 * xk) + 3), .ref (am 2), .int b, .int ((s_at T t (b + 0)) + (C1 k 2)), .int (-1), .int 2, .int (C1 k 1), .ref m] C (by decide +kernel) rfl ?_
              refine g_ialdM (pc := 115) (n := 100) (5 * k + 3) (C1 k 3) C (h1.1.2.2.2.1) (by rw [hx]; exact ixM 5 k 3) (by omega) (by decide) (fA_at (by omega)) (by decide +kernel) ?_
              refine g_seg [(116, .iadd, 1)] 117 [(3, .int 1), (2, .int (C1 k 1)), (0, .ref m), (1, .int xk)] [.int (b + (C1 k 3)), .int ((s_at T t (b + 0)) + (C1 k 2)), .int (-1), .int 2, .int (C1 k 1), .ref m] C (by decide +kernel) rfl ?_
              refine g_callV (pc := 117) C mV_X5_set q743 (h1.1.1) rfl rfl (c_X5_set l D cy h1 f (by omega) (C1 k 1) 2 (-1) ((s_at T t (b + 0)) + (C1 k 2)) (b + (C1 k 3)) (hC)) rfl ⟨⟨Nat.le_of_ble_eq_true rfl, Nat.le_of_ble_eq_true rfl⟩, Nat.le_of_ble_eq_true rfl, Nat.le_of_ble_eq_true rfl⟩ rfl (Nat.le_of_ble_eq_true rfl) (by decide +kernel) ?_
              refine g_kV (fun G17 h18 => ?_)
              refine g_seg [(120, .aload_n 0, 1)] 121 [(3, .int 1), (2, .int (C1 k 1)), (0, .ref m), (1, .int xk)] [.ref m] C (by decide +kernel) rfl ?_
              refine g_getf (pc := 121) (k := 7) (v := .ref (am 2)) C fl_X5_16 (h18.1.1) rfl (by decide +kernel) ?_
              refine g_seg [(124, .iconst 5, 1), (125, .iload_n 1, 1), (126, .imul, 1), (127, .iconst 4, 1), (128, .iadd, 1), (129, .iload_n 3, 1)] 130 [(3, .int 1), (2, .int (C1 k 1)), (0, .ref m), (1, .int xk)] [.int 1, .int ((5 * xk) + 4), .ref (am 2)] C (by decide +kernel) rfl ?_
              refine g_if_eq (pc := 130) (off := 7) 137 C (by decide +kernel) (by decide) (fun c9 => absurd c9 (by decide)) (fun _ => ?_)
              refine g_seg [(133, .iconst 1, 1), (134, .goto 4, 3)] 138 [(3, .int 1), (2, .int (C1 k 1)), (0, .ref m), (1, .int xk)] [.int 1, .int ((5 * xk) + 4), .ref (am 2)] C (by decide +kernel) rfl ?_
              refine g_iastM (pc := 138) (n := 100) (5 * k + 4) (fA 5 (s_set C1 k 4 1)) C (h18.1.2.2.2.1) (by rw [hx]; exact ixM 5 k 4) (by omega) (by decide) (upd_fA (by omega)) (by decide +kernel) ?_
              refine g_abs (P := fun G9 => RM cy m am th b nt nf nc nn T (s_row F1 f 2 (-1) ((s_at T t (b + 0)) + (C1 k 2)) (b + (C1 k 3))) (s_set C1 k 4 1) N G9) (RM.a2 h18) (fun G19 h20 => ?_)
              refine g_seg [(139, .iinc 1 1, 3), (142, .goto (-140), 3)] 2 [(1, .int (xk + 1)), (3, .int 1), (2, .int (C1 k 1)), (0, .ref m)] [] C (by decide +kernel) rfl ?_
              refine g_subp [3, 0] (lv' := [(0, .ref m), (1, .int (xk + 1))]) rfl ?_
              exact ih (k + 1) (s_row F1 f 2 (-1) ((s_at T t (b + 0)) + (C1 k 2)) (b + (C1 k 3))) (s_set C1 k 4 1) G19 (xk + 1) (by omega) (by omega) (lp_s hx) (by rw [its, ← hs]; simp only [m_cue]; rw [if_pos ⟨c3, c4⟩, ixn_n hC (by omega), if_pos c8, ixn_n hF (by omega)]) (h20) (wF_row hwF1 (fun e9 => absurd e9 (by decide))) (wC_set hwC1)
          · refine g_seg [(40, .goto 99, 3), (139, .iinc 1 1, 3), (142, .goto (-140), 3)] 2 [(1, .int (xk + 1)), (0, .ref m)] [] C (by decide +kernel) rfl ?_
            refine g_subp [1, 0] (lv' := [(0, .ref m), (1, .int (xk + 1))]) rfl ?_
            exact ih (k + 1) F1 C1 G1 (xk + 1) (by omega) (by omega) (lp_s hx) (by rw [its, ← hs]; exact (if_neg (fun h9 => c4 h9.2)).symm) (h1) (hwF1) (hwC1)
  exact lp1 (nc + 1) 0 F Cu G 0 (by omega) (by omega) (nI_0.symm) (rfl) (h) (hwF) (hwC)
set_option maxHeartbeats 4000000 in
set_option maxRecDepth 100000 in
theorem c_X5_land (l : Launch) (D : va_G) (cy : Nat → ClassId) {G : GG} {m : Nat} {am : Nat → Nat} {th b : Int32} {nt nf nc nn : Nat} {T F Cu N : Rw} (h : RM cy m am th b nt nf nc nn T F Cu N G) (hwok : s_wok T nt) (f : Nat) (hf : f < nf) (t : Int32) (ht : t = nI f) : Ctr l D cy yX5_land prog_7_method_36_code 4 none kX5_land [.ref m, .int t] G (pV (fun G' => RM cy m am th b nt nf nc nn T (m_land N nn T nt nf b f F) Cu N G')) := by
  refine Ctr.mk (by decide +kernel) (Nat.le_of_ble_eq_true rfl) ?_
  intro κ C R
  have hbd := h.2.2
  refine g_pc (pc' := 0) rfl ?_
  refine g_seg [(0, .aload_n 0, 1), (1, .iload_n 1, 1), (2, .iconst 2, 1)] 3 [(0, .ref m), (1, .int t)] [.int 2, .int t, .ref m] C (by decide +kernel) rfl ?_
  refine g_callV (pc := 3) C mV_X5_pe q755 (h.1.1) rfl rfl (c_X5_pe l D cy h f 2 (by omega) (by omega) t 2 (ht) (rfl)) rfl ⟨⟨Nat.le_of_ble_eq_true rfl, Nat.le_of_ble_eq_true rfl⟩, Nat.le_of_ble_eq_true rfl, Nat.le_of_ble_eq_true rfl⟩ rfl (Nat.le_of_ble_eq_true rfl) (by decide +kernel) ?_
  refine g_kI (fun v3 G2 hp1 => ?_)
  obtain ⟨rfl, rfl⟩ := hp1
  refine g_seg [(6, .istore_n 2, 1), (7, .iconst 0, 1), (8, .istore_n 3, 1)] 9 [(3, .int 0), (2, .int (F f 2)), (0, .ref m), (1, .int t)] [] C (by decide +kernel) rfl ?_
  refine g_subp [2, 3, 1, 0] (lv' := [(0, .ref m), (1, .int t), (2, .int (F f 2)), (3, .int 0)]) rfl ?_
  have lp4 : ∀ (n0 k : Nat) (xk : Int32), nt + 1 ≤ k + n0 → k ≤ nt → xk = nI k → (∀ t, t < k → t < nt → m_free T F nf b (F f 2) t = false) → PG κ 4 0 0 G2 [(0, .ref m), (1, .int t), (2, .int (F f 2)), (3, .int xk)] 9 [] := by
    intro n0
    induction n0 with
    | zero => intro k xk h1 h2; intros; exact absurd h1 (by omega)
    | succ n0 ih =>
      intro k xk hm hk hx hs
      refine g_seg [(9, .iload_n 3, 1), (10, .aload_n 0, 1)] 11 [(0, .ref m), (1, .int t), (2, .int (F f 2)), (3, .int xk)] [.ref m, .int xk] C (by decide +kernel) rfl ?_
      refine g_getf (pc := 11) (k := 1) (v := .int (nI nt)) C fl_X5_29 (h.1.1) rfl (by decide +kernel) ?_
      refine g_icmp_ge (pc := 14) (off := 57) 71 C (by decide +kernel) (by decide) (fun c5 => ?_) (fun c5 => ?_)
      · have hk8 : k = nt := by have := lp_ge hx (by omega) (by omega) c5; omega
        refine g_seg [(71, .aload_n 0, 1), (72, .iload_n 1, 1), (73, .iload_n 2, 1)] 74 [(0, .ref m), (1, .int t), (2, .int (F f 2)), (3, .int xk)] [.int (F f 2), .int t, .ref m] C (by decide +kernel) rfl ?_
        refine g_callV (pc := 74) C mV_X5_falls q852 (h.1.1) rfl rfl (c_X5_falls l D cy h f (by omega) t (F f 2) (ht)) rfl ⟨⟨Nat.le_of_ble_eq_true rfl, Nat.le_of_ble_eq_true rfl⟩, Nat.le_of_ble_eq_true rfl, Nat.le_of_ble_eq_true rfl⟩ rfl (Nat.le_of_ble_eq_true rfl) (by decide +kernel) ?_
        refine g_kV (fun G6 h7 => ?_)
        exact g_vret (pc := 77) C R (⟨rfl, by unfold m_land; rw [fst_none (fun t ht => hs t (by omega) ht)]; exact h7⟩) (Nat.le_of_ble_eq_true rfl) (Nat.le_of_ble_eq_true rfl) (by decide +kernel)
      · have hk8 : k < nt := lp_lt hx (by omega) (by omega) c5
        refine g_seg [(17, .aload_n 0, 1), (18, .iload_n 3, 1)] 19 [(0, .ref m), (1, .int t), (2, .int (F f 2)), (3, .int xk)] [.int xk, .ref m] C (by decide +kernel) rfl ?_
        refine g_callV (pc := 19) C mV_X5_isFree q759 (h.1.1) rfl rfl (c_X5_isFree l D cy h k (by omega) xk (hx)) rfl ⟨⟨Nat.le_of_ble_eq_true rfl, Nat.le_of_ble_eq_true rfl⟩, Nat.le_of_ble_eq_true rfl, Nat.le_of_ble_eq_true rfl⟩ rfl (Nat.le_of_ble_eq_true rfl) (by decide +kernel) ?_
        refine g_kI (fun v10 G9 hp8 => ?_)
        obtain ⟨rfl, hp8⟩ := hp8
        rcases hp8 with ⟨rfl, h11⟩ | ⟨rfl, h11⟩
        · refine g_if_eq (pc := 22) (off := 43) 65 C (by decide +kernel) (by decide) (fun c9 => absurd c9 (by decide)) (fun _ => ?_)
          refine g_seg [(25, .aload_n 0, 1), (26, .iload_n 3, 1), (27, .iconst 0, 1)] 28 [(0, .ref m), (1, .int t), (2, .int (F f 2)), (3, .int xk)] [.int 0, .int xk, .ref m] C (by decide +kernel) rfl ?_
          refine g_callV (pc := 28) C mV_X5_placeOf q779 (h.1.1) rfl rfl (c_X5_placeOf l D cy h k (by omega) xk 0 (hx) (hwok k (by omega))) rfl ⟨⟨Nat.le_of_ble_eq_true rfl, Nat.le_of_ble_eq_true rfl⟩, Nat.le_of_ble_eq_true rfl, Nat.le_of_ble_eq_true rfl⟩ rfl (Nat.le_of_ble_eq_true rfl) (by decide +kernel) ?_
          refine g_kI (fun v14 G13 hp12 => ?_)
          obtain ⟨rfl, rfl⟩ := hp12
          refine g_seg [(31, .iload_n 2, 1)] 32 [(0, .ref m), (1, .int t), (2, .int (F f 2)), (3, .int xk)] [.int (F f 2), .int (s_at T k (b + 0))] C (by decide +kernel) rfl ?_
          refine g_callS (pc := 32) C mS_X5_isNear q846 (c_X5_isNear l D cy G13 (s_at T k (b + 0)) (F f 2)) rfl ⟨⟨Nat.le_of_ble_eq_true rfl, Nat.le_of_ble_eq_true rfl⟩, Nat.le_of_ble_eq_true rfl, Nat.le_of_ble_eq_true rfl⟩ rfl (Nat.le_of_ble_eq_true rfl) (by decide +kernel) ?_
          refine g_kI (fun v17 G16 hp15 => ?_)
          obtain ⟨rfl, hp15⟩ := hp15
          rcases hp15 with ⟨rfl, h18⟩ | ⟨rfl, h18⟩
          · refine g_if_ne (pc := 35) (off := 6) 41 C (by decide +kernel) (by decide) (fun _ => ?_) (fun c9 => absurd c9 (by decide))
            refine g_seg [(41, .aload_n 0, 1), (42, .iload_n 1, 1), (43, .iconst 1, 1), (44, .iload_n 3, 1), (45, .iconst 0, 1), (46, .iconst (-1), 1)] 47 [(0, .ref m), (1, .int t), (2, .int (F f 2)), (3, .int xk)] [.int (-1), .int 0, .int xk, .int 1, .int t, .ref m] C (by decide +kernel) rfl ?_
            refine g_callV (pc := 47) C mV_X5_set q743 (h.1.1) rfl rfl (c_X5_set l D cy h f (by omega) t 1 xk 0 (-1) (ht)) rfl ⟨⟨Nat.le_of_ble_eq_true rfl, Nat.le_of_ble_eq_true rfl⟩, Nat.le_of_ble_eq_true rfl, Nat.le_of_ble_eq_true rfl⟩ rfl (Nat.le_of_ble_eq_true rfl) (by decide +kernel) ?_
            refine g_kV (fun G19 h20 => ?_)
            refine g_seg [(50, .aload_n 0, 1)] 51 [(0, .ref m), (1, .int t), (2, .int (F f 2)), (3, .int xk)] [.ref m] C (by decide +kernel) rfl ?_
            refine g_getf (pc := 51) (k := 6) (v := .ref (am 1)) C fl_X5_13 (h20.1.1) rfl (by decide +kernel) ?_
            refine g_seg [(54, .iconst 5, 1), (55, .iload_n 1, 1), (56, .imul, 1), (57, .iconst 4, 1), (58, .iadd, 1), (59, .dup2, 1)] 60 [(0, .ref m), (1, .int t), (2, .int (F f 2)), (3, .int xk)] [.int ((5 * t) + 4), .ref (am 1), .int ((5 * t) + 4), .ref (am 1)] C (by decide +kernel) rfl ?_
            refine g_ialdM (pc := 60) (n := 40) (5 * f + 4) ((s_row F f 1 xk 0 (-1)) f 4) C (h20.1.2.2.1) (by rw [ht]; exact ixM 5 f 4) (by omega) (by decide) (fA_at (by omega)) (by decide +kernel) ?_
            refine g_seg [(61, .iconst 1, 1), (62, .iadd, 1)] 63 [(0, .ref m), (1, .int t), (2, .int (F f 2)), (3, .int xk)] [.int (((s_row F f 1 xk 0 (-1)) f 4) + 1), .int ((5 * t) + 4), .ref (am 1)] C (by decide +kernel) rfl ?_
            refine g_iastM (pc := 63) (n := 40) (5 * f + 4) (fA 5 (s_set (s_row F f 1 xk 0 (-1)) f 4 (((s_row F f 1 xk 0 (-1)) f 4) + 1))) C (h20.1.2.2.1) (by rw [ht]; exact ixM 5 f 4) (by omega) (by decide) (upd_fA (by omega)) (by decide +kernel) ?_
            refine g_abs (P := fun G9 => RM cy m am th b nt nf nc nn T (s_set (s_row F f 1 xk 0 (-1)) f 4 (((s_row F f 1 xk 0 (-1)) f 4) + 1)) Cu N G9) (RM.a1 h20) (fun G21 h22 => ?_)
            exact g_vret (pc := 64) C R (⟨rfl, by unfold m_land; rw [fst_some (t := k) hk8 (by unfold m_free; rw [decide_eq_true (by rw [← hx]; exact h11), h18]; rfl) (fun u hu => hs u hu (by omega))]; rw [hx] at h22; exact h22⟩) (Nat.le_of_ble_eq_true rfl) (Nat.le_of_ble_eq_true rfl) (by decide +kernel)
          · refine g_if_ne (pc := 35) (off := 6) 41 C (by decide +kernel) (by decide) (fun c9 => absurd (by decide) c9) (fun _ => ?_)
            refine g_seg [(38, .goto 27, 3), (65, .iinc 3 1, 3), (68, .goto (-59), 3)] 9 [(3, .int (xk + 1)), (0, .ref m), (1, .int t), (2, .int (F f 2))] [] C (by decide +kernel) rfl ?_
            refine g_subp [1, 2, 3, 0] (lv' := [(0, .ref m), (1, .int t), (2, .int (F f 2)), (3, .int (xk + 1))]) rfl ?_
            exact ih (k + 1) (xk + 1) (by omega) (by omega) (lp_s hx) (no_f hs (by unfold m_free; rw [h18, Bool.and_false]))
        · refine g_if_eq (pc := 22) (off := 43) 65 C (by decide +kernel) (by decide) (fun _ => ?_) (fun c9 => absurd (by decide) c9)
          refine g_seg [(65, .iinc 3 1, 3), (68, .goto (-59), 3)] 9 [(3, .int (xk + 1)), (0, .ref m), (1, .int t), (2, .int (F f 2))] [] C (by decide +kernel) rfl ?_
          refine g_subp [1, 2, 3, 0] (lv' := [(0, .ref m), (1, .int t), (2, .int (F f 2)), (3, .int (xk + 1))]) rfl ?_
          exact ih (k + 1) (xk + 1) (by omega) (by omega) (lp_s hx) (no_f hs (by unfold m_free; rw [decide_eq_false (by rw [← hx]; exact h11)]; rfl))
  exact lp4 (nt + 1) 0 0 (by omega) (by omega) (nI_0.symm) (fun t h1 => absurd h1 (by omega))
set_option maxHeartbeats 4000000 in
set_option maxRecDepth 100000 in
theorem c_X5_wear (l : Launch) (D : va_G) (cy : Nat → ClassId) {G : GG} {m : Nat} {am : Nat → Nat} {th b : Int32} {nt nf nc nn : Nat} {T F Cu N : Rw} (h : RM cy m am th b nt nf nc nn T F Cu N G) (hwok : s_wok T nt) (i : Nat) (hi : i < nt) (t : Int32) (ht : t = nI i) : Ctr l D cy yX5_wear prog_7_method_37_code 3 none kX5_wear [.ref m, .int t] G (pV (fun G' => RM cy m am th b nt nf nc nn (m_wear N nn nf b i (T, F)).1 (m_wear N nn nf b i (T, F)).2 Cu N G')) := by
  refine Ctr.mk (by decide +kernel) (Nat.le_of_ble_eq_true rfl) ?_
  intro κ C R
  have hbd := h.2.2
  refine g_pc (pc' := 0) rfl ?_
  refine g_seg [(0, .aload_n 0, 1), (1, .iload_n 1, 1), (2, .iconst 5, 1)] 3 [(0, .ref m), (1, .int t)] [.int 5, .int t, .ref m] C (by decide +kernel) rfl ?_
  refine g_callV (pc := 3) C mV_X5_ri q723 (h.1.1) rfl rfl (c_X5_ri l D cy h i 5 (by omega) (by omega) t 5 (ht) (rfl)) rfl ⟨⟨Nat.le_of_ble_eq_true rfl, Nat.le_of_ble_eq_true rfl⟩, Nat.le_of_ble_eq_true rfl, Nat.le_of_ble_eq_true rfl⟩ rfl (Nat.le_of_ble_eq_true rfl) (by decide +kernel) ?_
  refine g_kI (fun v3 G2 hp1 => ?_)
  obtain ⟨rfl, rfl⟩ := hp1
  refine g_if_eq (pc := 6) (off := 31) 37 C (by decide +kernel) (by decide) (fun c4 => ?_) (fun c4 => ?_)
  · exact g_vret (pc := 37) C R (⟨rfl, by unfold m_wear; rw [if_neg (fun h9 => h9.1 c4)]; exact h⟩) (Nat.le_of_ble_eq_true rfl) (Nat.le_of_ble_eq_true rfl) (by decide +kernel)
  · refine g_seg [(9, .aload_n 0, 1)] 10 [(0, .ref m), (1, .int t)] [.ref m] C (by decide +kernel) rfl ?_
    refine g_getf (pc := 10) (k := 9) (v := .ref (am 4)) C fl_X5_22 (h.1.1) rfl (by decide +kernel) ?_
    refine g_seg [(13, .iconst 0, 1)] 14 [(0, .ref m), (1, .int t)] [.int 0, .ref (am 4)] C (by decide +kernel) rfl ?_
    refine g_ialdM (pc := 14) (n := 1) 0 b C (h.1.2.2.2.2.2) nI_0.symm (by decide) (by decide) rfl (by decide +kernel) ?_
    refine g_seg [(15, .aload_n 0, 1), (16, .iload_n 1, 1), (17, .bipush 6, 2)] 19 [(0, .ref m), (1, .int t)] [.int 6, .int t, .ref m, .int b] C (by decide +kernel) rfl ?_
    refine g_callV (pc := 19) C mV_X5_ri q723 (h.1.1) rfl rfl (c_X5_ri l D cy h i 6 (by omega) (by omega) t 6 (ht) (rfl)) rfl ⟨⟨Nat.le_of_ble_eq_true rfl, Nat.le_of_ble_eq_true rfl⟩, Nat.le_of_ble_eq_true rfl, Nat.le_of_ble_eq_true rfl⟩ rfl (Nat.le_of_ble_eq_true rfl) (by decide +kernel) ?_
    refine g_kI (fun v7 G6 hp5 => ?_)
    obtain ⟨rfl, rfl⟩ := hp5
    refine g_seg [(22, .isub, 1), (23, .iconst 2, 1), (24, .iconst 2, 1), (25, .aload_n 0, 1), (26, .iload_n 1, 1), (27, .iconst 2, 1)] 28 [(0, .ref m), (1, .int t)] [.int 2, .int t, .ref m, .int 2, .int 2, .int (b - (T i 6))] C (by decide +kernel) rfl ?_
    refine g_callV (pc := 28) C mV_X5_ri q723 (h.1.1) rfl rfl (c_X5_ri l D cy h i 2 (by omega) (by omega) t 2 (ht) (rfl)) rfl ⟨⟨Nat.le_of_ble_eq_true rfl, Nat.le_of_ble_eq_true rfl⟩, Nat.le_of_ble_eq_true rfl, Nat.le_of_ble_eq_true rfl⟩ rfl (Nat.le_of_ble_eq_true rfl) (by decide +kernel) ?_
    refine g_kI (fun v10 G9 hp8 => ?_)
    obtain ⟨rfl, rfl⟩ := hp8
    refine g_seg [(31, .iadd, 1), (32, .imul, 1)] 33 [(0, .ref m), (1, .int t)] [.int (2 * (2 + (T i 2))), .int (b - (T i 6))] C (by decide +kernel) rfl ?_
    refine g_irem (pc := 33) C (by decide +kernel) (s_hne2 (hwok i hi)) ?_
    refine g_if_eq (pc := 34) (off := 4) 38 C (by decide +kernel) (by decide) (fun c11 => ?_) (fun c11 => ?_)
    · refine g_seg [(38, .aload_n 0, 1), (39, .iload_n 1, 1), (40, .iconst 4, 1), (41, .aload_n 0, 1), (42, .iload_n 1, 1), (43, .iconst 4, 1)] 44 [(0, .ref m), (1, .int t)] [.int 4, .int t, .ref m, .int 4, .int t, .ref m] C (by decide +kernel) rfl ?_
      refine g_callV (pc := 44) C mV_X5_ri q723 (h.1.1) rfl rfl (c_X5_ri l D cy h i 4 (by omega) (by omega) t 4 (ht) (rfl)) rfl ⟨⟨Nat.le_of_ble_eq_true rfl, Nat.le_of_ble_eq_true rfl⟩, Nat.le_of_ble_eq_true rfl, Nat.le_of_ble_eq_true rfl⟩ rfl (Nat.le_of_ble_eq_true rfl) (by decide +kernel) ?_
      refine g_kI (fun v14 G13 hp12 => ?_)
      obtain ⟨rfl, rfl⟩ := hp12
      refine g_seg [(47, .aload_n 0, 1), (48, .iload_n 1, 1)] 49 [(0, .ref m), (1, .int t)] [.int t, .ref m, .int (T i 4), .int 4, .int t, .ref m] C (by decide +kernel) rfl ?_
      refine g_callV (pc := 49) C mV_X5_hanging q763 (h.1.1) rfl rfl (c_X5_hanging l D cy h t) rfl ⟨⟨Nat.le_of_ble_eq_true rfl, Nat.le_of_ble_eq_true rfl⟩, Nat.le_of_ble_eq_true rfl, Nat.le_of_ble_eq_true rfl⟩ rfl (Nat.le_of_ble_eq_true rfl) (by decide +kernel) ?_
      refine g_kI (fun v17 G16 hp15 => ?_)
      obtain ⟨rfl, rfl⟩ := hp15
      refine g_seg [(52, .iadd, 1)] 53 [(0, .ref m), (1, .int t)] [.int ((T i 4) + (nI (s_hang F nf t))), .int 4, .int t, .ref m] C (by decide +kernel) rfl ?_
      refine g_callV (pc := 53) C mV_X5_setRig q727 (h.1.1) rfl rfl (c_X5_setRig l D cy h i 4 (by omega) (by omega) t 4 ((T i 4) + (nI (s_hang F nf t))) (ht) (rfl)) rfl ⟨⟨Nat.le_of_ble_eq_true rfl, Nat.le_of_ble_eq_true rfl⟩, Nat.le_of_ble_eq_true rfl, Nat.le_of_ble_eq_true rfl⟩ rfl (Nat.le_of_ble_eq_true rfl) (by decide +kernel) ?_
      refine g_kV (fun G18 h19 => ?_)
      refine g_seg [(56, .aload_n 0, 1), (57, .iload_n 1, 1), (58, .iconst 4, 1)] 59 [(0, .ref m), (1, .int t)] [.int 4, .int t, .ref m] C (by decide +kernel) rfl ?_
      refine g_callV (pc := 59) C mV_X5_ri q723 (h19.1.1) rfl rfl (c_X5_ri l D cy h19 i 4 (by omega) (by omega) t 4 (ht) (rfl)) rfl ⟨⟨Nat.le_of_ble_eq_true rfl, Nat.le_of_ble_eq_true rfl⟩, Nat.le_of_ble_eq_true rfl, Nat.le_of_ble_eq_true rfl⟩ rfl (Nat.le_of_ble_eq_true rfl) (by decide +kernel) ?_
      refine g_kI (fun v22 G21 hp20 => ?_)
      obtain ⟨rfl, rfl⟩ := hp20
      refine g_seg [(62, .aload_n 0, 1), (63, .iload_n 1, 1), (64, .iconst 3, 1)] 65 [(0, .ref m), (1, .int t)] [.int 3, .int t, .ref m, .int ((s_set T i 4 ((T i 4) + (nI (s_hang F nf t)))) i 4)] C (by decide +kernel) rfl ?_
      refine g_callV (pc := 65) C mV_X5_ri q723 (h19.1.1) rfl rfl (c_X5_ri l D cy h19 i 3 (by omega) (by omega) t 3 (ht) (rfl)) rfl ⟨⟨Nat.le_of_ble_eq_true rfl, Nat.le_of_ble_eq_true rfl⟩, Nat.le_of_ble_eq_true rfl, Nat.le_of_ble_eq_true rfl⟩ rfl (Nat.le_of_ble_eq_true rfl) (by decide +kernel) ?_
      refine g_kI (fun v25 G24 hp23 => ?_)
      obtain ⟨rfl, rfl⟩ := hp23
      refine g_icmp_gt (pc := 68) (off := 4) 72 C (by decide +kernel) (by decide) (fun c26 => ?_) (fun c26 => ?_)
      · refine g_seg [(72, .aload_n 0, 1), (73, .iload_n 1, 1), (74, .iconst 5, 1), (75, .iconst 0, 1)] 76 [(0, .ref m), (1, .int t)] [.int 0, .int 5, .int t, .ref m] C (by decide +kernel) rfl ?_
        refine g_callV (pc := 76) C mV_X5_setRig q727 (h19.1.1) rfl rfl (c_X5_setRig l D cy h19 i 5 (by omega) (by omega) t 5 0 (ht) (rfl)) rfl ⟨⟨Nat.le_of_ble_eq_true rfl, Nat.le_of_ble_eq_true rfl⟩, Nat.le_of_ble_eq_true rfl, Nat.le_of_ble_eq_true rfl⟩ rfl (Nat.le_of_ble_eq_true rfl) (by decide +kernel) ?_
        refine g_kV (fun G27 h28 => ?_)
        have hT2 : s_set (s_set T i 4 ((T i 4) + (nI (s_hang F nf t)))) i 5 0 = (s_set (m_rope T F nf i) i 5 0) := by rw [ht]; rfl
        rw [hT2] at h28
        refine g_seg [(79, .iconst 0, 1), (80, .istore_n 2, 1)] 81 [(2, .int 0), (0, .ref m), (1, .int t)] [] C (by decide +kernel) rfl ?_
        refine g_subp [1, 2, 0] (lv' := [(0, .ref m), (1, .int t), (2, .int 0)]) rfl ?_
        have lp29 : ∀ (n0 k : Nat) (F1 : Rw) (G1 : GG) (xk : Int32), nf + 1 ≤ k + n0 → k ≤ nf → xk = nI k → F1 = its (s_drop N nn i (s_at (s_set (m_rope T F nf i) i 5 0) i (b + 0))) F k → RM cy m am th b nt nf nc nn (s_set (m_rope T F nf i) i 5 0) F1 Cu N G1 → PG κ 3 0 0 G1 [(0, .ref m), (1, .int t), (2, .int xk)] 81 [] := by
          intro n0
          induction n0 with
          | zero => intro k F1 G1 xk h1 h2; intros; exact absurd h1 (by omega)
          | succ n0 ih =>
            intro k F1 G1 xk hm hk hx hs h1
            refine g_seg [(81, .iload_n 2, 1), (82, .aload_n 0, 1)] 83 [(0, .ref m), (1, .int t), (2, .int xk)] [.ref m, .int xk] C (by decide +kernel) rfl ?_
            refine g_getf (pc := 83) (k := 2) (v := .int (nI nf)) C fl_X5_36 (h1.1.1) rfl (by decide +kernel) ?_
            refine g_icmp_ge (pc := 86) (off := 30) 116 C (by decide +kernel) (by decide) (fun c30 => ?_) (fun c30 => ?_)
            · have hk8 : k = nf := by have := lp_ge hx (by omega) (by omega) c30; omega
              exact g_vret (pc := 116) C R (⟨rfl, by rw [hk8] at hs; subst ht; unfold m_wear; rw [if_pos ⟨c4, c11⟩, if_neg (show ¬ m_rope T F nf i i 4 ≤ m_rope T F nf i i 3 from Int32.not_le.mpr c26)]; rw [← hs]; exact h1⟩) (Nat.le_of_ble_eq_true rfl) (Nat.le_of_ble_eq_true rfl) (by decide +kernel)
            · have hk8 : k < nf := lp_lt hx (by omega) (by omega) c30
              refine g_seg [(89, .aload_n 0, 1), (90, .iload_n 2, 1), (91, .iconst 1, 1)] 92 [(0, .ref m), (1, .int t), (2, .int xk)] [.int 1, .int xk, .ref m] C (by decide +kernel) rfl ?_
              refine g_callV (pc := 92) C mV_X5_pe q755 (h1.1.1) rfl rfl (c_X5_pe l D cy h1 k 1 (by omega) (by omega) xk 1 (hx) (rfl)) rfl ⟨⟨Nat.le_of_ble_eq_true rfl, Nat.le_of_ble_eq_true rfl⟩, Nat.le_of_ble_eq_true rfl, Nat.le_of_ble_eq_true rfl⟩ rfl (Nat.le_of_ble_eq_true rfl) (by decide +kernel) ?_
              refine g_kI (fun v33 G32 hp31 => ?_)
              obtain ⟨rfl, rfl⟩ := hp31
              refine g_seg [(95, .iload_n 1, 1)] 96 [(0, .ref m), (1, .int t), (2, .int xk)] [.int t, .int (F1 k 1)] C (by decide +kernel) rfl ?_
              refine g_icmp_ne (pc := 96) (off := 14) 110 C (by decide +kernel) (by decide) (fun c34 => ?_) (fun c34 => ?_)
              · refine g_seg [(110, .iinc 2 1, 3), (113, .goto (-32), 3)] 81 [(2, .int (xk + 1)), (0, .ref m), (1, .int t)] [] C (by decide +kernel) rfl ?_
                refine g_subp [1, 2, 0] (lv' := [(0, .ref m), (1, .int t), (2, .int (xk + 1))]) rfl ?_
                exact ih (k + 1) F1 G32 (xk + 1) (by omega) (by omega) (lp_s hx) (by rw [its, ← hs]; exact (if_neg (fun h9 => c34 (h9.trans ht.symm))).symm) (h1)
              · refine g_seg [(99, .aload_n 0, 1), (100, .iload_n 2, 1), (101, .aload_n 0, 1), (102, .iload_n 1, 1), (103, .iconst 0, 1)] 104 [(0, .ref m), (1, .int t), (2, .int xk)] [.int 0, .int t, .ref m, .int xk, .ref m] C (by decide +kernel) rfl ?_
                refine g_callV (pc := 104) C mV_X5_placeOf q779 (h1.1.1) rfl rfl (c_X5_placeOf l D cy h1 i (by omega) t 0 (ht) ((fun j h9 => (wok_set (wok_set hwok (by decide)) (by decide)) j h9) i (by omega))) rfl ⟨⟨Nat.le_of_ble_eq_true rfl, Nat.le_of_ble_eq_true rfl⟩, Nat.le_of_ble_eq_true rfl, Nat.le_of_ble_eq_true rfl⟩ rfl (Nat.le_of_ble_eq_true rfl) (by decide +kernel) ?_
                refine g_kI (fun v37 G36 hp35 => ?_)
                obtain ⟨rfl, rfl⟩ := hp35
                refine g_callV (pc := 107) C mV_X5_falls q852 (h1.1.1) rfl rfl (c_X5_falls l D cy h1 k (by omega) xk (s_at (s_set (m_rope T F nf i) i 5 0) i (b + 0)) (hx)) rfl ⟨⟨Nat.le_of_ble_eq_true rfl, Nat.le_of_ble_eq_true rfl⟩, Nat.le_of_ble_eq_true rfl, Nat.le_of_ble_eq_true rfl⟩ rfl (Nat.le_of_ble_eq_true rfl) (by decide +kernel) ?_
                refine g_kV (fun G38 h39 => ?_)
                refine g_seg [(110, .iinc 2 1, 3), (113, .goto (-32), 3)] 81 [(2, .int (xk + 1)), (0, .ref m), (1, .int t)] [] C (by decide +kernel) rfl ?_
                refine g_subp [1, 2, 0] (lv' := [(0, .ref m), (1, .int t), (2, .int (xk + 1))]) rfl ?_
                exact ih (k + 1) (s_fall N nn F1 k (s_at (s_set (m_rope T F nf i) i 5 0) i (b + 0))) G38 (xk + 1) (by omega) (by omega) (lp_s hx) (by rw [its, ← hs]; exact (if_pos (c34.trans ht)).symm) (h39)
        exact lp29 (nf + 1) 0 F G27 0 (by omega) (by omega) (nI_0.symm) (rfl) (h28)
      · exact g_vret (pc := 71) C R (⟨rfl, by subst ht; unfold m_wear; rw [if_pos ⟨c4, c11⟩, if_pos (show m_rope T F nf i i 4 ≤ m_rope T F nf i i 3 from Int32.not_lt.mp c26)]; exact h19⟩) (Nat.le_of_ble_eq_true rfl) (Nat.le_of_ble_eq_true rfl) (by decide +kernel)
    · exact g_vret (pc := 37) C R (⟨rfl, by unfold m_wear; rw [if_neg (fun h9 => c11 h9.2)]; exact h⟩) (Nat.le_of_ble_eq_true rfl) (Nat.le_of_ble_eq_true rfl) (by decide +kernel)
set_option maxHeartbeats 4000000 in
set_option maxRecDepth 100000 in
theorem c_X5_beatOn (l : Launch) (D : va_G) (cy : Nat → ClassId) {G : GG} {m : Nat} {am : Nat → Nat} {th b : Int32} {nt nf nc nn : Nat} {T F Cu N : Rw} (h : RM cy m am th b nt nf nc nn T F Cu N G) (hwS : m_wS nt nf nc (b, T, F, Cu)) : Ctr l D cy yX5_beatOn prog_7_method_38_code 2 none kX5_beatOn [.ref m] G (pV (fun G' => RM cy m am th (m_beat N nn nt nf nc (b, T, F, Cu)).1 nt nf nc nn (m_beat N nn nt nf nc (b, T, F, Cu)).2.1 (m_beat N nn nt nf nc (b, T, F, Cu)).2.2.1 (m_beat N nn nt nf nc (b, T, F, Cu)).2.2.2 N G')) := by
  refine Ctr.mk (by decide +kernel) (Nat.le_of_ble_eq_true rfl) ?_
  intro κ C R
  have hbd := h.2.2
  refine g_pc (pc' := 0) rfl ?_
  refine g_seg [(0, .aload_n 0, 1)] 1 [(0, .ref m)] [.ref m] C (by decide +kernel) rfl ?_
  refine g_callV (pc := 1) C mV_X5_cuesOn q838 (h.1.1) rfl rfl (c_X5_cuesOn l D cy h hwS.1 hwS.2.1 hwS.2.2) rfl ⟨⟨Nat.le_of_ble_eq_true rfl, Nat.le_of_ble_eq_true rfl⟩, Nat.le_of_ble_eq_true rfl, Nat.le_of_ble_eq_true rfl⟩ rfl (Nat.le_of_ble_eq_true rfl) (by decide +kernel) ?_
  refine g_kV (fun G1 h2 => ?_)
  refine g_seg [(4, .iconst 0, 1), (5, .istore_n 1, 1)] 6 [(1, .int 0), (0, .ref m)] [] C (by decide +kernel) rfl ?_
  refine g_subp [1, 0] (lv' := [(0, .ref m), (1, .int 0)]) rfl ?_
  have lp3 : ∀ (n0 k : Nat) (F1 : Rw) (G1 : GG) (xk : Int32), nf + 1 ≤ k + n0 → k ≤ nf → xk = nI k → F1 = its (m_lnd N nn T nt nf b) (its (m_cue T b) (F, Cu) nc).1 k → RM cy m am th b nt nf nc nn T F1 ((its (m_cue T b) (F, Cu) nc).2) N G1 → PG κ 2 0 0 G1 [(0, .ref m), (1, .int xk)] 6 [] := by
    intro n0
    induction n0 with
    | zero => intro k F1 G1 xk h1 h2; intros; exact absurd h1 (by omega)
    | succ n0 ih =>
      intro k F1 G1 xk hm hk hx hs h1
      refine g_seg [(6, .iload_n 1, 1), (7, .aload_n 0, 1)] 8 [(0, .ref m), (1, .int xk)] [.ref m, .int xk] C (by decide +kernel) rfl ?_
      refine g_getf (pc := 8) (k := 2) (v := .int (nI nf)) C fl_X5_36 (h1.1.1) rfl (by decide +kernel) ?_
      refine g_icmp_ge (pc := 11) (off := 39) 50 C (by decide +kernel) (by decide) (fun c4 => ?_) (fun c4 => ?_)
      · have hk8 : k = nf := by have := lp_ge hx (by omega) (by omega) c4; omega
        rw [hk8] at hs
        have hF1 : m_wF nt nf F1 := by rw [hs]; exact wF_its (fun f F h => wF_land h) (wFC_cues (FC := (_, _)) hwS.2.1 hwS.2.2 nc).1 nf
        refine g_seg [(50, .iconst 0, 1), (51, .istore_n 1, 1)] 52 [(1, .int 0), (0, .ref m)] [] C (by decide +kernel) rfl ?_
        refine g_subp [1, 0] (lv' := [(0, .ref m), (1, .int 0)]) rfl ?_
        have lp5 : ∀ (n0 k : Nat) (T2 F2 : Rw) (G1 : GG) (xk : Int32), nt + 1 ≤ k + n0 → k ≤ nt → xk = nI k → (T2, F2) = its (m_wear N nn nf b) (T, F1) k → RM cy m am th b nt nf nc nn T2 F2 ((its (m_cue T b) (F, Cu) nc).2) N G1 → s_wok T2 nt → PG κ 2 0 0 G1 [(0, .ref m), (1, .int xk)] 52 [] := by
          intro n0
          induction n0 with
          | zero => intro k T2 F2 G1 xk h1 h2; intros; exact absurd h1 (by omega)
          | succ n0 ih =>
            intro k T2 F2 G1 xk hm hk hx hs2 h1 hw1
            refine g_seg [(52, .iload_n 1, 1), (53, .aload_n 0, 1)] 54 [(0, .ref m), (1, .int xk)] [.ref m, .int xk] C (by decide +kernel) rfl ?_
            refine g_getf (pc := 54) (k := 1) (v := .int (nI nt)) C fl_X5_29 (h1.1.1) rfl (by decide +kernel) ?_
            refine g_icmp_ge (pc := 57) (off := 14) 71 C (by decide +kernel) (by decide) (fun c6 => ?_) (fun c6 => ?_)
            · have hk8 : k = nt := by have := lp_ge hx (by omega) (by omega) c6; omega
              refine g_seg [(71, .aload_n 0, 1)] 72 [(0, .ref m), (1, .int xk)] [.ref m] C (by decide +kernel) rfl ?_
              refine g_getf (pc := 72) (k := 9) (v := .ref (am 4)) C fl_X5_22 (h1.1.1) rfl (by decide +kernel) ?_
              refine g_seg [(75, .iconst 0, 1), (76, .dup2, 1)] 77 [(0, .ref m), (1, .int xk)] [.int 0, .ref (am 4), .int 0, .ref (am 4)] C (by decide +kernel) rfl ?_
              refine g_ialdM (pc := 77) (n := 1) 0 b C (h1.1.2.2.2.2.2) nI_0.symm (by decide) (by decide) rfl (by decide +kernel) ?_
              refine g_seg [(78, .iconst 1, 1), (79, .iadd, 1)] 80 [(0, .ref m), (1, .int xk)] [.int (b + 1), .int 0, .ref (am 4)] C (by decide +kernel) rfl ?_
              refine g_iastM1 (pc := 80) C (h1.1.2.2.2.2.2) nI_0.symm (by decide +kernel) ?_
              refine g_abs (P := fun G9 => RM cy m am th (b + 1) nt nf nc nn T2 F2 ((its (m_cue T b) (F, Cu) nc).2) N G9) (RM.a4 h1) (fun G7 h8 => ?_)
              exact g_vret (pc := 81) C R (⟨rfl, by rw [hk8] at hs2; subst hs; have e9 : m_beat N nn nt nf nc (b, T, F, Cu) = (b + 1, (its (m_wear N nn nf b) (T, _) nt).1, (its (m_wear N nn nf b) (T, _) nt).2, (its (m_cue T b) (F, Cu) nc).2) := rfl; rw [e9, ← hs2]; exact h8⟩) (Nat.le_of_ble_eq_true rfl) (Nat.le_of_ble_eq_true rfl) (by decide +kernel)
            · have hk8 : k < nt := lp_lt hx (by omega) (by omega) c6
              refine g_seg [(60, .aload_n 0, 1), (61, .iload_n 1, 1)] 62 [(0, .ref m), (1, .int xk)] [.int xk, .ref m] C (by decide +kernel) rfl ?_
              refine g_callV (pc := 62) C mV_X5_wear q856 (h1.1.1) rfl rfl (c_X5_wear l D cy h1 hw1 k (by omega) xk (hx)) rfl ⟨⟨Nat.le_of_ble_eq_true rfl, Nat.le_of_ble_eq_true rfl⟩, Nat.le_of_ble_eq_true rfl, Nat.le_of_ble_eq_true rfl⟩ rfl (Nat.le_of_ble_eq_true rfl) (by decide +kernel) ?_
              refine g_kV (fun G9 h10 => ?_)
              refine g_seg [(65, .iinc 1 1, 3), (68, .goto (-16), 3)] 52 [(1, .int (xk + 1)), (0, .ref m)] [] C (by decide +kernel) rfl ?_
              refine g_subp [1, 0] (lv' := [(0, .ref m), (1, .int (xk + 1))]) rfl ?_
              exact ih (k + 1) ((m_wear N nn nf b k (T2, F2)).1) ((m_wear N nn nf b k (T2, F2)).2) G9 (xk + 1) (by omega) (by omega) (lp_s hx) (by rw [its, ← hs2]) (h10) ((wTF_wear (nf := nf) (TF := (_, F2)) hw1 (by rw [show F2 = (T2, F2).2 from rfl, hs2]; exact (wTF_wears (TF := (_, _)) hwS.1 hF1 k).2)).1)
        exact lp5 (nt + 1) 0 T F1 G1 0 (by omega) (by omega) (nI_0.symm) (rfl) (h1) (hwS.1)
      · have hk8 : k < nf := lp_lt hx (by omega) (by omega) c4
        refine g_seg [(14, .aload_n 0, 1), (15, .iload_n 1, 1), (16, .iconst 0, 1)] 17 [(0, .ref m), (1, .int xk)] [.int 0, .int xk, .ref m] C (by decide +kernel) rfl ?_
        refine g_callV (pc := 17) C mV_X5_pe q755 (h1.1.1) rfl rfl (c_X5_pe l D cy h1 k 0 (by omega) (by omega) xk 0 (hx) (rfl)) rfl ⟨⟨Nat.le_of_ble_eq_true rfl, Nat.le_of_ble_eq_true rfl⟩, Nat.le_of_ble_eq_true rfl, Nat.le_of_ble_eq_true rfl⟩ rfl (Nat.le_of_ble_eq_true rfl) (by decide +kernel) ?_
        refine g_kI (fun v13 G12 hp11 => ?_)
        obtain ⟨rfl, rfl⟩ := hp11
        refine g_seg [(20, .iconst 2, 1)] 21 [(0, .ref m), (1, .int xk)] [.int 2, .int (F1 k 0)] C (by decide +kernel) rfl ?_
        refine g_icmp_ne (pc := 21) (off := 23) 44 C (by decide +kernel) (by decide) (fun c14 => ?_) (fun c14 => ?_)
        · refine g_seg [(44, .iinc 1 1, 3), (47, .goto (-41), 3)] 6 [(1, .int (xk + 1)), (0, .ref m)] [] C (by decide +kernel) rfl ?_
          refine g_subp [1, 0] (lv' := [(0, .ref m), (1, .int (xk + 1))]) rfl ?_
          exact ih (k + 1) F1 G12 (xk + 1) (by omega) (by omega) (lp_s hx) (by rw [its, ← hs]; exact (if_neg (fun h9 => c14 h9.1)).symm) (h1)
        · refine g_seg [(24, .aload_n 0, 1), (25, .iload_n 1, 1), (26, .iconst 3, 1)] 27 [(0, .ref m), (1, .int xk)] [.int 3, .int xk, .ref m] C (by decide +kernel) rfl ?_
          refine g_callV (pc := 27) C mV_X5_pe q755 (h1.1.1) rfl rfl (c_X5_pe l D cy h1 k 3 (by omega) (by omega) xk 3 (hx) (rfl)) rfl ⟨⟨Nat.le_of_ble_eq_true rfl, Nat.le_of_ble_eq_true rfl⟩, Nat.le_of_ble_eq_true rfl, Nat.le_of_ble_eq_true rfl⟩ rfl (Nat.le_of_ble_eq_true rfl) (by decide +kernel) ?_
          refine g_kI (fun v17 G16 hp15 => ?_)
          obtain ⟨rfl, rfl⟩ := hp15
          refine g_seg [(30, .aload_n 0, 1)] 31 [(0, .ref m), (1, .int xk)] [.ref m, .int (F1 k 3)] C (by decide +kernel) rfl ?_
          refine g_getf (pc := 31) (k := 9) (v := .ref (am 4)) C fl_X5_22 (h1.1.1) rfl (by decide +kernel) ?_
          refine g_seg [(34, .iconst 0, 1)] 35 [(0, .ref m), (1, .int xk)] [.int 0, .ref (am 4), .int (F1 k 3)] C (by decide +kernel) rfl ?_
          refine g_ialdM (pc := 35) (n := 1) 0 b C (h1.1.2.2.2.2.2) nI_0.symm (by decide) (by decide) rfl (by decide +kernel) ?_
          refine g_icmp_ne (pc := 36) (off := 8) 44 C (by decide +kernel) (by decide) (fun c18 => ?_) (fun c18 => ?_)
          · refine g_seg [(44, .iinc 1 1, 3), (47, .goto (-41), 3)] 6 [(1, .int (xk + 1)), (0, .ref m)] [] C (by decide +kernel) rfl ?_
            refine g_subp [1, 0] (lv' := [(0, .ref m), (1, .int (xk + 1))]) rfl ?_
            exact ih (k + 1) F1 G16 (xk + 1) (by omega) (by omega) (lp_s hx) (by rw [its, ← hs]; exact (if_neg (fun h9 => c18 h9.2)).symm) (h1)
          · refine g_seg [(39, .aload_n 0, 1), (40, .iload_n 1, 1)] 41 [(0, .ref m), (1, .int xk)] [.int xk, .ref m] C (by decide +kernel) rfl ?_
            refine g_callV (pc := 41) C mV_X5_land q842 (h1.1.1) rfl rfl (c_X5_land l D cy h1 hwS.1 k (by omega) xk (hx)) rfl ⟨⟨Nat.le_of_ble_eq_true rfl, Nat.le_of_ble_eq_true rfl⟩, Nat.le_of_ble_eq_true rfl, Nat.le_of_ble_eq_true rfl⟩ rfl (Nat.le_of_ble_eq_true rfl) (by decide +kernel) ?_
            refine g_kV (fun G19 h20 => ?_)
            refine g_seg [(44, .iinc 1 1, 3), (47, .goto (-41), 3)] 6 [(1, .int (xk + 1)), (0, .ref m)] [] C (by decide +kernel) rfl ?_
            refine g_subp [1, 0] (lv' := [(0, .ref m), (1, .int (xk + 1))]) rfl ?_
            exact ih (k + 1) (m_land N nn T nt nf b k F1) G19 (xk + 1) (by omega) (by omega) (lp_s hx) (by rw [its, ← hs]; exact (if_pos ⟨c14, c18⟩).symm) (h20)
  exact lp3 (nf + 1) 0 ((its (m_cue T b) (F, Cu) nc).1) G1 0 (by omega) (by omega) (nI_0.symm) (rfl) (h2)
set_option maxHeartbeats 4000000 in
set_option maxRecDepth 100000 in
theorem c_X5_beatsOn (l : Launch) (D : va_G) (cy : Nat → ClassId) {G : GG} {m : Nat} {am : Nat → Nat} {th b : Int32} {nt nf nc nn : Nat} {T F Cu N : Rw} (h : RM cy m am th b nt nf nc nn T F Cu N G) (hwS : m_wS nt nf nc (b, T, F, Cu)) (n : Nat) (hn : n ≤ 1000) (bt : Int32) (hbt : bt = nI n) : Ctr l D cy yX5_beatsOn prog_7_method_39_code 3 none kX5_beatsOn [.ref m, .int bt] G (pV (fun G' => RM cy m am th (m_beats N nn nt nf nc (b, T, F, Cu) n).1 nt nf nc nn (m_beats N nn nt nf nc (b, T, F, Cu) n).2.1 (m_beats N nn nt nf nc (b, T, F, Cu) n).2.2.1 (m_beats N nn nt nf nc (b, T, F, Cu) n).2.2.2 N G')) := by
  refine Ctr.mk (by decide +kernel) (Nat.le_of_ble_eq_true rfl) ?_
  intro κ C R
  have hbd := h.2.2
  refine g_pc (pc' := 0) rfl ?_
  refine g_seg [(0, .iconst 0, 1), (1, .istore_n 2, 1)] 2 [(2, .int 0), (0, .ref m), (1, .int bt)] [] C (by decide +kernel) rfl ?_
  refine g_subp [1, 2, 0] (lv' := [(0, .ref m), (1, .int bt), (2, .int 0)]) rfl ?_
  have lp1 : ∀ (n0 k : Nat) (b1 : Int32) (T1 F1 C1 : Rw) (G1 : GG) (xk : Int32), n + 1 ≤ k + n0 → k ≤ n → xk = nI k → (b1, T1, F1, C1) = m_beats N nn nt nf nc (b, T, F, Cu) k → RM cy m am th b1 nt nf nc nn T1 F1 C1 N G1 → m_wS nt nf nc (b1, T1, F1, C1) → PG κ 3 0 0 G1 [(0, .ref m), (1, .int bt), (2, .int xk)] 2 [] := by
    intro n0
    induction n0 with
    | zero => intro k b1 T1 F1 C1 G1 xk h1 h2; intros; exact absurd h1 (by omega)
    | succ n0 ih =>
      intro k b1 T1 F1 C1 G1 xk hm hk hx hs h1 hwS1
      refine g_seg [(2, .iload_n 2, 1), (3, .iload_n 1, 1)] 4 [(0, .ref m), (1, .int bt), (2, .int xk)] [.int bt, .int xk] C (by decide +kernel) rfl ?_
      refine g_icmp_ge (pc := 4) (off := 13) 17 C (by decide +kernel) (by decide) (fun c2 => ?_) (fun c2 => ?_)
      · rw [hbt] at c2
        have hk8 : k = n := by have := lp_ge hx (by omega) (by omega) c2; omega
        exact g_vret (pc := 17) C R (⟨rfl, by rw [hk8] at hs; rw [← hs]; exact h1⟩) (Nat.le_of_ble_eq_true rfl) (Nat.le_of_ble_eq_true rfl) (by decide +kernel)
      · rw [hbt] at c2
        have hk8 : k < n := lp_lt hx (by omega) (by omega) c2
        refine g_seg [(7, .aload_n 0, 1)] 8 [(0, .ref m), (1, .int bt), (2, .int xk)] [.ref m] C (by decide +kernel) rfl ?_
        refine g_callV (pc := 8) C mV_X5_beatOn q834 (h1.1.1) rfl rfl (c_X5_beatOn l D cy h1 hwS1) rfl ⟨⟨Nat.le_of_ble_eq_true rfl, Nat.le_of_ble_eq_true rfl⟩, Nat.le_of_ble_eq_true rfl, Nat.le_of_ble_eq_true rfl⟩ rfl (Nat.le_of_ble_eq_true rfl) (by decide +kernel) ?_
        refine g_kV (fun G3 h4 => ?_)
        refine g_seg [(11, .iinc 2 1, 3), (14, .goto (-12), 3)] 2 [(2, .int (xk + 1)), (0, .ref m), (1, .int bt)] [] C (by decide +kernel) rfl ?_
        refine g_subp [1, 2, 0] (lv' := [(0, .ref m), (1, .int bt), (2, .int (xk + 1))]) rfl ?_
        exact ih (k + 1) ((m_beat N nn nt nf nc (b1, T1, F1, C1)).1) ((m_beat N nn nt nf nc (b1, T1, F1, C1)).2.1) ((m_beat N nn nt nf nc (b1, T1, F1, C1)).2.2.1) ((m_beat N nn nt nf nc (b1, T1, F1, C1)).2.2.2) G3 (xk + 1) (by omega) (by omega) (lp_s hx) (by rw [m_beats, its]; rw [m_beats] at hs; rw [← hs]) (h4) (wS_beat hwS1)
  exact lp1 (n + 1) 0 b T F Cu G 0 (by omega) (by omega) (nI_0.symm) (rfl) (h) (hwS)
set_option maxHeartbeats 4000000 in
set_option maxRecDepth 100000 in
theorem c_X5_caught (l : Launch) (D : va_G) (cy : Nat → ClassId) {G : GG} {m : Nat} {am : Nat → Nat} {th b : Int32} {nt nf nc nn : Nat} {T F Cu N : Rw} (h : RM cy m am th b nt nf nc nn T F Cu N G) : Ctr l D cy yX5_caught prog_7_method_40_code 3 (some .int) kX5_caught [.ref m] G (pI (fun v G' => G' = G ∧ v = s_caught F nf)) := by
  refine Ctr.mk (by decide +kernel) (Nat.le_of_ble_eq_true rfl) ?_
  intro κ C R
  have hbd := h.2.2
  refine g_pc (pc' := 0) rfl ?_
  refine g_seg [(0, .iconst 0, 1), (1, .istore_n 1, 1), (2, .iconst 0, 1), (3, .istore_n 2, 1)] 4 [(2, .int 0), (1, .int 0), (0, .ref m)] [] C (by decide +kernel) rfl ?_
  refine g_subp [2, 1, 0] (lv' := [(0, .ref m), (1, .int 0), (2, .int 0)]) rfl ?_
  have lp1 : ∀ (n0 k : Nat) (s xk : Int32), nf + 1 ≤ k + n0 → k ≤ nf → xk = nI k → s = its (fun f s => s + F f 4) 0 k → PG κ 3 0 0 G [(0, .ref m), (1, .int s), (2, .int xk)] 4 [] := by
    intro n0
    induction n0 with
    | zero => intro k s xk h1 h2; intros; exact absurd h1 (by omega)
    | succ n0 ih =>
      intro k s xk hm hk hx hs
      refine g_seg [(4, .iload_n 2, 1), (5, .aload_n 0, 1)] 6 [(0, .ref m), (1, .int s), (2, .int xk)] [.ref m, .int xk] C (by decide +kernel) rfl ?_
      refine g_getf (pc := 6) (k := 2) (v := .int (nI nf)) C fl_X5_36 (h.1.1) rfl (by decide +kernel) ?_
      refine g_icmp_ge (pc := 9) (off := 18) 27 C (by decide +kernel) (by decide) (fun c2 => ?_) (fun c2 => ?_)
      · have hk8 : k = nf := by have := lp_ge hx (by omega) (by omega) c2; omega
        refine g_seg [(27, .iload_n 1, 1)] 28 [(0, .ref m), (1, .int s), (2, .int xk)] [.int s] C (by decide +kernel) rfl ?_
        exact g_iret (pc := 28) C R (⟨_, rfl, rfl, by rw [hs, hk8]; rfl⟩) (Nat.le_of_ble_eq_true rfl) (Nat.le_of_ble_eq_true rfl) (by decide +kernel)
      · have hk8 : k < nf := lp_lt hx (by omega) (by omega) c2
        refine g_seg [(12, .iload_n 1, 1), (13, .aload_n 0, 1), (14, .iload_n 2, 1), (15, .iconst 4, 1)] 16 [(0, .ref m), (1, .int s), (2, .int xk)] [.int 4, .int xk, .ref m, .int s] C (by decide +kernel) rfl ?_
        refine g_callV (pc := 16) C mV_X5_pe q755 (h.1.1) rfl rfl (c_X5_pe l D cy h k 4 (by omega) (by omega) xk 4 (hx) (rfl)) rfl ⟨⟨Nat.le_of_ble_eq_true rfl, Nat.le_of_ble_eq_true rfl⟩, Nat.le_of_ble_eq_true rfl, Nat.le_of_ble_eq_true rfl⟩ rfl (Nat.le_of_ble_eq_true rfl) (by decide +kernel) ?_
        refine g_kI (fun v5 G4 hp3 => ?_)
        obtain ⟨rfl, rfl⟩ := hp3
        refine g_seg [(19, .iadd, 1), (20, .istore_n 1, 1), (21, .iinc 2 1, 3), (24, .goto (-20), 3)] 4 [(2, .int (xk + 1)), (1, .int (s + (F k 4))), (0, .ref m)] [] C (by decide +kernel) rfl ?_
        refine g_subp [2, 1, 0] (lv' := [(0, .ref m), (1, .int (s + (F k 4))), (2, .int (xk + 1))]) rfl ?_
        exact ih (k + 1) (s + (F k 4)) (xk + 1) (by omega) (by omega) (lp_s hx) (by rw [hs]; rfl)
  exact lp1 (nf + 1) 0 0 0 (by omega) (by omega) (nI_0.symm) (rfl)
