/-! the reference's arrays: rows added, all kept and brought back -/
theorem cpy_add {w nt : Nat} {f r : Nat → Int32} {T : Rw} (hw : 0 < w) (hf : ∀ k, k < w → f k = r k) : va_cpy f (fA w T) 0 (w * nt) w = fA w (s_add T nt r) := by
  funext j
  unfold va_cpy fA s_add
  by_cases h : w * nt ≤ j ∧ j < w * nt + w
  · obtain ⟨k, rfl⟩ := Nat.exists_eq_add_of_le h.1
    have hk : k < w := by omega
    have h1 : (w * nt + k) / w = nt := by rw [Nat.mul_add_div hw, Nat.div_eq_of_lt hk]; omega
    have h2 : (w * nt + k) % w = k := by rw [Nat.mul_add_mod]; exact Nat.mod_eq_of_lt hk
    rw [if_pos h, if_pos h1, h2, Nat.zero_add, Nat.add_sub_cancel_left, hf k hk]
  · have h1 : ¬ j / w = nt := by
      intro h9
      have h3 := Nat.div_add_mod j w
      have h4 := Nat.mod_lt j hw
      rw [h9] at h3
      exact h (by omega)
    rw [if_neg h, if_neg h1]
def rowD (bt f r t : Int32) : Nat → Int32 := rowC bt f r t
def ak4 (a b c d : Nat) : Nat → Nat := fun i => match i with | 0 => a | 1 => b | 2 => c | _ => d
theorem ak4_up {a b c d : Nat} : va_up (va_up (va_up (va_up (fun _ => none) 0 (some a)) 1 (some b)) 2 (some c)) 3 (some d) = fun i => if i < 4 then some (ak4 a b c d i) else none := by
  funext i
  match i with
  | 0 => rfl
  | 1 => rfl
  | 2 => rfl
  | 3 => rfl
  | i + 4 =>
    have h : ¬ i + 4 < 4 := by omega
    simp [va_up, h]
def RNE (m : Nat) (am : Nat → Nat) (q : Nat) : Prop := m ≠ q ∧ ∀ i, i < 5 → am i ≠ q
/-- what kept() answers -/
def KP (cy : Nat → ClassId) (m : Nat) (am : Nat → Nat) (q : Nat) (ak : Nat → Nat) (T F C : Rw) (b : Int32) (G : GG) : Prop :=
  G q = some (.inl (cy 5, 4, .inr (.inr (.inr (.inr (fun i => if i < 4 then some (ak i) else none)))))) ∧ (G (ak 0) = some (.inl (cy 0, 42, .inl (fA 7 T))) ∧ G (ak 1) = some (.inl (cy 0, 40, .inl (fA 5 F))) ∧ G (ak 2) = some (.inl (cy 0, 100, .inl (fA 5 C))) ∧ G (ak 3) = some (.inl (cy 0, 1, .inl (fun _ => b)))) ∧ RNE m am q ∧ ∀ i, i < 4 → RNE m am (ak i)
def rs (m : Nat) (am : Nat → Nat) (G : GG) : GG := fun a => if a = m ∨ a = am 0 ∨ a = am 1 ∨ a = am 2 ∨ a = am 3 ∨ a = am 4 then G a else none
theorem rs_sub {m : Nat} {am : Nat → Nat} {G : GG} : ∀ a e, rs m am G a = some e → G a = some e := by
  intro a e h
  unfold rs at h
  split at h
  · exact h
  · cases h
theorem rs_none {m q : Nat} {am : Nat → Nat} {G : GG} (h : RNE m am q) : rs m am G q = none := by
  unfold rs
  rw [if_neg]
  rintro (h1 | h1 | h1 | h1 | h1 | h1)
  · exact h.1 h1.symm
  · exact h.2 0 (by decide) h1.symm
  · exact h.2 1 (by decide) h1.symm
  · exact h.2 2 (by decide) h1.symm
  · exact h.2 3 (by decide) h1.symm
  · exact h.2 4 (by decide) h1.symm
section RMX
variable {cy : Nat → ClassId} {m q : Nat} {am ak : Nat → Nat} {th b b' : Int32} {nt nf nc nn : Nat} {T F C N T' F' C' : Rw} {G G2 : GG} {e : va_E}
theorem RM.ne (h : RM cy m am th b nt nf nc nn T F C N G) (hq : G q = none) : RNE m am q := by
  obtain ⟨⟨h0, h1, h2, h3, h4, h5⟩, -⟩ := h
  refine ⟨g_fresh hq h0, fun i hi => ?_⟩
  rcases (show i = 0 ∨ i = 1 ∨ i = 2 ∨ i = 3 ∨ i = 4 by omega) with rfl | rfl | rfl | rfl | rfl
  · exact g_fresh hq h1
  · exact g_fresh hq h2
  · exact g_fresh hq h3
  · exact g_fresh hq h4
  · exact g_fresh hq h5
theorem RM.oth (h : RM cy m am th b nt nf nc nn T F C N G) (hq : RNE m am q) : RM cy m am th b nt nf nc nn T F C N (g_up G q e) := by
  obtain ⟨⟨h0, h1, h2, h3, h4, h5⟩, hr⟩ := h
  exact ⟨⟨by rw [g_up_ne hq.1]; exact h0, by rw [g_up_ne (hq.2 0 (by decide))]; exact h1, by rw [g_up_ne (hq.2 1 (by decide))]; exact h2, by rw [g_up_ne (hq.2 2 (by decide))]; exact h3, by rw [g_up_ne (hq.2 3 (by decide))]; exact h4, by rw [g_up_ne (hq.2 4 (by decide))]; exact h5⟩, hr⟩
theorem RM.up (h : RM cy m am th b nt nf nc nn T F C N G) (hs : ∀ a e, G a = some e → G2 a = some e) : RM cy m am th b nt nf nc nn T F C N G2 := by
  obtain ⟨⟨h0, h1, h2, h3, h4, h5⟩, hr⟩ := h
  exact ⟨⟨hs _ _ h0, hs _ _ h1, hs _ _ h2, hs _ _ h3, hs _ _ h4, hs _ _ h5⟩, hr⟩
theorem RM_rs (h : RM cy m am th b nt nf nc nn T F C N G) : RM cy m am th b nt nf nc nn T F C N (rs m am G) := by
  obtain ⟨⟨h0, h1, h2, h3, h4, h5⟩, hr⟩ := h
  exact ⟨⟨by unfold rs; simp [h0], by unfold rs; simp [h1], by unfold rs; simp [h2], by unfold rs; simp [h3], by unfold rs; simp [h4], by unfold rs; simp [h5]⟩, hr⟩
theorem KP_fr {G' : GG} (K : KP cy m am q ak T F C b G) (h : fr (rs m am G) G G' G2) : KP cy m am q ak T F C b G2 := by
  obtain ⟨k0, ⟨k1, k2, k3, k4⟩, k5, k6⟩ := K
  exact ⟨h.2.1 _ _ k0 (rs_none k5), ⟨h.2.1 _ _ k1 (rs_none (k6 0 (by decide))), h.2.1 _ _ k2 (rs_none (k6 1 (by decide))), h.2.1 _ _ k3 (rs_none (k6 2 (by decide))), h.2.1 _ _ k4 (rs_none (k6 3 (by decide)))⟩, k5, k6⟩
theorem KP.new (K : KP cy m am q ak T F C b G) {q2 : Nat} (hq : G q2 = none) : KP cy m am q ak T F C b (g_up G q2 e) := by
  obtain ⟨k0, ⟨k1, k2, k3, k4⟩, k5, k6⟩ := K
  exact ⟨by rw [g_up_ne (g_fresh hq k0)]; exact k0, ⟨by rw [g_up_ne (g_fresh hq k1)]; exact k1, by rw [g_up_ne (g_fresh hq k2)]; exact k2, by rw [g_up_ne (g_fresh hq k3)]; exact k3, by rw [g_up_ne (g_fresh hq k4)]; exact k4⟩, k5, k6⟩
/-- another cell is written -/
theorem KP.oth (K : KP cy m am q ak T F C b G) {q2 : Nat} (hq : q ≠ q2) (h0 : ak 0 ≠ q2) (h1 : ak 1 ≠ q2) (h2 : ak 2 ≠ q2) (h3 : ak 3 ≠ q2) : KP cy m am q ak T F C b (g_up G q2 e) := by
  obtain ⟨k0, ⟨k1, k2, k3, k4⟩, k5, k6⟩ := K
  exact ⟨by rw [g_up_ne hq]; exact k0, ⟨by rw [g_up_ne h0]; exact k1, by rw [g_up_ne h1]; exact k2, by rw [g_up_ne h2]; exact k3, by rw [g_up_ne h3]; exact k4⟩, k5, k6⟩
theorem KP_am (K : KP cy m am q ak T F C b G) {j : Nat} (hj : j < 5) : KP cy m am q ak T F C b (g_up G (am j) e) :=
  KP.oth K (K.2.2.1.2 j hj).symm ((K.2.2.2 0 (by decide)).2 j hj).symm ((K.2.2.2 1 (by decide)).2 j hj).symm ((K.2.2.2 2 (by decide)).2 j hj).symm ((K.2.2.2 3 (by decide)).2 j hj).symm
end RMX
theorem cpy_all {n : Nat} {f g : Nat → Int32} : ∀ j, j < n → va_cpy f g 0 0 n j = f j := by
  intro j hj
  unfold va_cpy
  rw [if_pos ⟨Nat.zero_le _, by omega⟩, Nat.zero_add, Nat.sub_zero]
section PGJ
variable {κ : Kx} {nL ce sl : Nat} {lv : LV} {pc : Nat} {rest : List Value}
theorem g_kVj {G1 G : GG} {P : GG → Prop} (k : ∀ G' G2, P G' → fr G1 G G' G2 → PG κ nL ce sl G2 lv pc rest) : ∀ r G2, (∃ G', pV P r G' ∧ fr G1 G G' G2) → PG κ nL ce sl G2 lv pc (r.toList ++ rest) := by
  rintro r G2 ⟨G', ⟨rfl, hp⟩, hf⟩
  exact k G' G2 hp hf
end PGJ
def am5 (a b c d e : Nat) : Nat → Nat := fun i => match i with | 0 => a | 1 => b | 2 => c | 3 => d | _ => e
theorem RM_zero {cy : Nat → ClassId} {m a0 a1 a2 a3 a4 : Nat} {G : GG} (h : G m = some (.inr (5, [.int 0, .int 0, .int 0, .int 0, .int 0, .ref a0, .ref a1, .ref a2, .ref a3, .ref a4]))) (h0 : G a0 = some (.inl (cy 0, 42, .inl (fun _ => 0)))) (h1 : G a1 = some (.inl (cy 0, 40, .inl (fun _ => 0)))) (h2 : G a2 = some (.inl (cy 0, 100, .inl (fun _ => 0)))) (h3 : G a3 = some (.inl (cy 0, 6, .inl (fun _ => 0)))) (h4 : G a4 = some (.inl (cy 0, 1, .inl (fun _ => 0)))) : RM cy m (am5 a0 a1 a2 a3 a4) 0 0 0 0 0 0 zR zR zR zR G := by
  have ne : ∀ {a b n k : Nat} {f g : Nat → Int32}, G a = some (.inl (cy 0, n, .inl f)) → G b = some (.inl (cy 0, k, .inl g)) → n ≠ k → a ≠ b := by
    intro a b n k f g ha hb hnk e
    subst e
    rw [ha] at hb
    simp at hb
    exact hnk hb.1
  refine ⟨⟨h, h0, h1, h2, h3, h4⟩, fun i j hi hj hij => ?_, by omega⟩
  have n01 := ne h0 h1 (by decide)
  have n02 := ne h0 h2 (by decide)
  have n03 := ne h0 h3 (by decide)
  have n04 := ne h0 h4 (by decide)
  have n12 := ne h1 h2 (by decide)
  have n13 := ne h1 h3 (by decide)
  have n14 := ne h1 h4 (by decide)
  have n23 := ne h2 h3 (by decide)
  have n24 := ne h2 h4 (by decide)
  have n34 := ne h3 h4 (by decide)
  rcases (show i = 0 ∨ i = 1 ∨ i = 2 ∨ i = 3 ∨ i = 4 by omega) with rfl | rfl | rfl | rfl | rfl <;> rcases (show j = 0 ∨ j = 1 ∨ j = 2 ∨ j = 3 ∨ j = 4 by omega) with rfl | rfl | rfl | rfl | rfl <;> first | rfl | (simp only [am5] at hij; exact absurd hij (by assumption)) | (simp only [am5] at hij; exact absurd hij.symm (by assumption))

theorem q714 : (Cond.native ⟨"java/lang/System", "arraycopy", "(Ljava/lang/Object;ILjava/lang/Object;II)V"⟩ : Cond) ∈ lw_T := lw_T_in (i := 714) (by decide +kernel) rfl
theorem q883 : (Cond.sameMethod "[I" "java/lang/Object" "clone" "()Ljava/lang/Object;" : Cond) ∈ lw_T := lw_T_in (i := 883) (by decide +kernel) rfl
theorem q884 : (Cond.native ⟨"java/lang/Object", "clone", "()Ljava/lang/Object;"⟩ : Cond) ∈ lw_T := lw_T_in (i := 884) (by decide +kernel) rfl
set_option maxHeartbeats 4000000 in
set_option maxRecDepth 100000 in
theorem c_X5_rig (l : Launch) (D : va_G) (cy : Nat → ClassId) {G : GG} {m : Nat} {am : Nat → Nat} {th b : Int32} {nt nf nc nn : Nat} {T F Cu N : Rw} (h : RM cy m am th b nt nf nc nn T F Cu N G) (mid wid wt sg : Int32) : Ctr l D cy yX5_rig prog_7_method_11_code 6 (some .int) kX5_rig [.ref m, .int mid, .int wid, .int wt, .int sg] G (pI (fun v G' => (okR mid wid wt sg ∧ nt < 6 ∧ v = nI nt ∧ RM cy m am 0 b (nt + 1) nf nc nn (s_add T nt (rowT mid wid wt sg b)) F Cu N G') ∨ (¬ okR mid wid wt sg ∧ RM cy m am 1 b nt nf nc nn T F Cu N G') ∨ ((okR mid wid wt sg ∧ ¬ nt < 6) ∧ RM cy m am 2 b nt nf nc nn T F Cu N G'))) := by
  refine Ctr.mk (by decide +kernel) (Nat.le_of_ble_eq_true rfl) ?_
  intro κ C R
  have hbd := h.2.2
  refine g_pc (pc' := 0) rfl ?_
  refine g_seg [(0, .aload_n 0, 1), (1, .iconst 0, 1)] 2 [(0, .ref m), (1, .int mid), (2, .int wid), (3, .int wt), (4, .int sg)] [.int 0, .ref m] C (by decide +kernel) rfl ?_
  refine g_putf (pc := 2) (k := 0) (v := .int 0) (ty := .int) C fl_X5_25 fp_X5_0 (h.1.1) (rfl) (by first | rfl | decide) (Nat.le_of_ble_eq_true rfl) (by decide +kernel) ?_
  refine g_abs (P := fun G9 => RM cy m am 0 b nt nf nc nn T F Cu N G9) (RM.obj h h.2.2) (fun G1 hg3 => ?_)
  have h2 := hg3
  refine g_seg [(5, .iload_n 1, 1), (6, .iconst 0, 1), (7, .bipush 99, 2)] 9 [(0, .ref m), (1, .int mid), (2, .int wid), (3, .int wt), (4, .int sg)] [.int 99, .int 0, .int mid] C (by decide +kernel) rfl ?_
  refine g_callS (pc := 9) C mS_X5_isIn q705 (c_X5_isIn l D cy G1 mid 0 99) rfl ⟨⟨Nat.le_of_ble_eq_true rfl, Nat.le_of_ble_eq_true rfl⟩, Nat.le_of_ble_eq_true rfl, Nat.le_of_ble_eq_true rfl⟩ rfl (Nat.le_of_ble_eq_true rfl) (by decide +kernel) ?_
  refine g_kI (fun v6 G5 hp4 => ?_)
  obtain ⟨rfl, hp4⟩ := hp4
  rcases hp4 with ⟨rfl, h7⟩ | ⟨rfl, h7⟩
  · refine g_if_eq (pc := 12) (off := 34) 46 C (by decide +kernel) (by decide) (fun c9 => absurd c9 (by decide)) (fun _ => ?_)
    refine g_seg [(15, .iload_n 2, 1), (16, .iconst 1, 1), (17, .bipush 20, 2)] 19 [(0, .ref m), (1, .int mid), (2, .int wid), (3, .int wt), (4, .int sg)] [.int 20, .int 1, .int wid] C (by decide +kernel) rfl ?_
    refine g_callS (pc := 19) C mS_X5_isIn q705 (c_X5_isIn l D cy G5 wid 1 20) rfl ⟨⟨Nat.le_of_ble_eq_true rfl, Nat.le_of_ble_eq_true rfl⟩, Nat.le_of_ble_eq_true rfl, Nat.le_of_ble_eq_true rfl⟩ rfl (Nat.le_of_ble_eq_true rfl) (by decide +kernel) ?_
    refine g_kI (fun v10 G9 hp8 => ?_)
    obtain ⟨rfl, hp8⟩ := hp8
    rcases hp8 with ⟨rfl, h11⟩ | ⟨rfl, h11⟩
    · refine g_if_eq (pc := 22) (off := 24) 46 C (by decide +kernel) (by decide) (fun c9 => absurd c9 (by decide)) (fun _ => ?_)
      refine g_seg [(25, .iload_n 3, 1), (26, .iconst 0, 1), (27, .bipush 10, 2)] 29 [(0, .ref m), (1, .int mid), (2, .int wid), (3, .int wt), (4, .int sg)] [.int 10, .int 0, .int wt] C (by decide +kernel) rfl ?_
      refine g_callS (pc := 29) C mS_X5_isIn q705 (c_X5_isIn l D cy G9 wt 0 10) rfl ⟨⟨Nat.le_of_ble_eq_true rfl, Nat.le_of_ble_eq_true rfl⟩, Nat.le_of_ble_eq_true rfl, Nat.le_of_ble_eq_true rfl⟩ rfl (Nat.le_of_ble_eq_true rfl) (by decide +kernel) ?_
      refine g_kI (fun v14 G13 hp12 => ?_)
      obtain ⟨rfl, hp12⟩ := hp12
      rcases hp12 with ⟨rfl, h15⟩ | ⟨rfl, h15⟩
      · refine g_if_eq (pc := 32) (off := 14) 46 C (by decide +kernel) (by decide) (fun c9 => absurd c9 (by decide)) (fun _ => ?_)
        refine g_seg [(35, .iload 4, 2), (37, .iconst 1, 1), (38, .bipush 99, 2)] 40 [(0, .ref m), (1, .int mid), (2, .int wid), (3, .int wt), (4, .int sg)] [.int 99, .int 1, .int sg] C (by decide +kernel) rfl ?_
        refine g_callS (pc := 40) C mS_X5_isIn q705 (c_X5_isIn l D cy G13 sg 1 99) rfl ⟨⟨Nat.le_of_ble_eq_true rfl, Nat.le_of_ble_eq_true rfl⟩, Nat.le_of_ble_eq_true rfl, Nat.le_of_ble_eq_true rfl⟩ rfl (Nat.le_of_ble_eq_true rfl) (by decide +kernel) ?_
        refine g_kI (fun v18 G17 hp16 => ?_)
        obtain ⟨rfl, hp16⟩ := hp16
        rcases hp16 with ⟨rfl, h19⟩ | ⟨rfl, h19⟩
        · refine g_if_ne (pc := 43) (off := 9) 52 C (by decide +kernel) (by decide) (fun _ => ?_) (fun c9 => absurd c9 (by decide))
          refine g_seg [(52, .aload_n 0, 1)] 53 [(0, .ref m), (1, .int mid), (2, .int wid), (3, .int wt), (4, .int sg)] [.ref m] C (by decide +kernel) rfl ?_
          refine g_getf (pc := 53) (k := 1) (v := .int (nI nt)) C fl_X5_29 (h2.1.1) rfl (by decide +kernel) ?_
          refine g_seg [(56, .bipush 6, 2)] 58 [(0, .ref m), (1, .int mid), (2, .int wid), (3, .int wt), (4, .int sg)] [.int 6, .int (nI nt)] C (by decide +kernel) rfl ?_
          refine g_icmp_ne (pc := 58) (off := 9) 67 C (by decide +kernel) (by decide) (fun c20 => ?_) (fun c20 => ?_)
          · have hcap : nt < 6 := by have e9 : nt ≠ 6 := fun e9 => c20 (by rw [e9]; rfl); omega
            refine g_seg [(67, .bipush 7, 2)] 69 [(0, .ref m), (1, .int mid), (2, .int wid), (3, .int wt), (4, .int sg)] [.int 7] C (by decide +kernel) rfl ?_
            refine g_newi (pc := 69) (N' := 7) C q696 (by decide) (by decide) (Nat.le_of_ble_eq_true rfl) (Nat.le_of_ble_eq_true rfl) (Nat.le_of_ble_eq_true rfl) (by decide +kernel) (fun q21 hq22 => ?_)
            have hn23 := RM.ne h2 hq22
            refine g_abs (P := fun G9 => RM cy m am 0 b nt nf nc nn T F Cu N G9 ∧ G9 q21 = some (.inl (cy 0, 7, .inl (fun _ => 0)))) ⟨RM.oth h2 hn23, g_up_self ..⟩ (fun G24 hg26 => ?_)
            obtain ⟨h25, hx27⟩ := hg26
            refine g_seg [(71, .dup, 1), (72, .iconst 0, 1), (73, .iload_n 1, 1)] 74 [(0, .ref m), (1, .int mid), (2, .int wid), (3, .int wt), (4, .int sg)] [.int mid, .int 0, .ref q21, .ref q21] C (by decide +kernel) rfl ?_
            refine g_iastM (pc := 74) (n := 7) 0 (upd (fun _ => 0) 0 mid) C hx27 rfl (by decide) (by decide) rfl (by decide +kernel) ?_
            refine g_abs (P := fun G9 => RM cy m am 0 b nt nf nc nn T F Cu N G9 ∧ G9 q21 = some (.inl (cy 0, 7, .inl (upd (fun _ => 0) 0 mid)))) ⟨RM.oth h25 hn23, g_up_self ..⟩ (fun G28 hg30 => ?_)
            obtain ⟨h29, hx31⟩ := hg30
            refine g_seg [(75, .dup, 1), (76, .iconst 1, 1), (77, .iload_n 2, 1)] 78 [(0, .ref m), (1, .int mid), (2, .int wid), (3, .int wt), (4, .int sg)] [.int wid, .int 1, .ref q21, .ref q21] C (by decide +kernel) rfl ?_
            refine g_iastM (pc := 78) (n := 7) 1 (upd (upd (fun _ => 0) 0 mid) 1 wid) C hx31 rfl (by decide) (by decide) rfl (by decide +kernel) ?_
            refine g_abs (P := fun G9 => RM cy m am 0 b nt nf nc nn T F Cu N G9 ∧ G9 q21 = some (.inl (cy 0, 7, .inl (upd (upd (fun _ => 0) 0 mid) 1 wid)))) ⟨RM.oth h29 hn23, g_up_self ..⟩ (fun G32 hg34 => ?_)
            obtain ⟨h33, hx35⟩ := hg34
            refine g_seg [(79, .dup, 1), (80, .iconst 2, 1), (81, .iload_n 3, 1)] 82 [(0, .ref m), (1, .int mid), (2, .int wid), (3, .int wt), (4, .int sg)] [.int wt, .int 2, .ref q21, .ref q21] C (by decide +kernel) rfl ?_
            refine g_iastM (pc := 82) (n := 7) 2 (upd (upd (upd (fun _ => 0) 0 mid) 1 wid) 2 wt) C hx35 rfl (by decide) (by decide) rfl (by decide +kernel) ?_
            refine g_abs (P := fun G9 => RM cy m am 0 b nt nf nc nn T F Cu N G9 ∧ G9 q21 = some (.inl (cy 0, 7, .inl (upd (upd (upd (fun _ => 0) 0 mid) 1 wid) 2 wt)))) ⟨RM.oth h33 hn23, g_up_self ..⟩ (fun G36 hg38 => ?_)
            obtain ⟨h37, hx39⟩ := hg38
            refine g_seg [(83, .dup, 1), (84, .iconst 3, 1), (85, .iload 4, 2)] 87 [(0, .ref m), (1, .int mid), (2, .int wid), (3, .int wt), (4, .int sg)] [.int sg, .int 3, .ref q21, .ref q21] C (by decide +kernel) rfl ?_
            refine g_iastM (pc := 87) (n := 7) 3 (upd (upd (upd (upd (fun _ => 0) 0 mid) 1 wid) 2 wt) 3 sg) C hx39 rfl (by decide) (by decide) rfl (by decide +kernel) ?_
            refine g_abs (P := fun G9 => RM cy m am 0 b nt nf nc nn T F Cu N G9 ∧ G9 q21 = some (.inl (cy 0, 7, .inl (upd (upd (upd (upd (fun _ => 0) 0 mid) 1 wid) 2 wt) 3 sg)))) ⟨RM.oth h37 hn23, g_up_self ..⟩ (fun G40 hg42 => ?_)
            obtain ⟨h41, hx43⟩ := hg42
            refine g_seg [(88, .dup, 1), (89, .iconst 4, 1), (90, .iconst 0, 1)] 91 [(0, .ref m), (1, .int mid), (2, .int wid), (3, .int wt), (4, .int sg)] [.int 0, .int 4, .ref q21, .ref q21] C (by decide +kernel) rfl ?_
            refine g_iastM (pc := 91) (n := 7) 4 (upd (upd (upd (upd (upd (fun _ => 0) 0 mid) 1 wid) 2 wt) 3 sg) 4 0) C hx43 rfl (by decide) (by decide) rfl (by decide +kernel) ?_
            refine g_abs (P := fun G9 => RM cy m am 0 b nt nf nc nn T F Cu N G9 ∧ G9 q21 = some (.inl (cy 0, 7, .inl (upd (upd (upd (upd (upd (fun _ => 0) 0 mid) 1 wid) 2 wt) 3 sg) 4 0)))) ⟨RM.oth h41 hn23, g_up_self ..⟩ (fun G44 hg46 => ?_)
            obtain ⟨h45, hx47⟩ := hg46
            refine g_seg [(92, .dup, 1), (93, .iconst 5, 1), (94, .iconst 1, 1)] 95 [(0, .ref m), (1, .int mid), (2, .int wid), (3, .int wt), (4, .int sg)] [.int 1, .int 5, .ref q21, .ref q21] C (by decide +kernel) rfl ?_
            refine g_iastM (pc := 95) (n := 7) 5 (upd (upd (upd (upd (upd (upd (fun _ => 0) 0 mid) 1 wid) 2 wt) 3 sg) 4 0) 5 1) C hx47 rfl (by decide) (by decide) rfl (by decide +kernel) ?_
            refine g_abs (P := fun G9 => RM cy m am 0 b nt nf nc nn T F Cu N G9 ∧ G9 q21 = some (.inl (cy 0, 7, .inl (upd (upd (upd (upd (upd (upd (fun _ => 0) 0 mid) 1 wid) 2 wt) 3 sg) 4 0) 5 1)))) ⟨RM.oth h45 hn23, g_up_self ..⟩ (fun G48 hg50 => ?_)
            obtain ⟨h49, hx51⟩ := hg50
            refine g_seg [(96, .dup, 1), (97, .bipush 6, 2), (99, .aload_n 0, 1)] 100 [(0, .ref m), (1, .int mid), (2, .int wid), (3, .int wt), (4, .int sg)] [.ref m, .int 6, .ref q21, .ref q21] C (by decide +kernel) rfl ?_
            refine g_getf (pc := 100) (k := 9) (v := .ref (am 4)) C fl_X5_22 (h49.1.1) rfl (by decide +kernel) ?_
            refine g_seg [(103, .iconst 0, 1)] 104 [(0, .ref m), (1, .int mid), (2, .int wid), (3, .int wt), (4, .int sg)] [.int 0, .ref (am 4), .int 6, .ref q21, .ref q21] C (by decide +kernel) rfl ?_
            refine g_ialdM (pc := 104) (n := 1) 0 b C (h49.1.2.2.2.2.2) nI_0.symm (by decide) (by decide) rfl (by decide +kernel) ?_
            refine g_iastM (pc := 105) (n := 7) 6 (upd (upd (upd (upd (upd (upd (upd (fun _ => 0) 0 mid) 1 wid) 2 wt) 3 sg) 4 0) 5 1) 6 b) C hx51 rfl (by decide) (by decide) rfl (by decide +kernel) ?_
            refine g_abs (P := fun G9 => RM cy m am 0 b nt nf nc nn T F Cu N G9 ∧ G9 q21 = some (.inl (cy 0, 7, .inl (upd (upd (upd (upd (upd (upd (upd (fun _ => 0) 0 mid) 1 wid) 2 wt) 3 sg) 4 0) 5 1) 6 b)))) ⟨RM.oth h49 hn23, g_up_self ..⟩ (fun G52 hg54 => ?_)
            obtain ⟨h53, hx55⟩ := hg54
            refine g_seg [(106, .astore 5, 2), (108, .aload 5, 2), (110, .iconst 0, 1), (111, .aload_n 0, 1)] 112 [(5, .ref q21), (0, .ref m), (1, .int mid), (2, .int wid), (3, .int wt), (4, .int sg)] [.ref m, .int 0, .ref q21] C (by decide +kernel) rfl ?_
            refine g_getf (pc := 112) (k := 5) (v := .ref (am 0)) C fl_X5_9 (h53.1.1) rfl (by decide +kernel) ?_
            refine g_seg [(115, .bipush 7, 2), (117, .aload_n 0, 1)] 118 [(5, .ref q21), (0, .ref m), (1, .int mid), (2, .int wid), (3, .int wt), (4, .int sg)] [.ref m, .int 7, .ref (am 0), .int 0, .ref q21] C (by decide +kernel) rfl ?_
            refine g_getf (pc := 118) (k := 1) (v := .int (nI nt)) C fl_X5_29 (h53.1.1) rfl (by decide +kernel) ?_
            refine g_seg [(121, .imul, 1), (122, .bipush 7, 2)] 124 [(5, .ref q21), (0, .ref m), (1, .int mid), (2, .int wid), (3, .int wt), (4, .int sg)] [.int 7, .int (7 * (nI nt)), .ref (am 0), .int 0, .ref q21] C (by decide +kernel) rfl ?_
            refine g_copyi (pc := 124) (p := 0) (d := (7 * nt)) (n := 7) C q712 q714 q713 q56 (hx55) (h53.1.2.1) (rfl) (pk_mul 7 nt) (rfl) (by omega) (by omega) (by decide) (by decide) (Nat.le_of_ble_eq_true rfl) (Nat.le_of_ble_eq_true rfl) (by decide +kernel) ?_
            rw [cpy_add (r := rowT mid wid wt sg b) (by decide) (fun k hk => by rcases (show k = 0 ∨ k = 1 ∨ k = 2 ∨ k = 3 ∨ k = 4 ∨ k = 5 ∨ k = 6 by omega) with rfl | rfl | rfl | rfl | rfl | rfl | rfl <;> rfl)]
            refine g_abs (P := fun G9 => RM cy m am 0 b nt nf nc nn (s_add T nt (rowT mid wid wt sg b)) F Cu N G9 ∧ G9 q21 = some (.inl (cy 0, 7, .inl (upd (upd (upd (upd (upd (upd (upd (fun _ => 0) 0 mid) 1 wid) 2 wt) 3 sg) 4 0) 5 1) 6 b)))) ⟨RM.a0 h53, by rw [g_up_ne (Ne.symm (hn23.2 0 (by decide)))]; exact hx55⟩ (fun G56 hg58 => ?_)
            obtain ⟨h57, hx59⟩ := hg58
            refine g_seg [(127, .aload_n 0, 1), (128, .dup, 1)] 129 [(5, .ref q21), (0, .ref m), (1, .int mid), (2, .int wid), (3, .int wt), (4, .int sg)] [.ref m, .ref m] C (by decide +kernel) rfl ?_
            refine g_getf (pc := 129) (k := 1) (v := .int (nI nt)) C fl_X5_29 (h57.1.1) rfl (by decide +kernel) ?_
            refine g_seg [(132, .iconst 1, 1), (133, .iadd, 1)] 134 [(5, .ref q21), (0, .ref m), (1, .int mid), (2, .int wid), (3, .int wt), (4, .int sg)] [.int ((nI nt) + 1), .ref m] C (by decide +kernel) rfl ?_
            refine g_putf (pc := 134) (k := 1) (v := .int ((nI nt) + 1)) (ty := .int) C fl_X5_29 fp_X5_1 (h57.1.1) (rfl) (by first | rfl | decide) (Nat.le_of_ble_eq_true rfl) (by decide +kernel) ?_
            refine g_abs (P := fun G9 => RM cy m am 0 b (nt + 1) nf nc nn (s_add T nt (rowT mid wid wt sg b)) F Cu N G9 ∧ G9 q21 = some (.inl (cy 0, 7, .inl (upd (upd (upd (upd (upd (upd (upd (fun _ => 0) 0 mid) 1 wid) 2 wt) 3 sg) 4 0) 5 1) 6 b)))) ⟨(by rw [nI_1]; exact RM.obj h57 (by omega)), by rw [g_up_ne (Ne.symm hn23.1)]; exact hx59⟩ (fun G60 hg62 => ?_)
            obtain ⟨h61, hx63⟩ := hg62
            refine g_seg [(137, .aload_n 0, 1)] 138 [(5, .ref q21), (0, .ref m), (1, .int mid), (2, .int wid), (3, .int wt), (4, .int sg)] [.ref m] C (by decide +kernel) rfl ?_
            refine g_getf (pc := 138) (k := 1) (v := .int (nI (nt + 1))) C fl_X5_29 (h61.1.1) rfl (by decide +kernel) ?_
            refine g_seg [(141, .iconst 1, 1), (142, .isub, 1)] 143 [(5, .ref q21), (0, .ref m), (1, .int mid), (2, .int wid), (3, .int wt), (4, .int sg)] [.int ((nI (nt + 1)) - 1)] C (by decide +kernel) rfl ?_
            exact g_iret (pc := 143) C R (⟨_, rfl, Or.inl ⟨⟨h7, h11, h15, h19⟩, hcap, nI_pr nt, h61⟩⟩) (Nat.le_of_ble_eq_true rfl) (Nat.le_of_ble_eq_true rfl) (by decide +kernel)
          · have hcap : ¬ nt < 6 := by have e9 := (nI_eq (a := nt) (b := 6) (by omega) (by decide)).mp c20; omega
            refine g_seg [(61, .aload_n 0, 1), (62, .iconst 2, 1)] 63 [(0, .ref m), (1, .int mid), (2, .int wid), (3, .int wt), (4, .int sg)] [.int 2, .ref m] C (by decide +kernel) rfl ?_
            refine g_callV (pc := 63) C mV_X5_fail q708 (h2.1.1) rfl rfl (c_X5_fail l D cy h2 2) rfl ⟨⟨Nat.le_of_ble_eq_true rfl, Nat.le_of_ble_eq_true rfl⟩, Nat.le_of_ble_eq_true rfl, Nat.le_of_ble_eq_true rfl⟩ rfl (Nat.le_of_ble_eq_true rfl) (by decide +kernel) ?_
            refine g_kI (fun v66 G64 hp65 => ?_)
            obtain ⟨rfl, h67⟩ := hp65
            exact g_iret (pc := 66) C R (⟨_, rfl, Or.inr (Or.inr (⟨⟨⟨h7, h11, h15, h19⟩, hcap⟩, h67⟩))⟩) (Nat.le_of_ble_eq_true rfl) (Nat.le_of_ble_eq_true rfl) (by decide +kernel)
        · refine g_if_ne (pc := 43) (off := 9) 52 C (by decide +kernel) (by decide) (fun c9 => absurd (by decide) c9) (fun _ => ?_)
          refine g_seg [(46, .aload_n 0, 1), (47, .iconst 1, 1)] 48 [(0, .ref m), (1, .int mid), (2, .int wid), (3, .int wt), (4, .int sg)] [.int 1, .ref m] C (by decide +kernel) rfl ?_
          refine g_callV (pc := 48) C mV_X5_fail q708 (h2.1.1) rfl rfl (c_X5_fail l D cy h2 1) rfl ⟨⟨Nat.le_of_ble_eq_true rfl, Nat.le_of_ble_eq_true rfl⟩, Nat.le_of_ble_eq_true rfl, Nat.le_of_ble_eq_true rfl⟩ rfl (Nat.le_of_ble_eq_true rfl) (by decide +kernel) ?_
          refine g_kI (fun v70 G68 hp69 => ?_)
          obtain ⟨rfl, h71⟩ := hp69
          exact g_iret (pc := 51) C R (⟨_, rfl, Or.inr (Or.inl ⟨fun h9 => h19 h9.2.2.2, h71⟩)⟩) (Nat.le_of_ble_eq_true rfl) (Nat.le_of_ble_eq_true rfl) (by decide +kernel)
      · refine g_if_eq (pc := 32) (off := 14) 46 C (by decide +kernel) (by decide) (fun _ => ?_) (fun c9 => absurd (by decide) c9)
        refine g_seg [(46, .aload_n 0, 1), (47, .iconst 1, 1)] 48 [(0, .ref m), (1, .int mid), (2, .int wid), (3, .int wt), (4, .int sg)] [.int 1, .ref m] C (by decide +kernel) rfl ?_
        refine g_callV (pc := 48) C mV_X5_fail q708 (h2.1.1) rfl rfl (c_X5_fail l D cy h2 1) rfl ⟨⟨Nat.le_of_ble_eq_true rfl, Nat.le_of_ble_eq_true rfl⟩, Nat.le_of_ble_eq_true rfl, Nat.le_of_ble_eq_true rfl⟩ rfl (Nat.le_of_ble_eq_true rfl) (by decide +kernel) ?_
        refine g_kI (fun v74 G72 hp73 => ?_)
        obtain ⟨rfl, h75⟩ := hp73
        exact g_iret (pc := 51) C R (⟨_, rfl, Or.inr (Or.inl ⟨fun h9 => h15 h9.2.2.1, h75⟩)⟩) (Nat.le_of_ble_eq_true rfl) (Nat.le_of_ble_eq_true rfl) (by decide +kernel)
    · refine g_if_eq (pc := 22) (off := 24) 46 C (by decide +kernel) (by decide) (fun _ => ?_) (fun c9 => absurd (by decide) c9)
      refine g_seg [(46, .aload_n 0, 1), (47, .iconst 1, 1)] 48 [(0, .ref m), (1, .int mid), (2, .int wid), (3, .int wt), (4, .int sg)] [.int 1, .ref m] C (by decide +kernel) rfl ?_
      refine g_callV (pc := 48) C mV_X5_fail q708 (h2.1.1) rfl rfl (c_X5_fail l D cy h2 1) rfl ⟨⟨Nat.le_of_ble_eq_true rfl, Nat.le_of_ble_eq_true rfl⟩, Nat.le_of_ble_eq_true rfl, Nat.le_of_ble_eq_true rfl⟩ rfl (Nat.le_of_ble_eq_true rfl) (by decide +kernel) ?_
      refine g_kI (fun v78 G76 hp77 => ?_)
      obtain ⟨rfl, h79⟩ := hp77
      exact g_iret (pc := 51) C R (⟨_, rfl, Or.inr (Or.inl ⟨fun h9 => h11 h9.2.1, h79⟩)⟩) (Nat.le_of_ble_eq_true rfl) (Nat.le_of_ble_eq_true rfl) (by decide +kernel)
  · refine g_if_eq (pc := 12) (off := 34) 46 C (by decide +kernel) (by decide) (fun _ => ?_) (fun c9 => absurd (by decide) c9)
    refine g_seg [(46, .aload_n 0, 1), (47, .iconst 1, 1)] 48 [(0, .ref m), (1, .int mid), (2, .int wid), (3, .int wt), (4, .int sg)] [.int 1, .ref m] C (by decide +kernel) rfl ?_
    refine g_callV (pc := 48) C mV_X5_fail q708 (h2.1.1) rfl rfl (c_X5_fail l D cy h2 1) rfl ⟨⟨Nat.le_of_ble_eq_true rfl, Nat.le_of_ble_eq_true rfl⟩, Nat.le_of_ble_eq_true rfl, Nat.le_of_ble_eq_true rfl⟩ rfl (Nat.le_of_ble_eq_true rfl) (by decide +kernel) ?_
    refine g_kI (fun v82 G80 hp81 => ?_)
    obtain ⟨rfl, h83⟩ := hp81
    exact g_iret (pc := 51) C R (⟨_, rfl, Or.inr (Or.inl ⟨fun h9 => h7 h9.1, h83⟩)⟩) (Nat.le_of_ble_eq_true rfl) (Nat.le_of_ble_eq_true rfl) (by decide +kernel)
set_option maxHeartbeats 4000000 in
set_option maxRecDepth 100000 in
theorem c_X5_cue (l : Launch) (D : va_G) (cy : Nat → ClassId) {G : GG} {m : Nat} {am : Nat → Nat} {th b : Int32} {nt nf nc nn : Nat} {T F Cu N : Rw} (h : RM cy m am th b nt nf nc nn T F Cu N G) (bt f r tm : Int32) : Ctr l D cy yX5_cue prog_7_method_19_code 6 (some .int) kX5_cue [.ref m, .int bt, .int f, .int r, .int tm] G (pI (fun v G' => ((∃ i, i < nf ∧ f = nI i) ∧ okC bt r tm ∧ ¬ bt < b ∧ nc < 20 ∧ v = nI nc ∧ RM cy m am 0 b nt nf (nc + 1) nn T F (s_add Cu nc (rowC bt f r tm)) N G') ∨ ((∀ i, i < nf → f ≠ nI i) ∧ RM cy m am 1 b nt nf nc nn T F Cu N G') ∨ (((∃ i, i < nf ∧ f = nI i) ∧ ¬ okC bt r tm) ∧ RM cy m am 2 b nt nf nc nn T F Cu N G') ∨ (((∃ i, i < nf ∧ f = nI i) ∧ okC bt r tm ∧ (bt < b ∨ ¬ nc < 20)) ∧ RM cy m am 3 b nt nf nc nn T F Cu N G'))) := by
  refine Ctr.mk (by decide +kernel) (Nat.le_of_ble_eq_true rfl) ?_
  intro κ C R
  have hbd := h.2.2
  refine g_pc (pc' := 0) rfl ?_
  refine g_seg [(0, .aload_n 0, 1), (1, .iconst 0, 1)] 2 [(0, .ref m), (1, .int bt), (2, .int f), (3, .int r), (4, .int tm)] [.int 0, .ref m] C (by decide +kernel) rfl ?_
  refine g_putf (pc := 2) (k := 0) (v := .int 0) (ty := .int) C fl_X5_25 fp_X5_0 (h.1.1) (rfl) (by first | rfl | decide) (Nat.le_of_ble_eq_true rfl) (by decide +kernel) ?_
  refine g_abs (P := fun G9 => RM cy m am 0 b nt nf nc nn T F Cu N G9) (RM.obj h h.2.2) (fun G1 hg3 => ?_)
  have h2 := hg3
  refine g_seg [(5, .aload_n 0, 1), (6, .iload_n 2, 1)] 7 [(0, .ref m), (1, .int bt), (2, .int f), (3, .int r), (4, .int tm)] [.int f, .ref m] C (by decide +kernel) rfl ?_
  refine g_callV (pc := 7) C mV_X5_isFlyer q751 (h2.1.1) rfl rfl (c_X5_isFlyer l D cy h2 f) rfl ⟨⟨Nat.le_of_ble_eq_true rfl, Nat.le_of_ble_eq_true rfl⟩, Nat.le_of_ble_eq_true rfl, Nat.le_of_ble_eq_true rfl⟩ rfl (Nat.le_of_ble_eq_true rfl) (by decide +kernel) ?_
  refine g_kI (fun v6 G5 hp4 => ?_)
  obtain ⟨rfl, hp4⟩ := hp4
  rcases hp4 with ⟨rfl, i7, hi8, hn9⟩ | ⟨rfl, hn9⟩
  · refine g_if_ne (pc := 10) (off := 9) 19 C (by decide +kernel) (by decide) (fun _ => ?_) (fun c9 => absurd c9 (by decide))
    refine g_seg [(19, .iload_n 3, 1), (20, .bipush (-20), 2), (22, .bipush 20, 2)] 24 [(0, .ref m), (1, .int bt), (2, .int f), (3, .int r), (4, .int tm)] [.int 20, .int (-20), .int r] C (by decide +kernel) rfl ?_
    refine g_callS (pc := 24) C mS_X5_isIn q705 (c_X5_isIn l D cy G5 r (-20) 20) rfl ⟨⟨Nat.le_of_ble_eq_true rfl, Nat.le_of_ble_eq_true rfl⟩, Nat.le_of_ble_eq_true rfl, Nat.le_of_ble_eq_true rfl⟩ rfl (Nat.le_of_ble_eq_true rfl) (by decide +kernel) ?_
    refine g_kI (fun v12 G11 hp10 => ?_)
    obtain ⟨rfl, hp10⟩ := hp10
    rcases hp10 with ⟨rfl, h13⟩ | ⟨rfl, h13⟩
    · refine g_if_eq (pc := 27) (off := 21) 48 C (by decide +kernel) (by decide) (fun c9 => absurd c9 (by decide)) (fun _ => ?_)
      refine g_seg [(30, .iload 4, 2), (32, .iconst 1, 1), (33, .bipush 6, 2)] 35 [(0, .ref m), (1, .int bt), (2, .int f), (3, .int r), (4, .int tm)] [.int 6, .int 1, .int tm] C (by decide +kernel) rfl ?_
      refine g_callS (pc := 35) C mS_X5_isIn q705 (c_X5_isIn l D cy G11 tm 1 6) rfl ⟨⟨Nat.le_of_ble_eq_true rfl, Nat.le_of_ble_eq_true rfl⟩, Nat.le_of_ble_eq_true rfl, Nat.le_of_ble_eq_true rfl⟩ rfl (Nat.le_of_ble_eq_true rfl) (by decide +kernel) ?_
      refine g_kI (fun v16 G15 hp14 => ?_)
      obtain ⟨rfl, hp14⟩ := hp14
      rcases hp14 with ⟨rfl, h17⟩ | ⟨rfl, h17⟩
      · refine g_if_eq (pc := 38) (off := 10) 48 C (by decide +kernel) (by decide) (fun c9 => absurd c9 (by decide)) (fun _ => ?_)
        refine g_seg [(41, .iload_n 1, 1), (42, .sipush 9999, 3)] 45 [(0, .ref m), (1, .int bt), (2, .int f), (3, .int r), (4, .int tm)] [.int 9999, .int bt] C (by decide +kernel) rfl ?_
        refine g_icmp_le (pc := 45) (off := 9) 54 C (by decide +kernel) (by decide) (fun c18 => ?_) (fun c18 => ?_)
        · refine g_seg [(54, .iload_n 1, 1), (55, .aload_n 0, 1)] 56 [(0, .ref m), (1, .int bt), (2, .int f), (3, .int r), (4, .int tm)] [.ref m, .int bt] C (by decide +kernel) rfl ?_
          refine g_getf (pc := 56) (k := 9) (v := .ref (am 4)) C fl_X5_22 (h2.1.1) rfl (by decide +kernel) ?_
          refine g_seg [(59, .iconst 0, 1)] 60 [(0, .ref m), (1, .int bt), (2, .int f), (3, .int r), (4, .int tm)] [.int 0, .ref (am 4), .int bt] C (by decide +kernel) rfl ?_
          refine g_ialdM (pc := 60) (n := 1) 0 b C (h2.1.2.2.2.2.2) nI_0.symm (by decide) (by decide) rfl (by decide +kernel) ?_
          refine g_icmp_lt (pc := 61) (off := 12) 73 C (by decide +kernel) (by decide) (fun c19 => ?_) (fun c19 => ?_)
          · refine g_seg [(73, .aload_n 0, 1), (74, .iconst 3, 1)] 75 [(0, .ref m), (1, .int bt), (2, .int f), (3, .int r), (4, .int tm)] [.int 3, .ref m] C (by decide +kernel) rfl ?_
            refine g_callV (pc := 75) C mV_X5_fail q708 (h2.1.1) rfl rfl (c_X5_fail l D cy h2 3) rfl ⟨⟨Nat.le_of_ble_eq_true rfl, Nat.le_of_ble_eq_true rfl⟩, Nat.le_of_ble_eq_true rfl, Nat.le_of_ble_eq_true rfl⟩ rfl (Nat.le_of_ble_eq_true rfl) (by decide +kernel) ?_
            refine g_kI (fun v22 G20 hp21 => ?_)
            obtain ⟨rfl, h23⟩ := hp21
            exact g_iret (pc := 78) C R (⟨_, rfl, Or.inr (Or.inr (Or.inr (⟨⟨⟨i7, hi8, hn9⟩, ⟨h13, h17, c18⟩, Or.inl c19⟩, h23⟩)))⟩) (Nat.le_of_ble_eq_true rfl) (Nat.le_of_ble_eq_true rfl) (by decide +kernel)
          · refine g_seg [(64, .aload_n 0, 1)] 65 [(0, .ref m), (1, .int bt), (2, .int f), (3, .int r), (4, .int tm)] [.ref m] C (by decide +kernel) rfl ?_
            refine g_getf (pc := 65) (k := 3) (v := .int (nI nc)) C fl_X5_80 (h2.1.1) rfl (by decide +kernel) ?_
            refine g_seg [(68, .bipush 20, 2)] 70 [(0, .ref m), (1, .int bt), (2, .int f), (3, .int r), (4, .int tm)] [.int 20, .int (nI nc)] C (by decide +kernel) rfl ?_
            refine g_icmp_ne (pc := 70) (off := 9) 79 C (by decide +kernel) (by decide) (fun c24 => ?_) (fun c24 => ?_)
            · have hcap : nc < 20 := by have e9 : nc ≠ 20 := fun e9 => c24 (by rw [e9]; rfl); omega
              refine g_seg [(79, .iconst 5, 1)] 80 [(0, .ref m), (1, .int bt), (2, .int f), (3, .int r), (4, .int tm)] [.int 5] C (by decide +kernel) rfl ?_
              refine g_newi (pc := 80) (N' := 5) C q696 (by decide) (by decide) (Nat.le_of_ble_eq_true rfl) (Nat.le_of_ble_eq_true rfl) (Nat.le_of_ble_eq_true rfl) (by decide +kernel) (fun q25 hq26 => ?_)
              have hn27 := RM.ne h2 hq26
              refine g_abs (P := fun G9 => RM cy m am 0 b nt nf nc nn T F Cu N G9 ∧ G9 q25 = some (.inl (cy 0, 5, .inl (fun _ => 0)))) ⟨RM.oth h2 hn27, g_up_self ..⟩ (fun G28 hg30 => ?_)
              obtain ⟨h29, hx31⟩ := hg30
              refine g_seg [(82, .dup, 1), (83, .iconst 0, 1), (84, .iload_n 1, 1)] 85 [(0, .ref m), (1, .int bt), (2, .int f), (3, .int r), (4, .int tm)] [.int bt, .int 0, .ref q25, .ref q25] C (by decide +kernel) rfl ?_
              refine g_iastM (pc := 85) (n := 5) 0 (upd (fun _ => 0) 0 bt) C hx31 rfl (by decide) (by decide) rfl (by decide +kernel) ?_
              refine g_abs (P := fun G9 => RM cy m am 0 b nt nf nc nn T F Cu N G9 ∧ G9 q25 = some (.inl (cy 0, 5, .inl (upd (fun _ => 0) 0 bt)))) ⟨RM.oth h29 hn27, g_up_self ..⟩ (fun G32 hg34 => ?_)
              obtain ⟨h33, hx35⟩ := hg34
              refine g_seg [(86, .dup, 1), (87, .iconst 1, 1), (88, .iload_n 2, 1)] 89 [(0, .ref m), (1, .int bt), (2, .int f), (3, .int r), (4, .int tm)] [.int f, .int 1, .ref q25, .ref q25] C (by decide +kernel) rfl ?_
              refine g_iastM (pc := 89) (n := 5) 1 (upd (upd (fun _ => 0) 0 bt) 1 f) C hx35 rfl (by decide) (by decide) rfl (by decide +kernel) ?_
              refine g_abs (P := fun G9 => RM cy m am 0 b nt nf nc nn T F Cu N G9 ∧ G9 q25 = some (.inl (cy 0, 5, .inl (upd (upd (fun _ => 0) 0 bt) 1 f)))) ⟨RM.oth h33 hn27, g_up_self ..⟩ (fun G36 hg38 => ?_)
              obtain ⟨h37, hx39⟩ := hg38
              refine g_seg [(90, .dup, 1), (91, .iconst 2, 1), (92, .iload_n 3, 1)] 93 [(0, .ref m), (1, .int bt), (2, .int f), (3, .int r), (4, .int tm)] [.int r, .int 2, .ref q25, .ref q25] C (by decide +kernel) rfl ?_
              refine g_iastM (pc := 93) (n := 5) 2 (upd (upd (upd (fun _ => 0) 0 bt) 1 f) 2 r) C hx39 rfl (by decide) (by decide) rfl (by decide +kernel) ?_
              refine g_abs (P := fun G9 => RM cy m am 0 b nt nf nc nn T F Cu N G9 ∧ G9 q25 = some (.inl (cy 0, 5, .inl (upd (upd (upd (fun _ => 0) 0 bt) 1 f) 2 r)))) ⟨RM.oth h37 hn27, g_up_self ..⟩ (fun G40 hg42 => ?_)
              obtain ⟨h41, hx43⟩ := hg42
              refine g_seg [(94, .dup, 1), (95, .iconst 3, 1), (96, .iload 4, 2)] 98 [(0, .ref m), (1, .int bt), (2, .int f), (3, .int r), (4, .int tm)] [.int tm, .int 3, .ref q25, .ref q25] C (by decide +kernel) rfl ?_
              refine g_iastM (pc := 98) (n := 5) 3 (upd (upd (upd (upd (fun _ => 0) 0 bt) 1 f) 2 r) 3 tm) C hx43 rfl (by decide) (by decide) rfl (by decide +kernel) ?_
              refine g_abs (P := fun G9 => RM cy m am 0 b nt nf nc nn T F Cu N G9 ∧ G9 q25 = some (.inl (cy 0, 5, .inl (upd (upd (upd (upd (fun _ => 0) 0 bt) 1 f) 2 r) 3 tm)))) ⟨RM.oth h41 hn27, g_up_self ..⟩ (fun G44 hg46 => ?_)
              obtain ⟨h45, hx47⟩ := hg46
              refine g_seg [(99, .dup, 1), (100, .iconst 4, 1), (101, .iconst 0, 1)] 102 [(0, .ref m), (1, .int bt), (2, .int f), (3, .int r), (4, .int tm)] [.int 0, .int 4, .ref q25, .ref q25] C (by decide +kernel) rfl ?_
              refine g_iastM (pc := 102) (n := 5) 4 (upd (upd (upd (upd (upd (fun _ => 0) 0 bt) 1 f) 2 r) 3 tm) 4 0) C hx47 rfl (by decide) (by decide) rfl (by decide +kernel) ?_
              refine g_abs (P := fun G9 => RM cy m am 0 b nt nf nc nn T F Cu N G9 ∧ G9 q25 = some (.inl (cy 0, 5, .inl (upd (upd (upd (upd (upd (fun _ => 0) 0 bt) 1 f) 2 r) 3 tm) 4 0)))) ⟨RM.oth h45 hn27, g_up_self ..⟩ (fun G48 hg50 => ?_)
              obtain ⟨h49, hx51⟩ := hg50
              refine g_seg [(103, .astore 5, 2), (105, .aload 5, 2), (107, .iconst 0, 1), (108, .aload_n 0, 1)] 109 [(5, .ref q25), (0, .ref m), (1, .int bt), (2, .int f), (3, .int r), (4, .int tm)] [.ref m, .int 0, .ref q25] C (by decide +kernel) rfl ?_
              refine g_getf (pc := 109) (k := 7) (v := .ref (am 2)) C fl_X5_16 (h49.1.1) rfl (by decide +kernel) ?_
              refine g_seg [(112, .iconst 5, 1), (113, .aload_n 0, 1)] 114 [(5, .ref q25), (0, .ref m), (1, .int bt), (2, .int f), (3, .int r), (4, .int tm)] [.ref m, .int 5, .ref (am 2), .int 0, .ref q25] C (by decide +kernel) rfl ?_
              refine g_getf (pc := 114) (k := 3) (v := .int (nI nc)) C fl_X5_80 (h49.1.1) rfl (by decide +kernel) ?_
              refine g_seg [(117, .imul, 1), (118, .iconst 5, 1)] 119 [(5, .ref q25), (0, .ref m), (1, .int bt), (2, .int f), (3, .int r), (4, .int tm)] [.int 5, .int (5 * (nI nc)), .ref (am 2), .int 0, .ref q25] C (by decide +kernel) rfl ?_
              refine g_copyi (pc := 119) (p := 0) (d := (5 * nc)) (n := 5) C q712 q714 q713 q56 (hx51) (h49.1.2.2.2.1) (rfl) (pk_mul 5 nc) (rfl) (by omega) (by omega) (by decide) (by decide) (Nat.le_of_ble_eq_true rfl) (Nat.le_of_ble_eq_true rfl) (by decide +kernel) ?_
              rw [cpy_add (r := rowC bt f r tm) (by decide) (fun k hk => by rcases (show k = 0 ∨ k = 1 ∨ k = 2 ∨ k = 3 ∨ k = 4 by omega) with rfl | rfl | rfl | rfl | rfl <;> rfl)]
              refine g_abs (P := fun G9 => RM cy m am 0 b nt nf nc nn T F (s_add Cu nc (rowC bt f r tm)) N G9 ∧ G9 q25 = some (.inl (cy 0, 5, .inl (upd (upd (upd (upd (upd (fun _ => 0) 0 bt) 1 f) 2 r) 3 tm) 4 0)))) ⟨RM.a2 h49, by rw [g_up_ne (Ne.symm (hn27.2 2 (by decide)))]; exact hx51⟩ (fun G52 hg54 => ?_)
              obtain ⟨h53, hx55⟩ := hg54
              refine g_seg [(122, .aload_n 0, 1), (123, .dup, 1)] 124 [(5, .ref q25), (0, .ref m), (1, .int bt), (2, .int f), (3, .int r), (4, .int tm)] [.ref m, .ref m] C (by decide +kernel) rfl ?_
              refine g_getf (pc := 124) (k := 3) (v := .int (nI nc)) C fl_X5_80 (h53.1.1) rfl (by decide +kernel) ?_
              refine g_seg [(127, .iconst 1, 1), (128, .iadd, 1)] 129 [(5, .ref q25), (0, .ref m), (1, .int bt), (2, .int f), (3, .int r), (4, .int tm)] [.int ((nI nc) + 1), .ref m] C (by decide +kernel) rfl ?_
              refine g_putf (pc := 129) (k := 3) (v := .int ((nI nc) + 1)) (ty := .int) C fl_X5_80 fp_X5_3 (h53.1.1) (rfl) (by first | rfl | decide) (Nat.le_of_ble_eq_true rfl) (by decide +kernel) ?_
              refine g_abs (P := fun G9 => RM cy m am 0 b nt nf (nc + 1) nn T F (s_add Cu nc (rowC bt f r tm)) N G9 ∧ G9 q25 = some (.inl (cy 0, 5, .inl (upd (upd (upd (upd (upd (fun _ => 0) 0 bt) 1 f) 2 r) 3 tm) 4 0)))) ⟨(by rw [nI_1]; exact RM.obj h53 (by omega)), by rw [g_up_ne (Ne.symm hn27.1)]; exact hx55⟩ (fun G56 hg58 => ?_)
              obtain ⟨h57, hx59⟩ := hg58
              refine g_seg [(132, .aload_n 0, 1)] 133 [(5, .ref q25), (0, .ref m), (1, .int bt), (2, .int f), (3, .int r), (4, .int tm)] [.ref m] C (by decide +kernel) rfl ?_
              refine g_getf (pc := 133) (k := 3) (v := .int (nI (nc + 1))) C fl_X5_80 (h57.1.1) rfl (by decide +kernel) ?_
              refine g_seg [(136, .iconst 1, 1), (137, .isub, 1)] 138 [(5, .ref q25), (0, .ref m), (1, .int bt), (2, .int f), (3, .int r), (4, .int tm)] [.int ((nI (nc + 1)) - 1)] C (by decide +kernel) rfl ?_
              exact g_iret (pc := 138) C R (⟨_, rfl, Or.inl ⟨⟨i7, hi8, hn9⟩, ⟨h13, h17, c18⟩, c19, hcap, nI_pr nc, h57⟩⟩) (Nat.le_of_ble_eq_true rfl) (Nat.le_of_ble_eq_true rfl) (by decide +kernel)
            · have hcap : ¬ nc < 20 := by have e9 := (nI_eq (a := nc) (b := 20) (by omega) (by decide)).mp c24; omega
              refine g_seg [(73, .aload_n 0, 1), (74, .iconst 3, 1)] 75 [(0, .ref m), (1, .int bt), (2, .int f), (3, .int r), (4, .int tm)] [.int 3, .ref m] C (by decide +kernel) rfl ?_
              refine g_callV (pc := 75) C mV_X5_fail q708 (h2.1.1) rfl rfl (c_X5_fail l D cy h2 3) rfl ⟨⟨Nat.le_of_ble_eq_true rfl, Nat.le_of_ble_eq_true rfl⟩, Nat.le_of_ble_eq_true rfl, Nat.le_of_ble_eq_true rfl⟩ rfl (Nat.le_of_ble_eq_true rfl) (by decide +kernel) ?_
              refine g_kI (fun v62 G60 hp61 => ?_)
              obtain ⟨rfl, h63⟩ := hp61
              exact g_iret (pc := 78) C R (⟨_, rfl, Or.inr (Or.inr (Or.inr (⟨⟨⟨i7, hi8, hn9⟩, ⟨h13, h17, c18⟩, Or.inr hcap⟩, h63⟩)))⟩) (Nat.le_of_ble_eq_true rfl) (Nat.le_of_ble_eq_true rfl) (by decide +kernel)
        · refine g_seg [(48, .aload_n 0, 1), (49, .iconst 2, 1)] 50 [(0, .ref m), (1, .int bt), (2, .int f), (3, .int r), (4, .int tm)] [.int 2, .ref m] C (by decide +kernel) rfl ?_
          refine g_callV (pc := 50) C mV_X5_fail q708 (h2.1.1) rfl rfl (c_X5_fail l D cy h2 2) rfl ⟨⟨Nat.le_of_ble_eq_true rfl, Nat.le_of_ble_eq_true rfl⟩, Nat.le_of_ble_eq_true rfl, Nat.le_of_ble_eq_true rfl⟩ rfl (Nat.le_of_ble_eq_true rfl) (by decide +kernel) ?_
          refine g_kI (fun v66 G64 hp65 => ?_)
          obtain ⟨rfl, h67⟩ := hp65
          exact g_iret (pc := 53) C R (⟨_, rfl, Or.inr (Or.inr (Or.inl ⟨⟨⟨i7, hi8, hn9⟩, fun h9 => c18 h9.2.2⟩, h67⟩))⟩) (Nat.le_of_ble_eq_true rfl) (Nat.le_of_ble_eq_true rfl) (by decide +kernel)
      · refine g_if_eq (pc := 38) (off := 10) 48 C (by decide +kernel) (by decide) (fun _ => ?_) (fun c9 => absurd (by decide) c9)
        refine g_seg [(48, .aload_n 0, 1), (49, .iconst 2, 1)] 50 [(0, .ref m), (1, .int bt), (2, .int f), (3, .int r), (4, .int tm)] [.int 2, .ref m] C (by decide +kernel) rfl ?_
        refine g_callV (pc := 50) C mV_X5_fail q708 (h2.1.1) rfl rfl (c_X5_fail l D cy h2 2) rfl ⟨⟨Nat.le_of_ble_eq_true rfl, Nat.le_of_ble_eq_true rfl⟩, Nat.le_of_ble_eq_true rfl, Nat.le_of_ble_eq_true rfl⟩ rfl (Nat.le_of_ble_eq_true rfl) (by decide +kernel) ?_
        refine g_kI (fun v70 G68 hp69 => ?_)
        obtain ⟨rfl, h71⟩ := hp69
        exact g_iret (pc := 53) C R (⟨_, rfl, Or.inr (Or.inr (Or.inl ⟨⟨⟨i7, hi8, hn9⟩, fun h9 => h17 h9.2.1⟩, h71⟩))⟩) (Nat.le_of_ble_eq_true rfl) (Nat.le_of_ble_eq_true rfl) (by decide +kernel)
    · refine g_if_eq (pc := 27) (off := 21) 48 C (by decide +kernel) (by decide) (fun _ => ?_) (fun c9 => absurd (by decide) c9)
      refine g_seg [(48, .aload_n 0, 1), (49, .iconst 2, 1)] 50 [(0, .ref m), (1, .int bt), (2, .int f), (3, .int r), (4, .int tm)] [.int 2, .ref m] C (by decide +kernel) rfl ?_
      refine g_callV (pc := 50) C mV_X5_fail q708 (h2.1.1) rfl rfl (c_X5_fail l D cy h2 2) rfl ⟨⟨Nat.le_of_ble_eq_true rfl, Nat.le_of_ble_eq_true rfl⟩, Nat.le_of_ble_eq_true rfl, Nat.le_of_ble_eq_true rfl⟩ rfl (Nat.le_of_ble_eq_true rfl) (by decide +kernel) ?_
      refine g_kI (fun v74 G72 hp73 => ?_)
      obtain ⟨rfl, h75⟩ := hp73
      exact g_iret (pc := 53) C R (⟨_, rfl, Or.inr (Or.inr (Or.inl ⟨⟨⟨i7, hi8, hn9⟩, fun h9 => h13 h9.1⟩, h75⟩))⟩) (Nat.le_of_ble_eq_true rfl) (Nat.le_of_ble_eq_true rfl) (by decide +kernel)
  · refine g_if_ne (pc := 10) (off := 9) 19 C (by decide +kernel) (by decide) (fun c9 => absurd (by decide) c9) (fun _ => ?_)
    refine g_seg [(13, .aload_n 0, 1), (14, .iconst 1, 1)] 15 [(0, .ref m), (1, .int bt), (2, .int f), (3, .int r), (4, .int tm)] [.int 1, .ref m] C (by decide +kernel) rfl ?_
    refine g_callV (pc := 15) C mV_X5_fail q708 (h2.1.1) rfl rfl (c_X5_fail l D cy h2 1) rfl ⟨⟨Nat.le_of_ble_eq_true rfl, Nat.le_of_ble_eq_true rfl⟩, Nat.le_of_ble_eq_true rfl, Nat.le_of_ble_eq_true rfl⟩ rfl (Nat.le_of_ble_eq_true rfl) (by decide +kernel) ?_
    refine g_kI (fun v78 G76 hp77 => ?_)
    obtain ⟨rfl, h79⟩ := hp77
    exact g_iret (pc := 18) C R (⟨_, rfl, Or.inr (Or.inl ⟨hn9, h79⟩)⟩) (Nat.le_of_ble_eq_true rfl) (Nat.le_of_ble_eq_true rfl) (by decide +kernel)
set_option maxHeartbeats 4000000 in
set_option maxRecDepth 100000 in
theorem c_X5_kept (l : Launch) (D : va_G) (cy : Nat → ClassId) {G : GG} {m : Nat} {am : Nat → Nat} {th b : Int32} {nt nf nc nn : Nat} {T F Cu N : Rw} (h : RM cy m am th b nt nf nc nn T F Cu N G) : Ctr l D cy yX5_kept prog_7_method_45_code 1 (some (.array (.array .int))) kX5_kept [.ref m] G (pA (fun v G' => ∃ q ak, v = .ref q ∧ RM cy m am th b nt nf nc nn T F Cu N G' ∧ KP cy m am q ak T F Cu b G')) := by
  refine Ctr.mk (by decide +kernel) (Nat.le_of_ble_eq_true rfl) ?_
  intro κ C R
  have hbd := h.2.2
  refine g_pc (pc' := 0) rfl ?_
  refine g_seg [(0, .iconst 4, 1)] 1 [(0, .ref m)] [.int 4] C (by decide +kernel) rfl ?_
  refine g_anewA (pc := 1) (N' := 4) C q880 (by decide) (by decide) (Nat.le_of_ble_eq_true rfl) (Nat.le_of_ble_eq_true rfl) (Nat.le_of_ble_eq_true rfl) (by decide +kernel) (fun q1 hq2 => ?_)
  have hn3 := RM.ne h hq2
  refine g_abs (P := fun G9 => RM cy m am th b nt nf nc nn T F Cu N G9 ∧ G9 q1 = some (.inl (cy 5, 4, .inr (.inr (.inr (.inr (fun _ => none))))))) ⟨RM.oth h hn3, g_up_self ..⟩ (fun G4 hg6 => ?_)
  obtain ⟨h5, hx7⟩ := hg6
  refine g_seg [(4, .dup, 1), (5, .iconst 0, 1), (6, .aload_n 0, 1)] 7 [(0, .ref m)] [.ref m, .int 0, .ref q1, .ref q1] C (by decide +kernel) rfl ?_
  refine g_getf (pc := 7) (k := 5) (v := .ref (am 0)) C fl_X5_9 (h5.1.1) rfl (by decide +kernel) ?_
  refine g_clonei (pc := 10) C q882 q883 q884 q885 q886 (h5.1.2.1) (Nat.le_of_ble_eq_true rfl) (Nat.le_of_ble_eq_true rfl) (Nat.le_of_ble_eq_true rfl) (Nat.le_of_ble_eq_true rfl) (by decide +kernel) (fun q8 hq9 => ?_)
  have hn10 := RM.ne h5 hq9
  have hd_q1_q8 := g_fresh hq9 hx7
  refine g_abs (P := fun G9 => RM cy m am th b nt nf nc nn T F Cu N G9 ∧ G9 q1 = some (.inl (cy 5, 4, .inr (.inr (.inr (.inr (fun _ => none)))))) ∧ G9 q8 = some (.inl (cy 0, 42, .inl (fA 7 T)))) ⟨RM.oth h5 hn10, by rw [g_up_ne hd_q1_q8]; exact hx7, g_up_self ..⟩ (fun G11 hg13 => ?_)
  obtain ⟨h12, hx14, hx15⟩ := hg13
  refine g_casti (pc := 13) C q880 (hx15) (by decide +kernel) ?_
  refine g_aastI (pc := 16) (j := 0) C hx14 (hx15) rfl (by decide) (by decide) (by decide +kernel) ?_
  refine g_abs (P := fun G9 => RM cy m am th b nt nf nc nn T F Cu N G9 ∧ G9 q1 = some (.inl (cy 5, 4, .inr (.inr (.inr (.inr (va_up (fun _ => none) 0 (some q8))))))) ∧ G9 q8 = some (.inl (cy 0, 42, .inl (fA 7 T)))) ⟨RM.oth h12 hn3, g_up_self .., by rw [g_up_ne (Ne.symm hd_q1_q8)]; exact hx15⟩ (fun G16 hg18 => ?_)
  obtain ⟨h17, hx19, hx20⟩ := hg18
  refine g_seg [(17, .dup, 1), (18, .iconst 1, 1), (19, .aload_n 0, 1)] 20 [(0, .ref m)] [.ref m, .int 1, .ref q1, .ref q1] C (by decide +kernel) rfl ?_
  refine g_getf (pc := 20) (k := 6) (v := .ref (am 1)) C fl_X5_13 (h17.1.1) rfl (by decide +kernel) ?_
  refine g_clonei (pc := 23) C q882 q883 q884 q885 q886 (h17.1.2.2.1) (Nat.le_of_ble_eq_true rfl) (Nat.le_of_ble_eq_true rfl) (Nat.le_of_ble_eq_true rfl) (Nat.le_of_ble_eq_true rfl) (by decide +kernel) (fun q21 hq22 => ?_)
  have hn23 := RM.ne h17 hq22
  have hd_q1_q21 := g_fresh hq22 hx19
  have hd_q8_q21 := g_fresh hq22 hx20
  refine g_abs (P := fun G9 => RM cy m am th b nt nf nc nn T F Cu N G9 ∧ G9 q1 = some (.inl (cy 5, 4, .inr (.inr (.inr (.inr (va_up (fun _ => none) 0 (some q8))))))) ∧ G9 q8 = some (.inl (cy 0, 42, .inl (fA 7 T))) ∧ G9 q21 = some (.inl (cy 0, 40, .inl (fA 5 F)))) ⟨RM.oth h17 hn23, by rw [g_up_ne hd_q1_q21]; exact hx19, by rw [g_up_ne hd_q8_q21]; exact hx20, g_up_self ..⟩ (fun G24 hg26 => ?_)
  obtain ⟨h25, hx27, hx28, hx29⟩ := hg26
  refine g_casti (pc := 26) C q880 (hx29) (by decide +kernel) ?_
  refine g_aastI (pc := 29) (j := 1) C hx27 (hx29) rfl (by decide) (by decide) (by decide +kernel) ?_
  refine g_abs (P := fun G9 => RM cy m am th b nt nf nc nn T F Cu N G9 ∧ G9 q1 = some (.inl (cy 5, 4, .inr (.inr (.inr (.inr (va_up (va_up (fun _ => none) 0 (some q8)) 1 (some q21))))))) ∧ G9 q8 = some (.inl (cy 0, 42, .inl (fA 7 T))) ∧ G9 q21 = some (.inl (cy 0, 40, .inl (fA 5 F)))) ⟨RM.oth h25 hn3, g_up_self .., by rw [g_up_ne (Ne.symm hd_q1_q8)]; exact hx28, by rw [g_up_ne (Ne.symm hd_q1_q21)]; exact hx29⟩ (fun G30 hg32 => ?_)
  obtain ⟨h31, hx33, hx34, hx35⟩ := hg32
  refine g_seg [(30, .dup, 1), (31, .iconst 2, 1), (32, .aload_n 0, 1)] 33 [(0, .ref m)] [.ref m, .int 2, .ref q1, .ref q1] C (by decide +kernel) rfl ?_
  refine g_getf (pc := 33) (k := 7) (v := .ref (am 2)) C fl_X5_16 (h31.1.1) rfl (by decide +kernel) ?_
  refine g_clonei (pc := 36) C q882 q883 q884 q885 q886 (h31.1.2.2.2.1) (Nat.le_of_ble_eq_true rfl) (Nat.le_of_ble_eq_true rfl) (Nat.le_of_ble_eq_true rfl) (Nat.le_of_ble_eq_true rfl) (by decide +kernel) (fun q36 hq37 => ?_)
  have hn38 := RM.ne h31 hq37
  have hd_q1_q36 := g_fresh hq37 hx33
  have hd_q8_q36 := g_fresh hq37 hx34
  have hd_q21_q36 := g_fresh hq37 hx35
  refine g_abs (P := fun G9 => RM cy m am th b nt nf nc nn T F Cu N G9 ∧ G9 q1 = some (.inl (cy 5, 4, .inr (.inr (.inr (.inr (va_up (va_up (fun _ => none) 0 (some q8)) 1 (some q21))))))) ∧ G9 q8 = some (.inl (cy 0, 42, .inl (fA 7 T))) ∧ G9 q21 = some (.inl (cy 0, 40, .inl (fA 5 F))) ∧ G9 q36 = some (.inl (cy 0, 100, .inl (fA 5 Cu)))) ⟨RM.oth h31 hn38, by rw [g_up_ne hd_q1_q36]; exact hx33, by rw [g_up_ne hd_q8_q36]; exact hx34, by rw [g_up_ne hd_q21_q36]; exact hx35, g_up_self ..⟩ (fun G39 hg41 => ?_)
  obtain ⟨h40, hx42, hx43, hx44, hx45⟩ := hg41
  refine g_casti (pc := 39) C q880 (hx45) (by decide +kernel) ?_
  refine g_aastI (pc := 42) (j := 2) C hx42 (hx45) rfl (by decide) (by decide) (by decide +kernel) ?_
  refine g_abs (P := fun G9 => RM cy m am th b nt nf nc nn T F Cu N G9 ∧ G9 q1 = some (.inl (cy 5, 4, .inr (.inr (.inr (.inr (va_up (va_up (va_up (fun _ => none) 0 (some q8)) 1 (some q21)) 2 (some q36))))))) ∧ G9 q8 = some (.inl (cy 0, 42, .inl (fA 7 T))) ∧ G9 q21 = some (.inl (cy 0, 40, .inl (fA 5 F))) ∧ G9 q36 = some (.inl (cy 0, 100, .inl (fA 5 Cu)))) ⟨RM.oth h40 hn3, g_up_self .., by rw [g_up_ne (Ne.symm hd_q1_q8)]; exact hx43, by rw [g_up_ne (Ne.symm hd_q1_q21)]; exact hx44, by rw [g_up_ne (Ne.symm hd_q1_q36)]; exact hx45⟩ (fun G46 hg48 => ?_)
  obtain ⟨h47, hx49, hx50, hx51, hx52⟩ := hg48
  refine g_seg [(43, .dup, 1), (44, .iconst 3, 1), (45, .aload_n 0, 1)] 46 [(0, .ref m)] [.ref m, .int 3, .ref q1, .ref q1] C (by decide +kernel) rfl ?_
  refine g_getf (pc := 46) (k := 9) (v := .ref (am 4)) C fl_X5_22 (h47.1.1) rfl (by decide +kernel) ?_
  refine g_clonei (pc := 49) C q882 q883 q884 q885 q886 (h47.1.2.2.2.2.2) (Nat.le_of_ble_eq_true rfl) (Nat.le_of_ble_eq_true rfl) (Nat.le_of_ble_eq_true rfl) (Nat.le_of_ble_eq_true rfl) (by decide +kernel) (fun q53 hq54 => ?_)
  have hn55 := RM.ne h47 hq54
  have hd_q1_q53 := g_fresh hq54 hx49
  have hd_q8_q53 := g_fresh hq54 hx50
  have hd_q21_q53 := g_fresh hq54 hx51
  have hd_q36_q53 := g_fresh hq54 hx52
  refine g_abs (P := fun G9 => RM cy m am th b nt nf nc nn T F Cu N G9 ∧ G9 q1 = some (.inl (cy 5, 4, .inr (.inr (.inr (.inr (va_up (va_up (va_up (fun _ => none) 0 (some q8)) 1 (some q21)) 2 (some q36))))))) ∧ G9 q8 = some (.inl (cy 0, 42, .inl (fA 7 T))) ∧ G9 q21 = some (.inl (cy 0, 40, .inl (fA 5 F))) ∧ G9 q36 = some (.inl (cy 0, 100, .inl (fA 5 Cu))) ∧ G9 q53 = some (.inl (cy 0, 1, .inl (fun _ => b)))) ⟨RM.oth h47 hn55, by rw [g_up_ne hd_q1_q53]; exact hx49, by rw [g_up_ne hd_q8_q53]; exact hx50, by rw [g_up_ne hd_q21_q53]; exact hx51, by rw [g_up_ne hd_q36_q53]; exact hx52, g_up_self ..⟩ (fun G56 hg58 => ?_)
  obtain ⟨h57, hx59, hx60, hx61, hx62, hx63⟩ := hg58
  refine g_casti (pc := 52) C q880 (hx63) (by decide +kernel) ?_
  refine g_aastI (pc := 55) (j := 3) C hx59 (hx63) rfl (by decide) (by decide) (by decide +kernel) ?_
  refine g_abs (P := fun G9 => RM cy m am th b nt nf nc nn T F Cu N G9 ∧ G9 q1 = some (.inl (cy 5, 4, .inr (.inr (.inr (.inr (va_up (va_up (va_up (va_up (fun _ => none) 0 (some q8)) 1 (some q21)) 2 (some q36)) 3 (some q53))))))) ∧ G9 q8 = some (.inl (cy 0, 42, .inl (fA 7 T))) ∧ G9 q21 = some (.inl (cy 0, 40, .inl (fA 5 F))) ∧ G9 q36 = some (.inl (cy 0, 100, .inl (fA 5 Cu))) ∧ G9 q53 = some (.inl (cy 0, 1, .inl (fun _ => b)))) ⟨RM.oth h57 hn3, g_up_self .., by rw [g_up_ne (Ne.symm hd_q1_q8)]; exact hx60, by rw [g_up_ne (Ne.symm hd_q1_q21)]; exact hx61, by rw [g_up_ne (Ne.symm hd_q1_q36)]; exact hx62, by rw [g_up_ne (Ne.symm hd_q1_q53)]; exact hx63⟩ (fun G64 hg66 => ?_)
  obtain ⟨h65, hx67, hx68, hx69, hx70, hx71⟩ := hg66
  exact g_aret (pc := 56) C R (Or.inr ⟨_, rfl⟩) (Or.inr ⟨_, rfl⟩) (⟨_, rfl, q1, ak4 q8 q21 q36 q53, rfl, h65, ⟨by rw [← ak4_up]; exact hx67, ⟨hx68, hx69, hx70, hx71⟩, hn3, fun i hi => by rcases (show i = 0 ∨ i = 1 ∨ i = 2 ∨ i = 3 by omega) with rfl | rfl | rfl | rfl; exact hn10; exact hn23; exact hn38; exact hn55⟩⟩) (Nat.le_of_ble_eq_true rfl) (Nat.le_of_ble_eq_true rfl) (by decide +kernel)
set_option maxHeartbeats 4000000 in
set_option maxRecDepth 100000 in
theorem c_X5_bringBack (l : Launch) (D : va_G) (cy : Nat → ClassId) {G : GG} {m : Nat} {am : Nat → Nat} {th b : Int32} {nt nf nc nn : Nat} {T F Cu N : Rw} (h : RM cy m am th b nt nf nc nn T F Cu N G) (q : Nat) (ak : Nat → Nat) (T0 F0 C0 : Rw) (b0 : Int32) (hk : KP cy m am q ak T0 F0 C0 b0 G) : Ctr l D cy yX5_bringBack prog_7_method_46_code 4 none kX5_bringBack [.ref m, .ref q] G (pV (fun G' => RM cy m am th b0 nt nf nc nn T0 F0 C0 N G')) := by
  refine Ctr.mk (by decide +kernel) (Nat.le_of_ble_eq_true rfl) ?_
  intro κ C R
  have hbd := h.2.2
  refine g_pc (pc' := 0) rfl ?_
  refine g_seg [(0, .iconst 4, 1)] 1 [(0, .ref m), (1, .ref q)] [.int 4] C (by decide +kernel) rfl ?_
  refine g_anewA (pc := 1) (N' := 4) C q880 (by decide) (by decide) (Nat.le_of_ble_eq_true rfl) (Nat.le_of_ble_eq_true rfl) (Nat.le_of_ble_eq_true rfl) (by decide +kernel) (fun q1 hq2 => ?_)
  have hn3 := RM.ne h hq2
  have hd_q_q1 := g_fresh hq2 hk.1
  have hd_ak0_q1 := g_fresh hq2 hk.2.1.1
  have hd_ak1_q1 := g_fresh hq2 hk.2.1.2.1
  have hd_ak2_q1 := g_fresh hq2 hk.2.1.2.2.1
  have hd_ak3_q1 := g_fresh hq2 hk.2.1.2.2.2
  refine g_abs (P := fun G9 => RM cy m am th b nt nf nc nn T F Cu N G9 ∧ G9 q = some (.inl (cy 5, 4, .inr (.inr (.inr (.inr (fun i => if i < 4 then some (ak i) else none)))))) ∧ G9 (ak 0) = some (.inl (cy 0, 42, .inl (fA 7 T0))) ∧ G9 (ak 1) = some (.inl (cy 0, 40, .inl (fA 5 F0))) ∧ G9 (ak 2) = some (.inl (cy 0, 100, .inl (fA 5 C0))) ∧ G9 (ak 3) = some (.inl (cy 0, 1, .inl (fun _ => b0))) ∧ G9 q1 = some (.inl (cy 5, 4, .inr (.inr (.inr (.inr (fun _ => none))))))) ⟨RM.oth h hn3, by rw [g_up_ne hd_q_q1]; exact hk.1, by rw [g_up_ne hd_ak0_q1]; exact hk.2.1.1, by rw [g_up_ne hd_ak1_q1]; exact hk.2.1.2.1, by rw [g_up_ne hd_ak2_q1]; exact hk.2.1.2.2.1, by rw [g_up_ne hd_ak3_q1]; exact hk.2.1.2.2.2, g_up_self ..⟩ (fun G4 hg6 => ?_)
  obtain ⟨h5, hx7, hx8, hx9, hx10, hx11, hx12⟩ := hg6
  refine g_seg [(4, .dup, 1), (5, .iconst 0, 1), (6, .aload_n 0, 1)] 7 [(0, .ref m), (1, .ref q)] [.ref m, .int 0, .ref q1, .ref q1] C (by decide +kernel) rfl ?_
  refine g_getf (pc := 7) (k := 5) (v := .ref (am 0)) C fl_X5_9 (h5.1.1) rfl (by decide +kernel) ?_
  refine g_aastI (pc := 10) (j := 0) C hx12 (h5.1.2.1) rfl (by decide) (by decide) (by decide +kernel) ?_
  refine g_abs (P := fun G9 => RM cy m am th b nt nf nc nn T F Cu N G9 ∧ G9 q = some (.inl (cy 5, 4, .inr (.inr (.inr (.inr (fun i => if i < 4 then some (ak i) else none)))))) ∧ G9 (ak 0) = some (.inl (cy 0, 42, .inl (fA 7 T0))) ∧ G9 (ak 1) = some (.inl (cy 0, 40, .inl (fA 5 F0))) ∧ G9 (ak 2) = some (.inl (cy 0, 100, .inl (fA 5 C0))) ∧ G9 (ak 3) = some (.inl (cy 0, 1, .inl (fun _ => b0))) ∧ G9 q1 = some (.inl (cy 5, 4, .inr (.inr (.inr (.inr (va_up (fun _ => none) 0 (some (am 0))))))))) ⟨RM.oth h5 hn3, by rw [g_up_ne hd_q_q1]; exact hx7, by rw [g_up_ne hd_ak0_q1]; exact hx8, by rw [g_up_ne hd_ak1_q1]; exact hx9, by rw [g_up_ne hd_ak2_q1]; exact hx10, by rw [g_up_ne hd_ak3_q1]; exact hx11, g_up_self ..⟩ (fun G13 hg15 => ?_)
  obtain ⟨h14, hx16, hx17, hx18, hx19, hx20, hx21⟩ := hg15
  refine g_seg [(11, .dup, 1), (12, .iconst 1, 1), (13, .aload_n 0, 1)] 14 [(0, .ref m), (1, .ref q)] [.ref m, .int 1, .ref q1, .ref q1] C (by decide +kernel) rfl ?_
  refine g_getf (pc := 14) (k := 6) (v := .ref (am 1)) C fl_X5_13 (h14.1.1) rfl (by decide +kernel) ?_
  refine g_aastI (pc := 17) (j := 1) C hx21 (h14.1.2.2.1) rfl (by decide) (by decide) (by decide +kernel) ?_
  refine g_abs (P := fun G9 => RM cy m am th b nt nf nc nn T F Cu N G9 ∧ G9 q = some (.inl (cy 5, 4, .inr (.inr (.inr (.inr (fun i => if i < 4 then some (ak i) else none)))))) ∧ G9 (ak 0) = some (.inl (cy 0, 42, .inl (fA 7 T0))) ∧ G9 (ak 1) = some (.inl (cy 0, 40, .inl (fA 5 F0))) ∧ G9 (ak 2) = some (.inl (cy 0, 100, .inl (fA 5 C0))) ∧ G9 (ak 3) = some (.inl (cy 0, 1, .inl (fun _ => b0))) ∧ G9 q1 = some (.inl (cy 5, 4, .inr (.inr (.inr (.inr (va_up (va_up (fun _ => none) 0 (some (am 0))) 1 (some (am 1))))))))) ⟨RM.oth h14 hn3, by rw [g_up_ne hd_q_q1]; exact hx16, by rw [g_up_ne hd_ak0_q1]; exact hx17, by rw [g_up_ne hd_ak1_q1]; exact hx18, by rw [g_up_ne hd_ak2_q1]; exact hx19, by rw [g_up_ne hd_ak3_q1]; exact hx20, g_up_self ..⟩ (fun G22 hg24 => ?_)
  obtain ⟨h23, hx25, hx26, hx27, hx28, hx29, hx30⟩ := hg24
  refine g_seg [(18, .dup, 1), (19, .iconst 2, 1), (20, .aload_n 0, 1)] 21 [(0, .ref m), (1, .ref q)] [.ref m, .int 2, .ref q1, .ref q1] C (by decide +kernel) rfl ?_
  refine g_getf (pc := 21) (k := 7) (v := .ref (am 2)) C fl_X5_16 (h23.1.1) rfl (by decide +kernel) ?_
  refine g_aastI (pc := 24) (j := 2) C hx30 (h23.1.2.2.2.1) rfl (by decide) (by decide) (by decide +kernel) ?_
  refine g_abs (P := fun G9 => RM cy m am th b nt nf nc nn T F Cu N G9 ∧ G9 q = some (.inl (cy 5, 4, .inr (.inr (.inr (.inr (fun i => if i < 4 then some (ak i) else none)))))) ∧ G9 (ak 0) = some (.inl (cy 0, 42, .inl (fA 7 T0))) ∧ G9 (ak 1) = some (.inl (cy 0, 40, .inl (fA 5 F0))) ∧ G9 (ak 2) = some (.inl (cy 0, 100, .inl (fA 5 C0))) ∧ G9 (ak 3) = some (.inl (cy 0, 1, .inl (fun _ => b0))) ∧ G9 q1 = some (.inl (cy 5, 4, .inr (.inr (.inr (.inr (va_up (va_up (va_up (fun _ => none) 0 (some (am 0))) 1 (some (am 1))) 2 (some (am 2))))))))) ⟨RM.oth h23 hn3, by rw [g_up_ne hd_q_q1]; exact hx25, by rw [g_up_ne hd_ak0_q1]; exact hx26, by rw [g_up_ne hd_ak1_q1]; exact hx27, by rw [g_up_ne hd_ak2_q1]; exact hx28, by rw [g_up_ne hd_ak3_q1]; exact hx29, g_up_self ..⟩ (fun G31 hg33 => ?_)
  obtain ⟨h32, hx34, hx35, hx36, hx37, hx38, hx39⟩ := hg33
  refine g_seg [(25, .dup, 1), (26, .iconst 3, 1), (27, .aload_n 0, 1)] 28 [(0, .ref m), (1, .ref q)] [.ref m, .int 3, .ref q1, .ref q1] C (by decide +kernel) rfl ?_
  refine g_getf (pc := 28) (k := 9) (v := .ref (am 4)) C fl_X5_22 (h32.1.1) rfl (by decide +kernel) ?_
  refine g_aastI (pc := 31) (j := 3) C hx39 (h32.1.2.2.2.2.2) rfl (by decide) (by decide) (by decide +kernel) ?_
  refine g_abs (P := fun G9 => RM cy m am th b nt nf nc nn T F Cu N G9 ∧ G9 q = some (.inl (cy 5, 4, .inr (.inr (.inr (.inr (fun i => if i < 4 then some (ak i) else none)))))) ∧ G9 (ak 0) = some (.inl (cy 0, 42, .inl (fA 7 T0))) ∧ G9 (ak 1) = some (.inl (cy 0, 40, .inl (fA 5 F0))) ∧ G9 (ak 2) = some (.inl (cy 0, 100, .inl (fA 5 C0))) ∧ G9 (ak 3) = some (.inl (cy 0, 1, .inl (fun _ => b0))) ∧ G9 q1 = some (.inl (cy 5, 4, .inr (.inr (.inr (.inr (va_up (va_up (va_up (va_up (fun _ => none) 0 (some (am 0))) 1 (some (am 1))) 2 (some (am 2))) 3 (some (am 4))))))))) ⟨RM.oth h32 hn3, by rw [g_up_ne hd_q_q1]; exact hx34, by rw [g_up_ne hd_ak0_q1]; exact hx35, by rw [g_up_ne hd_ak1_q1]; exact hx36, by rw [g_up_ne hd_ak2_q1]; exact hx37, by rw [g_up_ne hd_ak3_q1]; exact hx38, g_up_self ..⟩ (fun G40 hg42 => ?_)
  obtain ⟨h41, hx43, hx44, hx45, hx46, hx47, hx48⟩ := hg42
  refine g_seg [(32, .astore_n 2, 1), (33, .iconst 0, 1), (34, .istore_n 3, 1)] 35 [(3, .int 0), (2, .ref q1), (0, .ref m), (1, .ref q)] [] C (by decide +kernel) rfl ?_
  refine g_subp [2, 3, 1, 0] (lv' := [(0, .ref m), (1, .ref q), (2, .ref q1), (3, .int 0)]) rfl ?_
  refine g_seg [(35, .iload_n 3, 1), (36, .aload_n 2, 1)] 37 [(0, .ref m), (1, .ref q), (2, .ref q1), (3, .int 0)] [.ref q1, .int 0] C (by decide +kernel) rfl ?_
  refine g_alen (pc := 37) (t0 := 5) C hx48 rfl (vp_cell_q ..) (by decide +kernel) ?_
  refine g_icmp_ge (pc := 38) (off := 24) 62 C (by decide +kernel) (by decide) (fun c9 => absurd c9 (by decide)) (fun _ => ?_)
  refine g_seg [(41, .aload_n 1, 1), (42, .iload_n 3, 1)] 43 [(0, .ref m), (1, .ref q), (2, .ref q1), (3, .int 0)] [.int 0, .ref q] C (by decide +kernel) rfl ?_
  refine g_aaldI (pc := 43) (j := 0) (v := (ak 0)) C hx43 rfl (by decide) (by decide) rfl (by decide +kernel) ?_
  refine g_seg [(44, .iconst 0, 1), (45, .aload_n 2, 1), (46, .iload_n 3, 1)] 47 [(0, .ref m), (1, .ref q), (2, .ref q1), (3, .int 0)] [.int 0, .ref q1, .int 0, .ref (ak 0)] C (by decide +kernel) rfl ?_
  refine g_aaldI (pc := 47) (j := 0) (v := (am 0)) C hx48 rfl (by decide) (by decide) rfl (by decide +kernel) ?_
  refine g_seg [(48, .iconst 0, 1), (49, .aload_n 2, 1), (50, .iload_n 3, 1)] 51 [(0, .ref m), (1, .ref q), (2, .ref q1), (3, .int 0)] [.int 0, .ref q1, .int 0, .ref (am 0), .int 0, .ref (ak 0)] C (by decide +kernel) rfl ?_
  refine g_aaldI (pc := 51) (j := 0) (v := (am 0)) C hx48 rfl (by decide) (by decide) rfl (by decide +kernel) ?_
  refine g_alen (pc := 52) (n := 42) (t0 := 0) (F := fun j => .int ((fA 7 T) j)) C (h41.1.2.1) rfl rfl (by decide +kernel) ?_
  refine g_copyi (pc := 53) (p := 0) (d := 0) (n := 42) C q712 q714 q713 q56 (hx44) (h41.1.2.1) (rfl) (rfl) (rfl) (by omega) (by omega) (by decide) (by decide) (Nat.le_of_ble_eq_true rfl) (Nat.le_of_ble_eq_true rfl) (by decide +kernel) ?_
  refine g_arx (f' := (fA 7 T0)) cpy_all ?_
  refine g_abs (P := fun G9 => RM cy m am th b nt nf nc nn T0 F Cu N G9 ∧ G9 q = some (.inl (cy 5, 4, .inr (.inr (.inr (.inr (fun i => if i < 4 then some (ak i) else none)))))) ∧ G9 (ak 0) = some (.inl (cy 0, 42, .inl (fA 7 T0))) ∧ G9 (ak 1) = some (.inl (cy 0, 40, .inl (fA 5 F0))) ∧ G9 (ak 2) = some (.inl (cy 0, 100, .inl (fA 5 C0))) ∧ G9 (ak 3) = some (.inl (cy 0, 1, .inl (fun _ => b0))) ∧ G9 q1 = some (.inl (cy 5, 4, .inr (.inr (.inr (.inr (va_up (va_up (va_up (va_up (fun _ => none) 0 (some (am 0))) 1 (some (am 1))) 2 (some (am 2))) 3 (some (am 4))))))))) ⟨RM.a0 h41, by rw [g_up_ne (Ne.symm (hk.2.2.1.2 0 (by decide)))]; exact hx43, by rw [g_up_ne (Ne.symm ((hk.2.2.2 0 (by decide)).2 0 (by decide)))]; exact hx44, by rw [g_up_ne (Ne.symm ((hk.2.2.2 1 (by decide)).2 0 (by decide)))]; exact hx45, by rw [g_up_ne (Ne.symm ((hk.2.2.2 2 (by decide)).2 0 (by decide)))]; exact hx46, by rw [g_up_ne (Ne.symm ((hk.2.2.2 3 (by decide)).2 0 (by decide)))]; exact hx47, by rw [g_up_ne (Ne.symm (hn3.2 0 (by decide)))]; exact hx48⟩ (fun G49 hg51 => ?_)
  obtain ⟨h50, hx52, hx53, hx54, hx55, hx56, hx57⟩ := hg51
  refine g_seg [(56, .iinc 3 1, 3), (59, .goto (-24), 3)] 35 [(3, .int (0 + 1)), (0, .ref m), (1, .ref q), (2, .ref q1)] [] C (by decide +kernel) rfl ?_
  refine g_subp [1, 2, 3, 0] (lv' := [(0, .ref m), (1, .ref q), (2, .ref q1), (3, .int 1)]) rfl ?_
  refine g_seg [(35, .iload_n 3, 1), (36, .aload_n 2, 1)] 37 [(0, .ref m), (1, .ref q), (2, .ref q1), (3, .int 1)] [.ref q1, .int 1] C (by decide +kernel) rfl ?_
  refine g_alen (pc := 37) (t0 := 5) C hx57 rfl (vp_cell_q ..) (by decide +kernel) ?_
  refine g_icmp_ge (pc := 38) (off := 24) 62 C (by decide +kernel) (by decide) (fun c9 => absurd c9 (by decide)) (fun _ => ?_)
  refine g_seg [(41, .aload_n 1, 1), (42, .iload_n 3, 1)] 43 [(0, .ref m), (1, .ref q), (2, .ref q1), (3, .int 1)] [.int 1, .ref q] C (by decide +kernel) rfl ?_
  refine g_aaldI (pc := 43) (j := 1) (v := (ak 1)) C hx52 rfl (by decide) (by decide) rfl (by decide +kernel) ?_
  refine g_seg [(44, .iconst 0, 1), (45, .aload_n 2, 1), (46, .iload_n 3, 1)] 47 [(0, .ref m), (1, .ref q), (2, .ref q1), (3, .int 1)] [.int 1, .ref q1, .int 0, .ref (ak 1)] C (by decide +kernel) rfl ?_
  refine g_aaldI (pc := 47) (j := 1) (v := (am 1)) C hx57 rfl (by decide) (by decide) rfl (by decide +kernel) ?_
  refine g_seg [(48, .iconst 0, 1), (49, .aload_n 2, 1), (50, .iload_n 3, 1)] 51 [(0, .ref m), (1, .ref q), (2, .ref q1), (3, .int 1)] [.int 1, .ref q1, .int 0, .ref (am 1), .int 0, .ref (ak 1)] C (by decide +kernel) rfl ?_
  refine g_aaldI (pc := 51) (j := 1) (v := (am 1)) C hx57 rfl (by decide) (by decide) rfl (by decide +kernel) ?_
  refine g_alen (pc := 52) (n := 40) (t0 := 0) (F := fun j => .int ((fA 5 F) j)) C (h50.1.2.2.1) rfl rfl (by decide +kernel) ?_
  refine g_copyi (pc := 53) (p := 0) (d := 0) (n := 40) C q712 q714 q713 q56 (hx54) (h50.1.2.2.1) (rfl) (rfl) (rfl) (by omega) (by omega) (by decide) (by decide) (Nat.le_of_ble_eq_true rfl) (Nat.le_of_ble_eq_true rfl) (by decide +kernel) ?_
  refine g_arx (f' := (fA 5 F0)) cpy_all ?_
  refine g_abs (P := fun G9 => RM cy m am th b nt nf nc nn T0 F0 Cu N G9 ∧ G9 q = some (.inl (cy 5, 4, .inr (.inr (.inr (.inr (fun i => if i < 4 then some (ak i) else none)))))) ∧ G9 (ak 0) = some (.inl (cy 0, 42, .inl (fA 7 T0))) ∧ G9 (ak 1) = some (.inl (cy 0, 40, .inl (fA 5 F0))) ∧ G9 (ak 2) = some (.inl (cy 0, 100, .inl (fA 5 C0))) ∧ G9 (ak 3) = some (.inl (cy 0, 1, .inl (fun _ => b0))) ∧ G9 q1 = some (.inl (cy 5, 4, .inr (.inr (.inr (.inr (va_up (va_up (va_up (va_up (fun _ => none) 0 (some (am 0))) 1 (some (am 1))) 2 (some (am 2))) 3 (some (am 4))))))))) ⟨RM.a1 h50, by rw [g_up_ne (Ne.symm (hk.2.2.1.2 1 (by decide)))]; exact hx52, by rw [g_up_ne (Ne.symm ((hk.2.2.2 0 (by decide)).2 1 (by decide)))]; exact hx53, by rw [g_up_ne (Ne.symm ((hk.2.2.2 1 (by decide)).2 1 (by decide)))]; exact hx54, by rw [g_up_ne (Ne.symm ((hk.2.2.2 2 (by decide)).2 1 (by decide)))]; exact hx55, by rw [g_up_ne (Ne.symm ((hk.2.2.2 3 (by decide)).2 1 (by decide)))]; exact hx56, by rw [g_up_ne (Ne.symm (hn3.2 1 (by decide)))]; exact hx57⟩ (fun G58 hg60 => ?_)
  obtain ⟨h59, hx61, hx62, hx63, hx64, hx65, hx66⟩ := hg60
  refine g_seg [(56, .iinc 3 1, 3), (59, .goto (-24), 3)] 35 [(3, .int (1 + 1)), (0, .ref m), (1, .ref q), (2, .ref q1)] [] C (by decide +kernel) rfl ?_
  refine g_subp [1, 2, 3, 0] (lv' := [(0, .ref m), (1, .ref q), (2, .ref q1), (3, .int 2)]) rfl ?_
  refine g_seg [(35, .iload_n 3, 1), (36, .aload_n 2, 1)] 37 [(0, .ref m), (1, .ref q), (2, .ref q1), (3, .int 2)] [.ref q1, .int 2] C (by decide +kernel) rfl ?_
  refine g_alen (pc := 37) (t0 := 5) C hx66 rfl (vp_cell_q ..) (by decide +kernel) ?_
  refine g_icmp_ge (pc := 38) (off := 24) 62 C (by decide +kernel) (by decide) (fun c9 => absurd c9 (by decide)) (fun _ => ?_)
  refine g_seg [(41, .aload_n 1, 1), (42, .iload_n 3, 1)] 43 [(0, .ref m), (1, .ref q), (2, .ref q1), (3, .int 2)] [.int 2, .ref q] C (by decide +kernel) rfl ?_
  refine g_aaldI (pc := 43) (j := 2) (v := (ak 2)) C hx61 rfl (by decide) (by decide) rfl (by decide +kernel) ?_
  refine g_seg [(44, .iconst 0, 1), (45, .aload_n 2, 1), (46, .iload_n 3, 1)] 47 [(0, .ref m), (1, .ref q), (2, .ref q1), (3, .int 2)] [.int 2, .ref q1, .int 0, .ref (ak 2)] C (by decide +kernel) rfl ?_
  refine g_aaldI (pc := 47) (j := 2) (v := (am 2)) C hx66 rfl (by decide) (by decide) rfl (by decide +kernel) ?_
  refine g_seg [(48, .iconst 0, 1), (49, .aload_n 2, 1), (50, .iload_n 3, 1)] 51 [(0, .ref m), (1, .ref q), (2, .ref q1), (3, .int 2)] [.int 2, .ref q1, .int 0, .ref (am 2), .int 0, .ref (ak 2)] C (by decide +kernel) rfl ?_
  refine g_aaldI (pc := 51) (j := 2) (v := (am 2)) C hx66 rfl (by decide) (by decide) rfl (by decide +kernel) ?_
  refine g_alen (pc := 52) (n := 100) (t0 := 0) (F := fun j => .int ((fA 5 Cu) j)) C (h59.1.2.2.2.1) rfl rfl (by decide +kernel) ?_
  refine g_copyi (pc := 53) (p := 0) (d := 0) (n := 100) C q712 q714 q713 q56 (hx64) (h59.1.2.2.2.1) (rfl) (rfl) (rfl) (by omega) (by omega) (by decide) (by decide) (Nat.le_of_ble_eq_true rfl) (Nat.le_of_ble_eq_true rfl) (by decide +kernel) ?_
  refine g_arx (f' := (fA 5 C0)) cpy_all ?_
  refine g_abs (P := fun G9 => RM cy m am th b nt nf nc nn T0 F0 C0 N G9 ∧ G9 q = some (.inl (cy 5, 4, .inr (.inr (.inr (.inr (fun i => if i < 4 then some (ak i) else none)))))) ∧ G9 (ak 0) = some (.inl (cy 0, 42, .inl (fA 7 T0))) ∧ G9 (ak 1) = some (.inl (cy 0, 40, .inl (fA 5 F0))) ∧ G9 (ak 2) = some (.inl (cy 0, 100, .inl (fA 5 C0))) ∧ G9 (ak 3) = some (.inl (cy 0, 1, .inl (fun _ => b0))) ∧ G9 q1 = some (.inl (cy 5, 4, .inr (.inr (.inr (.inr (va_up (va_up (va_up (va_up (fun _ => none) 0 (some (am 0))) 1 (some (am 1))) 2 (some (am 2))) 3 (some (am 4))))))))) ⟨RM.a2 h59, by rw [g_up_ne (Ne.symm (hk.2.2.1.2 2 (by decide)))]; exact hx61, by rw [g_up_ne (Ne.symm ((hk.2.2.2 0 (by decide)).2 2 (by decide)))]; exact hx62, by rw [g_up_ne (Ne.symm ((hk.2.2.2 1 (by decide)).2 2 (by decide)))]; exact hx63, by rw [g_up_ne (Ne.symm ((hk.2.2.2 2 (by decide)).2 2 (by decide)))]; exact hx64, by rw [g_up_ne (Ne.symm ((hk.2.2.2 3 (by decide)).2 2 (by decide)))]; exact hx65, by rw [g_up_ne (Ne.symm (hn3.2 2 (by decide)))]; exact hx66⟩ (fun G67 hg69 => ?_)
  obtain ⟨h68, hx70, hx71, hx72, hx73, hx74, hx75⟩ := hg69
  refine g_seg [(56, .iinc 3 1, 3), (59, .goto (-24), 3)] 35 [(3, .int (2 + 1)), (0, .ref m), (1, .ref q), (2, .ref q1)] [] C (by decide +kernel) rfl ?_
  refine g_subp [1, 2, 3, 0] (lv' := [(0, .ref m), (1, .ref q), (2, .ref q1), (3, .int 3)]) rfl ?_
  refine g_seg [(35, .iload_n 3, 1), (36, .aload_n 2, 1)] 37 [(0, .ref m), (1, .ref q), (2, .ref q1), (3, .int 3)] [.ref q1, .int 3] C (by decide +kernel) rfl ?_
  refine g_alen (pc := 37) (t0 := 5) C hx75 rfl (vp_cell_q ..) (by decide +kernel) ?_
  refine g_icmp_ge (pc := 38) (off := 24) 62 C (by decide +kernel) (by decide) (fun c9 => absurd c9 (by decide)) (fun _ => ?_)
  refine g_seg [(41, .aload_n 1, 1), (42, .iload_n 3, 1)] 43 [(0, .ref m), (1, .ref q), (2, .ref q1), (3, .int 3)] [.int 3, .ref q] C (by decide +kernel) rfl ?_
  refine g_aaldI (pc := 43) (j := 3) (v := (ak 3)) C hx70 rfl (by decide) (by decide) rfl (by decide +kernel) ?_
  refine g_seg [(44, .iconst 0, 1), (45, .aload_n 2, 1), (46, .iload_n 3, 1)] 47 [(0, .ref m), (1, .ref q), (2, .ref q1), (3, .int 3)] [.int 3, .ref q1, .int 0, .ref (ak 3)] C (by decide +kernel) rfl ?_
  refine g_aaldI (pc := 47) (j := 3) (v := (am 4)) C hx75 rfl (by decide) (by decide) rfl (by decide +kernel) ?_
  refine g_seg [(48, .iconst 0, 1), (49, .aload_n 2, 1), (50, .iload_n 3, 1)] 51 [(0, .ref m), (1, .ref q), (2, .ref q1), (3, .int 3)] [.int 3, .ref q1, .int 0, .ref (am 4), .int 0, .ref (ak 3)] C (by decide +kernel) rfl ?_
  refine g_aaldI (pc := 51) (j := 3) (v := (am 4)) C hx75 rfl (by decide) (by decide) rfl (by decide +kernel) ?_
  refine g_alen (pc := 52) (n := 1) (t0 := 0) (F := fun j => .int (((fun _ => b)) j)) C (h68.1.2.2.2.2.2) rfl rfl (by decide +kernel) ?_
  refine g_copyi (pc := 53) (p := 0) (d := 0) (n := 1) C q712 q714 q713 q56 (hx74) (h68.1.2.2.2.2.2) (rfl) (rfl) (rfl) (by omega) (by omega) (by decide) (by decide) (Nat.le_of_ble_eq_true rfl) (Nat.le_of_ble_eq_true rfl) (by decide +kernel) ?_
  refine g_arx (f' := (fun _ => b0)) cpy_all ?_
  refine g_abs (P := fun G9 => RM cy m am th b0 nt nf nc nn T0 F0 C0 N G9 ∧ G9 q = some (.inl (cy 5, 4, .inr (.inr (.inr (.inr (fun i => if i < 4 then some (ak i) else none)))))) ∧ G9 (ak 0) = some (.inl (cy 0, 42, .inl (fA 7 T0))) ∧ G9 (ak 1) = some (.inl (cy 0, 40, .inl (fA 5 F0))) ∧ G9 (ak 2) = some (.inl (cy 0, 100, .inl (fA 5 C0))) ∧ G9 (ak 3) = some (.inl (cy 0, 1, .inl (fun _ => b0))) ∧ G9 q1 = some (.inl (cy 5, 4, .inr (.inr (.inr (.inr (va_up (va_up (va_up (va_up (fun _ => none) 0 (some (am 0))) 1 (some (am 1))) 2 (some (am 2))) 3 (some (am 4))))))))) ⟨RM.a4 h68, by rw [g_up_ne (Ne.symm (hk.2.2.1.2 4 (by decide)))]; exact hx70, by rw [g_up_ne (Ne.symm ((hk.2.2.2 0 (by decide)).2 4 (by decide)))]; exact hx71, by rw [g_up_ne (Ne.symm ((hk.2.2.2 1 (by decide)).2 4 (by decide)))]; exact hx72, by rw [g_up_ne (Ne.symm ((hk.2.2.2 2 (by decide)).2 4 (by decide)))]; exact hx73, by rw [g_up_ne (Ne.symm ((hk.2.2.2 3 (by decide)).2 4 (by decide)))]; exact hx74, by rw [g_up_ne (Ne.symm (hn3.2 4 (by decide)))]; exact hx75⟩ (fun G76 hg78 => ?_)
  obtain ⟨h77, hx79, hx80, hx81, hx82, hx83, hx84⟩ := hg78
  refine g_seg [(56, .iinc 3 1, 3), (59, .goto (-24), 3)] 35 [(3, .int (3 + 1)), (0, .ref m), (1, .ref q), (2, .ref q1)] [] C (by decide +kernel) rfl ?_
  refine g_subp [1, 2, 3, 0] (lv' := [(0, .ref m), (1, .ref q), (2, .ref q1), (3, .int 4)]) rfl ?_
  refine g_seg [(35, .iload_n 3, 1), (36, .aload_n 2, 1)] 37 [(0, .ref m), (1, .ref q), (2, .ref q1), (3, .int 4)] [.ref q1, .int 4] C (by decide +kernel) rfl ?_
  refine g_alen (pc := 37) (t0 := 5) C hx84 rfl (vp_cell_q ..) (by decide +kernel) ?_
  refine g_icmp_ge (pc := 38) (off := 24) 62 C (by decide +kernel) (by decide) (fun _ => ?_) (fun c9 => absurd (by decide) c9)
  exact g_vret (pc := 62) C R (⟨rfl, h77⟩) (Nat.le_of_ble_eq_true rfl) (Nat.le_of_ble_eq_true rfl) (by decide +kernel)
set_option maxHeartbeats 4000000 in
set_option maxRecDepth 100000 in
theorem c_X5_foresee (l : Launch) (D : va_G) (cy : Nat → ClassId) {G : GG} {m : Nat} {am : Nat → Nat} {th b : Int32} {nt nf nc nn : Nat} {T F Cu N : Rw} (h : RM cy m am th b nt nf nc nn T F Cu N G) (hwS : m_wS nt nf nc (b, T, F, Cu)) (n w : Int32) : Ctr l D cy yX5_foresee prog_7_method_47_code 5 (some .int) kX5_foresee [.ref m, .int n, .int w] G (pI (fun v G' => (∃ k, (1 ≤ n ∧ n ≤ 200) ∧ (4 ≤ w ∧ w ≤ 8) ∧ k ≤ 200 ∧ n = nI k ∧ v = m_count (m_beats N nn nt nf nc (b, T, F, Cu) k).1 nt nf nc (m_beats N nn nt nf nc (b, T, F, Cu) k).2.1 (m_beats N nn nt nf nc (b, T, F, Cu) k).2.2.1 (m_beats N nn nt nf nc (b, T, F, Cu) k).2.2.2 w ∧ RM cy m am 0 b nt nf nc nn T F Cu N G') ∨ (¬ (1 ≤ n ∧ n ≤ 200) ∧ RM cy m am 1 b nt nf nc nn T F Cu N G') ∨ (((1 ≤ n ∧ n ≤ 200) ∧ ¬ (4 ≤ w ∧ w ≤ 8)) ∧ RM cy m am 2 b nt nf nc nn T F Cu N G'))) := by
  refine Ctr.mk (by decide +kernel) (Nat.le_of_ble_eq_true rfl) ?_
  intro κ C R
  have hbd := h.2.2
  refine g_pc (pc' := 0) rfl ?_
  refine g_seg [(0, .aload_n 0, 1), (1, .iconst 0, 1)] 2 [(0, .ref m), (1, .int n), (2, .int w)] [.int 0, .ref m] C (by decide +kernel) rfl ?_
  refine g_putf (pc := 2) (k := 0) (v := .int 0) (ty := .int) C fl_X5_25 fp_X5_0 (h.1.1) (rfl) (by first | rfl | decide) (Nat.le_of_ble_eq_true rfl) (by decide +kernel) ?_
  refine g_abs (P := fun G9 => RM cy m am 0 b nt nf nc nn T F Cu N G9) (RM.obj h h.2.2) (fun G1 h2 => ?_)
  refine g_seg [(5, .iload_n 1, 1), (6, .iconst 1, 1), (7, .sipush 200, 3)] 10 [(0, .ref m), (1, .int n), (2, .int w)] [.int 200, .int 1, .int n] C (by decide +kernel) rfl ?_
  refine g_callS (pc := 10) C mS_X5_isIn q705 (c_X5_isIn l D cy G1 n 1 200) rfl ⟨⟨Nat.le_of_ble_eq_true rfl, Nat.le_of_ble_eq_true rfl⟩, Nat.le_of_ble_eq_true rfl, Nat.le_of_ble_eq_true rfl⟩ rfl (Nat.le_of_ble_eq_true rfl) (by decide +kernel) ?_
  refine g_kI (fun v5 G4 hp3 => ?_)
  obtain ⟨rfl, hp3⟩ := hp3
  rcases hp3 with ⟨rfl, h6⟩ | ⟨rfl, h6⟩
  · refine g_if_ne (pc := 13) (off := 9) 22 C (by decide +kernel) (by decide) (fun _ => ?_) (fun c9 => absurd c9 (by decide))
    refine g_seg [(22, .iload_n 2, 1), (23, .iconst 4, 1), (24, .bipush 8, 2)] 26 [(0, .ref m), (1, .int n), (2, .int w)] [.int 8, .int 4, .int w] C (by decide +kernel) rfl ?_
    refine g_callS (pc := 26) C mS_X5_isIn q705 (c_X5_isIn l D cy G4 w 4 8) rfl ⟨⟨Nat.le_of_ble_eq_true rfl, Nat.le_of_ble_eq_true rfl⟩, Nat.le_of_ble_eq_true rfl, Nat.le_of_ble_eq_true rfl⟩ rfl (Nat.le_of_ble_eq_true rfl) (by decide +kernel) ?_
    refine g_kI (fun v9 G8 hp7 => ?_)
    obtain ⟨rfl, hp7⟩ := hp7
    rcases hp7 with ⟨rfl, h10⟩ | ⟨rfl, h10⟩
    · refine g_if_ne (pc := 29) (off := 9) 38 C (by decide +kernel) (by decide) (fun _ => ?_) (fun c9 => absurd c9 (by decide))
      refine g_seg [(38, .aload_n 0, 1)] 39 [(0, .ref m), (1, .int n), (2, .int w)] [.ref m] C (by decide +kernel) rfl ?_
      refine g_callV (pc := 39) C mV_X5_kept q876 (h2.1.1) rfl rfl (c_X5_kept l D cy h2) rfl ⟨⟨Nat.le_of_ble_eq_true rfl, Nat.le_of_ble_eq_true rfl⟩, Nat.le_of_ble_eq_true rfl, Nat.le_of_ble_eq_true rfl⟩ rfl (Nat.le_of_ble_eq_true rfl) (by decide +kernel) ?_
      refine g_kA (fun v7 G7 hp7 => ?_)
      obtain ⟨q7, ak, rfl, h7, hK7⟩ := hp7
      refine g_seg [(42, .astore_n 3, 1), (43, .aload_n 0, 1), (44, .iload_n 1, 1)] 45 [(3, .ref q7), (0, .ref m), (1, .int n), (2, .int w)] [.int n, .ref m] C (by decide +kernel) rfl ?_
      obtain ⟨kb, hkb, hnb⟩ := in_200 h6
      refine g_callV (pc := 45) C mV_X5_beatsOn q830 (h7.1.1) rfl rfl (Ctr.frame (c_X5_beatsOn l D cy (RM_rs h7) hwS kb (by omega) n hnb) rs_sub) rfl ⟨⟨Nat.le_of_ble_eq_true rfl, Nat.le_of_ble_eq_true rfl⟩, Nat.le_of_ble_eq_true rfl, Nat.le_of_ble_eq_true rfl⟩ rfl (Nat.le_of_ble_eq_true rfl) (by decide +kernel) ?_
      refine g_kVj (fun G8 G9 h8 f8 => ?_)
      have h9 := RM.up h8 f8.1
      have hK9 := KP_fr hK7 f8
      refine g_seg [(48, .aload_n 0, 1), (49, .iload_n 2, 1)] 50 [(3, .ref q7), (0, .ref m), (1, .int n), (2, .int w)] [.int w, .ref m] C (by decide +kernel) rfl ?_
      refine g_callV (pc := 50) C mV_X5_counted q802 (h9.1.1) rfl rfl (c_X5_counted l D cy h9 w) rfl ⟨⟨Nat.le_of_ble_eq_true rfl, Nat.le_of_ble_eq_true rfl⟩, Nat.le_of_ble_eq_true rfl, Nat.le_of_ble_eq_true rfl⟩ rfl (Nat.le_of_ble_eq_true rfl) (by decide +kernel) ?_
      refine g_kI (fun v13 G12 hp11 => ?_)
      obtain ⟨rfl, rfl⟩ := hp11
      refine g_seg [(53, .istore 4, 2), (55, .aload_n 0, 1), (56, .aload_n 3, 1)] 57 [(4, .int (m_count ((m_beats N nn nt nf nc (b, T, F, Cu) kb).1) nt nf nc ((m_beats N nn nt nf nc (b, T, F, Cu) kb).2.1) ((m_beats N nn nt nf nc (b, T, F, Cu) kb).2.2.1) ((m_beats N nn nt nf nc (b, T, F, Cu) kb).2.2.2) w)), (3, .ref q7), (0, .ref m), (1, .int n), (2, .int w)] [.ref q7, .ref m] C (by decide +kernel) rfl ?_
      refine g_callV (pc := 57) C mV_X5_bringBack q888 (h9.1.1) rfl rfl (c_X5_bringBack l D cy h9 q7 ak T F Cu b hK9) rfl ⟨⟨Nat.le_of_ble_eq_true rfl, Nat.le_of_ble_eq_true rfl⟩, Nat.le_of_ble_eq_true rfl, Nat.le_of_ble_eq_true rfl⟩ rfl (Nat.le_of_ble_eq_true rfl) (by decide +kernel) ?_
      refine g_kV (fun G14 h15 => ?_)
      refine g_seg [(60, .iload 4, 2)] 62 [(4, .int (m_count ((m_beats N nn nt nf nc (b, T, F, Cu) kb).1) nt nf nc ((m_beats N nn nt nf nc (b, T, F, Cu) kb).2.1) ((m_beats N nn nt nf nc (b, T, F, Cu) kb).2.2.1) ((m_beats N nn nt nf nc (b, T, F, Cu) kb).2.2.2) w)), (3, .ref q7), (0, .ref m), (1, .int n), (2, .int w)] [.int (m_count ((m_beats N nn nt nf nc (b, T, F, Cu) kb).1) nt nf nc ((m_beats N nn nt nf nc (b, T, F, Cu) kb).2.1) ((m_beats N nn nt nf nc (b, T, F, Cu) kb).2.2.1) ((m_beats N nn nt nf nc (b, T, F, Cu) kb).2.2.2) w)] C (by decide +kernel) rfl ?_
      exact g_iret (pc := 62) C R (⟨_, rfl, Or.inl ⟨kb, h6, h10, hkb, hnb, rfl, h15⟩⟩) (Nat.le_of_ble_eq_true rfl) (Nat.le_of_ble_eq_true rfl) (by decide +kernel)
    · refine g_if_ne (pc := 29) (off := 9) 38 C (by decide +kernel) (by decide) (fun c9 => absurd (by decide) c9) (fun _ => ?_)
      refine g_seg [(32, .aload_n 0, 1), (33, .iconst 2, 1)] 34 [(0, .ref m), (1, .int n), (2, .int w)] [.int 2, .ref m] C (by decide +kernel) rfl ?_
      refine g_callV (pc := 34) C mV_X5_fail q708 (h2.1.1) rfl rfl (c_X5_fail l D cy h2 2) rfl ⟨⟨Nat.le_of_ble_eq_true rfl, Nat.le_of_ble_eq_true rfl⟩, Nat.le_of_ble_eq_true rfl, Nat.le_of_ble_eq_true rfl⟩ rfl (Nat.le_of_ble_eq_true rfl) (by decide +kernel) ?_
      refine g_kI (fun v18 G16 hp17 => ?_)
      obtain ⟨rfl, h19⟩ := hp17
      exact g_iret (pc := 37) C R (⟨_, rfl, Or.inr (Or.inr (⟨⟨h6, h10⟩, h19⟩))⟩) (Nat.le_of_ble_eq_true rfl) (Nat.le_of_ble_eq_true rfl) (by decide +kernel)
  · refine g_if_ne (pc := 13) (off := 9) 22 C (by decide +kernel) (by decide) (fun c9 => absurd (by decide) c9) (fun _ => ?_)
    refine g_seg [(16, .aload_n 0, 1), (17, .iconst 1, 1)] 18 [(0, .ref m), (1, .int n), (2, .int w)] [.int 1, .ref m] C (by decide +kernel) rfl ?_
    refine g_callV (pc := 18) C mV_X5_fail q708 (h2.1.1) rfl rfl (c_X5_fail l D cy h2 1) rfl ⟨⟨Nat.le_of_ble_eq_true rfl, Nat.le_of_ble_eq_true rfl⟩, Nat.le_of_ble_eq_true rfl, Nat.le_of_ble_eq_true rfl⟩ rfl (Nat.le_of_ble_eq_true rfl) (by decide +kernel) ?_
    refine g_kI (fun v22 G20 hp21 => ?_)
    obtain ⟨rfl, h23⟩ := hp21
    exact g_iret (pc := 21) C R (⟨_, rfl, Or.inr (Or.inl ⟨h6, h23⟩)⟩) (Nat.le_of_ble_eq_true rfl) (Nat.le_of_ble_eq_true rfl) (by decide +kernel)
set_option maxHeartbeats 4000000 in
set_option maxRecDepth 100000 in
theorem c_X5_init (l : Launch) (D : va_G) (cy : Nat → ClassId) (G : GG) (m : Nat) (hX0 : G m = some (.inr (5, [.int 0, .int 0, .int 0, .int 0, .int 0, .null, .null, .null, .null, .null]))) : Ctr l D cy yX5_init prog_7_method_1_code 1 none kX5_init [.ref m] G (pV (fun G' => ∃ am, RM cy m am 0 0 0 0 0 0 zR zR zR zR G')) := by
  refine Ctr.mk (by decide +kernel) (Nat.le_of_ble_eq_true rfl) ?_
  intro κ C R
  refine g_pc (pc' := 0) rfl ?_
  refine g_seg [(0, .aload_n 0, 1)] 1 [(0, .ref m)] [.ref m] C (by decide +kernel) rfl ?_
  refine g_obj (pc := 1) C q664 q68 q69 (Nat.le_of_ble_eq_true rfl) (Nat.le_of_ble_eq_true rfl) (by decide +kernel) ?_
  refine g_seg [(4, .aload_n 0, 1), (5, .bipush 42, 2)] 7 [(0, .ref m)] [.int 42, .ref m] C (by decide +kernel) rfl ?_
  refine g_newi (pc := 7) (N' := 42) C q696 (by decide) (by decide) (Nat.le_of_ble_eq_true rfl) (Nat.le_of_ble_eq_true rfl) (Nat.le_of_ble_eq_true rfl) (by decide +kernel) (fun q1 hq2 => ?_)
  refine g_abs (P := fun G9 => G9 m = some (.inr (5, [.int 0, .int 0, .int 0, .int 0, .int 0, .null, .null, .null, .null, .null])) ∧ G9 q1 = some (.inl (cy 0, 42, .inl (fun _ => 0)))) ⟨by rw [g_up_ne (g_fresh hq2 hX0)]; exact hX0, g_up_self ..⟩ (fun Gi3 hg => ?_)
  obtain ⟨hi4, hi5⟩ := hg
  refine g_putF (pc := 9) (k := 5) (v := .ref q1) (ty := (.array .int)) C fl_X5_9 fp_X5_5 rfl (fun q hq => by cases hq; rfl) (hi4) rfl (by first | rfl | decide) (Nat.le_of_ble_eq_true rfl) (by decide +kernel) ?_
  refine g_abs (P := fun G9 => G9 m = some (.inr (5, [.int 0, .int 0, .int 0, .int 0, .int 0, .ref q1, .null, .null, .null, .null])) ∧ G9 q1 = some (.inl (cy 0, 42, .inl (fun _ => 0)))) ⟨g_up_self .., g_oth hi5 hi4 (by simp)⟩ (fun Gi6 hg => ?_)
  obtain ⟨hi7, hi8⟩ := hg
  refine g_seg [(12, .aload_n 0, 1), (13, .bipush 40, 2)] 15 [(0, .ref m)] [.int 40, .ref m] C (by decide +kernel) rfl ?_
  refine g_newi (pc := 15) (N' := 40) C q696 (by decide) (by decide) (Nat.le_of_ble_eq_true rfl) (Nat.le_of_ble_eq_true rfl) (Nat.le_of_ble_eq_true rfl) (by decide +kernel) (fun q9 hq10 => ?_)
  have hd_q1_q9 := g_fresh hq10 hi8
  refine g_abs (P := fun G9 => G9 m = some (.inr (5, [.int 0, .int 0, .int 0, .int 0, .int 0, .ref q1, .null, .null, .null, .null])) ∧ G9 q1 = some (.inl (cy 0, 42, .inl (fun _ => 0))) ∧ G9 q9 = some (.inl (cy 0, 40, .inl (fun _ => 0)))) ⟨by rw [g_up_ne (g_fresh hq10 hi7)]; exact hi7, by rw [g_up_ne hd_q1_q9]; exact hi8, g_up_self ..⟩ (fun Gi11 hg => ?_)
  obtain ⟨hi12, hi13, hi14⟩ := hg
  refine g_putF (pc := 17) (k := 6) (v := .ref q9) (ty := (.array .int)) C fl_X5_13 fp_X5_6 rfl (fun q hq => by cases hq; rfl) (hi12) rfl (by first | rfl | decide) (Nat.le_of_ble_eq_true rfl) (by decide +kernel) ?_
  refine g_abs (P := fun G9 => G9 m = some (.inr (5, [.int 0, .int 0, .int 0, .int 0, .int 0, .ref q1, .ref q9, .null, .null, .null])) ∧ G9 q1 = some (.inl (cy 0, 42, .inl (fun _ => 0))) ∧ G9 q9 = some (.inl (cy 0, 40, .inl (fun _ => 0)))) ⟨g_up_self .., g_oth hi13 hi12 (by simp), g_oth hi14 hi12 (by simp)⟩ (fun Gi15 hg => ?_)
  obtain ⟨hi16, hi17, hi18⟩ := hg
  refine g_seg [(20, .aload_n 0, 1), (21, .bipush 100, 2)] 23 [(0, .ref m)] [.int 100, .ref m] C (by decide +kernel) rfl ?_
  refine g_newi (pc := 23) (N' := 100) C q696 (by decide) (by decide) (Nat.le_of_ble_eq_true rfl) (Nat.le_of_ble_eq_true rfl) (Nat.le_of_ble_eq_true rfl) (by decide +kernel) (fun q19 hq20 => ?_)
  have hd_q1_q19 := g_fresh hq20 hi17
  have hd_q9_q19 := g_fresh hq20 hi18
  refine g_abs (P := fun G9 => G9 m = some (.inr (5, [.int 0, .int 0, .int 0, .int 0, .int 0, .ref q1, .ref q9, .null, .null, .null])) ∧ G9 q1 = some (.inl (cy 0, 42, .inl (fun _ => 0))) ∧ G9 q9 = some (.inl (cy 0, 40, .inl (fun _ => 0))) ∧ G9 q19 = some (.inl (cy 0, 100, .inl (fun _ => 0)))) ⟨by rw [g_up_ne (g_fresh hq20 hi16)]; exact hi16, by rw [g_up_ne hd_q1_q19]; exact hi17, by rw [g_up_ne hd_q9_q19]; exact hi18, g_up_self ..⟩ (fun Gi21 hg => ?_)
  obtain ⟨hi22, hi23, hi24, hi25⟩ := hg
  refine g_putF (pc := 25) (k := 7) (v := .ref q19) (ty := (.array .int)) C fl_X5_16 fp_X5_7 rfl (fun q hq => by cases hq; rfl) (hi22) rfl (by first | rfl | decide) (Nat.le_of_ble_eq_true rfl) (by decide +kernel) ?_
  refine g_abs (P := fun G9 => G9 m = some (.inr (5, [.int 0, .int 0, .int 0, .int 0, .int 0, .ref q1, .ref q9, .ref q19, .null, .null])) ∧ G9 q1 = some (.inl (cy 0, 42, .inl (fun _ => 0))) ∧ G9 q9 = some (.inl (cy 0, 40, .inl (fun _ => 0))) ∧ G9 q19 = some (.inl (cy 0, 100, .inl (fun _ => 0)))) ⟨g_up_self .., g_oth hi23 hi22 (by simp), g_oth hi24 hi22 (by simp), g_oth hi25 hi22 (by simp)⟩ (fun Gi26 hg => ?_)
  obtain ⟨hi27, hi28, hi29, hi30⟩ := hg
  refine g_seg [(28, .aload_n 0, 1), (29, .bipush 6, 2)] 31 [(0, .ref m)] [.int 6, .ref m] C (by decide +kernel) rfl ?_
  refine g_newi (pc := 31) (N' := 6) C q696 (by decide) (by decide) (Nat.le_of_ble_eq_true rfl) (Nat.le_of_ble_eq_true rfl) (Nat.le_of_ble_eq_true rfl) (by decide +kernel) (fun q31 hq32 => ?_)
  have hd_q1_q31 := g_fresh hq32 hi28
  have hd_q9_q31 := g_fresh hq32 hi29
  have hd_q19_q31 := g_fresh hq32 hi30
  refine g_abs (P := fun G9 => G9 m = some (.inr (5, [.int 0, .int 0, .int 0, .int 0, .int 0, .ref q1, .ref q9, .ref q19, .null, .null])) ∧ G9 q1 = some (.inl (cy 0, 42, .inl (fun _ => 0))) ∧ G9 q9 = some (.inl (cy 0, 40, .inl (fun _ => 0))) ∧ G9 q19 = some (.inl (cy 0, 100, .inl (fun _ => 0))) ∧ G9 q31 = some (.inl (cy 0, 6, .inl (fun _ => 0)))) ⟨by rw [g_up_ne (g_fresh hq32 hi27)]; exact hi27, by rw [g_up_ne hd_q1_q31]; exact hi28, by rw [g_up_ne hd_q9_q31]; exact hi29, by rw [g_up_ne hd_q19_q31]; exact hi30, g_up_self ..⟩ (fun Gi33 hg => ?_)
  obtain ⟨hi34, hi35, hi36, hi37, hi38⟩ := hg
  refine g_putF (pc := 33) (k := 8) (v := .ref q31) (ty := (.array .int)) C fl_X5_19 fp_X5_8 rfl (fun q hq => by cases hq; rfl) (hi34) rfl (by first | rfl | decide) (Nat.le_of_ble_eq_true rfl) (by decide +kernel) ?_
  refine g_abs (P := fun G9 => G9 m = some (.inr (5, [.int 0, .int 0, .int 0, .int 0, .int 0, .ref q1, .ref q9, .ref q19, .ref q31, .null])) ∧ G9 q1 = some (.inl (cy 0, 42, .inl (fun _ => 0))) ∧ G9 q9 = some (.inl (cy 0, 40, .inl (fun _ => 0))) ∧ G9 q19 = some (.inl (cy 0, 100, .inl (fun _ => 0))) ∧ G9 q31 = some (.inl (cy 0, 6, .inl (fun _ => 0)))) ⟨g_up_self .., g_oth hi35 hi34 (by simp), g_oth hi36 hi34 (by simp), g_oth hi37 hi34 (by simp), g_oth hi38 hi34 (by simp)⟩ (fun Gi39 hg => ?_)
  obtain ⟨hi40, hi41, hi42, hi43, hi44⟩ := hg
  refine g_seg [(36, .aload_n 0, 1), (37, .iconst 1, 1)] 38 [(0, .ref m)] [.int 1, .ref m] C (by decide +kernel) rfl ?_
  refine g_newi (pc := 38) (N' := 1) C q696 (by decide) (by decide) (Nat.le_of_ble_eq_true rfl) (Nat.le_of_ble_eq_true rfl) (Nat.le_of_ble_eq_true rfl) (by decide +kernel) (fun q45 hq46 => ?_)
  have hd_q1_q45 := g_fresh hq46 hi41
  have hd_q9_q45 := g_fresh hq46 hi42
  have hd_q19_q45 := g_fresh hq46 hi43
  have hd_q31_q45 := g_fresh hq46 hi44
  refine g_abs (P := fun G9 => G9 m = some (.inr (5, [.int 0, .int 0, .int 0, .int 0, .int 0, .ref q1, .ref q9, .ref q19, .ref q31, .null])) ∧ G9 q1 = some (.inl (cy 0, 42, .inl (fun _ => 0))) ∧ G9 q9 = some (.inl (cy 0, 40, .inl (fun _ => 0))) ∧ G9 q19 = some (.inl (cy 0, 100, .inl (fun _ => 0))) ∧ G9 q31 = some (.inl (cy 0, 6, .inl (fun _ => 0))) ∧ G9 q45 = some (.inl (cy 0, 1, .inl (fun _ => 0)))) ⟨by rw [g_up_ne (g_fresh hq46 hi40)]; exact hi40, by rw [g_up_ne hd_q1_q45]; exact hi41, by rw [g_up_ne hd_q9_q45]; exact hi42, by rw [g_up_ne hd_q19_q45]; exact hi43, by rw [g_up_ne hd_q31_q45]; exact hi44, g_up_self ..⟩ (fun Gi47 hg => ?_)
  obtain ⟨hi48, hi49, hi50, hi51, hi52, hi53⟩ := hg
  refine g_seg [(40, .dup, 1), (41, .iconst 0, 1), (42, .iconst 0, 1)] 43 [(0, .ref m)] [.int 0, .int 0, .ref q45, .ref q45, .ref m] C (by decide +kernel) rfl ?_
  refine g_iastM1 (pc := 43) C hi53 rfl (by decide +kernel) ?_
  refine g_abs (P := fun G9 => G9 m = some (.inr (5, [.int 0, .int 0, .int 0, .int 0, .int 0, .ref q1, .ref q9, .ref q19, .ref q31, .null])) ∧ G9 q1 = some (.inl (cy 0, 42, .inl (fun _ => 0))) ∧ G9 q9 = some (.inl (cy 0, 40, .inl (fun _ => 0))) ∧ G9 q19 = some (.inl (cy 0, 100, .inl (fun _ => 0))) ∧ G9 q31 = some (.inl (cy 0, 6, .inl (fun _ => 0))) ∧ G9 q45 = some (.inl (cy 0, 1, .inl (fun _ => 0)))) ⟨g_oth hi48 hi53 (by simp), by rw [g_up_ne hd_q1_q45]; exact hi49, by rw [g_up_ne hd_q9_q45]; exact hi50, by rw [g_up_ne hd_q19_q45]; exact hi51, by rw [g_up_ne hd_q31_q45]; exact hi52, g_up_self ..⟩ (fun Gi54 hg => ?_)
  obtain ⟨hi55, hi56, hi57, hi58, hi59, hi60⟩ := hg
  refine g_putF (pc := 44) (k := 9) (v := .ref q45) (ty := (.array .int)) C fl_X5_22 fp_X5_9 rfl (fun q hq => by cases hq; rfl) (hi55) rfl (by first | rfl | decide) (Nat.le_of_ble_eq_true rfl) (by decide +kernel) ?_
  refine g_abs (P := fun G9 => G9 m = some (.inr (5, [.int 0, .int 0, .int 0, .int 0, .int 0, .ref q1, .ref q9, .ref q19, .ref q31, .ref q45])) ∧ G9 q1 = some (.inl (cy 0, 42, .inl (fun _ => 0))) ∧ G9 q9 = some (.inl (cy 0, 40, .inl (fun _ => 0))) ∧ G9 q19 = some (.inl (cy 0, 100, .inl (fun _ => 0))) ∧ G9 q31 = some (.inl (cy 0, 6, .inl (fun _ => 0))) ∧ G9 q45 = some (.inl (cy 0, 1, .inl (fun _ => 0)))) ⟨g_up_self .., g_oth hi56 hi55 (by simp), g_oth hi57 hi55 (by simp), g_oth hi58 hi55 (by simp), g_oth hi59 hi55 (by simp), g_oth hi60 hi55 (by simp)⟩ (fun Gi61 hg => ?_)
  obtain ⟨hi62, hi63, hi64, hi65, hi66, hi67⟩ := hg
  exact g_vret (pc := 47) C R (⟨rfl, _, RM_zero hi62 hi63 hi64 hi65 hi66 hi67⟩) (Nat.le_of_ble_eq_true rfl) (Nat.le_of_ble_eq_true rfl) (by decide +kernel)
