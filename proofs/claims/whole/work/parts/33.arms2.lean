/-! more arms -/
theorem cmount_eq {T E F : Rw} {nt nf i j : Nat} {t : Int32} (hb : nt ≤ 6 ∧ nf ≤ 8) (hT : nvT nt T) (hS : SF nt nf E F) (hi : i < nf) (hj : j < nt) (ht : t = nI j) : ((E i 0 = 0 ∨ E i 0 = 3) ∧ ¬ T j 5 = 0 ∧ nI (s_hangE E nf t) < 2) ↔ ((F i 0 = 0 ∨ F i 0 = 3) ∧ T j 5 = 1 ∧ nI (s_hang F nf t) < 2) := by
  subst ht
  rw [hang_eq hS (by omega), (hS.1 i hi).1]
  have h1 : (¬ T j 5 = 0) ↔ T j 5 = 1 := by rcases hT.2 j hj with e | e <;> rw [e] <;> decide
  rw [h1]
theorem wh_eq {T : Rw} {nt j : Nat} (hT : nvT nt T) (hj : j < nt) : (¬ T j 5 = 0) ↔ T j 5 = 1 := by rcases hT.2 j hj with e | e <;> rw [e] <;> decide
theorem neg_lt {bn : Nat} {bt : Int32} (hbn : bn + 200 < 2 ^ 31) (h : bt < 0) : bt < nI bn := by
  rw [Int32.lt_iff_toInt_lt, Int32.toInt_zero] at h
  rw [Int32.lt_iff_toInt_lt, nI_toInt (by omega)]
  omega
theorem a_mount_ok {cy : Nat → ClassId} {x m bn : Nat} {ad : Nat → Nat → Nat} {am : Nat → Nat} {nt nf nc nn : Nat} {T E Cu N KT KF KC F : Rw} {z w9 : Int32} {Ga Gb : GG} (hb : nt ≤ 6 ∧ nf ≤ 8) (hT : nvT nt T) (hS : SF nt nf E F) (hC : nvC nf nc Cu (nI bn)) (hbn : bn + 200 < 2 ^ 31) {f t : Int32} (hP : ∃ i j, i < nf ∧ f = nI i ∧ j < nt ∧ t = nI j ∧ ((E i 0 = 0 ∨ E i 0 = 3) ∧ ¬ T j 5 = 0 ∧ nI (s_hangE E nf t) < 2) ∧ z = nI (s_hangE E nf t) + 1 ∧ RX cy x ad (nI bn) nt nf nc nn T (x_st E i 1 t) Cu N KT KF KC Ga) (hM : (∃ i j, i < nf ∧ f = nI i ∧ j < nt ∧ t = nI j ∧ ((F i 0 = 0 ∨ F i 0 = 3) ∧ T j 5 = 1 ∧ nI (s_hang F nf t) < 2) ∧ w9 = nI (s_hang (s_row F i 1 t 0 (-1)) nf t) ∧ RM cy m am 0 (nI bn) nt nf nc nn T (s_row F i 1 t 0 (-1)) Cu N Gb) ∨ (((∀ i, i < nf → f ≠ nI i) ∨ (∀ i, i < nt → t ≠ nI i)) ∧ RM cy m am 1 (nI bn) nt nf nc nn T F Cu N Gb) ∨ ((∃ i j, i < nf ∧ f = nI i ∧ j < nt ∧ t = nI j ∧ ¬ ((F i 0 = 0 ∨ F i 0 = 3) ∧ T j 5 = 1 ∧ nI (s_hang F nf t) < 2)) ∧ RM cy m am 2 (nI bn) nt nf nc nn T F Cu N Gb)) : z = w9 ∧ ∃ bn', bn' ≤ bn + 200 ∧ LB cy x m Ga Gb bn' 0 := by
  obtain ⟨i, j, hi, hf, hj, ht, hc, rfl, hx⟩ := hP
  rcases hM with ⟨i2, j2, hi2, hf2, hj2, ht2, hc2, rfl, hm⟩ | ⟨hb9, -⟩ | ⟨⟨i2, j2, hi2, hf2, hj2, ht2, hb9⟩, -⟩
  · have e := ix_eq hi hi2 (by omega) hf hf2
    subst e
    exact ⟨mount_eq hb hS hi hj ht hc2.1, bn, by omega, _, _, _, _, _, _, _, _, _, _, _, _, _, _, hx, hm, hT, SF_mount hS hj ht, hC⟩
  · exact absurd hb9 (fun q => q.elim (fun q => q i hi hf) (fun q => q j hj ht))
  · have e := ix_eq hi hi2 (by omega) hf hf2
    subst e
    have e := ix_eq hj hj2 (by omega) ht ht2
    subst e
    exact absurd ((cmount_eq hb hT hS hi hj ht).mp hc) hb9
theorem a_mount_bad {cy : Nat → ClassId} {x m bn : Nat} {ad : Nat → Nat → Nat} {am : Nat → Nat} {nt nf nc nn : Nat} {T E Cu N KT KF KC F : Rw} {z w9 : Int32} {Ga Gb : GG} (hb : nt ≤ 6 ∧ nf ≤ 8) (hT : nvT nt T) (hS : SF nt nf E F) (hC : nvC nf nc Cu (nI bn)) (hbn : bn + 200 < 2 ^ 31) {f t : Int32} {e9 : String} (hP : RX cy x ad (nI bn) nt nf nc nn T E Cu N KT KF KC Ga ∧ ((e9 = "java/lang/IndexOutOfBoundsException" ∧ ((∀ i, i < nf → f ≠ nI i) ∨ (∀ i, i < nt → t ≠ nI i))) ∨ (e9 = "java/lang/IllegalStateException" ∧ ∃ i j, i < nf ∧ f = nI i ∧ j < nt ∧ t = nI j ∧ ¬ ((E i 0 = 0 ∨ E i 0 = 3) ∧ ¬ T j 5 = 0 ∧ nI (s_hangE E nf t) < 2)))) (hM : (∃ i j, i < nf ∧ f = nI i ∧ j < nt ∧ t = nI j ∧ ((F i 0 = 0 ∨ F i 0 = 3) ∧ T j 5 = 1 ∧ nI (s_hang F nf t) < 2) ∧ w9 = nI (s_hang (s_row F i 1 t 0 (-1)) nf t) ∧ RM cy m am 0 (nI bn) nt nf nc nn T (s_row F i 1 t 0 (-1)) Cu N Gb) ∨ (((∀ i, i < nf → f ≠ nI i) ∨ (∀ i, i < nt → t ≠ nI i)) ∧ RM cy m am 1 (nI bn) nt nf nc nn T F Cu N Gb) ∨ ((∃ i j, i < nf ∧ f = nI i ∧ j < nt ∧ t = nI j ∧ ¬ ((F i 0 = 0 ∨ F i 0 = 3) ∧ T j 5 = 1 ∧ nI (s_hang F nf t) < 2)) ∧ RM cy m am 2 (nI bn) nt nf nc nn T F Cu N Gb)) : LB cy x m Ga Gb bn (if e9 = "java/lang/IndexOutOfBoundsException" then 1 else (if e9 = "java/lang/IllegalStateException" then 2 else 0)) := by
  obtain ⟨hx, ⟨rfl, hb9⟩ | ⟨rfl, i, j, hi, hf, hj, ht, hb9⟩⟩ := hP
  · rw [if_pos rfl]
    rcases hM with ⟨i2, j2, hi2, hf2, hj2, ht2, -⟩ | ⟨-, hm⟩ | ⟨⟨i2, j2, hi2, hf2, hj2, ht2, -⟩, -⟩
    · exact absurd hb9 (fun q => q.elim (fun q => q i2 hi2 hf2) (fun q => q j2 hj2 ht2))
    · exact ⟨_, _, _, _, _, _, _, _, _, _, _, _, _, _, hx, hm, hT, hS, hC⟩
    · exact absurd hb9 (fun q => q.elim (fun q => q i2 hi2 hf2) (fun q => q j2 hj2 ht2))
  · rw [if_neg (by decide), if_pos rfl]
    rcases hM with ⟨i2, j2, hi2, hf2, hj2, ht2, hc2, -⟩ | ⟨h1, -⟩ | ⟨-, hm⟩
    · have e := ix_eq hi hi2 (by omega) hf hf2
      subst e
      have e := ix_eq hj hj2 (by omega) ht ht2
      subst e
      exact absurd ((cmount_eq hb hT hS hi hj ht).mpr hc2) hb9
    · exact absurd h1 (fun q => q.elim (fun q => q i hi hf) (fun q => q j hj ht))
    · exact ⟨_, _, _, _, _, _, _, _, _, _, _, _, _, _, hx, hm, hT, hS, hC⟩
theorem a_cue_ok {cy : Nat → ClassId} {x m bn : Nat} {ad : Nat → Nat → Nat} {am : Nat → Nat} {nt nf nc nn : Nat} {T E Cu N KT KF KC F : Rw} {z w9 : Int32} {Ga Gb : GG} (hb : nt ≤ 6 ∧ nf ≤ 8) (hT : nvT nt T) (hS : SF nt nf E F) (hC : nvC nf nc Cu (nI bn)) (hbn : bn + 200 < 2 ^ 31) {bt f r tm : Int32} (hP : (∃ i, i < nf ∧ f = nI i) ∧ okC bt r tm ∧ ¬ bt < (nI bn) ∧ nc < 20 ∧ z = nI nc ∧ ∃ ad', RX cy x ad' (nI bn) nt nf (nc + 1) nn T E (s_add Cu nc (rowC bt f r tm)) N KT KF (s_add KC nc z0) Ga) (hM : ((∃ i, i < nf ∧ f = nI i) ∧ okC bt r tm ∧ ¬ bt < (nI bn) ∧ nc < 20 ∧ w9 = nI nc ∧ RM cy m am 0 (nI bn) nt nf (nc + 1) nn T F (s_add Cu nc (rowC bt f r tm)) N Gb) ∨ ((∀ i, i < nf → f ≠ nI i) ∧ RM cy m am 1 (nI bn) nt nf nc nn T F Cu N Gb) ∨ (((∃ i, i < nf ∧ f = nI i) ∧ ¬ okC bt r tm) ∧ RM cy m am 2 (nI bn) nt nf nc nn T F Cu N Gb) ∨ (((∃ i, i < nf ∧ f = nI i) ∧ okC bt r tm ∧ (bt < (nI bn) ∨ ¬ nc < 20)) ∧ RM cy m am 3 (nI bn) nt nf nc nn T F Cu N Gb)) : z = w9 ∧ ∃ bn', bn' ≤ bn + 200 ∧ LB cy x m Ga Gb bn' 0 := by
  obtain ⟨hf, hok, hlt, hn, rfl, ad', hx⟩ := hP
  rcases hM with ⟨-, -, -, -, rfl, hm⟩ | ⟨hb9, -⟩ | ⟨⟨-, hb9⟩, -⟩ | ⟨⟨-, -, hb9⟩, -⟩
  · exact ⟨rfl, bn, by omega, _, _, _, _, _, _, _, _, _, _, _, _, _, _, hx, hm, hT, hS, nvC_cue hC hf⟩
  · obtain ⟨i, hi, e⟩ := hf
    exact absurd e (hb9 i hi)
  · exact absurd hok hb9
  · exact hb9.elim (fun q => absurd q hlt) (fun q => absurd hn q)
theorem a_cue_bad {cy : Nat → ClassId} {x m bn : Nat} {ad : Nat → Nat → Nat} {am : Nat → Nat} {nt nf nc nn : Nat} {T E Cu N KT KF KC F : Rw} {z w9 : Int32} {Ga Gb : GG} (hb : nt ≤ 6 ∧ nf ≤ 8) (hT : nvT nt T) (hS : SF nt nf E F) (hC : nvC nf nc Cu (nI bn)) (hbn : bn + 200 < 2 ^ 31) {bt f r tm : Int32} {e9 : String} (hP : RX cy x ad (nI bn) nt nf nc nn T E Cu N KT KF KC Ga ∧ ((e9 = "java/lang/IndexOutOfBoundsException" ∧ (∀ i, i < nf → f ≠ nI i)) ∨ (e9 = "java/lang/IllegalArgumentException" ∧ (∃ i, i < nf ∧ f = nI i) ∧ ¬ okC bt r tm) ∨ (e9 = "java/lang/IllegalStateException" ∧ (∃ i, i < nf ∧ f = nI i) ∧ okC bt r tm ∧ (bt < (nI bn) ∨ bt < 0 ∨ ¬ nc < 20)))) (hM : ((∃ i, i < nf ∧ f = nI i) ∧ okC bt r tm ∧ ¬ bt < (nI bn) ∧ nc < 20 ∧ w9 = nI nc ∧ RM cy m am 0 (nI bn) nt nf (nc + 1) nn T F (s_add Cu nc (rowC bt f r tm)) N Gb) ∨ ((∀ i, i < nf → f ≠ nI i) ∧ RM cy m am 1 (nI bn) nt nf nc nn T F Cu N Gb) ∨ (((∃ i, i < nf ∧ f = nI i) ∧ ¬ okC bt r tm) ∧ RM cy m am 2 (nI bn) nt nf nc nn T F Cu N Gb) ∨ (((∃ i, i < nf ∧ f = nI i) ∧ okC bt r tm ∧ (bt < (nI bn) ∨ ¬ nc < 20)) ∧ RM cy m am 3 (nI bn) nt nf nc nn T F Cu N Gb)) : LB cy x m Ga Gb bn (if e9 = "java/lang/IndexOutOfBoundsException" then 1 else (if e9 = "java/lang/IllegalArgumentException" then 2 else (if e9 = "java/lang/IllegalStateException" then 3 else 0))) := by
  obtain ⟨hx, ⟨rfl, hb9⟩ | ⟨rfl, ⟨i, hi, hf⟩, hb9⟩ | ⟨rfl, ⟨i, hi, hf⟩, hok, hb9⟩⟩ := hP
  · rw [if_pos rfl]
    rcases hM with ⟨⟨j, hj, e⟩, -⟩ | ⟨-, hm⟩ | ⟨⟨⟨j, hj, e⟩, -⟩, -⟩ | ⟨⟨⟨j, hj, e⟩, -⟩, -⟩
    · exact absurd e (hb9 j hj)
    · exact ⟨_, _, _, _, _, _, _, _, _, _, _, _, _, _, hx, hm, hT, hS, hC⟩
    · exact absurd e (hb9 j hj)
    · exact absurd e (hb9 j hj)
  · rw [if_neg (by decide), if_pos rfl]
    rcases hM with ⟨-, h1, -⟩ | ⟨h1, -⟩ | ⟨-, hm⟩ | ⟨⟨-, h1, -⟩, -⟩
    · exact absurd h1 hb9
    · exact absurd hf (h1 i hi)
    · exact ⟨_, _, _, _, _, _, _, _, _, _, _, _, _, _, hx, hm, hT, hS, hC⟩
    · exact absurd h1 hb9
  · rw [if_neg (by decide), if_neg (by decide), if_pos rfl]
    rcases hM with ⟨-, -, h1, h2, -⟩ | ⟨h1, -⟩ | ⟨⟨-, h1⟩, -⟩ | ⟨-, hm⟩
    · exact hb9.elim (fun q => absurd q h1) (fun q => q.elim (fun q => absurd (neg_lt hbn q) h1) (fun q => absurd h2 q))
    · exact absurd hf (h1 i hi)
    · exact absurd hok h1
    · exact ⟨_, _, _, _, _, _, _, _, _, _, _, _, _, _, hx, hm, hT, hS, hC⟩
theorem a_trapeze_ok {cy : Nat → ClassId} {x m bn : Nat} {ad : Nat → Nat → Nat} {am : Nat → Nat} {nt nf nc nn : Nat} {T E Cu N KT KF KC F : Rw} {z w9 : Int32} {Ga Gb : GG} (hb : nt ≤ 6 ∧ nf ≤ 8) (hT : nvT nt T) (hS : SF nt nf E F) (hC : nvC nf nc Cu (nI bn)) (hbn : bn + 200 < 2 ^ 31) {t w : Int32} (hP : ∃ i, i < nt ∧ t = nI i ∧ (0 ≤ w ∧ w ≤ 7) ∧ z = s_toldX T E nf (nI bn) i w ∧ RX cy x ad (nI bn) nt nf nc nn T E Cu N KT KF KC Ga) (hM : (∃ i kk, i < nt ∧ t = nI i ∧ (0 ≤ w ∧ w ≤ 7) ∧ kk < 8 ∧ w = nI kk ∧ w9 = m_told T F nf (nI bn) i kk ∧ RM cy m am 0 (nI bn) nt nf nc nn T F Cu N Gb) ∨ (((∀ i, i < nt → t ≠ nI i) ∨ ¬ (0 ≤ w ∧ w ≤ 7)) ∧ RM cy m am 1 (nI bn) nt nf nc nn T F Cu N Gb)) : z = w9 ∧ ∃ bn', bn' ≤ bn + 200 ∧ LB cy x m Ga Gb bn' 0 := by
  obtain ⟨i, hi, ht, hw, rfl, hx⟩ := hP
  rcases hM with ⟨j, k, hj, ht2, -, hk, rfl, rfl, hm⟩ | ⟨hb9, -⟩
  · have e := ix_eq hi hj (by omega) ht ht2
    subst e
    exact ⟨told_eq hb hT hS hi hk, bn, by omega, _, _, _, _, _, _, _, _, _, _, _, _, _, _, hx, hm, hT, hS, hC⟩
  · exact absurd hb9 (fun q => q.elim (fun q => q i hi ht) (fun q => q hw))
theorem a_trapeze_bad {cy : Nat → ClassId} {x m bn : Nat} {ad : Nat → Nat → Nat} {am : Nat → Nat} {nt nf nc nn : Nat} {T E Cu N KT KF KC F : Rw} {z w9 : Int32} {Ga Gb : GG} (hb : nt ≤ 6 ∧ nf ≤ 8) (hT : nvT nt T) (hS : SF nt nf E F) (hC : nvC nf nc Cu (nI bn)) (hbn : bn + 200 < 2 ^ 31) {t w : Int32} {e9 : String} (hP : RX cy x ad (nI bn) nt nf nc nn T E Cu N KT KF KC Ga ∧ ((e9 = "java/lang/IndexOutOfBoundsException" ∧ ((∀ i, i < nt → t ≠ nI i) ∨ ¬ (0 ≤ w ∧ w ≤ 7))))) (hM : (∃ i kk, i < nt ∧ t = nI i ∧ (0 ≤ w ∧ w ≤ 7) ∧ kk < 8 ∧ w = nI kk ∧ w9 = m_told T F nf (nI bn) i kk ∧ RM cy m am 0 (nI bn) nt nf nc nn T F Cu N Gb) ∨ (((∀ i, i < nt → t ≠ nI i) ∨ ¬ (0 ≤ w ∧ w ≤ 7)) ∧ RM cy m am 1 (nI bn) nt nf nc nn T F Cu N Gb)) : LB cy x m Ga Gb bn (if e9 = "java/lang/IndexOutOfBoundsException" then 1 else 0) := by
  obtain ⟨hx, rfl, hb9⟩ := hP
  rw [if_pos rfl]
  rcases hM with ⟨j, k, hj, ht2, hw, -⟩ | ⟨-, hm⟩
  · exact absurd hb9 (fun q => q.elim (fun q => q j hj ht2) (fun q => q hw))
  · exact ⟨_, _, _, _, _, _, _, _, _, _, _, _, _, _, hx, hm, hT, hS, hC⟩
theorem a_flyer_ok {cy : Nat → ClassId} {x m bn : Nat} {ad : Nat → Nat → Nat} {am : Nat → Nat} {nt nf nc nn : Nat} {T E Cu N KT KF KC F : Rw} {z w9 : Int32} {Ga Gb : GG} (hb : nt ≤ 6 ∧ nf ≤ 8) (hT : nvT nt T) (hS : SF nt nf E F) (hC : nvC nf nc Cu (nI bn)) (hbn : bn + 200 < 2 ^ 31) {t w : Int32} (hP : ∃ i, i < nf ∧ t = nI i ∧ (0 ≤ w ∧ w ≤ 4) ∧ z = s_toldFX E (nI bn) i w ∧ RX cy x ad (nI bn) nt nf nc nn T E Cu N KT KF KC Ga) (hM : (∃ i kk, i < nf ∧ t = nI i ∧ (0 ≤ w ∧ w ≤ 4) ∧ kk < 5 ∧ w = nI kk ∧ w9 = m_toldF F (nI bn) i kk ∧ RM cy m am 0 (nI bn) nt nf nc nn T F Cu N Gb) ∨ (((∀ i, i < nf → t ≠ nI i) ∨ ¬ (0 ≤ w ∧ w ≤ 4)) ∧ RM cy m am 1 (nI bn) nt nf nc nn T F Cu N Gb)) : z = w9 ∧ ∃ bn', bn' ≤ bn + 200 ∧ LB cy x m Ga Gb bn' 0 := by
  obtain ⟨i, hi, ht, hw, rfl, hx⟩ := hP
  rcases hM with ⟨j, k, hj, ht2, -, hk, rfl, rfl, hm⟩ | ⟨hb9, -⟩
  · have e := ix_eq hi hj (by omega) ht ht2
    subst e
    exact ⟨toldF_eq hS hi hk, bn, by omega, _, _, _, _, _, _, _, _, _, _, _, _, _, _, hx, hm, hT, hS, hC⟩
  · exact absurd hb9 (fun q => q.elim (fun q => q i hi ht) (fun q => q hw))
theorem a_flyer_bad {cy : Nat → ClassId} {x m bn : Nat} {ad : Nat → Nat → Nat} {am : Nat → Nat} {nt nf nc nn : Nat} {T E Cu N KT KF KC F : Rw} {z w9 : Int32} {Ga Gb : GG} (hb : nt ≤ 6 ∧ nf ≤ 8) (hT : nvT nt T) (hS : SF nt nf E F) (hC : nvC nf nc Cu (nI bn)) (hbn : bn + 200 < 2 ^ 31) {t w : Int32} {e9 : String} (hP : RX cy x ad (nI bn) nt nf nc nn T E Cu N KT KF KC Ga ∧ ((e9 = "java/lang/IndexOutOfBoundsException" ∧ ((∀ i, i < nf → t ≠ nI i) ∨ ¬ (0 ≤ w ∧ w ≤ 4))))) (hM : (∃ i kk, i < nf ∧ t = nI i ∧ (0 ≤ w ∧ w ≤ 4) ∧ kk < 5 ∧ w = nI kk ∧ w9 = m_toldF F (nI bn) i kk ∧ RM cy m am 0 (nI bn) nt nf nc nn T F Cu N Gb) ∨ (((∀ i, i < nf → t ≠ nI i) ∨ ¬ (0 ≤ w ∧ w ≤ 4)) ∧ RM cy m am 1 (nI bn) nt nf nc nn T F Cu N Gb)) : LB cy x m Ga Gb bn (if e9 = "java/lang/IndexOutOfBoundsException" then 1 else 0) := by
  obtain ⟨hx, rfl, hb9⟩ := hP
  rw [if_pos rfl]
  rcases hM with ⟨j, k, hj, ht2, hw, -⟩ | ⟨-, hm⟩
  · exact absurd hb9 (fun q => q.elim (fun q => q j hj ht2) (fun q => q hw))
  · exact ⟨_, _, _, _, _, _, _, _, _, _, _, _, _, _, hx, hm, hT, hS, hC⟩
theorem a_called_ok {cy : Nat → ClassId} {x m bn : Nat} {ad : Nat → Nat → Nat} {am : Nat → Nat} {nt nf nc nn : Nat} {T E Cu N KT KF KC F : Rw} {z w9 : Int32} {Ga Gb : GG} (hb : nt ≤ 6 ∧ nf ≤ 8) (hnc : nc ≤ 20) (hT : nvT nt T) (hS : SF nt nf E F) (hC : nvC nf nc Cu (nI bn)) (hbn : bn + 200 < 2 ^ 31) {t w : Int32} (hP : ∃ i, i < nc ∧ t = nI i ∧ (0 ≤ w ∧ w ≤ 4) ∧ z = s_toldC Cu i w ∧ RX cy x ad (nI bn) nt nf nc nn T E Cu N KT KF KC Ga) (hM : (∃ i kk, i < nc ∧ t = nI i ∧ (0 ≤ w ∧ w ≤ 4) ∧ kk < 5 ∧ w = nI kk ∧ w9 = Cu i kk ∧ RM cy m am 0 (nI bn) nt nf nc nn T F Cu N Gb) ∨ (((∀ i, i < nc → t ≠ nI i) ∨ ¬ (0 ≤ w ∧ w ≤ 4)) ∧ RM cy m am 1 (nI bn) nt nf nc nn T F Cu N Gb)) : z = w9 ∧ ∃ bn', bn' ≤ bn + 200 ∧ LB cy x m Ga Gb bn' 0 := by
  obtain ⟨i, hi, ht, hw, rfl, hx⟩ := hP
  rcases hM with ⟨j, k, hj, ht2, -, hk, rfl, rfl, hm⟩ | ⟨hb9, -⟩
  · have e := ix_eq hi hj (by omega) ht ht2
    subst e
    exact ⟨toldC_eq hk, bn, by omega, _, _, _, _, _, _, _, _, _, _, _, _, _, _, hx, hm, hT, hS, hC⟩
  · exact absurd hb9 (fun q => q.elim (fun q => q i hi ht) (fun q => q hw))
theorem a_called_bad {cy : Nat → ClassId} {x m bn : Nat} {ad : Nat → Nat → Nat} {am : Nat → Nat} {nt nf nc nn : Nat} {T E Cu N KT KF KC F : Rw} {z w9 : Int32} {Ga Gb : GG} (hb : nt ≤ 6 ∧ nf ≤ 8) (hnc : nc ≤ 20) (hT : nvT nt T) (hS : SF nt nf E F) (hC : nvC nf nc Cu (nI bn)) (hbn : bn + 200 < 2 ^ 31) {t w : Int32} {e9 : String} (hP : RX cy x ad (nI bn) nt nf nc nn T E Cu N KT KF KC Ga ∧ ((e9 = "java/lang/IndexOutOfBoundsException" ∧ ((∀ i, i < nc → t ≠ nI i) ∨ ¬ (0 ≤ w ∧ w ≤ 4))))) (hM : (∃ i kk, i < nc ∧ t = nI i ∧ (0 ≤ w ∧ w ≤ 4) ∧ kk < 5 ∧ w = nI kk ∧ w9 = Cu i kk ∧ RM cy m am 0 (nI bn) nt nf nc nn T F Cu N Gb) ∨ (((∀ i, i < nc → t ≠ nI i) ∨ ¬ (0 ≤ w ∧ w ≤ 4)) ∧ RM cy m am 1 (nI bn) nt nf nc nn T F Cu N Gb)) : LB cy x m Ga Gb bn (if e9 = "java/lang/IndexOutOfBoundsException" then 1 else 0) := by
  obtain ⟨hx, rfl, hb9⟩ := hP
  rw [if_pos rfl]
  rcases hM with ⟨j, k, hj, ht2, hw, -⟩ | ⟨-, hm⟩
  · exact absurd hb9 (fun q => q.elim (fun q => q j hj ht2) (fun q => q hw))
  · exact ⟨_, _, _, _, _, _, _, _, _, _, _, _, _, _, hx, hm, hT, hS, hC⟩
theorem a_count_ok {cy : Nat → ClassId} {x m bn : Nat} {ad : Nat → Nat → Nat} {am : Nat → Nat} {nt nf nc nn : Nat} {T E Cu N KT KF KC F : Rw} {z w9 : Int32} {Ga Gb : GG} (hb : nt ≤ 6 ∧ nf ≤ 8) (hT : nvT nt T) (hS : SF nt nf E F) (hC : nvC nf nc Cu (nI bn)) (hbn : bn + 200 < 2 ^ 31) {w : Int32} (hP : (0 ≤ w ∧ w ≤ 8) ∧ z = s_countX (nI bn) nt nf nc T E Cu w ∧ RX cy x ad (nI bn) nt nf nc nn T E Cu N KT KF KC Ga) (hM : ((0 ≤ w ∧ w ≤ 8) ∧ w9 = m_count (nI bn) nt nf nc T F Cu w ∧ RM cy m am 0 (nI bn) nt nf nc nn T F Cu N Gb) ∨ (¬ (0 ≤ w ∧ w ≤ 8) ∧ RM cy m am 1 (nI bn) nt nf nc nn T F Cu N Gb)) : z = w9 ∧ ∃ bn', bn' ≤ bn + 200 ∧ LB cy x m Ga Gb bn' 0 := by
  obtain ⟨hw, rfl, hx⟩ := hP
  rcases hM with ⟨-, rfl, hm⟩ | ⟨hb9, -⟩
  · exact ⟨count_eq hT hS hw, bn, by omega, _, _, _, _, _, _, _, _, _, _, _, _, _, _, hx, hm, hT, hS, hC⟩
  · exact absurd hw hb9
theorem a_count_bad {cy : Nat → ClassId} {x m bn : Nat} {ad : Nat → Nat → Nat} {am : Nat → Nat} {nt nf nc nn : Nat} {T E Cu N KT KF KC F : Rw} {z w9 : Int32} {Ga Gb : GG} (hb : nt ≤ 6 ∧ nf ≤ 8) (hT : nvT nt T) (hS : SF nt nf E F) (hC : nvC nf nc Cu (nI bn)) (hbn : bn + 200 < 2 ^ 31) {w : Int32} {e9 : String} (hP : RX cy x ad (nI bn) nt nf nc nn T E Cu N KT KF KC Ga ∧ ((e9 = "java/lang/IndexOutOfBoundsException" ∧ ¬ (0 ≤ w ∧ w ≤ 8)))) (hM : ((0 ≤ w ∧ w ≤ 8) ∧ w9 = m_count (nI bn) nt nf nc T F Cu w ∧ RM cy m am 0 (nI bn) nt nf nc nn T F Cu N Gb) ∨ (¬ (0 ≤ w ∧ w ≤ 8) ∧ RM cy m am 1 (nI bn) nt nf nc nn T F Cu N Gb)) : LB cy x m Ga Gb bn (if e9 = "java/lang/IndexOutOfBoundsException" then 1 else 0) := by
  obtain ⟨hx, rfl, hb9⟩ := hP
  rw [if_pos rfl]
  rcases hM with ⟨h1, -⟩ | ⟨-, hm⟩
  · exact absurd h1 hb9
  · exact ⟨_, _, _, _, _, _, _, _, _, _, _, _, _, _, hx, hm, hT, hS, hC⟩
theorem a_place_ok {cy : Nat → ClassId} {x m bn : Nat} {ad : Nat → Nat → Nat} {am : Nat → Nat} {nt nf nc nn : Nat} {T E Cu N KT KF KC F : Rw} {z w9 : Int32} {Ga Gb : GG} (hb : nt ≤ 6 ∧ nf ≤ 8) (hT : nvT nt T) (hS : SF nt nf E F) (hC : nvC nf nc Cu (nI bn)) (hbn : bn + 200 < 2 ^ 31) {t n : Int32} (hP : ∃ i, i < nt ∧ t = nI i ∧ (0 ≤ n ∧ n ≤ 500) ∧ z = s_at T i ((nI bn) + n) ∧ RX cy x ad (nI bn) nt nf nc nn T E Cu N KT KF KC Ga) (hM : (∃ i, i < nt ∧ t = nI i ∧ (0 ≤ n ∧ n ≤ 500) ∧ w9 = s_at T i ((nI bn) + n) ∧ RM cy m am 0 (nI bn) nt nf nc nn T F Cu N Gb) ∨ ((∀ i, i < nt → t ≠ nI i) ∧ RM cy m am 1 (nI bn) nt nf nc nn T F Cu N Gb) ∨ ((∃ i, i < nt ∧ t = nI i) ∧ ¬ (0 ≤ n ∧ n ≤ 500) ∧ RM cy m am 2 (nI bn) nt nf nc nn T F Cu N Gb)) : z = w9 ∧ ∃ bn', bn' ≤ bn + 200 ∧ LB cy x m Ga Gb bn' 0 := by
  obtain ⟨i, hi, ht, hn, rfl, hx⟩ := hP
  rcases hM with ⟨j, hj, ht2, -, rfl, hm⟩ | ⟨hb9, -⟩ | ⟨-, hb9, -⟩
  · have e := ix_eq hi hj (by omega) ht ht2
    subst e
    exact ⟨rfl, bn, by omega, _, _, _, _, _, _, _, _, _, _, _, _, _, _, hx, hm, hT, hS, hC⟩
  · exact absurd ht (hb9 i hi)
  · exact absurd hn hb9
theorem a_place_bad {cy : Nat → ClassId} {x m bn : Nat} {ad : Nat → Nat → Nat} {am : Nat → Nat} {nt nf nc nn : Nat} {T E Cu N KT KF KC F : Rw} {z w9 : Int32} {Ga Gb : GG} (hb : nt ≤ 6 ∧ nf ≤ 8) (hT : nvT nt T) (hS : SF nt nf E F) (hC : nvC nf nc Cu (nI bn)) (hbn : bn + 200 < 2 ^ 31) {t n : Int32} {e9 : String} (hP : RX cy x ad (nI bn) nt nf nc nn T E Cu N KT KF KC Ga ∧ ((e9 = "java/lang/IndexOutOfBoundsException" ∧ (∀ i, i < nt → t ≠ nI i)) ∨ (e9 = "java/lang/IllegalArgumentException" ∧ (∃ i, i < nt ∧ t = nI i) ∧ ¬ (0 ≤ n ∧ n ≤ 500)))) (hM : (∃ i, i < nt ∧ t = nI i ∧ (0 ≤ n ∧ n ≤ 500) ∧ w9 = s_at T i ((nI bn) + n) ∧ RM cy m am 0 (nI bn) nt nf nc nn T F Cu N Gb) ∨ ((∀ i, i < nt → t ≠ nI i) ∧ RM cy m am 1 (nI bn) nt nf nc nn T F Cu N Gb) ∨ ((∃ i, i < nt ∧ t = nI i) ∧ ¬ (0 ≤ n ∧ n ≤ 500) ∧ RM cy m am 2 (nI bn) nt nf nc nn T F Cu N Gb)) : LB cy x m Ga Gb bn (if e9 = "java/lang/IndexOutOfBoundsException" then 1 else (if e9 = "java/lang/IllegalArgumentException" then 2 else 0)) := by
  obtain ⟨hx, ⟨rfl, hb9⟩ | ⟨rfl, ⟨i, hi, ht⟩, hb9⟩⟩ := hP
  · rw [if_pos rfl]
    rcases hM with ⟨j, hj, ht2, -⟩ | ⟨-, hm⟩ | ⟨⟨j, hj, ht2⟩, -⟩
    · exact absurd ht2 (hb9 j hj)
    · exact ⟨_, _, _, _, _, _, _, _, _, _, _, _, _, _, hx, hm, hT, hS, hC⟩
    · exact absurd ht2 (hb9 j hj)
  · rw [if_neg (by decide), if_pos rfl]
    rcases hM with ⟨j, hj, ht2, h1, -⟩ | ⟨h1, -⟩ | ⟨-, -, hm⟩
    · exact absurd h1 hb9
    · exact absurd ht (h1 i hi)
    · exact ⟨_, _, _, _, _, _, _, _, _, _, _, _, _, _, hx, hm, hT, hS, hC⟩
