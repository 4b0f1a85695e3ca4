/-! the last arms -/
theorem sub_of {a c d : Int32} (h : a + c = 0 + d) : a = d - c := by
  rw [Int32.zero_add] at h
  rw [← h, Int32.add_sub_cancel]
theorem a_go_ok {cy : Nat → ClassId} {x m bn : Nat} {ad : Nat → Nat → Nat} {am : Nat → Nat} {nt nf nc nn : Nat} {T E Cu N KT KF KC F : Rw} {z w9 : Int32} {Ga Gb : GG} (hb : nt ≤ 6 ∧ nf ≤ 8) (hT : nvT nt T) (hS : SF nt nf E F) (hC : nvC nf nc Cu (nI bn)) (hbn : bn + 200 < 2 ^ 31) {n : Int32} (hP : ∃ k, (1 ≤ n ∧ n ≤ 200) ∧ k ≤ 200 ∧ n = nI k ∧ z = (x_beats N nn nt nf nc ((nI bn), T, E, Cu, 0) k).2.2.2.2 ∧ RX cy x ad (x_beats N nn nt nf nc ((nI bn), T, E, Cu, 0) k).1 nt nf nc nn (x_beats N nn nt nf nc ((nI bn), T, E, Cu, 0) k).2.1 (x_beats N nn nt nf nc ((nI bn), T, E, Cu, 0) k).2.2.1 (x_beats N nn nt nf nc ((nI bn), T, E, Cu, 0) k).2.2.2.1 N KT KF KC Ga) (hM : (∃ k, (1 ≤ n ∧ n ≤ 200) ∧ k ≤ 200 ∧ n = nI k ∧ w9 = s_caught (m_beats N nn nt nf nc ((nI bn), T, F, Cu) k).2.2.1 nf - s_caught F nf ∧ RM cy m am 0 (m_beats N nn nt nf nc ((nI bn), T, F, Cu) k).1 nt nf nc nn (m_beats N nn nt nf nc ((nI bn), T, F, Cu) k).2.1 (m_beats N nn nt nf nc ((nI bn), T, F, Cu) k).2.2.1 (m_beats N nn nt nf nc ((nI bn), T, F, Cu) k).2.2.2 N Gb) ∨ (¬ (1 ≤ n ∧ n ≤ 200) ∧ RM cy m am 1 (nI bn) nt nf nc nn T F Cu N Gb)) : z = w9 ∧ ∃ bn', bn' ≤ bn + 200 ∧ LB cy x m Ga Gb bn' 0 := by
  obtain ⟨k, hk, hk2, hnk, rfl, hx⟩ := hP
  rcases hM with ⟨k9, -, hk9, hnk9, rfl, hm⟩ | ⟨hb9, -⟩
  · have e := (nI_eq (a := k) (b := k9) (by omega) (by omega)).mp (hnk.symm.trans hnk9)
    subst e
    obtain ⟨T', E', F', C', κ', e1, e2, e3, e4, e5, e6⟩ := sim_beats (N := N) (nn := nn) (κ := 0) hb hT hS hC k (by omega)
    rw [e1] at hx ⊢
    rw [e2] at hm ⊢
    exact ⟨sub_of e6, bn + k, by omega, _, _, _, _, _, _, _, _, _, _, _, _, _, _, hx, hm, e3, e4, e5⟩
  · exact absurd hk hb9
theorem a_go_bad {cy : Nat → ClassId} {x m bn : Nat} {ad : Nat → Nat → Nat} {am : Nat → Nat} {nt nf nc nn : Nat} {T E Cu N KT KF KC F : Rw} {z w9 : Int32} {Ga Gb : GG} (hb : nt ≤ 6 ∧ nf ≤ 8) (hT : nvT nt T) (hS : SF nt nf E F) (hC : nvC nf nc Cu (nI bn)) (hbn : bn + 200 < 2 ^ 31) {n : Int32} {e9 : String} (hP : RX cy x ad (nI bn) nt nf nc nn T E Cu N KT KF KC Ga ∧ ((e9 = "java/lang/IllegalArgumentException" ∧ ¬ (1 ≤ n ∧ n ≤ 200)))) (hM : (∃ k, (1 ≤ n ∧ n ≤ 200) ∧ k ≤ 200 ∧ n = nI k ∧ w9 = s_caught (m_beats N nn nt nf nc ((nI bn), T, F, Cu) k).2.2.1 nf - s_caught F nf ∧ RM cy m am 0 (m_beats N nn nt nf nc ((nI bn), T, F, Cu) k).1 nt nf nc nn (m_beats N nn nt nf nc ((nI bn), T, F, Cu) k).2.1 (m_beats N nn nt nf nc ((nI bn), T, F, Cu) k).2.2.1 (m_beats N nn nt nf nc ((nI bn), T, F, Cu) k).2.2.2 N Gb) ∨ (¬ (1 ≤ n ∧ n ≤ 200) ∧ RM cy m am 1 (nI bn) nt nf nc nn T F Cu N Gb)) : LB cy x m Ga Gb bn (if e9 = "java/lang/IllegalArgumentException" then 1 else 0) := by
  obtain ⟨hx, rfl, hb9⟩ := hP
  rw [if_pos rfl]
  rcases hM with ⟨k, h1, -⟩ | ⟨-, hm⟩
  · exact absurd h1 hb9
  · exact ⟨_, _, _, _, _, _, _, _, _, _, _, _, _, _, hx, hm, hT, hS, hC⟩
theorem a_meets_ok {cy : Nat → ClassId} {x m bn : Nat} {ad : Nat → Nat → Nat} {am : Nat → Nat} {nt nf nc nn : Nat} {T E Cu N KT KF KC F : Rw} {z w9 : Int32} {Ga Gb : GG} (hb : nt ≤ 6 ∧ nf ≤ 8) (hT : nvT nt T) (hS : SF nt nf E F) (hC : nvC nf nc Cu (nI bn)) (hbn : bn + 200 < 2 ^ 31) {t1 t2 : Int32} (hP : ∃ i j, i < nt ∧ t1 = nI i ∧ j < nt ∧ t2 = nI j ∧ (((T i 5 = 0 ∨ T j 5 = 0) ∧ z = -1) ∨ (¬ T i 5 = 0 ∧ ¬ T j 5 = 0 ∧ z = s_meet T i j (nI bn))) ∧ RX cy x ad (nI bn) nt nf nc nn T E Cu N KT KF KC Ga) (hM : (∃ i j, i < nt ∧ t1 = nI i ∧ j < nt ∧ t2 = nI j ∧ (((T i 5 = 0 ∨ T j 5 = 0) ∧ w9 = -1) ∨ (¬ T i 5 = 0 ∧ ¬ T j 5 = 0 ∧ w9 = s_meet T i j (nI bn))) ∧ RM cy m am 0 (nI bn) nt nf nc nn T F Cu N Gb) ∨ (((∀ i, i < nt → t1 ≠ nI i) ∨ (∀ i, i < nt → t2 ≠ nI i)) ∧ RM cy m am 1 (nI bn) nt nf nc nn T F Cu N Gb)) : z = w9 ∧ ∃ bn', bn' ≤ bn + 200 ∧ LB cy x m Ga Gb bn' 0 := by
  obtain ⟨i, j, hi, h1, hj, h2, hc, hx⟩ := hP
  rcases hM with ⟨i2, j2, hi2, g1, hj2, g2, gc, hm⟩ | ⟨hb9, -⟩
  · have e := ix_eq hi hi2 (by omega) h1 g1
    subst e
    have e := ix_eq hj hj2 (by omega) h2 g2
    subst e
    have hz : z = w9 := by
      rcases hc with ⟨a1, a3⟩ | ⟨a1, a2, a3⟩
      · rcases gc with ⟨c1, c3⟩ | ⟨c1, c2, c3⟩
        · exact a3.trans c3.symm
        · exact a1.elim (fun q => absurd q c1) (fun q => absurd q c2)
      · rcases gc with ⟨c1, c3⟩ | ⟨c1, c2, c3⟩
        · exact c1.elim (fun q => absurd q a1) (fun q => absurd q a2)
        · exact a3.trans c3.symm
    exact ⟨hz, bn, by omega, _, _, _, _, _, _, _, _, _, _, _, _, _, _, hx, hm, hT, hS, hC⟩
  · exact absurd hb9 (fun q => q.elim (fun q => q i hi h1) (fun q => q j hj h2))
theorem a_meets_bad {cy : Nat → ClassId} {x m bn : Nat} {ad : Nat → Nat → Nat} {am : Nat → Nat} {nt nf nc nn : Nat} {T E Cu N KT KF KC F : Rw} {z w9 : Int32} {Ga Gb : GG} (hb : nt ≤ 6 ∧ nf ≤ 8) (hT : nvT nt T) (hS : SF nt nf E F) (hC : nvC nf nc Cu (nI bn)) (hbn : bn + 200 < 2 ^ 31) {t1 t2 : Int32} {e9 : String} (hP : RX cy x ad (nI bn) nt nf nc nn T E Cu N KT KF KC Ga ∧ ((e9 = "java/lang/IndexOutOfBoundsException" ∧ ((∀ i, i < nt → t1 ≠ nI i) ∨ (∀ i, i < nt → t2 ≠ nI i))))) (hM : (∃ i j, i < nt ∧ t1 = nI i ∧ j < nt ∧ t2 = nI j ∧ (((T i 5 = 0 ∨ T j 5 = 0) ∧ w9 = -1) ∨ (¬ T i 5 = 0 ∧ ¬ T j 5 = 0 ∧ w9 = s_meet T i j (nI bn))) ∧ RM cy m am 0 (nI bn) nt nf nc nn T F Cu N Gb) ∨ (((∀ i, i < nt → t1 ≠ nI i) ∨ (∀ i, i < nt → t2 ≠ nI i)) ∧ RM cy m am 1 (nI bn) nt nf nc nn T F Cu N Gb)) : LB cy x m Ga Gb bn (if e9 = "java/lang/IndexOutOfBoundsException" then 1 else 0) := by
  obtain ⟨hx, rfl, hb9⟩ := hP
  rw [if_pos rfl]
  rcases hM with ⟨i2, j2, hi2, g1, hj2, g2, -⟩ | ⟨-, hm⟩
  · exact absurd hb9 (fun q => q.elim (fun q => q i2 hi2 g1) (fun q => q j2 hj2 g2))
  · exact ⟨_, _, _, _, _, _, _, _, _, _, _, _, _, _, hx, hm, hT, hS, hC⟩
theorem a_advise_ok {cy : Nat → ClassId} {x m bn : Nat} {ad : Nat → Nat → Nat} {am : Nat → Nat} {nt nf nc nn : Nat} {T E Cu N KT KF KC F : Rw} {z w9 : Int32} {Ga Gb : GG} (hb : nt ≤ 6 ∧ nf ≤ 8) (hT : nvT nt T) (hS : SF nt nf E F) (hC : nvC nf nc Cu (nI bn)) (hbn : bn + 200 < 2 ^ 31) {t1 t2 : Int32} (hP : ∃ i j, i < nt ∧ t1 = nI i ∧ j < nt ∧ t2 = nI j ∧ ¬ t1 = t2 ∧ (((T i 5 = 0 ∨ T j 5 = 0) ∧ z = -1) ∨ (¬ T i 5 = 0 ∧ ¬ T j 5 = 0 ∧ z = s_advise T i j (nI bn))) ∧ RX cy x ad (nI bn) nt nf nc nn T E Cu N KT KF KC Ga) (hM : (∃ i j, i < nt ∧ t1 = nI i ∧ j < nt ∧ t2 = nI j ∧ ¬ t1 = t2 ∧ (((T i 5 = 0 ∨ T j 5 = 0) ∧ w9 = -1) ∨ (¬ T i 5 = 0 ∧ ¬ T j 5 = 0 ∧ w9 = s_advise T i j (nI bn))) ∧ RM cy m am 0 (nI bn) nt nf nc nn T F Cu N Gb) ∨ (((∀ i, i < nt → t1 ≠ nI i) ∨ (∀ i, i < nt → t2 ≠ nI i)) ∧ RM cy m am 1 (nI bn) nt nf nc nn T F Cu N Gb) ∨ ((∃ i, i < nt ∧ t1 = nI i) ∧ (∃ i, i < nt ∧ t2 = nI i) ∧ t1 = t2 ∧ RM cy m am 2 (nI bn) nt nf nc nn T F Cu N Gb)) : z = w9 ∧ ∃ bn', bn' ≤ bn + 200 ∧ LB cy x m Ga Gb bn' 0 := by
  obtain ⟨i, j, hi, h1, hj, h2, hne, hc, hx⟩ := hP
  rcases hM with ⟨i2, j2, hi2, g1, hj2, g2, -, gc, hm⟩ | ⟨hb9, -⟩ | ⟨-, -, hb9, -⟩
  · have e := ix_eq hi hi2 (by omega) h1 g1
    subst e
    have e := ix_eq hj hj2 (by omega) h2 g2
    subst e
    have hz : z = w9 := by
      rcases hc with ⟨a1, a3⟩ | ⟨a1, a2, a3⟩
      · rcases gc with ⟨c1, c3⟩ | ⟨c1, c2, c3⟩
        · exact a3.trans c3.symm
        · exact a1.elim (fun q => absurd q c1) (fun q => absurd q c2)
      · rcases gc with ⟨c1, c3⟩ | ⟨c1, c2, c3⟩
        · exact c1.elim (fun q => absurd q a1) (fun q => absurd q a2)
        · exact a3.trans c3.symm
    exact ⟨hz, bn, by omega, _, _, _, _, _, _, _, _, _, _, _, _, _, _, hx, hm, hT, hS, hC⟩
  · exact absurd hb9 (fun q => q.elim (fun q => q i hi h1) (fun q => q j hj h2))
  · exact absurd hb9 hne
theorem a_advise_bad {cy : Nat → ClassId} {x m bn : Nat} {ad : Nat → Nat → Nat} {am : Nat → Nat} {nt nf nc nn : Nat} {T E Cu N KT KF KC F : Rw} {z w9 : Int32} {Ga Gb : GG} (hb : nt ≤ 6 ∧ nf ≤ 8) (hT : nvT nt T) (hS : SF nt nf E F) (hC : nvC nf nc Cu (nI bn)) (hbn : bn + 200 < 2 ^ 31) {t1 t2 : Int32} {e9 : String} (hP : RX cy x ad (nI bn) nt nf nc nn T E Cu N KT KF KC Ga ∧ ((e9 = "java/lang/IndexOutOfBoundsException" ∧ ((∀ i, i < nt → t1 ≠ nI i) ∨ (∀ i, i < nt → t2 ≠ nI i))) ∨ (e9 = "java/lang/IllegalArgumentException" ∧ (∃ i, i < nt ∧ t1 = nI i) ∧ (∃ i, i < nt ∧ t2 = nI i) ∧ t1 = t2))) (hM : (∃ i j, i < nt ∧ t1 = nI i ∧ j < nt ∧ t2 = nI j ∧ ¬ t1 = t2 ∧ (((T i 5 = 0 ∨ T j 5 = 0) ∧ w9 = -1) ∨ (¬ T i 5 = 0 ∧ ¬ T j 5 = 0 ∧ w9 = s_advise T i j (nI bn))) ∧ RM cy m am 0 (nI bn) nt nf nc nn T F Cu N Gb) ∨ (((∀ i, i < nt → t1 ≠ nI i) ∨ (∀ i, i < nt → t2 ≠ nI i)) ∧ RM cy m am 1 (nI bn) nt nf nc nn T F Cu N Gb) ∨ ((∃ i, i < nt ∧ t1 = nI i) ∧ (∃ i, i < nt ∧ t2 = nI i) ∧ t1 = t2 ∧ RM cy m am 2 (nI bn) nt nf nc nn T F Cu N Gb)) : LB cy x m Ga Gb bn (if e9 = "java/lang/IndexOutOfBoundsException" then 1 else (if e9 = "java/lang/IllegalArgumentException" then 2 else 0)) := by
  obtain ⟨hx, ⟨rfl, hb9⟩ | ⟨rfl, ⟨i, hi, h1⟩, ⟨j, hj, h2⟩, hb9⟩⟩ := hP
  · rw [if_pos rfl]
    rcases hM with ⟨i2, j2, hi2, g1, hj2, g2, -⟩ | ⟨-, hm⟩ | ⟨⟨i2, hi2, g1⟩, ⟨j2, hj2, g2⟩, -⟩
    · exact absurd hb9 (fun q => q.elim (fun q => q i2 hi2 g1) (fun q => q j2 hj2 g2))
    · exact ⟨_, _, _, _, _, _, _, _, _, _, _, _, _, _, hx, hm, hT, hS, hC⟩
    · exact absurd hb9 (fun q => q.elim (fun q => q i2 hi2 g1) (fun q => q j2 hj2 g2))
  · rw [if_neg (by decide), if_pos rfl]
    rcases hM with ⟨i2, j2, hi2, g1, hj2, g2, h9, -⟩ | ⟨h9, -⟩ | ⟨-, -, -, hm⟩
    · exact absurd hb9 h9
    · exact absurd h9 (fun q => q.elim (fun q => q i hi h1) (fun q => q j hj h2))
    · exact ⟨_, _, _, _, _, _, _, _, _, _, _, _, _, _, hx, hm, hT, hS, hC⟩
theorem a_flight_ok {cy : Nat → ClassId} {x m bn : Nat} {ad : Nat → Nat → Nat} {am : Nat → Nat} {nt nf nc nn : Nat} {T E Cu N KT KF KC F : Rw} {z w9 : Int32} {Ga Gb : GG} (hb : nt ≤ 6 ∧ nf ≤ 8) (hT : nvT nt T) (hS : SF nt nf E F) (hC : nvC nf nc Cu (nI bn)) (hbn : bn + 200 < 2 ^ 31) {t1 t2 : Int32} (hP : ∃ i j, i < nf ∧ t1 = nI i ∧ j < nt ∧ t2 = nI j ∧ (((∀ g, g < nt → E i 1 ≠ nI g) ∧ z = -1) ∨ ∃ g, g < nt ∧ E i 1 = nI g ∧ z = s_flight T j (nI bn) (s_at T g (nI bn))) ∧ RX cy x ad (nI bn) nt nf nc nn T E Cu N KT KF KC Ga) (hM : (∃ i j, i < nf ∧ t1 = nI i ∧ j < nt ∧ t2 = nI j ∧ ((¬ F i 0 = 1 ∧ w9 = -1) ∨ (F i 0 = 1 ∧ ∃ g, g < nt ∧ F i 1 = nI g ∧ w9 = s_flight T j (nI bn) (s_at T g ((nI bn) + 0)))) ∧ RM cy m am 0 (nI bn) nt nf nc nn T F Cu N Gb) ∨ (((∀ i, i < nf → t1 ≠ nI i) ∨ (∀ i, i < nt → t2 ≠ nI i)) ∧ RM cy m am 1 (nI bn) nt nf nc nn T F Cu N Gb)) : z = w9 ∧ ∃ bn', bn' ≤ bn + 200 ∧ LB cy x m Ga Gb bn' 0 := by
  obtain ⟨i, j, hi, h1, hj, h2, hc, hx⟩ := hP
  rcases hM with ⟨i2, j2, hi2, g1, hj2, g2, gc, hm⟩ | ⟨hb9, -⟩
  · have e := ix_eq hi hi2 (by omega) h1 g1
    subst e
    have e := ix_eq hj hj2 (by omega) h2 g2
    subst e
    have k2 := (hS.1 i hi).2.1
    have hz : z = w9 := by
      rcases hc with ⟨a1, a3⟩ | ⟨g, hg, a1, a3⟩
      · rcases gc with ⟨c1, c3⟩ | ⟨c0, g9, hg9, c1, c3⟩
        · exact a3.trans c3.symm
        · exact absurd (k2.trans c1) (a1 g9 hg9)
      · rcases gc with ⟨c1, c3⟩ | ⟨c0, g9, hg9, c1, c3⟩
        · have e9 := a1.symm.trans (k2.trans ((hS.2 i hi).2.1 c1))
          exact absurd e9 (nI_m1 (by omega))
        · have e := ix_eq hg hg9 (by omega) a1 (k2.trans c1)
          subst e
          rw [add0] at c3
          exact a3.trans c3.symm
    exact ⟨hz, bn, by omega, _, _, _, _, _, _, _, _, _, _, _, _, _, _, hx, hm, hT, hS, hC⟩
  · exact absurd hb9 (fun q => q.elim (fun q => q i hi h1) (fun q => q j hj h2))
theorem a_flight_bad {cy : Nat → ClassId} {x m bn : Nat} {ad : Nat → Nat → Nat} {am : Nat → Nat} {nt nf nc nn : Nat} {T E Cu N KT KF KC F : Rw} {z w9 : Int32} {Ga Gb : GG} (hb : nt ≤ 6 ∧ nf ≤ 8) (hT : nvT nt T) (hS : SF nt nf E F) (hC : nvC nf nc Cu (nI bn)) (hbn : bn + 200 < 2 ^ 31) {t1 t2 : Int32} {e9 : String} (hP : RX cy x ad (nI bn) nt nf nc nn T E Cu N KT KF KC Ga ∧ ((e9 = "java/lang/IndexOutOfBoundsException" ∧ ((∀ i, i < nf → t1 ≠ nI i) ∨ (∀ i, i < nt → t2 ≠ nI i))))) (hM : (∃ i j, i < nf ∧ t1 = nI i ∧ j < nt ∧ t2 = nI j ∧ ((¬ F i 0 = 1 ∧ w9 = -1) ∨ (F i 0 = 1 ∧ ∃ g, g < nt ∧ F i 1 = nI g ∧ w9 = s_flight T j (nI bn) (s_at T g ((nI bn) + 0)))) ∧ RM cy m am 0 (nI bn) nt nf nc nn T F Cu N Gb) ∨ (((∀ i, i < nf → t1 ≠ nI i) ∨ (∀ i, i < nt → t2 ≠ nI i)) ∧ RM cy m am 1 (nI bn) nt nf nc nn T F Cu N Gb)) : LB cy x m Ga Gb bn (if e9 = "java/lang/IndexOutOfBoundsException" then 1 else 0) := by
  obtain ⟨hx, rfl, hb9⟩ := hP
  rw [if_pos rfl]
  rcases hM with ⟨i2, j2, hi2, g1, hj2, g2, -⟩ | ⟨-, hm⟩
  · exact absurd hb9 (fun q => q.elim (fun q => q i2 hi2 g1) (fun q => q j2 hj2 g2))
  · exact ⟨_, _, _, _, _, _, _, _, _, _, _, _, _, _, hx, hm, hT, hS, hC⟩
theorem a_foresee_ok {cy : Nat → ClassId} {x m bn : Nat} {ad : Nat → Nat → Nat} {am : Nat → Nat} {nt nf nc nn : Nat} {T E Cu N KT KF KC F : Rw} {z w9 : Int32} {Ga Gb : GG} (hb : nt ≤ 6 ∧ nf ≤ 8) (hT : nvT nt T) (hS : SF nt nf E F) (hC : nvC nf nc Cu (nI bn)) (hbn : bn + 200 < 2 ^ 31) {n w : Int32} (hP : ∃ k, (1 ≤ n ∧ n ≤ 200) ∧ (4 ≤ w ∧ w ≤ 8) ∧ k ≤ 200 ∧ n = nI k ∧ z = s_countX (x_beats N nn nt nf nc ((nI bn), T, E, Cu, 0) k).1 nt nf nc (x_beats N nn nt nf nc ((nI bn), T, E, Cu, 0) k).2.1 (x_beats N nn nt nf nc ((nI bn), T, E, Cu, 0) k).2.2.1 (x_beats N nn nt nf nc ((nI bn), T, E, Cu, 0) k).2.2.2.1 w ∧ ∃ KT' KF' KC', RX cy x ad (nI bn) nt nf nc nn T E Cu N KT' KF' KC' Ga) (hM : (∃ k, (1 ≤ n ∧ n ≤ 200) ∧ (4 ≤ w ∧ w ≤ 8) ∧ k ≤ 200 ∧ n = nI k ∧ w9 = m_count (m_beats N nn nt nf nc ((nI bn), T, F, Cu) k).1 nt nf nc (m_beats N nn nt nf nc ((nI bn), T, F, Cu) k).2.1 (m_beats N nn nt nf nc ((nI bn), T, F, Cu) k).2.2.1 (m_beats N nn nt nf nc ((nI bn), T, F, Cu) k).2.2.2 w ∧ RM cy m am 0 (nI bn) nt nf nc nn T F Cu N Gb) ∨ (¬ (1 ≤ n ∧ n ≤ 200) ∧ RM cy m am 1 (nI bn) nt nf nc nn T F Cu N Gb) ∨ (((1 ≤ n ∧ n ≤ 200) ∧ ¬ (4 ≤ w ∧ w ≤ 8)) ∧ RM cy m am 2 (nI bn) nt nf nc nn T F Cu N Gb)) : z = w9 ∧ ∃ bn', bn' ≤ bn + 200 ∧ LB cy x m Ga Gb bn' 0 := by
  obtain ⟨k, hk, hw, hk2, hnk, rfl, KT', KF', KC', hx⟩ := hP
  rcases hM with ⟨k9, -, -, hk9, hnk9, rfl, hm⟩ | ⟨hb9, -⟩ | ⟨⟨-, hb9⟩, -⟩
  · have e := (nI_eq (a := k) (b := k9) (by omega) (by omega)).mp (hnk.symm.trans hnk9)
    subst e
    obtain ⟨T', E', F', C', κ', e1, e2, e3, e4, e5, e6⟩ := sim_beats (N := N) (nn := nn) (κ := 0) hb hT hS hC k (by omega)
    rw [e1, e2]
    exact ⟨count_eq e3 e4 ⟨Int32.le_trans (by decide) hw.1, hw.2⟩, bn, by omega, _, _, _, _, _, _, _, _, _, _, _, _, _, _, hx, hm, hT, hS, hC⟩
  · exact absurd hk hb9
  · exact absurd hw hb9
theorem a_foresee_bad {cy : Nat → ClassId} {x m bn : Nat} {ad : Nat → Nat → Nat} {am : Nat → Nat} {nt nf nc nn : Nat} {T E Cu N KT KF KC F : Rw} {z w9 : Int32} {Ga Gb : GG} (hb : nt ≤ 6 ∧ nf ≤ 8) (hT : nvT nt T) (hS : SF nt nf E F) (hC : nvC nf nc Cu (nI bn)) (hbn : bn + 200 < 2 ^ 31) {n w : Int32} {e9 : String} (hP : RX cy x ad (nI bn) nt nf nc nn T E Cu N KT KF KC Ga ∧ ((e9 = "java/lang/IllegalArgumentException" ∧ ¬ (1 ≤ n ∧ n ≤ 200)) ∨ (e9 = "java/lang/IndexOutOfBoundsException" ∧ (1 ≤ n ∧ n ≤ 200) ∧ ¬ (4 ≤ w ∧ w ≤ 8)))) (hM : (∃ k, (1 ≤ n ∧ n ≤ 200) ∧ (4 ≤ w ∧ w ≤ 8) ∧ k ≤ 200 ∧ n = nI k ∧ w9 = m_count (m_beats N nn nt nf nc ((nI bn), T, F, Cu) k).1 nt nf nc (m_beats N nn nt nf nc ((nI bn), T, F, Cu) k).2.1 (m_beats N nn nt nf nc ((nI bn), T, F, Cu) k).2.2.1 (m_beats N nn nt nf nc ((nI bn), T, F, Cu) k).2.2.2 w ∧ RM cy m am 0 (nI bn) nt nf nc nn T F Cu N Gb) ∨ (¬ (1 ≤ n ∧ n ≤ 200) ∧ RM cy m am 1 (nI bn) nt nf nc nn T F Cu N Gb) ∨ (((1 ≤ n ∧ n ≤ 200) ∧ ¬ (4 ≤ w ∧ w ≤ 8)) ∧ RM cy m am 2 (nI bn) nt nf nc nn T F Cu N Gb)) : LB cy x m Ga Gb bn (if e9 = "java/lang/IllegalArgumentException" then 1 else (if e9 = "java/lang/IndexOutOfBoundsException" then 2 else 0)) := by
  obtain ⟨hx, ⟨rfl, hb9⟩ | ⟨rfl, hk, hb9⟩⟩ := hP
  · rw [if_pos rfl]
    rcases hM with ⟨k, h1, -⟩ | ⟨-, hm⟩ | ⟨⟨h1, -⟩, -⟩
    · exact absurd h1 hb9
    · exact ⟨_, _, _, _, _, _, _, _, _, _, _, _, _, _, hx, hm, hT, hS, hC⟩
    · exact absurd h1 hb9
  · rw [if_neg (by decide), if_pos rfl]
    rcases hM with ⟨k, -, h1, -⟩ | ⟨h1, -⟩ | ⟨-, hm⟩
    · exact absurd h1 hb9
    · exact absurd hk h1
    · exact ⟨_, _, _, _, _, _, _, _, _, _, _, _, _, _, hx, hm, hT, hS, hC⟩
