/-! arm by arm: the class's end against the reference's end -/
def LB (cy : Nat → ClassId) (x m : Nat) (Ga Gb : GG) (bn : Nat) (th : Int32) : Prop := ∃ (ad : Nat → Nat → Nat) (am : Nat → Nat) (nt nf nc nn : Nat) (T E Cu N KT KF KC F : Rw), RX cy x ad (nI bn) nt nf nc nn T E Cu N KT KF KC Ga ∧ RM cy m am th (nI bn) nt nf nc nn T F Cu N Gb ∧ nvT nt T ∧ SF nt nf E F ∧ nvC nf nc Cu (nI bn)
theorem ix_eq {t : Int32} {i j n : Nat} (hi : i < n) (hj : j < n) (hn : n ≤ 1000) (h1 : t = nI i) (h2 : t = nI j) : i = j := (nI_eq (by omega) (by omega)).mp (h1.symm.trans h2)
theorem a_rig_ok {cy : Nat → ClassId} {x m bn : Nat} {ad : Nat → Nat → Nat} {am : Nat → Nat} {nt nf nc nn : Nat} {T E Cu N KT KF KC F : Rw} {z w9 : Int32} {Ga Gb : GG} (hb : nt ≤ 6 ∧ nf ≤ 8) (hT : nvT nt T) (hS : SF nt nf E F) (hC : nvC nf nc Cu (nI bn)) (hbn : bn + 200 < 2 ^ 31) {mid wid wt sg : Int32} (hP : okR mid wid wt sg ∧ nt < 6 ∧ z = nI nt ∧ ∃ ad', RX cy x ad' (nI bn) (nt + 1) nf nc nn (s_add T nt (rowT mid wid wt sg (nI bn))) E Cu N (s_add KT nt z0) KF KC Ga) (hM : (okR mid wid wt sg ∧ nt < 6 ∧ w9 = nI nt ∧ RM cy m am 0 (nI bn) (nt + 1) nf nc nn (s_add T nt (rowT mid wid wt sg (nI bn))) F Cu N Gb) ∨ (¬ okR mid wid wt sg ∧ RM cy m am 1 (nI bn) nt nf nc nn T F Cu N Gb) ∨ ((okR mid wid wt sg ∧ ¬ nt < 6) ∧ RM cy m am 2 (nI bn) nt nf nc nn T F Cu N Gb)) : z = w9 ∧ ∃ bn', bn' ≤ bn + 200 ∧ LB cy x m Ga Gb bn' 0 := by
  obtain ⟨hok, hn, rfl, ad', hx⟩ := hP
  rcases hM with ⟨-, -, rfl, hm⟩ | ⟨hb9, -⟩ | ⟨⟨-, hb9⟩, -⟩
  · exact ⟨rfl, bn, by omega, _, _, _, _, _, _, _, _, _, _, _, _, _, _, hx, hm, add_T hT hok, SF_T hS, hC⟩
  · exact absurd hok hb9
  · exact absurd hn hb9
theorem a_rig_bad {cy : Nat → ClassId} {x m bn : Nat} {ad : Nat → Nat → Nat} {am : Nat → Nat} {nt nf nc nn : Nat} {T E Cu N KT KF KC F : Rw} {z w9 : Int32} {Ga Gb : GG} (hb : nt ≤ 6 ∧ nf ≤ 8) (hT : nvT nt T) (hS : SF nt nf E F) (hC : nvC nf nc Cu (nI bn)) (hbn : bn + 200 < 2 ^ 31) {mid wid wt sg : Int32} {e9 : String} (hP : RX cy x ad (nI bn) nt nf nc nn T E Cu N KT KF KC Ga ∧ ((e9 = "java/lang/IllegalArgumentException" ∧ ¬ okR mid wid wt sg) ∨ (e9 = "java/lang/IllegalStateException" ∧ okR mid wid wt sg ∧ ¬ nt < 6))) (hM : (okR mid wid wt sg ∧ nt < 6 ∧ w9 = nI nt ∧ RM cy m am 0 (nI bn) (nt + 1) nf nc nn (s_add T nt (rowT mid wid wt sg (nI bn))) F Cu N Gb) ∨ (¬ okR mid wid wt sg ∧ RM cy m am 1 (nI bn) nt nf nc nn T F Cu N Gb) ∨ ((okR mid wid wt sg ∧ ¬ nt < 6) ∧ RM cy m am 2 (nI bn) nt nf nc nn T F Cu N Gb)) : LB cy x m Ga Gb bn (if e9 = "java/lang/IllegalArgumentException" then 1 else (if e9 = "java/lang/IllegalStateException" then 2 else 0)) := by
  obtain ⟨hx, ⟨rfl, hb9⟩ | ⟨rfl, hok, hb9⟩⟩ := hP
  · rw [if_pos rfl]
    rcases hM with ⟨hok, -⟩ | ⟨-, hm⟩ | ⟨⟨hok, -⟩, -⟩
    · exact absurd hok hb9
    · exact ⟨_, _, _, _, _, _, _, _, _, _, _, _, _, _, hx, hm, hT, hS, hC⟩
    · exact absurd hok hb9
  · rw [if_neg (by decide), if_pos rfl]
    rcases hM with ⟨-, h1, -⟩ | ⟨h1, -⟩ | ⟨-, hm⟩
    · exact absurd h1 hb9
    · exact absurd hok h1
    · exact ⟨_, _, _, _, _, _, _, _, _, _, _, _, _, _, hx, hm, hT, hS, hC⟩
theorem a_spread_ok {cy : Nat → ClassId} {x m bn : Nat} {ad : Nat → Nat → Nat} {am : Nat → Nat} {nt nf nc nn : Nat} {T E Cu N KT KF KC F : Rw} {z w9 : Int32} {Ga Gb : GG} (hb : nt ≤ 6 ∧ nf ≤ 8) (hT : nvT nt T) (hS : SF nt nf E F) (hC : nvC nf nc Cu (nI bn)) (hbn : bn + 200 < 2 ^ 31) {p0 p1 : Int32} (hP : okN p0 p1 ∧ nn < 3 ∧ z = nI (nn + 1) ∧ ∃ ad', RX cy x ad' (nI bn) nt nf nc (nn + 1) T E Cu (s_add N nn (rowN p0 p1)) KT KF KC Ga) (hM : (okN p0 p1 ∧ nn < 3 ∧ w9 = nI (nn + 1) ∧ RM cy m am 0 (nI bn) nt nf nc (nn + 1) T F Cu (s_add N nn (rowN p0 p1)) Gb) ∨ (¬ okN p0 p1 ∧ RM cy m am 1 (nI bn) nt nf nc nn T F Cu N Gb) ∨ (okN p0 p1 ∧ ¬ nn < 3 ∧ RM cy m am 2 (nI bn) nt nf nc nn T F Cu N Gb)) : z = w9 ∧ ∃ bn', bn' ≤ bn + 200 ∧ LB cy x m Ga Gb bn' 0 := by
  obtain ⟨hok, hn, rfl, ad', hx⟩ := hP
  rcases hM with ⟨-, -, rfl, hm⟩ | ⟨hb9, -⟩ | ⟨-, hb9, -⟩
  · exact ⟨rfl, bn, by omega, _, _, _, _, _, _, _, _, _, _, _, _, _, _, hx, hm, hT, hS, hC⟩
  · exact absurd hok hb9
  · exact absurd hn hb9
theorem a_spread_bad {cy : Nat → ClassId} {x m bn : Nat} {ad : Nat → Nat → Nat} {am : Nat → Nat} {nt nf nc nn : Nat} {T E Cu N KT KF KC F : Rw} {z w9 : Int32} {Ga Gb : GG} (hb : nt ≤ 6 ∧ nf ≤ 8) (hT : nvT nt T) (hS : SF nt nf E F) (hC : nvC nf nc Cu (nI bn)) (hbn : bn + 200 < 2 ^ 31) {p0 p1 : Int32} {e9 : String} (hP : RX cy x ad (nI bn) nt nf nc nn T E Cu N KT KF KC Ga ∧ ((e9 = "java/lang/IllegalArgumentException" ∧ ¬ okN p0 p1) ∨ (e9 = "java/lang/IllegalStateException" ∧ okN p0 p1 ∧ ¬ nn < 3))) (hM : (okN p0 p1 ∧ nn < 3 ∧ w9 = nI (nn + 1) ∧ RM cy m am 0 (nI bn) nt nf nc (nn + 1) T F Cu (s_add N nn (rowN p0 p1)) Gb) ∨ (¬ okN p0 p1 ∧ RM cy m am 1 (nI bn) nt nf nc nn T F Cu N Gb) ∨ (okN p0 p1 ∧ ¬ nn < 3 ∧ RM cy m am 2 (nI bn) nt nf nc nn T F Cu N Gb)) : LB cy x m Ga Gb bn (if e9 = "java/lang/IllegalArgumentException" then 1 else (if e9 = "java/lang/IllegalStateException" then 2 else 0)) := by
  obtain ⟨hx, ⟨rfl, hb9⟩ | ⟨rfl, hok, hb9⟩⟩ := hP
  · rw [if_pos rfl]
    rcases hM with ⟨hok, -⟩ | ⟨-, hm⟩ | ⟨hok, -⟩
    · exact absurd hok hb9
    · exact ⟨_, _, _, _, _, _, _, _, _, _, _, _, _, _, hx, hm, hT, hS, hC⟩
    · exact absurd hok hb9
  · rw [if_neg (by decide), if_pos rfl]
    rcases hM with ⟨-, h1, -⟩ | ⟨h1, -⟩ | ⟨-, -, hm⟩
    · exact absurd h1 hb9
    · exact absurd hok h1
    · exact ⟨_, _, _, _, _, _, _, _, _, _, _, _, _, _, hx, hm, hT, hS, hC⟩
theorem a_join_ok {cy : Nat → ClassId} {x m bn : Nat} {ad : Nat → Nat → Nat} {am : Nat → Nat} {nt nf nc nn : Nat} {T E Cu N KT KF KC F : Rw} {z w9 : Int32} {Ga Gb : GG} (hb : nt ≤ 6 ∧ nf ≤ 8) (hT : nvT nt T) (hS : SF nt nf E F) (hC : nvC nf nc Cu (nI bn)) (hbn : bn + 200 < 2 ^ 31) (hP : nf < 8 ∧ z = nI nf ∧ ∃ ad', RX cy x ad' (nI bn) nt (nf + 1) nc nn T (s_add E nf rowF) Cu N KT (s_add KF nf z0) KC Ga) (hM : (nf < 8 ∧ w9 = nI nf ∧ RM cy m am 0 (nI bn) nt (nf + 1) nc nn T (s_add F nf rowG) Cu N Gb) ∨ (¬ nf < 8 ∧ RM cy m am 1 (nI bn) nt nf nc nn T F Cu N Gb)) : z = w9 ∧ ∃ bn', bn' ≤ bn + 200 ∧ LB cy x m Ga Gb bn' 0 := by
  obtain ⟨hn, rfl, ad', hx⟩ := hP
  rcases hM with ⟨-, rfl, hm⟩ | ⟨hb9, -⟩
  · exact ⟨rfl, bn, by omega, _, _, _, _, _, _, _, _, _, _, _, _, _, _, hx, hm, hT, SF_join hS, nvC_join hC⟩
  · exact absurd hn hb9
theorem a_join_bad {cy : Nat → ClassId} {x m bn : Nat} {ad : Nat → Nat → Nat} {am : Nat → Nat} {nt nf nc nn : Nat} {T E Cu N KT KF KC F : Rw} {z w9 : Int32} {Ga Gb : GG} (hb : nt ≤ 6 ∧ nf ≤ 8) (hT : nvT nt T) (hS : SF nt nf E F) (hC : nvC nf nc Cu (nI bn)) (hbn : bn + 200 < 2 ^ 31) {e9 : String} (hP : RX cy x ad (nI bn) nt nf nc nn T E Cu N KT KF KC Ga ∧ ((e9 = "java/lang/IllegalStateException" ∧ ¬ nf < 8))) (hM : (nf < 8 ∧ w9 = nI nf ∧ RM cy m am 0 (nI bn) nt (nf + 1) nc nn T (s_add F nf rowG) Cu N Gb) ∨ (¬ nf < 8 ∧ RM cy m am 1 (nI bn) nt nf nc nn T F Cu N Gb)) : LB cy x m Ga Gb bn (if e9 = "java/lang/IllegalStateException" then 1 else 0) := by
  obtain ⟨hx, rfl, hb9⟩ := hP
  rw [if_pos rfl]
  rcases hM with ⟨h1, -⟩ | ⟨-, hm⟩
  · exact absurd h1 hb9
  · exact ⟨_, _, _, _, _, _, _, _, _, _, _, _, _, _, hx, hm, hT, hS, hC⟩
theorem a_weigh_ok {cy : Nat → ClassId} {x m bn : Nat} {ad : Nat → Nat → Nat} {am : Nat → Nat} {nt nf nc nn : Nat} {T E Cu N KT KF KC F : Rw} {z w9 : Int32} {Ga Gb : GG} (hb : nt ≤ 6 ∧ nf ≤ 8) (hT : nvT nt T) (hS : SF nt nf E F) (hC : nvC nf nc Cu (nI bn)) (hbn : bn + 200 < 2 ^ 31) {t p0 : Int32} (hP : ∃ i, i < nt ∧ t = nI i ∧ (0 ≤ p0 ∧ p0 ≤ 10) ∧ ¬ T i 5 = 0 ∧ z = T i 2 ∧ RX cy x ad (nI bn) nt nf nc nn (s_set (s_set T i 2 p0) i 6 (nI bn)) E Cu N KT KF KC Ga) (hM : (∃ i, i < nt ∧ t = nI i ∧ (0 ≤ p0 ∧ p0 ≤ 10) ∧ ¬ T i 5 = 0 ∧ w9 = T i 2 ∧ RM cy m am 0 (nI bn) nt nf nc nn (s_set (s_set T i 2 p0) i 6 (nI bn)) F Cu N Gb) ∨ ((∀ i, i < nt → t ≠ nI i) ∧ RM cy m am 1 (nI bn) nt nf nc nn T F Cu N Gb) ∨ ((∃ i, i < nt ∧ t = nI i) ∧ ¬ (0 ≤ p0 ∧ p0 ≤ 10) ∧ RM cy m am 2 (nI bn) nt nf nc nn T F Cu N Gb) ∨ ((∃ i, i < nt ∧ t = nI i ∧ (0 ≤ p0 ∧ p0 ≤ 10) ∧ T i 5 = 0) ∧ RM cy m am 3 (nI bn) nt nf nc nn T F Cu N Gb)) : z = w9 ∧ ∃ bn', bn' ≤ bn + 200 ∧ LB cy x m Ga Gb bn' 0 := by
  obtain ⟨i, hi, ht, hp, hw, rfl, hx⟩ := hP
  rcases hM with ⟨j, hj, ht2, -, -, rfl, hm⟩ | ⟨hb9, -⟩ | ⟨-, hb9, -⟩ | ⟨⟨j, hj, ht2, -, hb9⟩, -⟩
  · have e := ix_eq hi hj (by omega) ht ht2
    subst e
    exact ⟨rfl, bn, by omega, _, _, _, _, _, _, _, _, _, _, _, _, _, _, hx, hm, nvT_weigh hT hp, hS, hC⟩
  · exact absurd ht (hb9 i hi)
  · exact absurd hp hb9
  · have e := ix_eq hi hj (by omega) ht ht2
    subst e
    exact absurd hb9 hw
theorem a_weigh_bad {cy : Nat → ClassId} {x m bn : Nat} {ad : Nat → Nat → Nat} {am : Nat → Nat} {nt nf nc nn : Nat} {T E Cu N KT KF KC F : Rw} {z w9 : Int32} {Ga Gb : GG} (hb : nt ≤ 6 ∧ nf ≤ 8) (hT : nvT nt T) (hS : SF nt nf E F) (hC : nvC nf nc Cu (nI bn)) (hbn : bn + 200 < 2 ^ 31) {t p0 : Int32} {e9 : String} (hP : RX cy x ad (nI bn) nt nf nc nn T E Cu N KT KF KC Ga ∧ ((e9 = "java/lang/IndexOutOfBoundsException" ∧ (∀ i, i < nt → t ≠ nI i)) ∨ (e9 = "java/lang/IllegalArgumentException" ∧ (∃ i, i < nt ∧ t = nI i) ∧ ¬ (0 ≤ p0 ∧ p0 ≤ 10)) ∨ (e9 = "java/lang/IllegalStateException" ∧ ∃ i, i < nt ∧ t = nI i ∧ (0 ≤ p0 ∧ p0 ≤ 10) ∧ T i 5 = 0))) (hM : (∃ i, i < nt ∧ t = nI i ∧ (0 ≤ p0 ∧ p0 ≤ 10) ∧ ¬ T i 5 = 0 ∧ w9 = T i 2 ∧ RM cy m am 0 (nI bn) nt nf nc nn (s_set (s_set T i 2 p0) i 6 (nI bn)) F Cu N Gb) ∨ ((∀ i, i < nt → t ≠ nI i) ∧ RM cy m am 1 (nI bn) nt nf nc nn T F Cu N Gb) ∨ ((∃ i, i < nt ∧ t = nI i) ∧ ¬ (0 ≤ p0 ∧ p0 ≤ 10) ∧ RM cy m am 2 (nI bn) nt nf nc nn T F Cu N Gb) ∨ ((∃ i, i < nt ∧ t = nI i ∧ (0 ≤ p0 ∧ p0 ≤ 10) ∧ T i 5 = 0) ∧ RM cy m am 3 (nI bn) nt nf nc nn T F Cu N Gb)) : LB cy x m Ga Gb bn (if e9 = "java/lang/IndexOutOfBoundsException" then 1 else (if e9 = "java/lang/IllegalArgumentException" then 2 else (if e9 = "java/lang/IllegalStateException" then 3 else 0))) := by
  obtain ⟨hx, ⟨rfl, hb9⟩ | ⟨rfl, ⟨i, hi, ht⟩, hb9⟩ | ⟨rfl, i, hi, ht, hp, hb9⟩⟩ := hP
  · rw [if_pos rfl]
    rcases hM with ⟨j, hj, ht2, -⟩ | ⟨-, hm⟩ | ⟨⟨j, hj, ht2⟩, -⟩ | ⟨⟨j, hj, ht2, -⟩, -⟩
    · exact absurd ht2 (hb9 j hj)
    · exact ⟨_, _, _, _, _, _, _, _, _, _, _, _, _, _, hx, hm, hT, hS, hC⟩
    · exact absurd ht2 (hb9 j hj)
    · exact absurd ht2 (hb9 j hj)
  · rw [if_neg (by decide), if_pos rfl]
    rcases hM with ⟨j, hj, ht2, h1, -⟩ | ⟨h1, -⟩ | ⟨-, -, hm⟩ | ⟨⟨j, hj, ht2, h1, -⟩, -⟩
    · exact absurd h1 hb9
    · exact absurd ht (h1 i hi)
    · exact ⟨_, _, _, _, _, _, _, _, _, _, _, _, _, _, hx, hm, hT, hS, hC⟩
    · exact absurd h1 hb9
  · rw [if_neg (by decide), if_neg (by decide), if_pos rfl]
    rcases hM with ⟨j, hj, ht2, -, h1, -⟩ | ⟨h1, -⟩ | ⟨-, h1, -⟩ | ⟨-, hm⟩
    · have e := ix_eq hi hj (by omega) ht ht2
      subst e
      exact absurd hb9 h1
    · exact absurd ht (h1 i hi)
    · exact absurd hp h1
    · exact ⟨_, _, _, _, _, _, _, _, _, _, _, _, _, _, hx, hm, hT, hS, hC⟩
theorem a_mend_ok {cy : Nat → ClassId} {x m bn : Nat} {ad : Nat → Nat → Nat} {am : Nat → Nat} {nt nf nc nn : Nat} {T E Cu N KT KF KC F : Rw} {z w9 : Int32} {Ga Gb : GG} (hb : nt ≤ 6 ∧ nf ≤ 8) (hT : nvT nt T) (hS : SF nt nf E F) (hC : nvC nf nc Cu (nI bn)) (hbn : bn + 200 < 2 ^ 31) {t : Int32} (hP : ∃ i, i < nt ∧ t = nI i ∧ z = T i 4 ∧ RX cy x ad (nI bn) nt nf nc nn (s_set (s_set T i 4 0) i 5 1) E Cu N KT KF KC Ga) (hM : (∃ i, i < nt ∧ t = nI i ∧ w9 = T i 4 ∧ RM cy m am 0 (nI bn) nt nf nc nn (s_set (s_set T i 4 0) i 5 1) F Cu N Gb) ∨ ((∀ i, i < nt → t ≠ nI i) ∧ RM cy m am 1 (nI bn) nt nf nc nn T F Cu N Gb)) : z = w9 ∧ ∃ bn', bn' ≤ bn + 200 ∧ LB cy x m Ga Gb bn' 0 := by
  obtain ⟨i, hi, ht, rfl, hx⟩ := hP
  rcases hM with ⟨j, hj, ht2, rfl, hm⟩ | ⟨hb9, -⟩
  · have e := ix_eq hi hj (by omega) ht ht2
    subst e
    exact ⟨rfl, bn, by omega, _, _, _, _, _, _, _, _, _, _, _, _, _, _, hx, hm, nvT_mend hT, hS, hC⟩
  · exact absurd ht (hb9 i hi)
theorem a_mend_bad {cy : Nat → ClassId} {x m bn : Nat} {ad : Nat → Nat → Nat} {am : Nat → Nat} {nt nf nc nn : Nat} {T E Cu N KT KF KC F : Rw} {z w9 : Int32} {Ga Gb : GG} (hb : nt ≤ 6 ∧ nf ≤ 8) (hT : nvT nt T) (hS : SF nt nf E F) (hC : nvC nf nc Cu (nI bn)) (hbn : bn + 200 < 2 ^ 31) {t : Int32} {e9 : String} (hP : RX cy x ad (nI bn) nt nf nc nn T E Cu N KT KF KC Ga ∧ ((e9 = "java/lang/IndexOutOfBoundsException" ∧ (∀ i, i < nt → t ≠ nI i)))) (hM : (∃ i, i < nt ∧ t = nI i ∧ w9 = T i 4 ∧ RM cy m am 0 (nI bn) nt nf nc nn (s_set (s_set T i 4 0) i 5 1) F Cu N Gb) ∨ ((∀ i, i < nt → t ≠ nI i) ∧ RM cy m am 1 (nI bn) nt nf nc nn T F Cu N Gb)) : LB cy x m Ga Gb bn (if e9 = "java/lang/IndexOutOfBoundsException" then 1 else 0) := by
  obtain ⟨hx, rfl, hb9⟩ := hP
  rw [if_pos rfl]
  rcases hM with ⟨j, hj, ht2, -⟩ | ⟨-, hm⟩
  · exact absurd ht2 (hb9 j hj)
  · exact ⟨_, _, _, _, _, _, _, _, _, _, _, _, _, _, hx, hm, hT, hS, hC⟩
