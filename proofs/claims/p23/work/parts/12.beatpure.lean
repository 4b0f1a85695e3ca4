/-! what the class's beat does, word by word -/
def x_st (E : Rw) (f : Nat) (a n : Int32) : Rw := fun i k => if i = f then (match k with | 0 => a | 1 => n | _ => E f k) else E i k
def ixo (n : Nat) (v : Int32) : Option Nat := fst (fun i => decide (v = nI i)) n
theorem ixo_some {n i : Nat} {v : Int32} (hn : n ≤ 1000) (hi : i < n) (hv : v = nI i) : ixo n v = some i := by
  refine fst_some hi (by simp [hv]) (fun u hu => ?_)
  rw [decide_eq_false_iff_not]
  intro e
  have := (nI_eq (a := i) (b := u) (by omega) (by omega)).mp (hv.symm.trans e)
  omega
theorem ixo_none {n : Nat} {v : Int32} (h : ∀ i, i < n → v ≠ nI i) : ixo n v = none := fst_none (fun t ht => by simp [h t ht])
def x_go (T E Cu : Rw) (nt nf : Nat) (b : Int32) (k : Nat) : Option Rw :=
  match ixo nf (Cu k 1) with
  | none => none
  | some f => match ixo nt (E f 1) with
    | none => none
    | some t => some (s_row E f 2 (-1) (s_at T t b + Cu k 2) (b + Cu k 3))
def x_cue (T : Rw) (nt nf : Nat) (b : Int32) (k : Nat) (EC : Rw × Rw) : Rw × Rw :=
  if EC.2 k 0 = b then
    (match x_go T EC.1 EC.2 nt nf b k with
    | some E' => (E', s_set EC.2 k 4 1)
    | none => (EC.1, s_set EC.2 k 4 2))
  else EC
def x_fallc (N : Rw) (nn : Nat) (x : Int32) : Int32 := if s_net N nn x = true then 3 else 4
def x_land (N : Rw) (nn : Nat) (T : Rw) (nt nf : Nat) (b : Int32) (f : Nat) (EK : Rw × Int32) : Rw × Int32 :=
  if EK.1 f 0 = 2 ∧ EK.1 f 3 = b then
    (match fst (s_freeX T EK.1 nf b (EK.1 f 2)) nt with
    | some t => (s_set (x_st EK.1 f 1 (nI t)) f 4 (EK.1 f 4 + 1), EK.2 + 1)
    | none => (x_st EK.1 f (x_fallc N nn (EK.1 f 2)) (-1), EK.2))
  else EK
def x_drop (N : Rw) (nn : Nat) (n x : Int32) (f : Nat) (E : Rw) : Rw := if E f 0 = 1 ∧ E f 1 = n then x_st E f (x_fallc N nn x) (-1) else E
def x_wr (T E : Rw) (nf t : Nat) : Rw := s_set (s_set T t 4 (T t 4 + nI (s_hangE E nf (nI t)))) t 5 (if T t 4 + nI (s_hangE E nf (nI t)) ≤ T t 3 then 1 else 0)
def x_wear (N : Rw) (nn nf : Nat) (b : Int32) (t : Nat) (TE : Rw × Rw) : Rw × Rw :=
  if ¬ TE.1 t 5 = 0 ∧ s_p (TE.1 t 2) (b - TE.1 t 6) = 0 then
    (if x_wr TE.1 TE.2 nf t t 5 = 0 then (x_wr TE.1 TE.2 nf t, its (x_drop N nn (nI t) (s_at (x_wr TE.1 TE.2 nf t) t b)) TE.2 nf) else (x_wr TE.1 TE.2 nf t, TE.2))
  else TE
/-- beat, trapezes, flyers, cues, catches -/
abbrev Xb : Type := Int32 × Rw × Rw × Rw × Int32
def x_beat (N : Rw) (nn nt nf nc : Nat) (S : Xb) : Xb :=
  let EC := its (x_cue S.2.1 nt nf S.1) (S.2.2.1, S.2.2.2.1) nc
  let EK := its (x_land N nn S.2.1 nt nf S.1) (EC.1, 0) nf
  let TE := its (x_wear N nn nf S.1) (S.2.1, EK.1) nt
  (S.1 + 1, TE.1, TE.2, EC.2, S.2.2.2.2 + EK.2)
def x_beats (N : Rw) (nn nt nf nc : Nat) (S : Xb) (n : Nat) : Xb := its (fun _ S => x_beat N nn nt nf nc S) S n
def mixR (A B : Rw) (k : Nat) : Rw := fun i => if i < k then A i else B i
def kT (T : Rw) : Rw := fun i k => if k = 0 then T i 4 else T i 5
def kC (C : Rw) : Rw := fun i _ => C i 4
def tT (T KT : Rw) : Rw := fun i k => if k = 4 then KT i 0 else if k = 5 then KT i 1 else T i k
def tC (C KC : Rw) : Rw := fun i k => if k = 4 then KC i 0 else C i k
theorem wok_set {T : Rw} {nt t : Nat} {k : Nat} {v : Int32} (h : s_wok T nt) (hk : k ≠ 2) : s_wok (s_set T t k v) nt := by
  intro i hi
  obtain ⟨w, h1, h2⟩ := h i hi
  exact ⟨w, h1, by simp only [s_set]; rw [if_neg (by intro h9; exact hk h9.2.symm)]; exact h2⟩
theorem wok_wr {T E : Rw} {nt nf t : Nat} (h : s_wok T nt) : s_wok (x_wr T E nf t) nt := wok_set (wok_set h (by decide)) (by decide)
theorem nI_m1 {t : Nat} (h : t < 1000) : ¬ nI t = -1 := by
  intro e
  have h1 := congrArg Int32.toInt e
  rw [nI_toInt (by omega)] at h1
  have h2 : (-1 : Int32).toInt = -1 := by decide
  omega
theorem mix_c {α : Type} {j t : Nat} {A B : α} (h : j ≠ t) : (if j < t + 1 then A else B) = (if j < t then A else B) := by
  by_cases h1 : j < t
  · rw [if_pos h1, if_pos (by omega)]
  · rw [if_neg h1, if_neg (by omega)]
section RXU2
variable {cy : Nat → ClassId} {x : Nat} {ad : Nat → Nat → Nat} {b : Int32} {nt nf nc nn : Nat} {T E Cu N KT KF KC : Rw} {G : GG} {f k t : Nat}
theorem RXF_st {a n : Int32} (h : RX cy x ad b nt nf nc nn T E Cu N KT KF KC G) (hf : f < nf) : RX cy x ad b nt nf nc nn T (x_st E f a n) Cu N KT KF KC (g_up G (ad 2 f) (.inr (1, [.int a, .int n, .int (E f 2), .int (E f 3), .int (E f 4), .int (KF f 0), .int (KF f 1), .int (KF f 2), .int (KF f 3), .int (KF f 4)]))) := by
  have := RX.setF (E' := x_st E f a n) (KF' := KF) h hf (fun j hj hne => by simp [oF, x_st, hne])
  have e : oF (x_st E f a n) KF f = .inr (1, [.int a, .int n, .int (E f 2), .int (E f 3), .int (E f 4), .int (KF f 0), .int (KF f 1), .int (KF f 2), .int (KF f 3), .int (KF f 4)]) := by simp [oF, x_st]
  rw [e] at this; exact this
theorem RXF_fly {a c : Int32} (h : RX cy x ad b nt nf nc nn T E Cu N KT KF KC G) (hf : f < nf) : RX cy x ad b nt nf nc nn T (s_row E f 2 (-1) a c) Cu N KT KF KC (g_up G (ad 2 f) (.inr (1, [.int 2, .int (-1), .int a, .int c, .int (E f 4), .int (KF f 0), .int (KF f 1), .int (KF f 2), .int (KF f 3), .int (KF f 4)]))) := by
  have := RX.setF (E' := s_row E f 2 (-1) a c) (KF' := KF) h hf (fun j hj hne => by simp [oF, s_row, hne])
  have e : oF (s_row E f 2 (-1) a c) KF f = .inr (1, [.int 2, .int (-1), .int a, .int c, .int (E f 4), .int (KF f 0), .int (KF f 1), .int (KF f 2), .int (KF f 3), .int (KF f 4)]) := by simp [oF, s_row]
  rw [e] at this; exact this
theorem RXF_ca {v : Int32} (h : RX cy x ad b nt nf nc nn T E Cu N KT KF KC G) (hf : f < nf) : RX cy x ad b nt nf nc nn T (s_set E f 4 v) Cu N KT KF KC (g_up G (ad 2 f) (.inr (1, [.int (E f 0), .int (E f 1), .int (E f 2), .int (E f 3), .int v, .int (KF f 0), .int (KF f 1), .int (KF f 2), .int (KF f 3), .int (KF f 4)]))) := by
  have := RX.setF (E' := s_set E f 4 v) (KF' := KF) h hf (fun j hj hne => by simp [oF, s_set, hne])
  have e : oF (s_set E f 4 v) KF f = .inr (1, [.int (E f 0), .int (E f 1), .int (E f 2), .int (E f 3), .int v, .int (KF f 0), .int (KF f 1), .int (KF f 2), .int (KF f 3), .int (KF f 4)]) := by simp [oF, s_set]
  rw [e] at this; exact this
theorem RXC_st {v : Int32} (h : RX cy x ad b nt nf nc nn T E Cu N KT KF KC G) (hk : k < nc) : RX cy x ad b nt nf nc nn T E (s_set Cu k 4 v) N KT KF KC (g_up G (ad 3 k) (.inr (0, [.int (Cu k 0), .int (Cu k 1), .int (Cu k 2), .int (Cu k 3), .int v, .int (KC k 0)]))) := by
  have := RX.setC (C' := s_set Cu k 4 v) (KC' := KC) h hk (fun j hj hne => by simp [oC, s_set, hne])
  have e : oC (s_set Cu k 4 v) KC k = .inr (0, [.int (Cu k 0), .int (Cu k 1), .int (Cu k 2), .int (Cu k 3), .int v, .int (KC k 0)]) := by simp [oC, s_set]
  rw [e] at this; exact this
theorem RXT_wear (h : RX cy x ad b nt nf nc nn T E Cu N KT KF KC G) (ht : t < nt) : RX cy x ad b nt nf nc nn (x_wr T E nf t) E Cu N KT KF KC (g_up G (ad 1 t) (.inr (3, [.int (T t 0), .int (T t 1), .int (T t 3), .int (T t 2), .int (T t 6), .int (T t 4 + nI (s_hangE E nf (nI t))), .int (if T t 4 + nI (s_hangE E nf (nI t)) ≤ T t 3 then 1 else 0), .int (KT t 0), .int (KT t 1)]))) := by
  have := RX.setT (T' := x_wr T E nf t) (KT' := KT) h ht (fun j hj hne => by simp [oT, x_wr, s_set, hne])
  have e : oT (x_wr T E nf t) KT t = .inr (3, [.int (T t 0), .int (T t 1), .int (T t 3), .int (T t 2), .int (T t 6), .int (T t 4 + nI (s_hangE E nf (nI t))), .int (if T t 4 + nI (s_hangE E nf (nI t)) ≤ T t 3 then 1 else 0), .int (KT t 0), .int (KT t 1)]) := by simp [oT, x_wr, s_set]
  rw [e] at this; exact this
theorem RX.ext {T' E' C' KT' KF' KC' : Rw} (h : RX cy x ad b nt nf nc nn T E Cu N KT KF KC G) (h1 : ∀ i, i < nt → oT T' KT' i = oT T KT i) (h2 : ∀ i, i < nf → oF E' KF' i = oF E KF i) (h3 : ∀ i, i < nc → oC C' KC' i = oC Cu KC i) : RX cy x ad b nt nf nc nn T' E' C' N KT' KF' KC' G := by
  obtain ⟨a, ⟨k1, k2, k3, k4⟩, i, hb⟩ := h
  exact ⟨a, ⟨fun j hj => by rw [h1 j hj]; exact k1 j hj, fun j hj => by rw [h2 j hj]; exact k2 j hj, fun j hj => by rw [h3 j hj]; exact k3 j hj, k4⟩, i, hb⟩
theorem RX_keepT (h : RX cy x ad b nt nf nc nn T E Cu N (mixR (kT T) KT t) KF KC G) (ht : t < nt) : RX cy x ad b nt nf nc nn T E Cu N (mixR (kT T) KT (t + 1)) KF KC (g_up G (ad 1 t) (.inr (3, [.int (T t 0), .int (T t 1), .int (T t 3), .int (T t 2), .int (T t 6), .int (T t 4), .int (T t 5), .int (T t 4), .int (T t 5)]))) := by
  have := RX.setT (T' := T) (KT' := mixR (kT T) KT (t + 1)) h ht (fun j hj hne => by simp only [oT, mixR, mix_c hne])
  have e : oT T (mixR (kT T) KT (t + 1)) t = .inr (3, [.int (T t 0), .int (T t 1), .int (T t 3), .int (T t 2), .int (T t 6), .int (T t 4), .int (T t 5), .int (T t 4), .int (T t 5)]) := by simp [oT, mixR, kT]
  rw [e] at this; exact this
theorem RX_keepF (h : RX cy x ad b nt nf nc nn T E Cu N KT (mixR E KF f) KC G) (hf : f < nf) : RX cy x ad b nt nf nc nn T E Cu N KT (mixR E KF (f + 1)) KC (g_up G (ad 2 f) (.inr (1, [.int (E f 0), .int (E f 1), .int (E f 2), .int (E f 3), .int (E f 4), .int (E f 0), .int (E f 1), .int (E f 2), .int (E f 3), .int (E f 4)]))) := by
  have := RX.setF (E' := E) (KF' := mixR E KF (f + 1)) h hf (fun j hj hne => by simp only [oF, mixR, mix_c hne])
  have e : oF E (mixR E KF (f + 1)) f = .inr (1, [.int (E f 0), .int (E f 1), .int (E f 2), .int (E f 3), .int (E f 4), .int (E f 0), .int (E f 1), .int (E f 2), .int (E f 3), .int (E f 4)]) := by simp [oF, mixR]
  rw [e] at this; exact this
theorem RX_keepC (h : RX cy x ad b nt nf nc nn T E Cu N KT KF (mixR (kC Cu) KC k) G) (hk : k < nc) : RX cy x ad b nt nf nc nn T E Cu N KT KF (mixR (kC Cu) KC (k + 1)) (g_up G (ad 3 k) (.inr (0, [.int (Cu k 0), .int (Cu k 1), .int (Cu k 2), .int (Cu k 3), .int (Cu k 4), .int (Cu k 4)]))) := by
  have := RX.setC (C' := Cu) (KC' := mixR (kC Cu) KC (k + 1)) h hk (fun j hj hne => by simp only [oC, mixR, mix_c hne])
  have e : oC Cu (mixR (kC Cu) KC (k + 1)) k = .inr (0, [.int (Cu k 0), .int (Cu k 1), .int (Cu k 2), .int (Cu k 3), .int (Cu k 4), .int (Cu k 4)]) := by simp [oC, mixR, kC]
  rw [e] at this; exact this
theorem RX_backT (h : RX cy x ad b nt nf nc nn (mixR (tT T KT) T t) E Cu N KT KF KC G) (ht : t < nt) : RX cy x ad b nt nf nc nn (mixR (tT T KT) T (t + 1)) E Cu N KT KF KC (g_up G (ad 1 t) (.inr (3, [.int (mixR (tT T KT) T t t 0), .int (mixR (tT T KT) T t t 1), .int (mixR (tT T KT) T t t 3), .int (mixR (tT T KT) T t t 2), .int (mixR (tT T KT) T t t 6), .int (KT t 0), .int (KT t 1), .int (KT t 0), .int (KT t 1)]))) := by
  have := RX.setT (T' := mixR (tT T KT) T (t + 1)) (KT' := KT) h ht (fun j hj hne => by simp only [oT, mixR, mix_c hne])
  have e : oT (mixR (tT T KT) T (t + 1)) KT t = .inr (3, [.int (mixR (tT T KT) T t t 0), .int (mixR (tT T KT) T t t 1), .int (mixR (tT T KT) T t t 3), .int (mixR (tT T KT) T t t 2), .int (mixR (tT T KT) T t t 6), .int (KT t 0), .int (KT t 1), .int (KT t 0), .int (KT t 1)]) := by simp [oT, mixR, tT]
  rw [e] at this; exact this
theorem RX_backF (h : RX cy x ad b nt nf nc nn T (mixR KF E f) Cu N KT KF KC G) (hf : f < nf) : RX cy x ad b nt nf nc nn T (mixR KF E (f + 1)) Cu N KT KF KC (g_up G (ad 2 f) (.inr (1, [.int (KF f 0), .int (KF f 1), .int (KF f 2), .int (KF f 3), .int (KF f 4), .int (KF f 0), .int (KF f 1), .int (KF f 2), .int (KF f 3), .int (KF f 4)]))) := by
  have := RX.setF (E' := mixR KF E (f + 1)) (KF' := KF) h hf (fun j hj hne => by simp only [oF, mixR, mix_c hne])
  have e : oF (mixR KF E (f + 1)) KF f = .inr (1, [.int (KF f 0), .int (KF f 1), .int (KF f 2), .int (KF f 3), .int (KF f 4), .int (KF f 0), .int (KF f 1), .int (KF f 2), .int (KF f 3), .int (KF f 4)]) := by simp [oF, mixR]
  rw [e] at this; exact this
theorem RX_backC (h : RX cy x ad b nt nf nc nn T E (mixR (tC Cu KC) Cu k) N KT KF KC G) (hk : k < nc) : RX cy x ad b nt nf nc nn T E (mixR (tC Cu KC) Cu (k + 1)) N KT KF KC (g_up G (ad 3 k) (.inr (0, [.int (mixR (tC Cu KC) Cu k k 0), .int (mixR (tC Cu KC) Cu k k 1), .int (mixR (tC Cu KC) Cu k k 2), .int (mixR (tC Cu KC) Cu k k 3), .int (KC k 0), .int (KC k 0)]))) := by
  have := RX.setC (C' := mixR (tC Cu KC) Cu (k + 1)) (KC' := KC) h hk (fun j hj hne => by simp only [oC, mixR, mix_c hne])
  have e : oC (mixR (tC Cu KC) Cu (k + 1)) KC k = .inr (0, [.int (mixR (tC Cu KC) Cu k k 0), .int (mixR (tC Cu KC) Cu k k 1), .int (mixR (tC Cu KC) Cu k k 2), .int (mixR (tC Cu KC) Cu k k 3), .int (KC k 0), .int (KC k 0)]) := by simp [oC, mixR, tC]
  rw [e] at this; exact this
end RXU2
theorem mix0 (A B : Rw) : mixR A B 0 = B := by funext i; simp [mixR]
theorem mix_in {A B : Rw} {n i : Nat} (h : i < n) : mixR A B n i = A i := by simp [mixR, h]
section PGABS
variable {κ : Kx} {nL ce sl : Nat} {G : GG} {lv : LV} {pc : Nat} {st : List Value}
theorem g_abs {P : GG → Prop} (h : P G) (k : ∀ G', P G' → PG κ nL ce sl G' lv pc st) : PG κ nL ce sl G lv pc st := k G h
end PGABS
