abbrev yLw (nm : String) : MethodName := ⟨"CircusLinesLaw", nm, "([I)Z"⟩
/-! arrays of the law, over what was there -/
def GR (cy : Nat → ClassId) (q : Nat) (r : Nat → Nat) (n w : Nat) (f : Nat → Nat → Int32) (G : GG) : Prop := G q = some (oA (cy 5) n r n) ∧ (∀ i, i < n → G (r i) = some (.inl (cy 0, w, .inl (f i)))) ∧ ∀ i j, i < n → j < n → r i = r j → i = j
def AR (cy : Nat → ClassId) (q n : Nat) (f : Nat → Int32) (G : GG) : Prop := G q = some (.inl (cy 0, n, .inl f))
def A1 (cy : Nat → ClassId) (G0 : GG) (q n : Nat) (f : Nat → Int32) (G : GG) : Prop := sG G0 G ∧ G0 q = none ∧ AR cy q n f G
def A2 (cy : Nat → ClassId) (G0 : GG) (q : Nat) (r : Nat → Nat) (n w : Nat) (f : Nat → Nat → Int32) (G : GG) : Prop := sG G0 G ∧ (∀ i, i < n → G0 (r i) = none) ∧ GR cy q r n w f G
def A3 (cy : Nat → ClassId) (G0 : GG) (q : Nat) (r : Nat → Nat) (n w : Nat) (f : Nat → Nat → Int32) (q2 n2 : Nat) (f2 : Nat → Int32) (G : GG) : Prop := A2 cy G0 q r n w f G ∧ A1 cy G0 q2 n2 f2 G ∧ ∀ i, i < n → r i ≠ q2
section AA
variable {cy : Nat → ClassId} {G0 G : GG} {q q2 n n2 w i : Nat} {r : Nat → Nat} {f : Nat → Nat → Int32} {f1 f2 v : Nat → Int32}
theorem sG.tr {G1 G2 G3 : GG} (h : sG G1 G2) (h2 : sG G2 G3) : sG G1 G3 := fun a e ha => h2 a e (h a e ha)
theorem GR.up {G2 : GG} (h : GR cy q r n w f G) (hs : sG G G2) : GR cy q r n w f G2 := ⟨hs _ _ h.1, fun i hi => hs _ _ (h.2.1 i hi), h.2.2⟩
theorem AR.up {G2 : GG} (h : AR cy q n f1 G) (hs : sG G G2) : AR cy q n f1 G2 := hs _ _ h
theorem A1.put (h : A1 cy G0 q n f1 G) : A1 cy G0 q n v (g_up G q (.inl (cy 0, n, .inl v))) := ⟨h.1.up h.2.1, h.2.1, g_up_self ..⟩
theorem A1.put' (h : A1 cy G0 q n f1 G) (e : f1 = v) : A1 cy G0 q n v G := e ▸ h
theorem A1.fresh (hq : G0 q = none) : A1 cy G0 q n (fun _ => 0) (g_up G0 q (.inl (cy 0, n, .inl (fun _ => 0)))) := ⟨(sG.rf _).up hq, hq, g_up_self ..⟩
theorem oA_ne {c c' : ClassId} {n m k : Nat} {r : Nat → Nat} {f : Nat → Int32} : oA c n r m ≠ .inl (c', k, .inl f) := by
  intro e; unfold oA at e; injection e with e1; injection e1 with _ e2; injection e2 with _ e3; cases e3
theorem GR.put (h : GR cy q r n w f G) (hi : i < n) : GR cy q r n w (fun j => if j = i then v else f j) (g_up G (r i) (.inl (cy 0, w, .inl v))) := by
  obtain ⟨h1, h2, h3⟩ := h
  refine ⟨g_oth h1 (h2 i hi) oA_ne, fun j hj => ?_, h3⟩
  by_cases e : j = i
  · subst e; rw [g_up_self]; simp
  · rw [g_up_ne (fun z => e (h3 j i hj hi z)), h2 j hj]; simp [e]
theorem A2.put (h : A2 cy G0 q r n w f G) (hi : i < n) : A2 cy G0 q r n w (fun j => if j = i then v else f j) (g_up G (r i) (.inl (cy 0, w, .inl v))) := ⟨h.1.up (h.2.1 i hi), h.2.1, h.2.2.put hi⟩
theorem A3.put (h : A3 cy G0 q r n w f q2 n2 f2 G) (hi : i < n) : A3 cy G0 q r n w (fun j => if j = i then v else f j) q2 n2 f2 (g_up G (r i) (.inl (cy 0, w, .inl v))) := by
  obtain ⟨h1, h2, h3⟩ := h
  refine ⟨h1.put hi, ⟨h2.1.up (h1.2.1 i hi), h2.2.1, ?_⟩, h3⟩
  show g_up G (r i) _ q2 = _
  rw [g_up_ne (Ne.symm (h3 i hi))]; exact h2.2.2
theorem A2.cg {f' : Nat → Nat → Int32} (h : A2 cy G0 q r n w f G) (e : f = f') : A2 cy G0 q r n w f' G := e ▸ h
theorem A3.cg {f' : Nat → Nat → Int32} (h : A3 cy G0 q r n w f q2 n2 f2 G) (e : f = f') : A3 cy G0 q r n w f' q2 n2 f2 G := e ▸ h
theorem A3.put2 (h : A3 cy G0 q r n w f q2 n2 f2 G) : A3 cy G0 q r n w f q2 n2 v (g_up G q2 (.inl (cy 0, n2, .inl v))) := by
  obtain ⟨h1, h2, h3⟩ := h
  refine ⟨⟨h1.1.up h2.2.1, h1.2.1, ⟨g_oth h1.2.2.1 h2.2.2 oA_ne, fun i hi => ?_, h1.2.2.2.2⟩⟩, h2.put, h3⟩
  rw [g_up_ne (h3 i hi)]; exact h1.2.2.2.1 i hi
end AA
/-! rows filled one behind another -/
def gR (k w W : Nat) (tt : Nat → Nat → Int32) : Nat → Nat → Int32 := fun i => if i = k then cut w (tt k) else cut (if i < k then W else 0) (tt i)
theorem cut_s {f : Nat → Int32} {k : Nat} {v : Int32} (h : v = f k) : upd (cut k f) k v = cut (k + 1) f := by
  subst h
  funext j
  unfold upd cut
  by_cases e : j = k
  · subst e; rw [if_pos rfl, if_pos (Nat.lt_succ_self j)]
  · rw [if_neg e]
    by_cases h1 : j < k
    · rw [if_pos h1, if_pos (by omega)]
    · rw [if_neg h1, if_neg (by omega)]
theorem cut_z {f : Nat → Int32} : cut 0 f = fun _ => 0 := by
  funext j
  unfold cut
  rw [if_neg (Nat.not_lt_zero j)]
theorem gR_s {k w W : Nat} {tt : Nat → Nat → Int32} {u : Nat → Int32} (h : u = cut (w + 1) (tt k)) : (fun i => if i = k then u else gR k w W tt i) = gR k (w + 1) W tt := by
  subst h
  funext i
  unfold gR
  by_cases e : i = k
  · rw [if_pos e, if_pos e]
  · rw [if_neg e, if_neg e, if_neg e]
theorem gR_n {k W : Nat} {tt : Nat → Nat → Int32} : gR k W W tt = gR (k + 1) 0 W tt := by
  funext i
  unfold gR
  by_cases e : i = k
  · subst e
    rw [if_pos rfl, if_neg (by omega), if_pos (Nat.lt_succ_self i)]
  · rw [if_neg e]
    by_cases e2 : i = k + 1
    · subst e2
      rw [if_neg (by omega), if_pos rfl]
    · rw [if_neg e2]
      by_cases h : i < k
      · rw [if_pos h, if_pos (by omega)]
      · rw [if_neg h, if_neg (by omega)]
theorem gR_0 {W : Nat} {tt : Nat → Nat → Int32} : gR 0 0 W tt = fun _ _ => 0 := by
  funext i
  unfold gR
  by_cases e : i = 0
  · rw [if_pos e, cut_z]
  · rw [if_neg e, if_neg (Nat.not_lt_zero i), cut_z]
theorem gR_at {k w W : Nat} {tt : Nat → Nat → Int32} : gR k w W tt k = cut w (tt k) := if_pos rfl
theorem gR_e {n W i : Nat} {tt : Nat → Nat → Int32} (h : i < n) : gR n 0 W tt i = cut W (tt i) := by
  unfold gR
  rw [if_neg (by omega), if_pos h]
theorem GR.e {cy : Nat → ClassId} {q n w W : Nat} {r : Nat → Nat} {tt : Nat → Nat → Int32} {G : GG} (h : GR cy q r n w (gR n 0 W tt) G) : GR cy q r n w (fun i => cut W (tt i)) G := ⟨h.1, fun i hi => by rw [h.2.1 i hi, gR_e hi], h.2.2⟩

theorem y_m0 {T E : Rw} {nf k : Nat} {b : Int32} (h : T k 5 = 0 ∨ T k 5 = 1) (c : ¬ s_toldX T E nf b k 5 = 1) : (if T k 5 = 0 then (-1 : Int32) else 0) = -1 := by
  have e : s_toldX T E nf b k 5 = if T k 5 = 0 then 0 else 1 := rfl
  rw [e] at c
  rcases h with h | h
  · rw [if_pos h]
  · rw [h] at c; exact absurd rfl c
theorem y_m1 {T E : Rw} {nf k : Nat} {b : Int32} (h : T k 5 = 0 ∨ T k 5 = 1) (c : s_toldX T E nf b k 5 = 1) : (if T k 5 = 0 then (-1 : Int32) else 0) = 0 := by
  have e : s_toldX T E nf b k 5 = if T k 5 = 0 then 0 else 1 := rfl
  rw [e] at c
  rcases h with h | h
  · rw [h] at c; exact absurd c (by decide)
  · rw [h]; decide
set_option maxHeartbeats 4000000 in
set_option maxRecDepth 100000 in
theorem t_p1 {nm : String} {κ : Kx} {l : Launch} {D : va_G} {cy : Nat → ClassId} {G G2 G3 : GG} {sb x s bn : Nat} {rt : Nat → Nat} {rd : Nat → Nat → Nat} {nt nf nc nn : Nat} {T E Cu N : Rw} {tm v4 : Int32} {ce sl : Nat} (C : g_OK κ l D cy (yLw nm) 24 code room_1 (some .boolean)) (X : g_XX κ) (hL : LX cy x (nI bn) nt nf nc nn T E Cu N G2 G3 G) (hv : vI bn nt nf nc T E Cu) (hbn : bn < 50) (hce : ce ≤ 600000) (hsl : sl ≤ 6000000) (hS : RS cy s rt rd (nI bn) nt nf nc nn (zT (nI bn) T) (zF (nI bn) E) Cu N G2) (kk : ∀ (G' G3' : GG) (qr : Nat) (rr : Nat → Nat) (qt : Nat), sG G3 G3' → LX cy x (nI bn) nt nf nc nn T E Cu N G2 G3' G' → GR cy qr rr nt 8 (fun i => cut 8 ((fun i j => s_toldX T E nf (nI bn) i (nI j)) i)) G3' → AR cy qt nt (cut nt (fun j => s_at T j (nI bn + 1))) G3' → PG κ 24 (ce + 80) (sl + 500) G' [(0, .ref sb), (1, .ref x), (2, .ref s), (3, .int tm), (4, .int v4), (5, .int (nI nt)), (6, .int (nI nf)), (7, .int (nI nc)), (8, .int (nI bn)), (9, .ref qr), (10, .ref qt)] 196 []) : PG κ 24 ce sl G [(0, .ref sb), (1, .ref x), (2, .ref s), (3, .int tm), (4, .int v4)] 63 [] := by
  have hbd := LX.bd hL
  have hwok := hv.wok
  have hb5 := hv.b5
  refine g_seg [(63, .aload_n 1, 1), (64, .iconst 1, 1)] 65 [(0, .ref sb), (1, .ref x), (2, .ref s), (3, .int tm), (4, .int v4)] [.int 1, .ref x] C (by decide +kernel) rfl ?_
  refine g_rK (pc := 65) C X hL (by decide) q204 ⟨⟨(Nat.le_of_ble_eq_true rfl), (Nat.le_of_ble_eq_true rfl)⟩, (by show ce + 1 ≤ 693133; omega), (by show sl + 6 ≤ 7022224; omega)⟩ (Nat.le_of_ble_eq_true rfl) (by decide +kernel) (fun G21 hL22 => ?_)
  rw [show (s_countX (nI bn) nt nf nc T E Cu 1 : Int32) = nI nt from rfl]
  refine g_seg [(68, .istore 5, 2), (70, .aload_n 1, 1), (71, .iconst 3, 1)] 72 [(5, .int (nI nt)), (0, .ref sb), (1, .ref x), (2, .ref s), (3, .int tm), (4, .int v4)] [.int 3, .ref x] C (by decide +kernel) rfl ?_
  refine g_rK (pc := 72) C X hL22 (by decide) q204 ⟨⟨(Nat.le_of_ble_eq_true rfl), (Nat.le_of_ble_eq_true rfl)⟩, (by show (ce + 1) + 1 ≤ 693133; omega), (by show (sl + 6) + 6 ≤ 7022224; omega)⟩ (Nat.le_of_ble_eq_true rfl) (by decide +kernel) (fun G23 hL24 => ?_)
  rw [show (s_countX (nI bn) nt nf nc T E Cu 3 : Int32) = nI nf from rfl]
  refine g_seg [(75, .istore 6, 2), (77, .aload_n 2, 1)] 78 [(6, .int (nI nf)), (5, .int (nI nt)), (0, .ref sb), (1, .ref x), (2, .ref s), (3, .int tm), (4, .int v4)] [.ref s] C (by decide +kernel) rfl ?_
  refine g_getf (pc := 78) (k := 2) (v := .ref (rt 2)) C fl_L_65 ((LX.rs hL24 hS).1.1) rfl (by decide +kernel) ?_
  refine g_alenI (pc := 81) C ((LX.rs hL24 hS).1.2.2.2.1) (by decide +kernel) ?_
  refine g_seg [(82, .istore 7, 2), (84, .aload_n 1, 1), (85, .iconst 0, 1)] 86 [(7, .int (nI nc)), (6, .int (nI nf)), (5, .int (nI nt)), (0, .ref sb), (1, .ref x), (2, .ref s), (3, .int tm), (4, .int v4)] [.int 0, .ref x] C (by decide +kernel) rfl ?_
  refine g_rK (pc := 86) C X hL24 (by decide) q204 ⟨⟨(Nat.le_of_ble_eq_true rfl), (Nat.le_of_ble_eq_true rfl)⟩, (by show ((ce + 1) + 1) + 1 ≤ 693133; omega), (by show ((sl + 6) + 6) + 6 ≤ 7022224; omega)⟩ (Nat.le_of_ble_eq_true rfl) (by decide +kernel) (fun G25 hL26 => ?_)
  rw [show (s_countX (nI bn) nt nf nc T E Cu 0 : Int32) = nI bn from rfl]
  refine g_seg [(89, .istore 8, 2), (91, .iload 5, 2), (93, .bipush 8, 2)] 95 [(8, .int (nI bn)), (7, .int (nI nc)), (6, .int (nI nf)), (5, .int (nI nt)), (0, .ref sb), (1, .ref x), (2, .ref s), (3, .int tm), (4, .int v4)] [.int 8, .int (nI nt)] C (by decide +kernel) rfl ?_
  refine g_mnew (pc := 95) (N := nt) (K := 8) C q639 q394 rfl rfl (by omega) (by decide) (by show (((ce + 1) + 1) + 1) + (1 + nt) ≤ 693133; omega) (by show (((sl + 6) + 6) + 6) + (nt + nt * 8) ≤ 7022224; omega) (by decide +kernel) (fun qr rr G4 hs4 hq4 hr4 hi4 ho4 hrow4 => ?_)
  have hL4 := LX.grow hL26 hs4
  have hA4 : A2 cy G3 qr rr nt 8 (gR 0 0 8 (fun i j => s_toldX T E nf (nI bn) i (nI j))) (gG G25 G3 G4) := ⟨fun a e h9 => gG_old (LX.s3 hL26) h9, fun i hi => LX.g3n hL26 (hr4 i hi), ⟨by rw [gG_new hq4]; exact ho4, fun i hi => by rw [gG_new (hr4 i hi), gR_0]; exact hrow4 i hi, hi4⟩⟩
  refine g_abs (P := fun G9 => ∃ G39 : GG, LX cy x (nI bn) nt nf nc nn T E Cu N G2 G39 G9 ∧ A2 cy G3 qr rr nt 8 (gR 0 0 8 (fun i j => s_toldX T E nf (nI bn) i (nI j))) G39) ⟨_, hL4, hA4⟩ (fun G27 hg => ?_)
  obtain ⟨G328, hL29, hw30⟩ := hg
  refine g_seg [(99, .astore 9, 2), (101, .iload 5, 2)] 103 [(9, .ref qr), (8, .int (nI bn)), (7, .int (nI nc)), (6, .int (nI nf)), (5, .int (nI nt)), (0, .ref sb), (1, .ref x), (2, .ref s), (3, .int tm), (4, .int v4)] [.int (nI nt)] C (by decide +kernel) rfl ?_
  refine g_newi (pc := 103) (N' := nt) C q394 (nI_ge0 (by omega)) (nI_clamp (by omega)) (by omega) (by show ((((ce + 1) + 1) + 1) + 1 + nt) + 1 ≤ 693133; omega) (by show ((((sl + 6) + 6) + 6) + nt + nt * 8) + nt ≤ 7022224; omega) (by decide +kernel) (fun qt hqt => ?_)
  have hn7 := LX.g3n hL29 hqt
  have hA7 : A3 cy G3 qr rr nt 8 (gR 0 0 8 (fun i j => s_toldX T E nf (nI bn) i (nI j))) qt nt (cut 0 (fun j => s_at T j (nI bn + 1))) (g_up G328 qt (.inl (cy 0, nt, .inl (fun _ => 0)))) := ⟨⟨hw30.1.up (hw30.1.none hn7) |> fun h9 => h9, hw30.2.1, ⟨by rw [g_up_ne (g_fresh hn7 hw30.2.2.1)]; exact hw30.2.2.1, fun i hi => by rw [g_up_ne (g_fresh hn7 (hw30.2.2.2.1 i hi))]; exact hw30.2.2.2.1 i hi, hw30.2.2.2.2⟩⟩, ⟨hw30.1.up (hw30.1.none hn7), hw30.1.none hn7, by rw [cut_z]; exact g_up_self ..⟩, fun i hi => g_fresh hn7 (hw30.2.2.2.1 i hi)⟩
  refine g_abs (P := fun G9 => ∃ G39 : GG, LX cy x (nI bn) nt nf nc nn T E Cu N G2 G39 G9 ∧ A3 cy G3 qr rr nt 8 (gR 0 0 8 (fun i j => s_toldX T E nf (nI bn) i (nI j))) qt nt (cut 0 (fun j => s_at T j (nI bn + 1))) G39) ⟨_, LX.n3 hL29 hqt, hA7⟩ (fun G31 hg => ?_)
  obtain ⟨G332, hL33, hw34⟩ := hg
  refine g_seg [(105, .astore 10, 2), (107, .iconst 0, 1), (108, .istore 11, 2)] 110 [(11, .int 0), (10, .ref qt), (9, .ref qr), (8, .int (nI bn)), (7, .int (nI nc)), (6, .int (nI nf)), (5, .int (nI nt)), (0, .ref sb), (1, .ref x), (2, .ref s), (3, .int tm), (4, .int v4)] [] C (by decide +kernel) rfl ?_
  refine g_widen (k := ((((((ce + 1) + 1) + 1) + 1 + nt) + 1) + 10 * 0)) (n := ((((((sl + 6) + 6) + 6) + nt + nt * 8) + nt) + 60 * 0)) (by show (((((ce + 1) + 1) + 1) + 1 + nt) + 1) ≤ ((((((ce + 1) + 1) + 1) + 1 + nt) + 1) + 10 * 0); omega) (by show (((((sl + 6) + 6) + 6) + nt + nt * 8) + nt) ≤ ((((((sl + 6) + 6) + 6) + nt + nt * 8) + nt) + 60 * 0); omega) ?_
  refine g_subp [7, 8, 9, 10, 11, 6, 5, 4, 3, 2, 1, 0] (lv' := [(0, .ref sb), (1, .ref x), (2, .ref s), (3, .int tm), (4, .int v4), (5, .int (nI nt)), (6, .int (nI nf)), (7, .int (nI nc)), (8, .int (nI bn)), (9, .ref qr), (10, .ref qt), (11, .int 0)]) rfl ?_
  have lp35 : ∀ (m k : Nat) (G1 G31 : GG) (xk : Int32), nt + 1 ≤ k + m → k ≤ nt → xk = nI k → LX cy x (nI bn) nt nf nc nn T E Cu N G2 G31 G1 → A3 cy G3 qr rr nt 8 (gR k 0 8 (fun i j => s_toldX T E nf (nI bn) i (nI j))) qt nt (cut k (fun j => s_at T j (nI bn + 1))) G31 → PG κ 24 ((((((ce + 1) + 1) + 1) + 1 + nt) + 1) + 10 * k) ((((((sl + 6) + 6) + 6) + nt + nt * 8) + nt) + 60 * k) G1 [(0, .ref sb), (1, .ref x), (2, .ref s), (3, .int tm), (4, .int v4), (5, .int (nI nt)), (6, .int (nI nf)), (7, .int (nI nc)), (8, .int (nI bn)), (9, .ref qr), (10, .ref qt), (11, .int xk)] 110 [] := by
    intro m
    induction m with
    | zero => intro k G1 G31 xk h1 h2; intros; exact absurd h1 (by omega)
    | succ m ih =>
      intro k G1 G31 xk hm hk hx hL1 hw1
      refine g_seg [(110, .iload 11, 2), (112, .iload 5, 2)] 114 [(0, .ref sb), (1, .ref x), (2, .ref s), (3, .int tm), (4, .int v4), (5, .int (nI nt)), (6, .int (nI nf)), (7, .int (nI nc)), (8, .int (nI bn)), (9, .ref qr), (10, .ref qt), (11, .int xk)] [.int (nI nt), .int xk] C (by decide +kernel) rfl ?_
      refine g_icmp_ge (pc := 114) (off := 82) 196 C (by decide +kernel) (by decide) (fun c36 => ?_) (fun c36 => ?_)
      · have hk8 : k = nt := by have := lp_ge (n := nt) hx (by omega) (by omega) c36; omega
        refine g_subp [0, 1, 2, 3, 4, 5, 6, 7, 8, 9, 10] (lv' := [(0, .ref sb), (1, .ref x), (2, .ref s), (3, .int tm), (4, .int v4), (5, .int (nI nt)), (6, .int (nI nf)), (7, .int (nI nc)), (8, .int (nI bn)), (9, .ref qr), (10, .ref qt)]) rfl ?_
        rw [hk8] at hw1
        refine g_widen (k := (ce + 80)) (n := (sl + 500)) (by show ((((((ce + 1) + 1) + 1) + 1 + nt) + 1) + 10 * k) ≤ (ce + 80); omega) (by show ((((((sl + 6) + 6) + 6) + nt + nt * 8) + nt) + 60 * k) ≤ (sl + 500); omega) ?_
        exact kk _ _ qr rr qt hw1.1.1 hL1 (GR.e hw1.1.2.2) hw1.2.1.2.2
      · have hk8 : k < nt := lp_lt (n := nt) hx (by omega) (by omega) c36
        refine g_seg [(117, .iconst 0, 1), (118, .istore 12, 2)] 120 [(12, .int 0), (0, .ref sb), (1, .ref x), (2, .ref s), (3, .int tm), (4, .int v4), (5, .int (nI nt)), (6, .int (nI nf)), (7, .int (nI nc)), (8, .int (nI bn)), (9, .ref qr), (10, .ref qt), (11, .int xk)] [] C (by decide +kernel) rfl ?_
        refine g_widen (k := (((((((ce + 1) + 1) + 1) + 1 + nt) + 1) + 10 * k) + 1 * 0)) (n := (((((((sl + 6) + 6) + 6) + nt + nt * 8) + nt) + 60 * k) + 6 * 0)) (by show ((((((ce + 1) + 1) + 1) + 1 + nt) + 1) + 10 * k) ≤ (((((((ce + 1) + 1) + 1) + 1 + nt) + 1) + 10 * k) + 1 * 0); omega) (by show ((((((sl + 6) + 6) + 6) + nt + nt * 8) + nt) + 60 * k) ≤ (((((((sl + 6) + 6) + 6) + nt + nt * 8) + nt) + 60 * k) + 6 * 0); omega) ?_
        refine g_subp [1, 2, 3, 4, 5, 6, 7, 8, 9, 10, 11, 12, 0] (lv' := [(0, .ref sb), (1, .ref x), (2, .ref s), (3, .int tm), (4, .int v4), (5, .int (nI nt)), (6, .int (nI nf)), (7, .int (nI nc)), (8, .int (nI bn)), (9, .ref qr), (10, .ref qt), (11, .int xk), (12, .int 0)]) rfl ?_
        have lp37 : ∀ (m2 k2 : Nat) (G12 G312 : GG) (x2 : Int32), 8 + 1 ≤ k2 + m2 → k2 ≤ 8 → x2 = nI k2 → LX cy x (nI bn) nt nf nc nn T E Cu N G2 G312 G12 → A3 cy G3 qr rr nt 8 (gR k k2 8 (fun i j => s_toldX T E nf (nI bn) i (nI j))) qt nt (cut k (fun j => s_at T j (nI bn + 1))) G312 → PG κ 24 (((((((ce + 1) + 1) + 1) + 1 + nt) + 1) + 10 * k) + 1 * k2) (((((((sl + 6) + 6) + 6) + nt + nt * 8) + nt) + 60 * k) + 6 * k2) G12 [(0, .ref sb), (1, .ref x), (2, .ref s), (3, .int tm), (4, .int v4), (5, .int (nI nt)), (6, .int (nI nf)), (7, .int (nI nc)), (8, .int (nI bn)), (9, .ref qr), (10, .ref qt), (11, .int xk), (12, .int x2)] 120 [] := by
          intro m2
          induction m2 with
          | zero => intro k2 G12 G312 x2 h1 h2; intros; exact absurd h1 (by omega)
          | succ m2 ih2 =>
            intro k2 G12 G312 x2 hm2 hk2 hx2 hL12 hw12
            refine g_seg [(120, .iload 12, 2), (122, .bipush 8, 2)] 124 [(0, .ref sb), (1, .ref x), (2, .ref s), (3, .int tm), (4, .int v4), (5, .int (nI nt)), (6, .int (nI nf)), (7, .int (nI nc)), (8, .int (nI bn)), (9, .ref qr), (10, .ref qt), (11, .int xk), (12, .int x2)] [.int 8, .int x2] C (by decide +kernel) rfl ?_
            refine g_icmp_ge (pc := 124) (off := 25) 149 C (by decide +kernel) (by decide) (fun c38 => ?_) (fun c38 => ?_)
            · have hl8 : k2 = 8 := by have := lp_ge (n := 8) hx2 (by omega) (by omega) c38; omega
              rw [hl8, gR_n] at hw12
              refine g_seg [(149, .aload 10, 2), (151, .iload 11, 2), (153, .aload_n 1, 1), (154, .iload 11, 2), (156, .iconst 1, 1)] 157 [(0, .ref sb), (1, .ref x), (2, .ref s), (3, .int tm), (4, .int v4), (5, .int (nI nt)), (6, .int (nI nf)), (7, .int (nI nc)), (8, .int (nI bn)), (9, .ref qr), (10, .ref qt), (11, .int xk), (12, .int x2)] [.int 1, .int xk, .ref x, .int xk, .ref qt] C (by decide +kernel) rfl ?_
              refine g_rP (pc := 157) C X hL12 hwok (hx) (hk8) (by decide) q225 ⟨⟨(Nat.le_of_ble_eq_true rfl), (Nat.le_of_ble_eq_true rfl)⟩, (by show (((((((ce + 1) + 1) + 1) + 1 + nt) + 1) + 10 * k) + 1 * k2) + 1 ≤ 693133; omega), (by show (((((((sl + 6) + 6) + 6) + nt + nt * 8) + nt) + 60 * k) + 6 * k2) + 6 ≤ 7022224; omega)⟩ (Nat.le_of_ble_eq_true rfl) (by decide +kernel) (fun G39 hL40 => ?_)
              refine g_iastM (pc := 160) (n := nt) k (cut (k + 1) (fun j => s_at T j (nI bn + 1))) C (LX.g3 hL40 hw12.2.1.2.2) hx hk8 (by omega) (cut_s rfl) (by decide +kernel) ?_
              refine g_abs (P := fun G9 => ∃ G39 : GG, LX cy x (nI bn) nt nf nc nn T E Cu N G2 G39 G9 ∧ A3 cy G3 qr rr nt 8 (gR (k + 1) 0 8 (fun i j => s_toldX T E nf (nI bn) i (nI j))) qt nt (cut (k + 1) (fun j => s_at T j (nI bn + 1))) G39) ⟨_, LX.p3 hL40 hw12.2.1.2.2, hw12.put2⟩ (fun G41 hg => ?_)
              obtain ⟨G342, hL43, hw44⟩ := hg
              refine g_seg [(161, .aload_n 1, 1), (162, .iload 11, 2), (164, .iload 11, 2)] 166 [(0, .ref sb), (1, .ref x), (2, .ref s), (3, .int tm), (4, .int v4), (5, .int (nI nt)), (6, .int (nI nf)), (7, .int (nI nc)), (8, .int (nI bn)), (9, .ref qr), (10, .ref qt), (11, .int xk), (12, .int x2)] [.int xk, .int xk, .ref x] C (by decide +kernel) rfl ?_
              refine g_rM (pc := 166) C X hL43 hwok (hx) (hk8) q310 ⟨⟨(Nat.le_of_ble_eq_true rfl), (Nat.le_of_ble_eq_true rfl)⟩, (by show ((((((((ce + 1) + 1) + 1) + 1 + nt) + 1) + 10 * k) + 1 * k2) + 1) + 1 ≤ 693133; omega), (by show ((((((((sl + 6) + 6) + 6) + nt + nt * 8) + nt) + 60 * k) + 6 * k2) + 6) + 6 ≤ 7022224; omega)⟩ (Nat.le_of_ble_eq_true rfl) (by decide +kernel) (fun G45 hL46 => ?_)
              refine g_seg [(169, .aload 9, 2), (171, .iload 11, 2)] 173 [(0, .ref sb), (1, .ref x), (2, .ref s), (3, .int tm), (4, .int v4), (5, .int (nI nt)), (6, .int (nI nf)), (7, .int (nI nc)), (8, .int (nI bn)), (9, .ref qr), (10, .ref qt), (11, .int xk), (12, .int x2)] [.int xk, .ref qr, .int (if T k 5 = 0 then -1 else 0)] C (by decide +kernel) rfl ?_
              refine g_aaldS (pc := 173) (j := k) C (LX.g3 hL46 (hw44.1.2.2).1) (hx) (hk8) (by omega) (by decide +kernel) ?_
              refine g_seg [(174, .iconst 5, 1)] 175 [(0, .ref sb), (1, .ref x), (2, .ref s), (3, .int tm), (4, .int v4), (5, .int (nI nt)), (6, .int (nI nf)), (7, .int (nI nc)), (8, .int (nI bn)), (9, .ref qr), (10, .ref qt), (11, .int xk), (12, .int x2)] [.int 5, .ref (rr k), .int (if T k 5 = 0 then -1 else 0)] C (by decide +kernel) rfl ?_
              refine g_ialdM (pc := 175) (n := 8) 5 (s_toldX T E nf (nI bn) k 5) C (LX.g3 hL46 (hw44.1.2.2.2.1 k hk8)) rfl (by decide) (by decide) (by rw [← gR_n, gR_at, cut_lt (by decide)]; rfl) (by decide +kernel) ?_
              refine g_seg [(176, .iconst 1, 1)] 177 [(0, .ref sb), (1, .ref x), (2, .ref s), (3, .int tm), (4, .int v4), (5, .int (nI nt)), (6, .int (nI nf)), (7, .int (nI nc)), (8, .int (nI bn)), (9, .ref qr), (10, .ref qt), (11, .int xk), (12, .int x2)] [.int 1, .int (s_toldX T E nf (nI bn) k 5), .int (if T k 5 = 0 then -1 else 0)] C (by decide +kernel) rfl ?_
              refine g_icmp_ne (pc := 177) (off := 7) 184 C (by decide +kernel) (by decide) (fun c47 => ?_) (fun c47 => ?_)
              · refine g_seg [(184, .iconst (-1), 1)] 185 [(0, .ref sb), (1, .ref x), (2, .ref s), (3, .int tm), (4, .int v4), (5, .int (nI nt)), (6, .int (nI nf)), (7, .int (nI nc)), (8, .int (nI bn)), (9, .ref qr), (10, .ref qt), (11, .int xk), (12, .int x2)] [.int (-1), .int (if T k 5 = 0 then -1 else 0)] C (by decide +kernel) rfl ?_
                refine g_icmp_eq (pc := 185) (off := 5) 190 C (by decide +kernel) (by decide) (fun _ => ?_) (fun c9 => absurd (y_m0 (hb5 k hk8) (T := T) (E := E) (nf := nf) (b := nI bn) c47) c9)
                refine g_seg [(190, .iinc 11 1, 3), (193, .goto (-83), 3)] 110 [(11, .int (xk + 1)), (0, .ref sb), (1, .ref x), (2, .ref s), (3, .int tm), (4, .int v4), (5, .int (nI nt)), (6, .int (nI nf)), (7, .int (nI nc)), (8, .int (nI bn)), (9, .ref qr), (10, .ref qt), (12, .int x2)] [] C (by decide +kernel) rfl ?_
                refine g_subp [1, 2, 3, 4, 5, 6, 7, 8, 9, 10, 11, 0] (lv' := [(0, .ref sb), (1, .ref x), (2, .ref s), (3, .int tm), (4, .int v4), (5, .int (nI nt)), (6, .int (nI nf)), (7, .int (nI nc)), (8, .int (nI bn)), (9, .ref qr), (10, .ref qt), (11, .int (xk + 1))]) rfl ?_
                refine g_widen (k := ((((((ce + 1) + 1) + 1) + 1 + nt) + 1) + 10 * (k + 1))) (n := ((((((sl + 6) + 6) + 6) + nt + nt * 8) + nt) + 60 * (k + 1))) (by show (((((((((ce + 1) + 1) + 1) + 1 + nt) + 1) + 10 * k) + 1 * k2) + 1) + 1) ≤ ((((((ce + 1) + 1) + 1) + 1 + nt) + 1) + 10 * (k + 1)); omega) (by show (((((((((sl + 6) + 6) + 6) + nt + nt * 8) + nt) + 60 * k) + 6 * k2) + 6) + 6) ≤ ((((((sl + 6) + 6) + 6) + nt + nt * 8) + nt) + 60 * (k + 1)); omega) ?_
                exact ih (k + 1) G45 G342 (xk + 1) (by omega) (by omega) (lp_s hx) (hL46) (hw44)
              · refine g_seg [(180, .iconst 0, 1), (181, .goto 4, 3)] 185 [(0, .ref sb), (1, .ref x), (2, .ref s), (3, .int tm), (4, .int v4), (5, .int (nI nt)), (6, .int (nI nf)), (7, .int (nI nc)), (8, .int (nI bn)), (9, .ref qr), (10, .ref qt), (11, .int xk), (12, .int x2)] [.int 0, .int (if T k 5 = 0 then -1 else 0)] C (by decide +kernel) rfl ?_
                refine g_icmp_eq (pc := 185) (off := 5) 190 C (by decide +kernel) (by decide) (fun _ => ?_) (fun c9 => absurd (y_m1 (hb5 k hk8) (T := T) (E := E) (nf := nf) (b := nI bn) c47) c9)
                refine g_seg [(190, .iinc 11 1, 3), (193, .goto (-83), 3)] 110 [(11, .int (xk + 1)), (0, .ref sb), (1, .ref x), (2, .ref s), (3, .int tm), (4, .int v4), (5, .int (nI nt)), (6, .int (nI nf)), (7, .int (nI nc)), (8, .int (nI bn)), (9, .ref qr), (10, .ref qt), (12, .int x2)] [] C (by decide +kernel) rfl ?_
                refine g_subp [1, 2, 3, 4, 5, 6, 7, 8, 9, 10, 11, 0] (lv' := [(0, .ref sb), (1, .ref x), (2, .ref s), (3, .int tm), (4, .int v4), (5, .int (nI nt)), (6, .int (nI nf)), (7, .int (nI nc)), (8, .int (nI bn)), (9, .ref qr), (10, .ref qt), (11, .int (xk + 1))]) rfl ?_
                refine g_widen (k := ((((((ce + 1) + 1) + 1) + 1 + nt) + 1) + 10 * (k + 1))) (n := ((((((sl + 6) + 6) + 6) + nt + nt * 8) + nt) + 60 * (k + 1))) (by show (((((((((ce + 1) + 1) + 1) + 1 + nt) + 1) + 10 * k) + 1 * k2) + 1) + 1) ≤ ((((((ce + 1) + 1) + 1) + 1 + nt) + 1) + 10 * (k + 1)); omega) (by show (((((((((sl + 6) + 6) + 6) + nt + nt * 8) + nt) + 60 * k) + 6 * k2) + 6) + 6) ≤ ((((((sl + 6) + 6) + 6) + nt + nt * 8) + nt) + 60 * (k + 1)); omega) ?_
                exact ih (k + 1) G45 G342 (xk + 1) (by omega) (by omega) (lp_s hx) (hL46) (hw44)
            · have hl8 : k2 < 8 := lp_lt (n := 8) hx2 (by omega) (by omega) c38
              refine g_seg [(127, .aload 9, 2), (129, .iload 11, 2)] 131 [(0, .ref sb), (1, .ref x), (2, .ref s), (3, .int tm), (4, .int v4), (5, .int (nI nt)), (6, .int (nI nf)), (7, .int (nI nc)), (8, .int (nI bn)), (9, .ref qr), (10, .ref qt), (11, .int xk), (12, .int x2)] [.int xk, .ref qr] C (by decide +kernel) rfl ?_
              refine g_aaldS (pc := 131) (j := k) C (LX.g3 hL12 (hw12.1.2.2).1) (hx) (hk8) (by omega) (by decide +kernel) ?_
              refine g_seg [(132, .iload 12, 2), (134, .aload_n 1, 1), (135, .iload 11, 2), (137, .iload 12, 2)] 139 [(0, .ref sb), (1, .ref x), (2, .ref s), (3, .int tm), (4, .int v4), (5, .int (nI nt)), (6, .int (nI nf)), (7, .int (nI nc)), (8, .int (nI bn)), (9, .ref qr), (10, .ref qt), (11, .int xk), (12, .int x2)] [.int x2, .int xk, .ref x, .int x2, .ref (rr k)] C (by decide +kernel) rfl ?_
              refine g_rT (pc := 139) C X hL12 hwok (hx) (hk8) (wb (m := 7) (hx2) (by omega) (by omega)) q78 ⟨⟨(Nat.le_of_ble_eq_true rfl), (Nat.le_of_ble_eq_true rfl)⟩, (by show (((((((ce + 1) + 1) + 1) + 1 + nt) + 1) + 10 * k) + 1 * k2) + 1 ≤ 693133; omega), (by show (((((((sl + 6) + 6) + 6) + nt + nt * 8) + nt) + 60 * k) + 6 * k2) + 6 ≤ 7022224; omega)⟩ (Nat.le_of_ble_eq_true rfl) (by decide +kernel) (fun G48 hL49 => ?_)
              refine g_iastM (pc := 142) (n := 8) k2 (cut (k2 + 1) ((fun i j => s_toldX T E nf (nI bn) i (nI j)) k)) C (LX.g3 hL49 (hw12.1.2.2.2.1 k hk8)) hx2 hl8 (by decide) (by rw [gR_at]; exact cut_s (by rw [hx2])) (by decide +kernel) ?_
              have hA8 := (hw12.put (v := cut (k2 + 1) ((fun i j => s_toldX T E nf (nI bn) i (nI j)) k)) hk8).cg (gR_s (k := k) (w := k2) (W := 8) (tt := (fun i j => s_toldX T E nf (nI bn) i (nI j))) rfl)
              refine g_abs (P := fun G9 => ∃ G39 : GG, LX cy x (nI bn) nt nf nc nn T E Cu N G2 G39 G9 ∧ A3 cy G3 qr rr nt 8 (gR k (k2 + 1) 8 (fun i j => s_toldX T E nf (nI bn) i (nI j))) qt nt (cut k (fun j => s_at T j (nI bn + 1))) G39) ⟨_, LX.p3 hL49 (hw12.1.2.2.2.1 k hk8), hA8⟩ (fun G50 hg => ?_)
              obtain ⟨G351, hL52, hw53⟩ := hg
              refine g_seg [(143, .iinc 12 1, 3), (146, .goto (-26), 3)] 120 [(12, .int (x2 + 1)), (0, .ref sb), (1, .ref x), (2, .ref s), (3, .int tm), (4, .int v4), (5, .int (nI nt)), (6, .int (nI nf)), (7, .int (nI nc)), (8, .int (nI bn)), (9, .ref qr), (10, .ref qt), (11, .int xk)] [] C (by decide +kernel) rfl ?_
              refine g_subp [1, 2, 3, 4, 5, 6, 7, 8, 9, 10, 11, 12, 0] (lv' := [(0, .ref sb), (1, .ref x), (2, .ref s), (3, .int tm), (4, .int v4), (5, .int (nI nt)), (6, .int (nI nf)), (7, .int (nI nc)), (8, .int (nI bn)), (9, .ref qr), (10, .ref qt), (11, .int xk), (12, .int (x2 + 1))]) rfl ?_
              refine g_widen (k := (((((((ce + 1) + 1) + 1) + 1 + nt) + 1) + 10 * k) + 1 * (k2 + 1))) (n := (((((((sl + 6) + 6) + 6) + nt + nt * 8) + nt) + 60 * k) + 6 * (k2 + 1))) (by show ((((((((ce + 1) + 1) + 1) + 1 + nt) + 1) + 10 * k) + 1 * k2) + 1) ≤ (((((((ce + 1) + 1) + 1) + 1 + nt) + 1) + 10 * k) + 1 * (k2 + 1)); omega) (by show ((((((((sl + 6) + 6) + 6) + nt + nt * 8) + nt) + 60 * k) + 6 * k2) + 6) ≤ (((((((sl + 6) + 6) + 6) + nt + nt * 8) + nt) + 60 * k) + 6 * (k2 + 1)); omega) ?_
              exact ih2 (k2 + 1) G50 G351 (x2 + 1) (by omega) (by omega) (lp_s hx2) (hL52) (hw53)
        exact lp37 (8 + 1) 0 G1 G31 0 (by omega) (by omega) (nI_0.symm) (hL1) (hw1)
  exact lp35 (nt + 1) 0 G31 G332 0 (by omega) (by omega) (nI_0.symm) (hL33) (hw34)
