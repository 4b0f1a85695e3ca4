theorem wb4 {w : Int32} {k : Nat} (h : w = nI k) (h4 : 4 ≤ k) (h8 : k ≤ 8) : 4 ≤ w ∧ w ≤ 8 := by
  rw [h]
  exact ⟨nI_le (a := 4) h4 (by omega), nI_le (b := 8) h8 (by omega)⟩
theorem cut_4 {f : Nat → Int32} (h : ∀ j, j < 4 → f j = 0) : cut 4 f = fun _ => 0 := by
  funext j
  unfold cut
  by_cases e : j < 4
  · rw [if_pos e, h j e]
  · rw [if_neg e]

set_option maxHeartbeats 4000000 in
set_option maxRecDepth 100000 in
theorem t_p2 {nm : String} {κ : Kx} {l : Launch} {D : va_G} {cy : Nat → ClassId} {G G2 G3 : GG} {sb x s bn : Nat} {rt : Nat → Nat} {rd : Nat → Nat → Nat} {nt nf nc nn : Nat} {T E Cu N : Rw} {tm v4 : Int32} {ce sl qr qt : Nat} (C : g_OK κ l D cy (yLw nm) 24 code room_1 (some .boolean)) (X : g_XX κ) (hL : LX cy x (nI bn) nt nf nc nn T E Cu N G2 G3 G) (hv : vI bn nt nf nc T E Cu) (hbn : bn < 50) (hce : ce ≤ 600000) (hsl : sl ≤ 6000000) (kk : ∀ (G' G3' : GG) (qw : Nat) (rw : Nat → Nat), sG G3 G3' → LX cy x (nI bn) nt nf nc nn T E Cu N G2 G3' G' → GR cy qw rw nf 5 (fun i => cut 5 ((fun i j => s_toldFX E (nI bn) i (nI j)) i)) G3' → PG κ 24 (ce + 60) (sl + 300) G' [(0, .ref sb), (1, .ref x), (2, .ref s), (3, .int tm), (4, .int v4), (5, .int (nI nt)), (6, .int (nI nf)), (7, .int (nI nc)), (8, .int (nI bn)), (9, .ref qr), (10, .ref qt), (11, .ref qw)] 252 []) : PG κ 24 ce sl G [(0, .ref sb), (1, .ref x), (2, .ref s), (3, .int tm), (4, .int v4), (5, .int (nI nt)), (6, .int (nI nf)), (7, .int (nI nc)), (8, .int (nI bn)), (9, .ref qr), (10, .ref qt)] 196 [] := by
  have hbd := LX.bd hL
  have hwok := hv.wok
  have hb5 := hv.b5
  refine g_seg [(196, .iload 6, 2), (198, .iconst 5, 1)] 199 [(0, .ref sb), (1, .ref x), (2, .ref s), (3, .int tm), (4, .int v4), (5, .int (nI nt)), (6, .int (nI nf)), (7, .int (nI nc)), (8, .int (nI bn)), (9, .ref qr), (10, .ref qt)] [.int 5, .int (nI nf)] C (by decide +kernel) rfl ?_
  refine g_mnew (pc := 199) (N := nf) (K := 5) C q639 q394 rfl rfl (by omega) (by decide) (by show ce + (1 + nf) ≤ 693133; omega) (by show sl + (nf + nf * 5) ≤ 7022224; omega) (by decide +kernel) (fun qw rw G4 hs4 hq4 hr4 hi4 ho4 hrow4 => ?_)
  have hL4 := LX.grow hL hs4
  have hA4 : A2 cy G3 qw rw nf 5 (gR 0 0 5 (fun i j => s_toldFX E (nI bn) i (nI j))) (gG G G3 G4) := ⟨fun a e h9 => gG_old (LX.s3 hL) h9, fun i hi => LX.g3n hL (hr4 i hi), ⟨by rw [gG_new hq4]; exact ho4, fun i hi => by rw [gG_new (hr4 i hi), gR_0]; exact hrow4 i hi, hi4⟩⟩
  refine g_abs (P := fun G9 => ∃ G39 : GG, LX cy x (nI bn) nt nf nc nn T E Cu N G2 G39 G9 ∧ A2 cy G3 qw rw nf 5 (gR 0 0 5 (fun i j => s_toldFX E (nI bn) i (nI j))) G39) ⟨_, hL4, hA4⟩ (fun G21 hg => ?_)
  obtain ⟨G322, hL23, hw24⟩ := hg
  refine g_seg [(203, .astore 11, 2), (205, .iconst 0, 1), (206, .istore 12, 2)] 208 [(12, .int 0), (11, .ref qw), (0, .ref sb), (1, .ref x), (2, .ref s), (3, .int tm), (4, .int v4), (5, .int (nI nt)), (6, .int (nI nf)), (7, .int (nI nc)), (8, .int (nI bn)), (9, .ref qr), (10, .ref qt)] [] C (by decide +kernel) rfl ?_
  refine g_widen (k := ((ce + 1 + nf) + 5 * 0)) (n := ((sl + nf + nf * 5) + 30 * 0)) (by show (ce + 1 + nf) ≤ ((ce + 1 + nf) + 5 * 0); omega) (by show (sl + nf + nf * 5) ≤ ((sl + nf + nf * 5) + 30 * 0); omega) ?_
  refine g_subp [2, 3, 4, 5, 6, 7, 8, 9, 10, 11, 12, 1, 0] (lv' := [(0, .ref sb), (1, .ref x), (2, .ref s), (3, .int tm), (4, .int v4), (5, .int (nI nt)), (6, .int (nI nf)), (7, .int (nI nc)), (8, .int (nI bn)), (9, .ref qr), (10, .ref qt), (11, .ref qw), (12, .int 0)]) rfl ?_
  have lp25 : ∀ (m k : Nat) (G1 G31 : GG) (xk : Int32), nf + 1 ≤ k + m → k ≤ nf → xk = nI k → LX cy x (nI bn) nt nf nc nn T E Cu N G2 G31 G1 → A2 cy G3 qw rw nf 5 (gR k 0 5 (fun i j => s_toldFX E (nI bn) i (nI j))) G31 → PG κ 24 ((ce + 1 + nf) + 5 * k) ((sl + nf + nf * 5) + 30 * k) G1 [(0, .ref sb), (1, .ref x), (2, .ref s), (3, .int tm), (4, .int v4), (5, .int (nI nt)), (6, .int (nI nf)), (7, .int (nI nc)), (8, .int (nI bn)), (9, .ref qr), (10, .ref qt), (11, .ref qw), (12, .int xk)] 208 [] := by
    intro m
    induction m with
    | zero => intro k G1 G31 xk h1 h2; intros; exact absurd h1 (by omega)
    | succ m ih =>
      intro k G1 G31 xk hm hk hx hL1 hw1
      refine g_seg [(208, .iload 12, 2), (210, .iload 6, 2)] 212 [(0, .ref sb), (1, .ref x), (2, .ref s), (3, .int tm), (4, .int v4), (5, .int (nI nt)), (6, .int (nI nf)), (7, .int (nI nc)), (8, .int (nI bn)), (9, .ref qr), (10, .ref qt), (11, .ref qw), (12, .int xk)] [.int (nI nf), .int xk] C (by decide +kernel) rfl ?_
      refine g_icmp_ge (pc := 212) (off := 40) 252 C (by decide +kernel) (by decide) (fun c26 => ?_) (fun c26 => ?_)
      · have hk8 : k = nf := by have := lp_ge (n := nf) hx (by omega) (by omega) c26; omega
        refine g_subp [0, 1, 2, 3, 4, 5, 6, 7, 8, 9, 10, 11] (lv' := [(0, .ref sb), (1, .ref x), (2, .ref s), (3, .int tm), (4, .int v4), (5, .int (nI nt)), (6, .int (nI nf)), (7, .int (nI nc)), (8, .int (nI bn)), (9, .ref qr), (10, .ref qt), (11, .ref qw)]) rfl ?_
        rw [hk8] at hw1
        refine g_widen (k := (ce + 60)) (n := (sl + 300)) (by show ((ce + 1 + nf) + 5 * k) ≤ (ce + 60); omega) (by show ((sl + nf + nf * 5) + 30 * k) ≤ (sl + 300); omega) ?_
        exact kk _ _ qw rw hw1.1 hL1 (GR.e hw1.2.2)
      · have hk8 : k < nf := lp_lt (n := nf) hx (by omega) (by omega) c26
        refine g_seg [(215, .iconst 0, 1), (216, .istore 13, 2)] 218 [(13, .int 0), (0, .ref sb), (1, .ref x), (2, .ref s), (3, .int tm), (4, .int v4), (5, .int (nI nt)), (6, .int (nI nf)), (7, .int (nI nc)), (8, .int (nI bn)), (9, .ref qr), (10, .ref qt), (11, .ref qw), (12, .int xk)] [] C (by decide +kernel) rfl ?_
        refine g_widen (k := (((ce + 1 + nf) + 5 * k) + 1 * 0)) (n := (((sl + nf + nf * 5) + 30 * k) + 6 * 0)) (by show ((ce + 1 + nf) + 5 * k) ≤ (((ce + 1 + nf) + 5 * k) + 1 * 0); omega) (by show ((sl + nf + nf * 5) + 30 * k) ≤ (((sl + nf + nf * 5) + 30 * k) + 6 * 0); omega) ?_
        refine g_subp [1, 2, 3, 4, 5, 6, 7, 8, 9, 10, 11, 12, 13, 0] (lv' := [(0, .ref sb), (1, .ref x), (2, .ref s), (3, .int tm), (4, .int v4), (5, .int (nI nt)), (6, .int (nI nf)), (7, .int (nI nc)), (8, .int (nI bn)), (9, .ref qr), (10, .ref qt), (11, .ref qw), (12, .int xk), (13, .int 0)]) rfl ?_
        have lp27 : ∀ (m2 k2 : Nat) (G12 G312 : GG) (x2 : Int32), 5 + 1 ≤ k2 + m2 → k2 ≤ 5 → x2 = nI k2 → LX cy x (nI bn) nt nf nc nn T E Cu N G2 G312 G12 → A2 cy G3 qw rw nf 5 (gR k k2 5 (fun i j => s_toldFX E (nI bn) i (nI j))) G312 → PG κ 24 (((ce + 1 + nf) + 5 * k) + 1 * k2) (((sl + nf + nf * 5) + 30 * k) + 6 * k2) G12 [(0, .ref sb), (1, .ref x), (2, .ref s), (3, .int tm), (4, .int v4), (5, .int (nI nt)), (6, .int (nI nf)), (7, .int (nI nc)), (8, .int (nI bn)), (9, .ref qr), (10, .ref qt), (11, .ref qw), (12, .int xk), (13, .int x2)] 218 [] := by
          intro m2
          induction m2 with
          | zero => intro k2 G12 G312 x2 h1 h2; intros; exact absurd h1 (by omega)
          | succ m2 ih2 =>
            intro k2 G12 G312 x2 hm2 hk2 hx2 hL12 hw12
            refine g_seg [(218, .iload 13, 2), (220, .iconst 5, 1)] 221 [(0, .ref sb), (1, .ref x), (2, .ref s), (3, .int tm), (4, .int v4), (5, .int (nI nt)), (6, .int (nI nf)), (7, .int (nI nc)), (8, .int (nI bn)), (9, .ref qr), (10, .ref qt), (11, .ref qw), (12, .int xk), (13, .int x2)] [.int 5, .int x2] C (by decide +kernel) rfl ?_
            refine g_icmp_ge (pc := 221) (off := 25) 246 C (by decide +kernel) (by decide) (fun c28 => ?_) (fun c28 => ?_)
            · have hl8 : k2 = 5 := by have := lp_ge (n := 5) hx2 (by omega) (by omega) c28; omega
              rw [hl8, gR_n] at hw12
              refine g_seg [(246, .iinc 12 1, 3), (249, .goto (-41), 3)] 208 [(12, .int (xk + 1)), (0, .ref sb), (1, .ref x), (2, .ref s), (3, .int tm), (4, .int v4), (5, .int (nI nt)), (6, .int (nI nf)), (7, .int (nI nc)), (8, .int (nI bn)), (9, .ref qr), (10, .ref qt), (11, .ref qw), (13, .int x2)] [] C (by decide +kernel) rfl ?_
              refine g_subp [1, 2, 3, 4, 5, 6, 7, 8, 9, 10, 11, 12, 0] (lv' := [(0, .ref sb), (1, .ref x), (2, .ref s), (3, .int tm), (4, .int v4), (5, .int (nI nt)), (6, .int (nI nf)), (7, .int (nI nc)), (8, .int (nI bn)), (9, .ref qr), (10, .ref qt), (11, .ref qw), (12, .int (xk + 1))]) rfl ?_
              refine g_widen (k := ((ce + 1 + nf) + 5 * (k + 1))) (n := ((sl + nf + nf * 5) + 30 * (k + 1))) (by show (((ce + 1 + nf) + 5 * k) + 1 * k2) ≤ ((ce + 1 + nf) + 5 * (k + 1)); omega) (by show (((sl + nf + nf * 5) + 30 * k) + 6 * k2) ≤ ((sl + nf + nf * 5) + 30 * (k + 1)); omega) ?_
              exact ih (k + 1) G12 G312 (xk + 1) (by omega) (by omega) (lp_s hx) (hL12) (hw12)
            · have hl8 : k2 < 5 := lp_lt (n := 5) hx2 (by omega) (by omega) c28
              refine g_seg [(224, .aload 11, 2), (226, .iload 12, 2)] 228 [(0, .ref sb), (1, .ref x), (2, .ref s), (3, .int tm), (4, .int v4), (5, .int (nI nt)), (6, .int (nI nf)), (7, .int (nI nc)), (8, .int (nI bn)), (9, .ref qr), (10, .ref qt), (11, .ref qw), (12, .int xk), (13, .int x2)] [.int xk, .ref qw] C (by decide +kernel) rfl ?_
              refine g_aaldS (pc := 228) (j := k) C (LX.g3 hL12 (hw12.2.2).1) (hx) (hk8) (by omega) (by decide +kernel) ?_
              refine g_seg [(229, .iload 13, 2), (231, .aload_n 1, 1), (232, .iload 12, 2), (234, .iload 13, 2)] 236 [(0, .ref sb), (1, .ref x), (2, .ref s), (3, .int tm), (4, .int v4), (5, .int (nI nt)), (6, .int (nI nf)), (7, .int (nI nc)), (8, .int (nI bn)), (9, .ref qr), (10, .ref qt), (11, .ref qw), (12, .int xk), (13, .int x2)] [.int x2, .int xk, .ref x, .int x2, .ref (rw k)] C (by decide +kernel) rfl ?_
              refine g_rF (pc := 236) C X hL12 (hx) (hk8) (wb (m := 4) (hx2) (by omega) (by omega)) q183 ⟨⟨(Nat.le_of_ble_eq_true rfl), (Nat.le_of_ble_eq_true rfl)⟩, (by show (((ce + 1 + nf) + 5 * k) + 1 * k2) + 1 ≤ 693133; omega), (by show (((sl + nf + nf * 5) + 30 * k) + 6 * k2) + 6 ≤ 7022224; omega)⟩ (Nat.le_of_ble_eq_true rfl) (by decide +kernel) (fun G29 hL30 => ?_)
              refine g_iastM (pc := 239) (n := 5) k2 (cut (k2 + 1) ((fun i j => s_toldFX E (nI bn) i (nI j)) k)) C (LX.g3 hL30 (hw12.2.2.2.1 k hk8)) hx2 hl8 (by decide) (by rw [gR_at]; exact cut_s (by rw [hx2])) (by decide +kernel) ?_
              have hA8 := (hw12.put (v := cut (k2 + 1) ((fun i j => s_toldFX E (nI bn) i (nI j)) k)) hk8).cg (gR_s (k := k) (w := k2) (W := 5) (tt := (fun i j => s_toldFX E (nI bn) i (nI j))) rfl)
              refine g_abs (P := fun G9 => ∃ G39 : GG, LX cy x (nI bn) nt nf nc nn T E Cu N G2 G39 G9 ∧ A2 cy G3 qw rw nf 5 (gR k (k2 + 1) 5 (fun i j => s_toldFX E (nI bn) i (nI j))) G39) ⟨_, LX.p3 hL30 (hw12.2.2.2.1 k hk8), hA8⟩ (fun G31 hg => ?_)
              obtain ⟨G332, hL33, hw34⟩ := hg
              refine g_seg [(240, .iinc 13 1, 3), (243, .goto (-25), 3)] 218 [(13, .int (x2 + 1)), (0, .ref sb), (1, .ref x), (2, .ref s), (3, .int tm), (4, .int v4), (5, .int (nI nt)), (6, .int (nI nf)), (7, .int (nI nc)), (8, .int (nI bn)), (9, .ref qr), (10, .ref qt), (11, .ref qw), (12, .int xk)] [] C (by decide +kernel) rfl ?_
              refine g_subp [1, 2, 3, 4, 5, 6, 7, 8, 9, 10, 11, 12, 13, 0] (lv' := [(0, .ref sb), (1, .ref x), (2, .ref s), (3, .int tm), (4, .int v4), (5, .int (nI nt)), (6, .int (nI nf)), (7, .int (nI nc)), (8, .int (nI bn)), (9, .ref qr), (10, .ref qt), (11, .ref qw), (12, .int xk), (13, .int (x2 + 1))]) rfl ?_
              refine g_widen (k := (((ce + 1 + nf) + 5 * k) + 1 * (k2 + 1))) (n := (((sl + nf + nf * 5) + 30 * k) + 6 * (k2 + 1))) (by show ((((ce + 1 + nf) + 5 * k) + 1 * k2) + 1) ≤ (((ce + 1 + nf) + 5 * k) + 1 * (k2 + 1)); omega) (by show ((((sl + nf + nf * 5) + 30 * k) + 6 * k2) + 6) ≤ (((sl + nf + nf * 5) + 30 * k) + 6 * (k2 + 1)); omega) ?_
              exact ih2 (k2 + 1) G31 G332 (x2 + 1) (by omega) (by omega) (lp_s hx2) (hL33) (hw34)
        exact lp27 (5 + 1) 0 G1 G31 0 (by omega) (by omega) (nI_0.symm) (hL1) (hw1)
  exact lp25 (nf + 1) 0 G21 G322 0 (by omega) (by omega) (nI_0.symm) (hL23) (hw24)
set_option maxHeartbeats 4000000 in
set_option maxRecDepth 100000 in
theorem t_p3 {nm : String} {κ : Kx} {l : Launch} {D : va_G} {cy : Nat → ClassId} {G G2 G3 : GG} {sb x s bn : Nat} {rt : Nat → Nat} {rd : Nat → Nat → Nat} {nt nf nc nn : Nat} {T E Cu N : Rw} {tm v4 : Int32} {ce sl qr qt qw : Nat} (C : g_OK κ l D cy (yLw nm) 24 code room_1 (some .boolean)) (X : g_XX κ) (hL : LX cy x (nI bn) nt nf nc nn T E Cu N G2 G3 G) (hv : vI bn nt nf nc T E Cu) (hbn : bn < 50) (hce : ce ≤ 600000) (hsl : sl ≤ 6000000) (kk : ∀ (G' G3' : GG) (qc : Nat), sG G3 G3' → LX cy x (nI bn) nt nf nc nn T E Cu N G2 G3' G' → AR cy qc nc (cut nc (fun j => s_toldC Cu j 4)) G3' → PG κ 24 (ce + 30) (sl + 150) G' [(0, .ref sb), (1, .ref x), (2, .ref s), (3, .int tm), (4, .int v4), (5, .int (nI nt)), (6, .int (nI nf)), (7, .int (nI nc)), (8, .int (nI bn)), (9, .ref qr), (10, .ref qt), (11, .ref qw), (12, .ref qc)] 286 []) : PG κ 24 ce sl G [(0, .ref sb), (1, .ref x), (2, .ref s), (3, .int tm), (4, .int v4), (5, .int (nI nt)), (6, .int (nI nf)), (7, .int (nI nc)), (8, .int (nI bn)), (9, .ref qr), (10, .ref qt), (11, .ref qw)] 252 [] := by
  have hbd := LX.bd hL
  have hwok := hv.wok
  have hb5 := hv.b5
  refine g_seg [(252, .iload 7, 2)] 254 [(0, .ref sb), (1, .ref x), (2, .ref s), (3, .int tm), (4, .int v4), (5, .int (nI nt)), (6, .int (nI nf)), (7, .int (nI nc)), (8, .int (nI bn)), (9, .ref qr), (10, .ref qt), (11, .ref qw)] [.int (nI nc)] C (by decide +kernel) rfl ?_
  refine g_newi (pc := 254) (N' := nc) C q394 (nI_ge0 (by omega)) (nI_clamp (by omega)) (by omega) (by show ce + 1 ≤ 693133; omega) (by show sl + nc ≤ 7022224; omega) (by decide +kernel) (fun qc hqn => ?_)
  have hA7 : A1 cy G3 qc nc (cut 0 (fun j => s_toldC Cu j 4)) (g_up G3 qc (.inl (cy 0, nc, .inl (fun _ => 0)))) := (A1.fresh (LX.g3n hL hqn)).put' (cut_z).symm
  refine g_abs (P := fun G9 => ∃ G39 : GG, LX cy x (nI bn) nt nf nc nn T E Cu N G2 G39 G9 ∧ A1 cy G3 qc nc (cut 0 (fun j => s_toldC Cu j 4)) G39) ⟨_, LX.n3 hL hqn, hA7⟩ (fun G21 hg => ?_)
  obtain ⟨G322, hL23, hw24⟩ := hg
  refine g_seg [(256, .astore 12, 2), (258, .iconst 0, 1), (259, .istore 13, 2)] 261 [(13, .int 0), (12, .ref qc), (0, .ref sb), (1, .ref x), (2, .ref s), (3, .int tm), (4, .int v4), (5, .int (nI nt)), (6, .int (nI nf)), (7, .int (nI nc)), (8, .int (nI bn)), (9, .ref qr), (10, .ref qt), (11, .ref qw)] [] C (by decide +kernel) rfl ?_
  refine g_widen (k := ((ce + 1) + 1 * 0)) (n := ((sl + nc) + 6 * 0)) (by show (ce + 1) ≤ ((ce + 1) + 1 * 0); omega) (by show (sl + nc) ≤ ((sl + nc) + 6 * 0); omega) ?_
  refine g_subp [2, 3, 4, 5, 6, 7, 8, 9, 10, 11, 12, 13, 1, 0] (lv' := [(0, .ref sb), (1, .ref x), (2, .ref s), (3, .int tm), (4, .int v4), (5, .int (nI nt)), (6, .int (nI nf)), (7, .int (nI nc)), (8, .int (nI bn)), (9, .ref qr), (10, .ref qt), (11, .ref qw), (12, .ref qc), (13, .int 0)]) rfl ?_
  have lp25 : ∀ (m k : Nat) (G1 G31 : GG) (xk : Int32), nc + 1 ≤ k + m → k ≤ nc → xk = nI k → LX cy x (nI bn) nt nf nc nn T E Cu N G2 G31 G1 → A1 cy G3 qc nc (cut k (fun j => s_toldC Cu j 4)) G31 → PG κ 24 ((ce + 1) + 1 * k) ((sl + nc) + 6 * k) G1 [(0, .ref sb), (1, .ref x), (2, .ref s), (3, .int tm), (4, .int v4), (5, .int (nI nt)), (6, .int (nI nf)), (7, .int (nI nc)), (8, .int (nI bn)), (9, .ref qr), (10, .ref qt), (11, .ref qw), (12, .ref qc), (13, .int xk)] 261 [] := by
    intro m
    induction m with
    | zero => intro k G1 G31 xk h1 h2; intros; exact absurd h1 (by omega)
    | succ m ih =>
      intro k G1 G31 xk hm hk hx hL1 hw1
      refine g_seg [(261, .iload 13, 2), (263, .iload 7, 2)] 265 [(0, .ref sb), (1, .ref x), (2, .ref s), (3, .int tm), (4, .int v4), (5, .int (nI nt)), (6, .int (nI nf)), (7, .int (nI nc)), (8, .int (nI bn)), (9, .ref qr), (10, .ref qt), (11, .ref qw), (12, .ref qc), (13, .int xk)] [.int (nI nc), .int xk] C (by decide +kernel) rfl ?_
      refine g_icmp_ge (pc := 265) (off := 21) 286 C (by decide +kernel) (by decide) (fun c26 => ?_) (fun c26 => ?_)
      · have hk8 : k = nc := by have := lp_ge (n := nc) hx (by omega) (by omega) c26; omega
        refine g_subp [0, 1, 2, 3, 4, 5, 6, 7, 8, 9, 10, 11, 12] (lv' := [(0, .ref sb), (1, .ref x), (2, .ref s), (3, .int tm), (4, .int v4), (5, .int (nI nt)), (6, .int (nI nf)), (7, .int (nI nc)), (8, .int (nI bn)), (9, .ref qr), (10, .ref qt), (11, .ref qw), (12, .ref qc)]) rfl ?_
        rw [hk8] at hw1
        refine g_widen (k := (ce + 30)) (n := (sl + 150)) (by show ((ce + 1) + 1 * k) ≤ (ce + 30); omega) (by show ((sl + nc) + 6 * k) ≤ (sl + 150); omega) ?_
        exact kk _ _ qc hw1.1 hL1 hw1.2.2
      · have hk8 : k < nc := lp_lt (n := nc) hx (by omega) (by omega) c26
        refine g_seg [(268, .aload 12, 2), (270, .iload 13, 2), (272, .aload_n 1, 1), (273, .iload 13, 2), (275, .iconst 4, 1)] 276 [(0, .ref sb), (1, .ref x), (2, .ref s), (3, .int tm), (4, .int v4), (5, .int (nI nt)), (6, .int (nI nf)), (7, .int (nI nc)), (8, .int (nI bn)), (9, .ref qr), (10, .ref qt), (11, .ref qw), (12, .ref qc), (13, .int xk)] [.int 4, .int xk, .ref x, .int xk, .ref qc] C (by decide +kernel) rfl ?_
        refine g_rC (pc := 276) C X hL1 (hx) (hk8) (by decide) q196 ⟨⟨(Nat.le_of_ble_eq_true rfl), (Nat.le_of_ble_eq_true rfl)⟩, (by show ((ce + 1) + 1 * k) + 1 ≤ 693133; omega), (by show ((sl + nc) + 6 * k) + 6 ≤ 7022224; omega)⟩ (Nat.le_of_ble_eq_true rfl) (by decide +kernel) (fun G27 hL28 => ?_)
        refine g_iastM (pc := 279) (n := nc) k (cut (k + 1) (fun j => s_toldC Cu j 4)) C (LX.g3 hL28 hw1.2.2) hx hk8 (by omega) (cut_s rfl) (by decide +kernel) ?_
        refine g_abs (P := fun G9 => ∃ G39 : GG, LX cy x (nI bn) nt nf nc nn T E Cu N G2 G39 G9 ∧ A1 cy G3 qc nc (cut (k + 1) (fun j => s_toldC Cu j 4)) G39) ⟨_, LX.p3 hL28 hw1.2.2, hw1.put⟩ (fun G29 hg => ?_)
        obtain ⟨G330, hL31, hw32⟩ := hg
        refine g_seg [(280, .iinc 13 1, 3), (283, .goto (-22), 3)] 261 [(13, .int (xk + 1)), (0, .ref sb), (1, .ref x), (2, .ref s), (3, .int tm), (4, .int v4), (5, .int (nI nt)), (6, .int (nI nf)), (7, .int (nI nc)), (8, .int (nI bn)), (9, .ref qr), (10, .ref qt), (11, .ref qw), (12, .ref qc)] [] C (by decide +kernel) rfl ?_
        refine g_subp [1, 2, 3, 4, 5, 6, 7, 8, 9, 10, 11, 12, 13, 0] (lv' := [(0, .ref sb), (1, .ref x), (2, .ref s), (3, .int tm), (4, .int v4), (5, .int (nI nt)), (6, .int (nI nf)), (7, .int (nI nc)), (8, .int (nI bn)), (9, .ref qr), (10, .ref qt), (11, .ref qw), (12, .ref qc), (13, .int (xk + 1))]) rfl ?_
        refine g_widen (k := ((ce + 1) + 1 * (k + 1))) (n := ((sl + nc) + 6 * (k + 1))) (by show (((ce + 1) + 1 * k) + 1) ≤ ((ce + 1) + 1 * (k + 1)); omega) (by show (((sl + nc) + 6 * k) + 6) ≤ ((sl + nc) + 6 * (k + 1)); omega) ?_
        exact ih (k + 1) G29 G330 (xk + 1) (by omega) (by omega) (lp_s hx) (hL31) (hw32)
  exact lp25 (nc + 1) 0 G21 G322 0 (by omega) (by omega) (nI_0.symm) (hL23) (hw24)
set_option maxHeartbeats 4000000 in
set_option maxRecDepth 100000 in
theorem t_p4 {nm : String} {κ : Kx} {l : Launch} {D : va_G} {cy : Nat → ClassId} {G G2 G3 : GG} {sb x s bn : Nat} {rt : Nat → Nat} {rd : Nat → Nat → Nat} {nt nf nc nn : Nat} {T E Cu N : Rw} {tm v4 : Int32} {ce sl qr qt qw qc : Nat} (C : g_OK κ l D cy (yLw nm) 24 code room_1 (some .boolean)) (X : g_XX κ) (hL : LX cy x (nI bn) nt nf nc nn T E Cu N G2 G3 G) (hv : vI bn nt nf nc T E Cu) (hbn : bn < 50) (hce : ce ≤ 600000) (hsl : sl ≤ 6000000) {T' E' C' : Rw} {κ' : Int32} (hXb : x_beat N nn nt nf nc (nI bn, T, E, Cu, 0) = (nI (bn + 1), T', E', C', κ')) (kk : ∀ (G' G3' : GG) (qn : Nat), sG G3 G3' → LX cy x (nI bn) nt nf nc nn T E Cu N G2 G3' G' → AR cy qn 9 (cut 9 (fun j => if j < 4 then 0 else s_countX (nI (bn + 1)) nt nf nc T' E' C' (nI j))) G3' → PG κ 24 (ce + 10) (sl + 70) G' [(0, .ref sb), (1, .ref x), (2, .ref s), (3, .int tm), (4, .int v4), (5, .int (nI nt)), (6, .int (nI nf)), (7, .int (nI nc)), (8, .int (nI bn)), (9, .ref qr), (10, .ref qt), (11, .ref qw), (12, .ref qc), (13, .ref qn)] 320 []) : PG κ 24 ce sl G [(0, .ref sb), (1, .ref x), (2, .ref s), (3, .int tm), (4, .int v4), (5, .int (nI nt)), (6, .int (nI nf)), (7, .int (nI nc)), (8, .int (nI bn)), (9, .ref qr), (10, .ref qt), (11, .ref qw), (12, .ref qc)] 286 [] := by
  have hbd := LX.bd hL
  have hwok := hv.wok
  have hb5 := hv.b5
  refine g_seg [(286, .bipush 9, 2)] 288 [(0, .ref sb), (1, .ref x), (2, .ref s), (3, .int tm), (4, .int v4), (5, .int (nI nt)), (6, .int (nI nf)), (7, .int (nI nc)), (8, .int (nI bn)), (9, .ref qr), (10, .ref qt), (11, .ref qw), (12, .ref qc)] [.int 9] C (by decide +kernel) rfl ?_
  refine g_newi (pc := 288) (N' := 9) C q394 (by decide) (by decide) (by decide) (by show ce + 1 ≤ 693133; omega) (by show sl + 9 ≤ 7022224; omega) (by decide +kernel) (fun qn hqn => ?_)
  have hA7 : A1 cy G3 qn 9 (cut 4 (fun j => if j < 4 then 0 else s_countX (nI (bn + 1)) nt nf nc T' E' C' (nI j))) (g_up G3 qn (.inl (cy 0, 9, .inl (fun _ => 0)))) := (A1.fresh (LX.g3n hL hqn)).put' (cut_4 (fun j hj => if_pos hj)).symm
  refine g_abs (P := fun G9 => ∃ G39 : GG, LX cy x (nI bn) nt nf nc nn T E Cu N G2 G39 G9 ∧ A1 cy G3 qn 9 (cut 4 (fun j => if j < 4 then 0 else s_countX (nI (bn + 1)) nt nf nc T' E' C' (nI j))) G39) ⟨_, LX.n3 hL hqn, hA7⟩ (fun G21 hg => ?_)
  obtain ⟨G322, hL23, hw24⟩ := hg
  refine g_seg [(290, .astore 13, 2), (292, .iconst 4, 1), (293, .istore 14, 2)] 295 [(14, .int 4), (13, .ref qn), (0, .ref sb), (1, .ref x), (2, .ref s), (3, .int tm), (4, .int v4), (5, .int (nI nt)), (6, .int (nI nf)), (7, .int (nI nc)), (8, .int (nI bn)), (9, .ref qr), (10, .ref qt), (11, .ref qw), (12, .ref qc)] [] C (by decide +kernel) rfl ?_
  refine g_widen (k := ((ce + 1) + 1 * 4)) (n := ((sl + 9) + 6 * 4)) (by show (ce + 1) ≤ ((ce + 1) + 1 * 4); omega) (by show (sl + 9) ≤ ((sl + 9) + 6 * 4); omega) ?_
  refine g_subp [2, 3, 4, 5, 6, 7, 8, 9, 10, 11, 12, 13, 14, 1, 0] (lv' := [(0, .ref sb), (1, .ref x), (2, .ref s), (3, .int tm), (4, .int v4), (5, .int (nI nt)), (6, .int (nI nf)), (7, .int (nI nc)), (8, .int (nI bn)), (9, .ref qr), (10, .ref qt), (11, .ref qw), (12, .ref qc), (13, .ref qn), (14, .int 4)]) rfl ?_
  have lp25 : ∀ (m k : Nat) (G1 G31 : GG) (xk : Int32), 9 + 1 ≤ k + m → k ≤ 9 → xk = nI k → 4 ≤ k → LX cy x (nI bn) nt nf nc nn T E Cu N G2 G31 G1 → A1 cy G3 qn 9 (cut k (fun j => if j < 4 then 0 else s_countX (nI (bn + 1)) nt nf nc T' E' C' (nI j))) G31 → PG κ 24 ((ce + 1) + 1 * k) ((sl + 9) + 6 * k) G1 [(0, .ref sb), (1, .ref x), (2, .ref s), (3, .int tm), (4, .int v4), (5, .int (nI nt)), (6, .int (nI nf)), (7, .int (nI nc)), (8, .int (nI bn)), (9, .ref qr), (10, .ref qt), (11, .ref qw), (12, .ref qc), (13, .ref qn), (14, .int xk)] 295 [] := by
    intro m
    induction m with
    | zero => intro k G1 G31 xk h1 h2; intros; exact absurd h1 (by omega)
    | succ m ih =>
      intro k G1 G31 xk hm hk hx h4 hL1 hw1
      refine g_seg [(295, .iload 14, 2), (297, .bipush 9, 2)] 299 [(0, .ref sb), (1, .ref x), (2, .ref s), (3, .int tm), (4, .int v4), (5, .int (nI nt)), (6, .int (nI nf)), (7, .int (nI nc)), (8, .int (nI bn)), (9, .ref qr), (10, .ref qt), (11, .ref qw), (12, .ref qc), (13, .ref qn), (14, .int xk)] [.int 9, .int xk] C (by decide +kernel) rfl ?_
      refine g_icmp_ge (pc := 299) (off := 21) 320 C (by decide +kernel) (by decide) (fun c26 => ?_) (fun c26 => ?_)
      · have hk8 : k = 9 := by have := lp_ge (n := 9) hx (by omega) (by omega) c26; omega
        refine g_subp [0, 1, 2, 3, 4, 5, 6, 7, 8, 9, 10, 11, 12, 13] (lv' := [(0, .ref sb), (1, .ref x), (2, .ref s), (3, .int tm), (4, .int v4), (5, .int (nI nt)), (6, .int (nI nf)), (7, .int (nI nc)), (8, .int (nI bn)), (9, .ref qr), (10, .ref qt), (11, .ref qw), (12, .ref qc), (13, .ref qn)]) rfl ?_
        rw [hk8] at hw1
        refine g_widen (k := (ce + 10)) (n := (sl + 70)) (by show ((ce + 1) + 1 * k) ≤ (ce + 10); omega) (by show ((sl + 9) + 6 * k) ≤ (sl + 70); omega) ?_
        exact kk _ _ qn hw1.1 hL1 hw1.2.2
      · have hk8 : k < 9 := lp_lt (n := 9) hx (by omega) (by omega) c26
        refine g_seg [(302, .aload 13, 2), (304, .iload 14, 2), (306, .aload_n 1, 1), (307, .iconst 1, 1), (308, .iload 14, 2)] 310 [(0, .ref sb), (1, .ref x), (2, .ref s), (3, .int tm), (4, .int v4), (5, .int (nI nt)), (6, .int (nI nf)), (7, .int (nI nc)), (8, .int (nI bn)), (9, .ref qr), (10, .ref qt), (11, .ref qw), (12, .ref qc), (13, .ref qn), (14, .int xk)] [.int xk, .int 1, .ref x, .int xk, .ref qn] C (by decide +kernel) rfl ?_
        refine g_rY (pc := 310) C X hL1 hwok hb5 (wb4 hx h4 (by omega)) q314 ⟨⟨(Nat.le_of_ble_eq_true rfl), (Nat.le_of_ble_eq_true rfl)⟩, (by show ((ce + 1) + 1 * k) + 1 ≤ 693133; omega), (by show ((sl + 9) + 6 * k) + 6 ≤ 7022224; omega)⟩ (Nat.le_of_ble_eq_true rfl) (by decide +kernel) (fun G27 hL28 => ?_)
        refine g_iastM (pc := 313) (n := 9) k (cut (k + 1) (fun j => if j < 4 then 0 else s_countX (nI (bn + 1)) nt nf nc T' E' C' (nI j))) C (LX.g3 hL28 hw1.2.2) hx hk8 (by decide) (cut_s (by rw [if_neg (by omega), hXb, hx])) (by decide +kernel) ?_
        refine g_abs (P := fun G9 => ∃ G39 : GG, LX cy x (nI bn) nt nf nc nn T E Cu N G2 G39 G9 ∧ A1 cy G3 qn 9 (cut (k + 1) (fun j => if j < 4 then 0 else s_countX (nI (bn + 1)) nt nf nc T' E' C' (nI j))) G39) ⟨_, LX.p3 hL28 hw1.2.2, hw1.put⟩ (fun G29 hg => ?_)
        obtain ⟨G330, hL31, hw32⟩ := hg
        refine g_seg [(314, .iinc 14 1, 3), (317, .goto (-22), 3)] 295 [(14, .int (xk + 1)), (0, .ref sb), (1, .ref x), (2, .ref s), (3, .int tm), (4, .int v4), (5, .int (nI nt)), (6, .int (nI nf)), (7, .int (nI nc)), (8, .int (nI bn)), (9, .ref qr), (10, .ref qt), (11, .ref qw), (12, .ref qc), (13, .ref qn)] [] C (by decide +kernel) rfl ?_
        refine g_subp [1, 2, 3, 4, 5, 6, 7, 8, 9, 10, 11, 12, 13, 14, 0] (lv' := [(0, .ref sb), (1, .ref x), (2, .ref s), (3, .int tm), (4, .int v4), (5, .int (nI nt)), (6, .int (nI nf)), (7, .int (nI nc)), (8, .int (nI bn)), (9, .ref qr), (10, .ref qt), (11, .ref qw), (12, .ref qc), (13, .ref qn), (14, .int (xk + 1))]) rfl ?_
        refine g_widen (k := ((ce + 1) + 1 * (k + 1))) (n := ((sl + 9) + 6 * (k + 1))) (by show (((ce + 1) + 1 * k) + 1) ≤ ((ce + 1) + 1 * (k + 1)); omega) (by show (((sl + 9) + 6 * k) + 6) ≤ ((sl + 9) + 6 * (k + 1)); omega) ?_
        exact ih (k + 1) G29 G330 (xk + 1) (by omega) (by omega) (lp_s hx) (by omega) (hL31) (hw32)
  exact lp25 (9 + 1) 4 G21 G322 4 (by omega) (by omega) (rfl) (Nat.le_refl 4) (hL23) (hw24)
theorem LX.l3 {cy : Nat → ClassId} {x : Nat} {b : Int32} {nt nf nc nn : Nat} {T E Cu N : Rw} {G2 G3 G30 G : GG} (h : LX cy x b nt nf nc nn T E Cu N G2 G3 G) (hs : sG G30 G3) : LX cy x b nt nf nc nn T E Cu N G2 G30 G := by
  obtain ⟨G1, ad, KT, KF, KC, hR, ⟨⟨s1, s2, s3⟩, d12, d13, d23⟩⟩ := h
  have dn : ∀ {A : GG}, dG A G3 → dG A G30 := fun d a e ha => by
    cases h1 : G30 a with
    | none => rfl
    | some e1 => have := hs a e1 h1; rw [d a e ha] at this; cases this
  exact ⟨G1, ad, KT, KF, KC, hR, ⟨⟨s1, s2, hs.tr s3⟩, d12, dn d13, dn d23⟩⟩
set_option maxHeartbeats 4000000 in
set_option maxRecDepth 100000 in
theorem t_p5 {nm : String} {κ : Kx} {l : Launch} {D : va_G} {cy : Nat → ClassId} {G G2 G3 : GG} {sb x s bn : Nat} {rt : Nat → Nat} {rd : Nat → Nat → Nat} {nt nf nc nn : Nat} {T E Cu N : Rw} {tm v4 : Int32} {ce sl qr qt qw qc qn : Nat} (C : g_OK κ l D cy (yLw nm) 24 code room_1 (some .boolean)) (X : g_XX κ) (hL : LX cy x (nI bn) nt nf nc nn T E Cu N G2 G3 G) (hv : vI bn nt nf nc T E Cu) (hbn : bn < 50) (hce : ce ≤ 600000) (hsl : sl ≤ 6000000) (hS : RS cy s rt rd (nI bn) nt nf nc nn (zT (nI bn) T) (zF (nI bn) E) Cu N G2) {T' E' C' : Rw} {κ' : Int32} (hXb : x_beat N nn nt nf nc (nI bn, T, E, Cu, 0) = (nI (bn + 1), T', E', C', κ')) (hR0 : ∀ t k, t < nt → k < 7 → zT (nI (bn + 1)) T' t k = (y_beat N nn nt nf nc (nI bn) (zT (nI bn) T) (zF (nI bn) E) Cu).1 t k) (hR1 : ∀ f k, f < nf → k < 5 → zF (nI (bn + 1)) E' f k = (y_beat N nn nt nf nc (nI bn) (zT (nI bn) T) (zF (nI bn) E) Cu).2.1 f k) (hR2 : (y_beat N nn nt nf nc (nI bn) (zT (nI bn) T) (zF (nI bn) E) Cu).2.2 = C') (hqn : AR cy qn 9 (cut 9 (fun j => if j < 4 then 0 else s_countX (nI (bn + 1)) nt nf nc T' E' C' (nI j))) G3) (kk : ∀ (G' G2' : GG), LX cy x (nI (bn + 1)) nt nf nc nn T' E' C' N G2' G3 G' → RS cy s rt rd (nI (bn + 1)) nt nf nc nn (zT (nI (bn + 1)) T') (zF (nI (bn + 1)) E') C' N G2' → PG κ 24 (ce + 15) (sl + 80) G' [(0, .ref sb), (1, .ref x), (2, .ref s), (3, .int tm), (4, .int v4), (5, .int (nI nt)), (6, .int (nI nf)), (7, .int (nI nc)), (8, .int (nI bn)), (9, .ref qr), (10, .ref qt), (11, .ref qw), (12, .ref qc), (14, .int κ')] 378 []) : PG κ 24 ce sl G [(0, .ref sb), (1, .ref x), (2, .ref s), (3, .int tm), (4, .int v4), (5, .int (nI nt)), (6, .int (nI nf)), (7, .int (nI nc)), (8, .int (nI bn)), (9, .ref qr), (10, .ref qt), (11, .ref qw), (12, .ref qc), (13, .ref qn)] 320 [] := by
  have hbd := LX.bd hL
  have hwok := hv.wok
  have hb5 := hv.b5
  refine g_seg [(320, .aload_n 1, 1), (321, .iconst 1, 1)] 322 [(0, .ref sb), (1, .ref x), (2, .ref s), (3, .int tm), (4, .int v4), (5, .int (nI nt)), (6, .int (nI nf)), (7, .int (nI nc)), (8, .int (nI bn)), (9, .ref qr), (10, .ref qt), (11, .ref qw), (12, .ref qc), (13, .ref qn)] [.int 1, .ref x] C (by decide +kernel) rfl ?_
  refine g_rG (pc := 322) C X hL hwok q246 ⟨⟨(Nat.le_of_ble_eq_true rfl), (Nat.le_of_ble_eq_true rfl)⟩, (by show ce + 1 ≤ 693133; omega), (by show sl + 6 ≤ 7022224; omega)⟩ (Nat.le_of_ble_eq_true rfl) (by decide +kernel) (fun G7 hL7 => ?_)
  rw [hXb] at hL7
  rw [hXb]
  have hL8 : LX cy x (nI (bn + 1)) nt nf nc nn T' E' C' N G2 G3 G7 := hL7
  show PG κ 24 _ _ G7 [(0, .ref sb), (1, .ref x), (2, .ref s), (3, .int tm), (4, .int v4), (5, .int (nI nt)), (6, .int (nI nf)), (7, .int (nI nc)), (8, .int (nI bn)), (9, .ref qr), (10, .ref qt), (11, .ref qw), (12, .ref qc), (13, .ref qn)] 325 [.int κ']
  refine g_seg [(325, .istore 14, 2), (327, .aload_n 2, 1)] 328 [(14, .int κ'), (0, .ref sb), (1, .ref x), (2, .ref s), (3, .int tm), (4, .int v4), (5, .int (nI nt)), (6, .int (nI nf)), (7, .int (nI nc)), (8, .int (nI bn)), (9, .ref qr), (10, .ref qt), (11, .ref qw), (12, .ref qc), (13, .ref qn)] [.ref s] C (by decide +kernel) rfl ?_
  refine g_wgo (pc := 328) C hL8 hS hv.wF hv.wC (hv.wS (by omega)) q351 ⟨⟨(Nat.le_of_ble_eq_true rfl), (Nat.le_of_ble_eq_true rfl)⟩, (by show (ce + 1) + 0 ≤ 693133; omega), (by show (sl + 6) + 0 ≤ 7022224; omega)⟩ (Nat.le_of_ble_eq_true rfl) (by decide +kernel) (fun v9 G9 G29 hL9 hS9 => ?_)
  have hS8 : RS cy s rt rd (nI (bn + 1)) nt nf nc nn (zT (nI (bn + 1)) T') (zF (nI (bn + 1)) E') C' N G29 := by rw [nI_1] at hS9; exact RS.ext hS9 (fun t k h1 h2 => hR0 t k h1 h2) (fun f k h1 h2 => hR1 f k h1 h2) (fun i k _ _ => by rw [hR2]) (fun _ _ _ _ => rfl)
  refine g_seg [(331, .pop, 1), (332, .iconst 4, 1), (333, .istore 15, 2)] 335 [(15, .int 4), (14, .int κ'), (0, .ref sb), (1, .ref x), (2, .ref s), (3, .int tm), (4, .int v4), (5, .int (nI nt)), (6, .int (nI nf)), (7, .int (nI nc)), (8, .int (nI bn)), (9, .ref qr), (10, .ref qt), (11, .ref qw), (12, .ref qc), (13, .ref qn)] [] C (by decide +kernel) rfl ?_
  refine g_widen (k := (((ce + 1) + 0) + 1 * 4)) (n := (((sl + 6) + 0) + 6 * 4)) (by show ((ce + 1) + 0) ≤ (((ce + 1) + 0) + 1 * 4); omega) (by show ((sl + 6) + 0) ≤ (((sl + 6) + 0) + 6 * 4); omega) ?_
  refine g_subp [2, 3, 4, 5, 6, 7, 8, 9, 10, 11, 12, 13, 14, 15, 1, 0] (lv' := [(0, .ref sb), (1, .ref x), (2, .ref s), (3, .int tm), (4, .int v4), (5, .int (nI nt)), (6, .int (nI nf)), (7, .int (nI nc)), (8, .int (nI bn)), (9, .ref qr), (10, .ref qt), (11, .ref qw), (12, .ref qc), (13, .ref qn), (14, .int κ'), (15, .int 4)]) rfl ?_
  have lp21 : ∀ (m k : Nat) (G1 G31 : GG) (xk : Int32), 9 + 1 ≤ k + m → k ≤ 9 → xk = nI k → 4 ≤ k → LX cy x (nI (bn + 1)) nt nf nc nn T' E' C' N G29 G31 G1 → sG G3 G31 → PG κ 24 (((ce + 1) + 0) + 1 * k) (((sl + 6) + 0) + 6 * k) G1 [(0, .ref sb), (1, .ref x), (2, .ref s), (3, .int tm), (4, .int v4), (5, .int (nI nt)), (6, .int (nI nf)), (7, .int (nI nc)), (8, .int (nI bn)), (9, .ref qr), (10, .ref qt), (11, .ref qw), (12, .ref qc), (13, .ref qn), (14, .int κ'), (15, .int xk)] 335 [] := by
    intro m
    induction m with
    | zero => intro k G1 G31 xk h1 h2; intros; exact absurd h1 (by omega)
    | succ m ih =>
      intro k G1 G31 xk hm hk hx h4 hL1 hw1
      refine g_seg [(335, .iload 15, 2), (337, .bipush 9, 2)] 339 [(0, .ref sb), (1, .ref x), (2, .ref s), (3, .int tm), (4, .int v4), (5, .int (nI nt)), (6, .int (nI nf)), (7, .int (nI nc)), (8, .int (nI bn)), (9, .ref qr), (10, .ref qt), (11, .ref qw), (12, .ref qc), (13, .ref qn), (14, .int κ'), (15, .int xk)] [.int 9, .int xk] C (by decide +kernel) rfl ?_
      refine g_icmp_ge (pc := 339) (off := 25) 364 C (by decide +kernel) (by decide) (fun c22 => ?_) (fun c22 => ?_)
      · have hk8 : k = 9 := by have := lp_ge (n := 9) hx (by omega) (by omega) c22; omega
        refine g_seg [(364, .aload_n 1, 1), (365, .iconst 0, 1)] 366 [(0, .ref sb), (1, .ref x), (2, .ref s), (3, .int tm), (4, .int v4), (5, .int (nI nt)), (6, .int (nI nf)), (7, .int (nI nc)), (8, .int (nI bn)), (9, .ref qr), (10, .ref qt), (11, .ref qw), (12, .ref qc), (13, .ref qn), (14, .int κ'), (15, .int xk)] [.int 0, .ref x] C (by decide +kernel) rfl ?_
        refine g_rK (pc := 366) C X hL1 (by decide) q204 ⟨⟨(Nat.le_of_ble_eq_true rfl), (Nat.le_of_ble_eq_true rfl)⟩, (by show (((ce + 1) + 0) + 1 * k) + 1 ≤ 693133; omega), (by show (((sl + 6) + 0) + 6 * k) + 6 ≤ 7022224; omega)⟩ (Nat.le_of_ble_eq_true rfl) (by decide +kernel) (fun G23 hL24 => ?_)
        refine g_seg [(369, .iload 8, 2), (371, .iconst 1, 1), (372, .iadd, 1)] 373 [(0, .ref sb), (1, .ref x), (2, .ref s), (3, .int tm), (4, .int v4), (5, .int (nI nt)), (6, .int (nI nf)), (7, .int (nI nc)), (8, .int (nI bn)), (9, .ref qr), (10, .ref qt), (11, .ref qw), (12, .ref qc), (13, .ref qn), (14, .int κ'), (15, .int xk)] [.int ((nI bn) + 1), .int (s_countX (nI (bn + 1)) nt nf nc T' E' C' 0)] C (by decide +kernel) rfl ?_
        refine g_icmp_eq (pc := 373) (off := 5) 378 C (by decide +kernel) (by decide) (fun _ => ?_) (fun c9 => absurd ((nI_1 bn).symm) c9)
        refine g_subp [0, 1, 2, 3, 4, 5, 6, 7, 8, 9, 10, 11, 12, 14] (lv' := [(0, .ref sb), (1, .ref x), (2, .ref s), (3, .int tm), (4, .int v4), (5, .int (nI nt)), (6, .int (nI nf)), (7, .int (nI nc)), (8, .int (nI bn)), (9, .ref qr), (10, .ref qt), (11, .ref qw), (12, .ref qc), (14, .int κ')]) rfl ?_
        refine g_widen (k := (ce + 15)) (n := (sl + 80)) (by show ((((ce + 1) + 0) + 1 * k) + 1) ≤ (ce + 15); omega) (by show ((((sl + 6) + 0) + 6 * k) + 6) ≤ (sl + 80); omega) ?_
        exact kk _ _ (hL24.l3 hw1) hS8
      · have hk8 : k < 9 := lp_lt (n := 9) hx (by omega) (by omega) c22
        refine g_seg [(342, .aload_n 1, 1), (343, .iload 15, 2)] 345 [(0, .ref sb), (1, .ref x), (2, .ref s), (3, .int tm), (4, .int v4), (5, .int (nI nt)), (6, .int (nI nf)), (7, .int (nI nc)), (8, .int (nI bn)), (9, .ref qr), (10, .ref qt), (11, .ref qw), (12, .ref qc), (13, .ref qn), (14, .int κ'), (15, .int xk)] [.int xk, .ref x] C (by decide +kernel) rfl ?_
        refine g_rK (pc := 345) C X hL1 (wb (m := 8) (hx) (by omega) (by omega)) q204 ⟨⟨(Nat.le_of_ble_eq_true rfl), (Nat.le_of_ble_eq_true rfl)⟩, (by show (((ce + 1) + 0) + 1 * k) + 1 ≤ 693133; omega), (by show (((sl + 6) + 0) + 6 * k) + 6 ≤ 7022224; omega)⟩ (Nat.le_of_ble_eq_true rfl) (by decide +kernel) (fun G25 hL26 => ?_)
        refine g_seg [(348, .aload 13, 2), (350, .iload 15, 2)] 352 [(0, .ref sb), (1, .ref x), (2, .ref s), (3, .int tm), (4, .int v4), (5, .int (nI nt)), (6, .int (nI nf)), (7, .int (nI nc)), (8, .int (nI bn)), (9, .ref qr), (10, .ref qt), (11, .ref qw), (12, .ref qc), (13, .ref qn), (14, .int κ'), (15, .int xk)] [.int xk, .ref qn, .int (s_countX (nI (bn + 1)) nt nf nc T' E' C' xk)] C (by decide +kernel) rfl ?_
        refine g_ialdM (pc := 352) (n := 9) k (s_countX (nI (bn + 1)) nt nf nc T' E' C' xk) C (LX.g3 hL26 (hw1 _ _ hqn)) (hx) (hk8) (by omega) (by rw [cut_lt hk8, if_neg (by omega), hx]) (by decide +kernel) ?_
        refine g_icmp_eq (pc := 353) (off := 5) 358 C (by decide +kernel) (by decide) (fun _ => ?_) (fun c9 => absurd (rfl) c9)
        refine g_seg [(358, .iinc 15 1, 3), (361, .goto (-26), 3)] 335 [(15, .int (xk + 1)), (0, .ref sb), (1, .ref x), (2, .ref s), (3, .int tm), (4, .int v4), (5, .int (nI nt)), (6, .int (nI nf)), (7, .int (nI nc)), (8, .int (nI bn)), (9, .ref qr), (10, .ref qt), (11, .ref qw), (12, .ref qc), (13, .ref qn), (14, .int κ')] [] C (by decide +kernel) rfl ?_
        refine g_subp [1, 2, 3, 4, 5, 6, 7, 8, 9, 10, 11, 12, 13, 14, 15, 0] (lv' := [(0, .ref sb), (1, .ref x), (2, .ref s), (3, .int tm), (4, .int v4), (5, .int (nI nt)), (6, .int (nI nf)), (7, .int (nI nc)), (8, .int (nI bn)), (9, .ref qr), (10, .ref qt), (11, .ref qw), (12, .ref qc), (13, .ref qn), (14, .int κ'), (15, .int (xk + 1))]) rfl ?_
        refine g_widen (k := (((ce + 1) + 0) + 1 * (k + 1))) (n := (((sl + 6) + 0) + 6 * (k + 1))) (by show ((((ce + 1) + 0) + 1 * k) + 1) ≤ (((ce + 1) + 0) + 1 * (k + 1)); omega) (by show ((((sl + 6) + 0) + 6 * k) + 6) ≤ (((sl + 6) + 0) + 6 * (k + 1)); omega) ?_
        exact ih (k + 1) G25 G31 (xk + 1) (by omega) (by omega) (lp_s hx) (by omega) (hL26) (hw1)
  exact lp21 (9 + 1) 4 G9 G3 4 (by omega) (by omega) (rfl) (Nat.le_refl 4) (hL9) (sG.rf G3)
