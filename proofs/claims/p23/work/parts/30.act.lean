theorem one_sub {G : GG} {q : Nat} {e0 : va_E} : ∀ a e, g_up (fun _ => none) q e0 a = some e → g_up G q e0 a = some e := by
  intro a e h
  by_cases hq : a = q
  · subst hq; rw [g_up_self] at h ⊢; exact h
  · rw [g_up_ne hq] at h; cases h
/-- a world grown by one framed constructor -/
theorem one_fr {G G' G3 : GG} {q : Nat} {e0 : va_E} (hq : G q = none) (h : fr (g_up (fun _ => none) q e0) (g_up G q e0) G' G3) : (∀ a e, G a = some e → G3 a = some e) ∧ (∀ a e, G' a = some e → G3 a = some e) ∧ ∀ a e, G a = some e → G' a = none := by
  obtain ⟨f1, f2, f3⟩ := h
  have hne : ∀ a e, G a = some e → a ≠ q := fun a e ha z => by subst z; rw [hq] at ha; cases ha
  refine ⟨fun a e ha => f2 a e (by rw [g_up_ne (hne a e ha)]; exact ha) (by rw [g_up_ne (hne a e ha)]), f1, fun a e ha => ?_⟩
  cases h1 : G' a with
  | none => rfl
  | some e1 =>
    rcases f3 a e1 h1 with ⟨e2, h2⟩ | h2
    · rw [g_up_ne (hne a e ha)] at h2; cases h2
    · rw [g_up_ne (hne a e ha), ha] at h2; cases h2
set_option maxHeartbeats 4000000 in
set_option maxRecDepth 100000 in
theorem c_L_act (l : Launch) (D : va_G) (cy : Nat → ClassId) {G : GG} {x s bn : Nat} (hA : LA cy x s bn G) (hbn : bn ≤ 50) (v : Int32) : CtrN l D cy yL_act method_4_code 20 (some .boolean) kL_act [.ref x, .ref s, .int v] G (pI (fun r G' => r = 1 ∧ LA cy x s bn G')) := by
  refine CtrN.mk (by decide +kernel) (Nat.le_of_ble_eq_true rfl) ?_
  intro κ C R X
  obtain ⟨G2, rt, rd, nt, nf, nc, nn, T, E, Cu, N, hL, hS, hv⟩ := hA
  have hbd := LX.bd hL
  refine g_pc (pc' := 0) rfl ?_
  refine g_seg [(0, .aload_n 1, 1)] 1 [(0, .ref x), (1, .ref s), (2, .int v)] [.ref s] C (by decide +kernel) rfl ?_
  refine g_getf (pc := 1) (k := 0) (v := .ref (rt 0)) C fl_L_9 ((LX.rs hL hS).1.1) rfl (by decide +kernel) ?_
  refine g_alenI (pc := 4) C ((LX.rs hL hS).1.2.1) (by decide +kernel) ?_
  refine g_seg [(5, .istore_n 3, 1), (6, .aload_n 1, 1)] 7 [(3, .int (nI nt)), (0, .ref x), (1, .ref s), (2, .int v)] [.ref s] C (by decide +kernel) rfl ?_
  refine g_getf (pc := 7) (k := 1) (v := .ref (rt 1)) C fl_L_15 ((LX.rs hL hS).1.1) rfl (by decide +kernel) ?_
  refine g_alenI (pc := 10) C ((LX.rs hL hS).1.2.2.1) (by decide +kernel) ?_
  refine g_seg [(11, .istore 4, 2), (13, .iload_n 3, 1)] 14 [(4, .int (nI nf)), (3, .int (nI nt)), (0, .ref x), (1, .ref s), (2, .int v)] [.int (nI nt)] C (by decide +kernel) rfl ?_
  refine g_if_ne (pc := 14) (off := 7) 21 C (by decide +kernel) (by decide) (fun c11 => ?_) (fun c11 => ?_)
  · have hn0 : 0 < nt := by have e9 : nt ≠ 0 := fun e9 => c11 (by rw [e9]; rfl); omega
    refine g_seg [(21, .iload_n 2, 1), (22, .iload_n 3, 1)] 23 [(4, .int (nI nf)), (3, .int (nI nt)), (0, .ref x), (1, .ref s), (2, .int v)] [.int (nI nt), .int v] C (by decide +kernel) rfl ?_
    refine g_callS (pc := 23) C mS_L_below q402 (c_L_below l D cy G v (nI nt) nt rfl hn0 (by omega)) rfl ⟨⟨Nat.le_of_ble_eq_true rfl, Nat.le_of_ble_eq_true rfl⟩, Nat.le_of_ble_eq_true rfl, Nat.le_of_ble_eq_true rfl⟩ rfl (Nat.le_of_ble_eq_true rfl) (by decide +kernel) ?_
    refine g_kI (fun v14 G13 hp12 => ?_)
    obtain ⟨rfl, j15, hj16, rfl⟩ := hp12
    refine g_seg [(26, .istore 5, 2), (28, .iload 4, 2)] 30 [(5, .int (nI j15)), (4, .int (nI nf)), (3, .int (nI nt)), (0, .ref x), (1, .ref s), (2, .int v)] [.int (nI nf)] C (by decide +kernel) rfl ?_
    refine g_if_ne (pc := 30) (off := 7) 37 C (by decide +kernel) (by decide) (fun c17 => ?_) (fun c17 => ?_)
    · have hm0 : 0 < nf := by have e9 : nf ≠ 0 := fun e9 => c17 (by rw [e9]; rfl); omega
      refine g_seg [(37, .iload_n 2, 1), (38, .iconst 2, 1), (39, .ishr, 1), (40, .iload 4, 2)] 42 [(5, .int (nI j15)), (4, .int (nI nf)), (3, .int (nI nt)), (0, .ref x), (1, .ref s), (2, .int v)] [.int (nI nf), .int (v >>> (2 &&& 31))] C (by decide +kernel) rfl ?_
      refine g_callS (pc := 42) C mS_L_below q402 (c_L_below l D cy G13 (v >>> (2 &&& 31)) (nI nf) nf rfl hm0 (by omega)) rfl ⟨⟨Nat.le_of_ble_eq_true rfl, Nat.le_of_ble_eq_true rfl⟩, Nat.le_of_ble_eq_true rfl, Nat.le_of_ble_eq_true rfl⟩ rfl (Nat.le_of_ble_eq_true rfl) (by decide +kernel) ?_
      refine g_kI (fun v20 G19 hp18 => ?_)
      obtain ⟨rfl, j21, hj22, rfl⟩ := hp18
      refine g_seg [(45, .istore 6, 2), (47, .iload_n 3, 1)] 48 [(6, .int (nI j21)), (5, .int (nI j15)), (4, .int (nI nf)), (3, .int (nI nt)), (0, .ref x), (1, .ref s), (2, .int v)] [.int (nI nt)] C (by decide +kernel) rfl ?_
      refine g_if_ne (pc := 48) (off := 7) 55 C (by decide +kernel) (by decide) (fun _ => ?_) (fun c9 => absurd c9 (c11))
      refine g_seg [(55, .iload 4, 2)] 57 [(6, .int (nI j21)), (5, .int (nI j15)), (4, .int (nI nf)), (3, .int (nI nt)), (0, .ref x), (1, .ref s), (2, .int v)] [.int (nI nf)] C (by decide +kernel) rfl ?_
      refine g_if_ne (pc := 57) (off := 7) 64 C (by decide +kernel) (by decide) (fun _ => ?_) (fun c9 => absurd c9 (c17))
      refine g_seg [(64, .iload_n 2, 1), (65, .bipush 9, 2), (67, .ishr, 1), (68, .bipush 12, 2)] 70 [(6, .int (nI j21)), (5, .int (nI j15)), (4, .int (nI nf)), (3, .int (nI nt)), (0, .ref x), (1, .ref s), (2, .int v)] [.int 12, .int (v >>> (9 &&& 31))] C (by decide +kernel) rfl ?_
      refine g_callS (pc := 70) C mS_L_below q402 (c_L_below l D cy G19 (v >>> (9 &&& 31)) 12 12 rfl (by decide) (by decide)) rfl ⟨⟨Nat.le_of_ble_eq_true rfl, Nat.le_of_ble_eq_true rfl⟩, Nat.le_of_ble_eq_true rfl, Nat.le_of_ble_eq_true rfl⟩ rfl (Nat.le_of_ble_eq_true rfl) (by decide +kernel) ?_
      refine g_kI (fun v25 G24 hp23 => ?_)
      obtain ⟨rfl, j26, hj27, rfl⟩ := hp23
      have hq12 : j26 < 12 := hj27
      rcases (show j26 = 0 ∨ j26 = 1 ∨ j26 = 2 ∨ j26 = 3 ∨ j26 = 4 ∨ j26 = 5 ∨ j26 = 6 ∨ j26 = 7 ∨ j26 = 8 ∨ j26 = 9 ∨ j26 = 10 ∨ j26 = 11 by omega) with rfl | rfl | rfl | rfl | rfl | rfl | rfl | rfl | rfl | rfl | rfl | rfl
      · refine g_widen (k := 0) (n := 0) (by decide) (by decide) ?_
        refine g_tableIn (pc := 73) (dflt := 557) (lo := 0) (hi := 7) (offs := #[47, 199, 278, 326, 384, 384, 384, 469]) (len := 47) (off := 47) 120 C (by decide +kernel) (by decide) (by decide) (by decide) (by decide) ?_
        refine g_subp [4, 5, 6, 3, 2, 1, 0] (lv' := [(0, .ref x), (1, .ref s), (2, .int v), (3, .int (nI nt)), (4, .int (nI nf)), (5, .int (nI j15)), (6, .int (nI j21))]) rfl ?_
        exact t_rig C R X hL hS hv hbn 
      · refine g_widen (k := 0) (n := 0) (by decide) (by decide) ?_
        refine g_tableIn (pc := 73) (dflt := 557) (lo := 0) (hi := 7) (offs := #[47, 199, 278, 326, 384, 384, 384, 469]) (len := 47) (off := 199) 272 C (by decide +kernel) (by decide) (by decide) (by decide) (by decide) ?_
        refine g_subp [4, 5, 6, 3, 2, 1, 0] (lv' := [(0, .ref x), (1, .ref s), (2, .int v), (3, .int (nI nt)), (4, .int (nI nf)), (5, .int (nI j15)), (6, .int (nI j21))]) rfl ?_
        exact t_weigh C R X hL hS hv hbn j15 hj16 rfl
      · refine g_widen (k := 0) (n := 0) (by decide) (by decide) ?_
        refine g_tableIn (pc := 73) (dflt := 557) (lo := 0) (hi := 7) (offs := #[47, 199, 278, 326, 384, 384, 384, 469]) (len := 47) (off := 278) 351 C (by decide +kernel) (by decide) (by decide) (by decide) (by decide) ?_
        refine g_subp [4, 5, 6, 3, 2, 1, 0] (lv' := [(0, .ref x), (1, .ref s), (2, .int v), (3, .int (nI nt)), (4, .int (nI nf)), (5, .int (nI j15)), (6, .int (nI j21))]) rfl ?_
        exact t_mend C R X hL hS hv hbn j15 hj16 rfl
      · refine g_widen (k := 0) (n := 0) (by decide) (by decide) ?_
        refine g_tableIn (pc := 73) (dflt := 557) (lo := 0) (hi := 7) (offs := #[47, 199, 278, 326, 384, 384, 384, 469]) (len := 47) (off := 326) 399 C (by decide +kernel) (by decide) (by decide) (by decide) (by decide) ?_
        refine g_subp [4, 5, 6, 3, 2, 1, 0] (lv' := [(0, .ref x), (1, .ref s), (2, .int v), (3, .int (nI nt)), (4, .int (nI nf)), (5, .int (nI j15)), (6, .int (nI j21))]) rfl ?_
        exact t_join C R X hL hS hv hbn 
      · refine g_widen (k := 0) (n := 0) (by decide) (by decide) ?_
        refine g_tableIn (pc := 73) (dflt := 557) (lo := 0) (hi := 7) (offs := #[47, 199, 278, 326, 384, 384, 384, 469]) (len := 47) (off := 384) 457 C (by decide +kernel) (by decide) (by decide) (by decide) (by decide) ?_
        refine g_subp [4, 5, 6, 3, 2, 1, 0] (lv' := [(0, .ref x), (1, .ref s), (2, .int v), (3, .int (nI nt)), (4, .int (nI nf)), (5, .int (nI j15)), (6, .int (nI j21))]) rfl ?_
        exact t_mount C R X hL hS hv hbn j21 hj22 rfl j15 hj16 rfl
      · refine g_widen (k := 0) (n := 0) (by decide) (by decide) ?_
        refine g_tableIn (pc := 73) (dflt := 557) (lo := 0) (hi := 7) (offs := #[47, 199, 278, 326, 384, 384, 384, 469]) (len := 47) (off := 384) 457 C (by decide +kernel) (by decide) (by decide) (by decide) (by decide) ?_
        refine g_subp [4, 5, 6, 3, 2, 1, 0] (lv' := [(0, .ref x), (1, .ref s), (2, .int v), (3, .int (nI nt)), (4, .int (nI nf)), (5, .int (nI j15)), (6, .int (nI j21))]) rfl ?_
        exact t_mount C R X hL hS hv hbn j21 hj22 rfl j15 hj16 rfl
      · refine g_widen (k := 0) (n := 0) (by decide) (by decide) ?_
        refine g_tableIn (pc := 73) (dflt := 557) (lo := 0) (hi := 7) (offs := #[47, 199, 278, 326, 384, 384, 384, 469]) (len := 47) (off := 384) 457 C (by decide +kernel) (by decide) (by decide) (by decide) (by decide) ?_
        refine g_subp [4, 5, 6, 3, 2, 1, 0] (lv' := [(0, .ref x), (1, .ref s), (2, .int v), (3, .int (nI nt)), (4, .int (nI nf)), (5, .int (nI j15)), (6, .int (nI j21))]) rfl ?_
        exact t_mount C R X hL hS hv hbn j21 hj22 rfl j15 hj16 rfl
      · refine g_widen (k := 0) (n := 0) (by decide) (by decide) ?_
        refine g_tableIn (pc := 73) (dflt := 557) (lo := 0) (hi := 7) (offs := #[47, 199, 278, 326, 384, 384, 384, 469]) (len := 47) (off := 469) 542 C (by decide +kernel) (by decide) (by decide) (by decide) (by decide) ?_
        refine g_subp [4, 5, 6, 3, 2, 1, 0] (lv' := [(0, .ref x), (1, .ref s), (2, .int v), (3, .int (nI nt)), (4, .int (nI nf)), (5, .int (nI j15)), (6, .int (nI j21))]) rfl ?_
        exact t_spread C R X hL hS hv hbn 
      · refine g_widen (k := 0) (n := 0) (by decide) (by decide) ?_
        refine g_tableOut (pc := 73) (dflt := 557) (lo := 0) (hi := 7) (offs := #[47, 199, 278, 326, 384, 384, 384, 469]) (len := 47) 630 C (by decide +kernel) (by decide) (by decide) ?_
        refine g_subp [4, 5, 6, 3, 2, 1, 0] (lv' := [(0, .ref x), (1, .ref s), (2, .int v), (3, .int (nI nt)), (4, .int (nI nf)), (5, .int (nI j15)), (6, .int (nI j21))]) rfl ?_
        exact t_cue C R X hL hS hv hbn j21 hj22 rfl
      · refine g_widen (k := 0) (n := 0) (by decide) (by decide) ?_
        refine g_tableOut (pc := 73) (dflt := 557) (lo := 0) (hi := 7) (offs := #[47, 199, 278, 326, 384, 384, 384, 469]) (len := 47) 630 C (by decide +kernel) (by decide) (by decide) ?_
        refine g_subp [4, 5, 6, 3, 2, 1, 0] (lv' := [(0, .ref x), (1, .ref s), (2, .int v), (3, .int (nI nt)), (4, .int (nI nf)), (5, .int (nI j15)), (6, .int (nI j21))]) rfl ?_
        exact t_cue C R X hL hS hv hbn j21 hj22 rfl
      · refine g_widen (k := 0) (n := 0) (by decide) (by decide) ?_
        refine g_tableOut (pc := 73) (dflt := 557) (lo := 0) (hi := 7) (offs := #[47, 199, 278, 326, 384, 384, 384, 469]) (len := 47) 630 C (by decide +kernel) (by decide) (by decide) ?_
        refine g_subp [4, 5, 6, 3, 2, 1, 0] (lv' := [(0, .ref x), (1, .ref s), (2, .int v), (3, .int (nI nt)), (4, .int (nI nf)), (5, .int (nI j15)), (6, .int (nI j21))]) rfl ?_
        exact t_cue C R X hL hS hv hbn j21 hj22 rfl
      · refine g_widen (k := 0) (n := 0) (by decide) (by decide) ?_
        refine g_tableOut (pc := 73) (dflt := 557) (lo := 0) (hi := 7) (offs := #[47, 199, 278, 326, 384, 384, 384, 469]) (len := 47) 630 C (by decide +kernel) (by decide) (by decide) ?_
        refine g_subp [4, 5, 6, 3, 2, 1, 0] (lv' := [(0, .ref x), (1, .ref s), (2, .int v), (3, .int (nI nt)), (4, .int (nI nf)), (5, .int (nI j15)), (6, .int (nI j21))]) rfl ?_
        exact t_cue C R X hL hS hv hbn j21 hj22 rfl
    · refine g_seg [(33, .iconst 0, 1), (34, .goto 11, 3), (45, .istore 6, 2), (47, .iload_n 3, 1)] 48 [(6, .int 0), (5, .int (nI j15)), (4, .int (nI nf)), (3, .int (nI nt)), (0, .ref x), (1, .ref s), (2, .int v)] [.int (nI nt)] C (by decide +kernel) rfl ?_
      refine g_if_ne (pc := 48) (off := 7) 55 C (by decide +kernel) (by decide) (fun _ => ?_) (fun c9 => absurd c9 (c11))
      refine g_seg [(55, .iload 4, 2)] 57 [(6, .int 0), (5, .int (nI j15)), (4, .int (nI nf)), (3, .int (nI nt)), (0, .ref x), (1, .ref s), (2, .int v)] [.int (nI nf)] C (by decide +kernel) rfl ?_
      refine g_if_ne (pc := 57) (off := 7) 64 C (by decide +kernel) (by decide) (fun c9 => absurd (c17) c9) (fun _ => ?_)
      refine g_seg [(60, .iconst 3, 1), (61, .goto 12, 3)] 73 [(6, .int 0), (5, .int (nI j15)), (4, .int (nI nf)), (3, .int (nI nt)), (0, .ref x), (1, .ref s), (2, .int v)] [.int 3] C (by decide +kernel) rfl ?_
      refine g_widen (k := 0) (n := 0) (by decide) (by decide) ?_
      refine g_tableIn (pc := 73) (dflt := 557) (lo := 0) (hi := 7) (offs := #[47, 199, 278, 326, 384, 384, 384, 469]) (len := 47) (off := 326) 399 C (by decide +kernel) (by decide) (by decide) (by decide) (by decide) ?_
      refine g_subp [4, 5, 6, 3, 2, 1, 0] (lv' := [(0, .ref x), (1, .ref s), (2, .int v), (3, .int (nI nt)), (4, .int (nI nf)), (5, .int (nI j15)), (6, .int 0)]) rfl ?_
      exact t_join C R X hL hS hv hbn 
  · refine g_seg [(17, .iconst 0, 1), (18, .goto 8, 3), (26, .istore 5, 2), (28, .iload 4, 2)] 30 [(5, .int 0), (4, .int (nI nf)), (3, .int (nI nt)), (0, .ref x), (1, .ref s), (2, .int v)] [.int (nI nf)] C (by decide +kernel) rfl ?_
    refine g_if_ne (pc := 30) (off := 7) 37 C (by decide +kernel) (by decide) (fun c28 => ?_) (fun c28 => ?_)
    · have hm0 : 0 < nf := by have e9 : nf ≠ 0 := fun e9 => c28 (by rw [e9]; rfl); omega
      refine g_seg [(37, .iload_n 2, 1), (38, .iconst 2, 1), (39, .ishr, 1), (40, .iload 4, 2)] 42 [(5, .int 0), (4, .int (nI nf)), (3, .int (nI nt)), (0, .ref x), (1, .ref s), (2, .int v)] [.int (nI nf), .int (v >>> (2 &&& 31))] C (by decide +kernel) rfl ?_
      refine g_callS (pc := 42) C mS_L_below q402 (c_L_below l D cy G (v >>> (2 &&& 31)) (nI nf) nf rfl hm0 (by omega)) rfl ⟨⟨Nat.le_of_ble_eq_true rfl, Nat.le_of_ble_eq_true rfl⟩, Nat.le_of_ble_eq_true rfl, Nat.le_of_ble_eq_true rfl⟩ rfl (Nat.le_of_ble_eq_true rfl) (by decide +kernel) ?_
      refine g_kI (fun v31 G30 hp29 => ?_)
      obtain ⟨rfl, j32, hj33, rfl⟩ := hp29
      refine g_seg [(45, .istore 6, 2), (47, .iload_n 3, 1)] 48 [(6, .int (nI j32)), (5, .int 0), (4, .int (nI nf)), (3, .int (nI nt)), (0, .ref x), (1, .ref s), (2, .int v)] [.int (nI nt)] C (by decide +kernel) rfl ?_
      refine g_if_ne (pc := 48) (off := 7) 55 C (by decide +kernel) (by decide) (fun c9 => absurd (c11) c9) (fun _ => ?_)
      refine g_seg [(51, .iconst 0, 1), (52, .goto 21, 3)] 73 [(6, .int (nI j32)), (5, .int 0), (4, .int (nI nf)), (3, .int (nI nt)), (0, .ref x), (1, .ref s), (2, .int v)] [.int 0] C (by decide +kernel) rfl ?_
      refine g_widen (k := 0) (n := 0) (by decide) (by decide) ?_
      refine g_tableIn (pc := 73) (dflt := 557) (lo := 0) (hi := 7) (offs := #[47, 199, 278, 326, 384, 384, 384, 469]) (len := 47) (off := 47) 120 C (by decide +kernel) (by decide) (by decide) (by decide) (by decide) ?_
      refine g_subp [4, 5, 6, 3, 2, 1, 0] (lv' := [(0, .ref x), (1, .ref s), (2, .int v), (3, .int (nI nt)), (4, .int (nI nf)), (5, .int 0), (6, .int (nI j32))]) rfl ?_
      exact t_rig C R X hL hS hv hbn 
    · refine g_seg [(33, .iconst 0, 1), (34, .goto 11, 3), (45, .istore 6, 2), (47, .iload_n 3, 1)] 48 [(6, .int 0), (5, .int 0), (4, .int (nI nf)), (3, .int (nI nt)), (0, .ref x), (1, .ref s), (2, .int v)] [.int (nI nt)] C (by decide +kernel) rfl ?_
      refine g_if_ne (pc := 48) (off := 7) 55 C (by decide +kernel) (by decide) (fun c9 => absurd (c11) c9) (fun _ => ?_)
      refine g_seg [(51, .iconst 0, 1), (52, .goto 21, 3)] 73 [(6, .int 0), (5, .int 0), (4, .int (nI nf)), (3, .int (nI nt)), (0, .ref x), (1, .ref s), (2, .int v)] [.int 0] C (by decide +kernel) rfl ?_
      refine g_widen (k := 0) (n := 0) (by decide) (by decide) ?_
      refine g_tableIn (pc := 73) (dflt := 557) (lo := 0) (hi := 7) (offs := #[47, 199, 278, 326, 384, 384, 384, 469]) (len := 47) (off := 47) 120 C (by decide +kernel) (by decide) (by decide) (by decide) (by decide) ?_
      refine g_subp [4, 5, 6, 3, 2, 1, 0] (lv' := [(0, .ref x), (1, .ref s), (2, .int v), (3, .int (nI nt)), (4, .int (nI nf)), (5, .int 0), (6, .int 0)]) rfl ?_
      exact t_rig C R X hL hS hv hbn 
set_option maxHeartbeats 4000000 in
set_option maxRecDepth 100000 in
theorem c_L_build (l : Launch) (D : va_G) (cy : Nat → ClassId) {G : GG} {x : Nat} {ad : Nat → Nat → Nat} (hX0 : RX cy x ad 0 0 0 0 0 zR zR zR zR zR zR zR G) (sb L : Nat) (xs : Nat → Int32) (hLn : L ≤ 260) : CtrS l D cy yL_build method_5_code 4 (some (.object "CircusLinesLaw$Sim")) kL_build [.ref x, .ref sb] G sb L xs (pA (fun v G' => ∃ s, v = .ref s ∧ LA cy x s 0 G')) := by
  refine CtrS.mk (by decide +kernel) (Nat.le_of_ble_eq_true rfl) ?_
  intro κ C R X Z
  refine g_pc (pc' := 0) rfl ?_
  refine g_new (pc := 0) (ci := 5) (fs := [.null, .null, .null, .null, .int 0]) C rfl inX5 tyX5_ok q609 q610 q22 (fun j hj => by rcases (show j = 0 ∨ j = 1 ∨ j = 2 ∨ j = 3 ∨ j = 4 by omega) with rfl | rfl | rfl | rfl | rfl <;> rfl) (Nat.le_of_ble_eq_true rfl) (Nat.le_of_ble_eq_true rfl) (by decide +kernel) (fun s hs => ?_)
  refine g_seg [(3, .dup, 1)] 4 [(0, .ref x), (1, .ref sb)] [.ref s, .ref s] C (by decide +kernel) rfl ?_
  refine g_callIM (pc := 4) (host := "CircusLinesLaw") C X mI_X5_init (fun U h9 => h9.2.2.2.2.2.2.2) (Ctr.frame (G1 := g_up (fun _ => none) s (.inr (5, [.null, .null, .null, .null, .int 0]))) (c_X5_init l D cy _ s (g_up_self ..)) one_sub) rfl ⟨⟨(Nat.le_of_ble_eq_true rfl), (Nat.le_of_ble_eq_true rfl)⟩, (by show (0 + 1) + 4 ≤ 95; omega), (by show (0 + 5) + 0 ≤ 1145; omega)⟩ rfl (Nat.le_of_ble_eq_true rfl) (by decide +kernel) (fun r G3 h3 => ?_)
  obtain ⟨G2, ⟨rfl, rt, rd, hS0⟩, hf⟩ := h3
  obtain ⟨t1, t2, t3⟩ := one_fr hs hf
  have hA0 : LA cy x s 0 G3 := ⟨G2, rt, rd, 0, 0, 0, 0, zR, zR, zR, zR, ⟨G, ad, zR, zR, zR, hX0, ⟨⟨t1, t2, fun a e h9 => by cases h9⟩, t3, fun _ _ _ => rfl, fun _ _ _ => rfl⟩⟩, RS.ext hS0 (fun i k h9 => absurd h9 (Nat.not_lt_zero i)) (fun i k h9 => absurd h9 (Nat.not_lt_zero i)) (fun i k h9 => absurd h9 (Nat.not_lt_zero i)) (fun i k h9 => absurd h9 (Nat.not_lt_zero i)), ⟨fun i h9 => absurd h9 (Nat.not_lt_zero i), fun i h9 => absurd h9 (Nat.not_lt_zero i), fun i h9 => absurd h9 (Nat.not_lt_zero i)⟩⟩
  show PG κ 4 _ _ G3 [(0, .ref x), (1, .ref sb)] 7 [.ref s]
  refine g_seg [(7, .astore_n 2, 1), (8, .iconst 0, 1), (9, .istore_n 3, 1)] 10 [(3, .int 0), (2, .ref s), (0, .ref x), (1, .ref sb)] [] C (by decide +kernel) rfl ?_
  refine g_widen (k := (((0 + 1) + 4) + 3 * 0)) (n := (((0 + 5) + 0) + 38 * 0)) (by show ((0 + 1) + 4) ≤ (((0 + 1) + 4) + 3 * 0); omega) (by show ((0 + 5) + 0) ≤ (((0 + 5) + 0) + 38 * 0); omega) ?_
  refine g_subp [2, 3, 1, 0] (lv' := [(0, .ref x), (1, .ref sb), (2, .ref s), (3, .int 0)]) rfl ?_
  have lp11 : ∀ (m k : Nat) (G1 : GG) (xk : Int32), 30 + 1 ≤ k + m → k ≤ 30 → xk = nI k → LA cy x s 0 G1 → PG κ 4 (((0 + 1) + 4) + 3 * k) (((0 + 5) + 0) + 38 * k) G1 [(0, .ref x), (1, .ref sb), (2, .ref s), (3, .int xk)] 10 [] := by
    intro m
    induction m with
    | zero => intro k G1 xk h1 h2; intros; exact absurd h1 (by omega)
    | succ m ih =>
      intro k G1 xk hm hk hx hA1
      refine g_seg [(10, .iload_n 3, 1), (11, .bipush 30, 2)] 13 [(0, .ref x), (1, .ref sb), (2, .ref s), (3, .int xk)] [.int 30, .int xk] C (by decide +kernel) rfl ?_
      refine g_icmp_ge (pc := 13) (off := 67) 80 C (by decide +kernel) (by decide) (fun c12 => ?_) (fun c12 => ?_)
      · have hk8 : k = 30 := by have := lp_ge (n := 30) hx (by omega) (by omega) c12; omega
        refine g_seg [(80, .aload_n 2, 1)] 81 [(0, .ref x), (1, .ref sb), (2, .ref s), (3, .int xk)] [.ref s] C (by decide +kernel) rfl ?_
        exact g_aret (pc := 81) C R (Or.inl ⟨_, rfl⟩) (Or.inr ⟨_, rfl⟩) (⟨_, rfl, s, rfl, hA1⟩) (by show (((0 + 1) + 4) + 3 * k) ≤ 95; omega) (by show (((0 + 5) + 0) + 38 * k) ≤ 1145; omega) (by decide +kernel)
      · have hk8 : k < 30 := lp_lt (n := 30) hx (by omega) (by omega) c12
        refine g_seg [(16, .aload_n 0, 1), (17, .aload_n 2, 1), (18, .aload_n 1, 1), (19, .iload_n 3, 1), (20, .bipush 15, 2)] 22 [(0, .ref x), (1, .ref sb), (2, .ref s), (3, .int xk)] [.int 15, .int xk, .ref sb, .ref s, .ref x] C (by decide +kernel) rfl ?_
        refine g_irem (pc := 22) C (by decide +kernel) (by decide) ?_
        refine g_callSS (pc := 23) C X Z mS_L_cell q395 (c_L_cell l D cy G1 sb L xs hLn (xk - xk / 15 * 15) (k % 15) (by rw [hx]; exact pk_rem (d := 15) (by omega) (by decide) (by decide)) (by omega)) rfl ⟨⟨(Nat.le_of_ble_eq_true rfl), (Nat.le_of_ble_eq_true rfl)⟩, (by show (((0 + 1) + 4) + 3 * k) + 0 ≤ 95; omega), (by show (((0 + 5) + 0) + 38 * k) + 0 ≤ 1145; omega)⟩ rfl (Nat.le_of_ble_eq_true rfl) (by decide +kernel) ?_
        refine g_kI (fun v14 G13 hp15 => ?_)
        obtain rfl := hp15
        refine g_seg [(26, .iload_n 3, 1), (27, .bipush 15, 2)] 29 [(0, .ref x), (1, .ref sb), (2, .ref s), (3, .int xk)] [.int 15, .int xk, .int v14, .ref s, .ref x] C (by decide +kernel) rfl ?_
        refine g_idiv (pc := 29) C (by decide +kernel) (by decide) ?_
        refine g_seg [(30, .iconst 4, 1), (31, .imul, 1), (32, .ishr, 1), (33, .sipush 157, 3), (36, .iload_n 3, 1), (37, .imul, 1), (38, .iadd, 1), (39, .iload_n 3, 1), (40, .bipush 12, 2)] 42 [(0, .ref x), (1, .ref sb), (2, .ref s), (3, .int xk)] [.int 12, .int xk, .int ((v14 >>> (((xk / 15) * 4) &&& 31)) + (157 * xk)), .ref s, .ref x] C (by decide +kernel) rfl ?_
        refine g_icmp_ge (pc := 42) (off := 22) 64 C (by decide +kernel) (by decide) (fun c16 => ?_) (fun c16 => ?_)
        · refine g_seg [(64, .iconst 0, 1), (65, .iadd, 1)] 66 [(0, .ref x), (1, .ref sb), (2, .ref s), (3, .int xk)] [.int (((v14 >>> (((xk / 15) * 4) &&& 31)) + (157 * xk)) + 0), .ref s, .ref x] C (by decide +kernel) rfl ?_
          refine g_callSN (pc := 66) C X mS_L_act q399 (c_L_act l D cy hA1 (by decide) (((v14 >>> (((xk / 15) * 4) &&& 31)) + (157 * xk)) + 0)) rfl ⟨⟨(Nat.le_of_ble_eq_true rfl), (Nat.le_of_ble_eq_true rfl)⟩, (by show ((((0 + 1) + 4) + 3 * k) + 0) + 3 ≤ 95; omega), (by show ((((0 + 5) + 0) + 38 * k) + 0) + 38 ≤ 1145; omega)⟩ rfl (Nat.le_of_ble_eq_true rfl) (by decide +kernel) (g_kI (fun v9 G17 hp9 => ?_))
          obtain ⟨rfl, hA18⟩ := hp9
          refine g_if_ne (pc := 69) (off := 5) 74 C (by decide +kernel) (by decide) (fun _ => ?_) (fun c9 => absurd c9 (by decide))
          refine g_seg [(74, .iinc 3 1, 3), (77, .goto (-67), 3)] 10 [(3, .int (xk + 1)), (0, .ref x), (1, .ref sb), (2, .ref s)] [] C (by decide +kernel) rfl ?_
          refine g_subp [1, 2, 3, 0] (lv' := [(0, .ref x), (1, .ref sb), (2, .ref s), (3, .int (xk + 1))]) rfl ?_
          refine g_widen (k := (((0 + 1) + 4) + 3 * (k + 1))) (n := (((0 + 5) + 0) + 38 * (k + 1))) (by show (((((0 + 1) + 4) + 3 * k) + 0) + 3) ≤ (((0 + 1) + 4) + 3 * (k + 1)); omega) (by show (((((0 + 5) + 0) + 38 * k) + 0) + 38) ≤ (((0 + 5) + 0) + 38 * (k + 1)); omega) ?_
          exact ih (k + 1) G17 (xk + 1) (by omega) (by omega) (lp_s hx) (hA18)
        · refine g_seg [(45, .sipush 512, 3), (48, .iload_n 3, 1), (49, .iconst 4, 1)] 50 [(0, .ref x), (1, .ref sb), (2, .ref s), (3, .int xk)] [.int 4, .int xk, .int 512, .int ((v14 >>> (((xk / 15) * 4) &&& 31)) + (157 * xk)), .ref s, .ref x] C (by decide +kernel) rfl ?_
          refine g_irem (pc := 50) C (by decide +kernel) (by decide) ?_
          refine g_seg [(51, .iconst 3, 1), (52, .imul, 1), (53, .bipush 11, 2)] 55 [(0, .ref x), (1, .ref sb), (2, .ref s), (3, .int xk)] [.int 11, .int ((xk - xk / 4 * 4) * 3), .int 512, .int ((v14 >>> (((xk / 15) * 4) &&& 31)) + (157 * xk)), .ref s, .ref x] C (by decide +kernel) rfl ?_
          refine g_irem (pc := 55) C (by decide +kernel) (by decide) ?_
          refine g_seg [(56, .iload_n 3, 1), (57, .iconst 4, 1)] 58 [(0, .ref x), (1, .ref sb), (2, .ref s), (3, .int xk)] [.int 4, .int xk, .int (((xk - xk / 4 * 4) * 3) - ((xk - xk / 4 * 4) * 3) / 11 * 11), .int 512, .int ((v14 >>> (((xk / 15) * 4) &&& 31)) + (157 * xk)), .ref s, .ref x] C (by decide +kernel) rfl ?_
          refine g_idiv (pc := 58) C (by decide +kernel) (by decide) ?_
          refine g_seg [(59, .iadd, 1), (60, .imul, 1), (61, .goto 4, 3), (65, .iadd, 1)] 66 [(0, .ref x), (1, .ref sb), (2, .ref s), (3, .int xk)] [.int (((v14 >>> (((xk / 15) * 4) &&& 31)) + (157 * xk)) + (512 * ((((xk - xk / 4 * 4) * 3) - ((xk - xk / 4 * 4) * 3) / 11 * 11) + (xk / 4)))), .ref s, .ref x] C (by decide +kernel) rfl ?_
          refine g_callSN (pc := 66) C X mS_L_act q399 (c_L_act l D cy hA1 (by decide) (((v14 >>> (((xk / 15) * 4) &&& 31)) + (157 * xk)) + (512 * ((((xk - xk / 4 * 4) * 3) - ((xk - xk / 4 * 4) * 3) / 11 * 11) + (xk / 4))))) rfl ⟨⟨(Nat.le_of_ble_eq_true rfl), (Nat.le_of_ble_eq_true rfl)⟩, (by show ((((0 + 1) + 4) + 3 * k) + 0) + 3 ≤ 95; omega), (by show ((((0 + 5) + 0) + 38 * k) + 0) + 38 ≤ 1145; omega)⟩ rfl (Nat.le_of_ble_eq_true rfl) (by decide +kernel) (g_kI (fun v9 G19 hp9 => ?_))
          obtain ⟨rfl, hA20⟩ := hp9
          refine g_if_ne (pc := 69) (off := 5) 74 C (by decide +kernel) (by decide) (fun _ => ?_) (fun c9 => absurd c9 (by decide))
          refine g_seg [(74, .iinc 3 1, 3), (77, .goto (-67), 3)] 10 [(3, .int (xk + 1)), (0, .ref x), (1, .ref sb), (2, .ref s)] [] C (by decide +kernel) rfl ?_
          refine g_subp [1, 2, 3, 0] (lv' := [(0, .ref x), (1, .ref sb), (2, .ref s), (3, .int (xk + 1))]) rfl ?_
          refine g_widen (k := (((0 + 1) + 4) + 3 * (k + 1))) (n := (((0 + 5) + 0) + 38 * (k + 1))) (by show (((((0 + 1) + 4) + 3 * k) + 0) + 3) ≤ (((0 + 1) + 4) + 3 * (k + 1)); omega) (by show (((((0 + 5) + 0) + 38 * k) + 0) + 38) ≤ (((0 + 5) + 0) + 38 * (k + 1)); omega) ?_
          exact ih (k + 1) G19 (xk + 1) (by omega) (by omega) (lp_s hx) (hA20)
  exact lp11 (30 + 1) 0 G3 0 (by omega) (by omega) (nI_0.symm) (hA0)
