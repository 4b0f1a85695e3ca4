def s_digest (b : Int32) (nt nf nc nn : Nat) (T E C N : Rw) : Int64 :=
  its (fun k d => (d * 31 + (N k 0).toInt64) * 31 + (N k 1).toInt64)
    (its (fun t d => s_dig (fun w => s_toldC C t (nI w)) d 5)
      (its (fun t d => s_dig (fun w => s_toldFX E b t (nI w)) d 5)
        (its (fun t d => s_dig (fun w => s_toldX T E nf b t (nI w)) d 8)
          (s_dig (fun w => s_countX b nt nf nc T E C (nI w)) 1061 9) nt) nf) nc) nn
theorem mean_0 {E : Rw} {nf : Nat} (hn : nf ≤ 8) (h : nI nf ≤ 0) : FP.dconst0 = s_mean E nf := by
  have : nf = 0 := by
    rcases Nat.eq_zero_or_pos nf with h1 | h1
    · exact h1
    · exact absurd h (nI_nle h1 (by omega))
  unfold s_mean; rw [if_pos this]
theorem mean_1 {E : Rw} {nf : Nat} {s : Int32} (hs : s = s_caught E nf) (h : ¬ nI nf ≤ 0) : FP.ddiv (FP.i2d s) (FP.i2d (nI nf)) = s_mean E nf := by
  have : ¬ nf = 0 := fun e => h (by rw [e]; decide)
  unfold s_mean; rw [if_neg this, hs]
section PGN
variable {κ : Kx} {l0 : Launch} {D0 : va_G} {cy0 : Nat → ClassId} {y : MethodName} {nL ce sl index : Nat} {cc : ByteArray} {rm : Room} {ret : Option FieldType} {G : GG} {lv : LV} {pc : Nat} {st rest : List Value}
/-- a new array of references, all null -/
theorem g_anew {C1 : String} {t0 N' : Nat} {cA : ClassId} {n : Int32} (C : g_OK κ l0 D0 cy0 y nL cc rm ret) (hcl : Cond.classLink y.cls index C1 ∈ lw_T) (hao : ∀ U, g_KA U → va_Nw (.arrayOver (.object C1)) U) (ht : (g_tys cy0)[t0]? = some (cA, .object C1)) (hn : ¬ n < 0) (hN : n.toNatClampNeg = N') (hbytes : N' * 4 ≤ 536870912) (hcells : ce + 1 ≤ rm.cells) (hslots : sl + N' ≤ rm.slots) (hd : decode cc pc = .ok (.anewarray index, 3))
    (kk : ∀ q, G q = none → PG κ nL (ce + 1) (sl + N') (g_up G q (.inl (cA, N', .inr (.inr (.inr (.inr (fun _ => none))))))) lv (pc + 3) (.ref q :: rest)) : PG κ nL ce sl G lv pc (.int n :: rest) := by
  obtain ⟨p, l, e, R, s, m, args, below, meth, c, D, cy, A, H0, Q⟩ := κ
  obtain ⟨⟨-, rfl, rfl⟩, h0, hb, hml, hown, hT, hK, hA, rfl, -⟩ := C
  subst hN
  intro H locs ls hw hl
  have hover : (Cond.arrayOver (.object C1)).before args s = true := va_AO.use (hao s hK.2)
  refine W.anew h0 hb hown (hT _ hcl) hover rfl hd rfl hn hbytes hcells hslots fun cA1 kA comp f1 f2 f3 f4 => ?_
  obtain ⟨kA2, comp2, -, -, -, r4⟩ := (hK.1.2 t0 _ ht).2
  cases Option.some.inj (f1.symm.trans r4)
  generalize hH1 : H.push ({ cls := cA, slots := Array.replicate n.toNatClampNeg .null, vm := .none } : Cell) = H1
  have z1 : H1.size = H.size + 1 := by rw [← hH1, Array.size_push]
  have e1 : H1[H.size]? = some (arrV cA n.toNatClampNeg (fun _ => .null)) := by rw [← hH1, Array.getElem?_push_size, ← arrV_new]
  have o1 : ∀ q : Nat, q < H.size → H1[q]? = H[q]? := fun q hq => by rw [← hH1, Array.getElem?_push, if_neg (Nat.ne_of_lt hq)]
  have he : va_at D vwCl (H.size, .inl (cA, n.toNatClampNeg, .inr (.inr (.inr (.inr (fun _ => none)))))) H1 := by
    show H1[H.size]? = some (vp_cell _ _)
    rw [vp_cell_q]
    exact e1
  obtain ⟨hn0, hw1⟩ := g_wnew hA hw he z1 o1
  exact kk H.size hn0 H1 locs ls hw1 hl
/-- a new int array, all 0 -/
theorem g_newi {N' : Nat} {n : Int32} (C : g_OK κ l0 D0 cy0 y nL cc rm ret) (hcl : Cond.arrayClass .int ∈ lw_T) (hn : ¬ n < 0) (hN : n.toNatClampNeg = N') (hbytes : N' * 4 ≤ 536870912) (hcells : ce + 1 ≤ rm.cells) (hslots : sl + N' ≤ rm.slots) (hd : decode cc pc = .ok (.newarray .int, 2))
    (kk : ∀ q, G q = none → PG κ nL (ce + 1) (sl + N') (g_up G q (.inl (cy0 0, N', .inl (fun _ => 0)))) lv (pc + 2) (.ref q :: rest)) : PG κ nL ce sl G lv pc (.int n :: rest) := by
  obtain ⟨p, l, e, R, s, m, args, below, meth, c, D, cy, A, H0, Q⟩ := κ
  obtain ⟨⟨-, rfl, rfl⟩, h0, hb, hml, hown, hT, hK, hA, rfl, -⟩ := C
  intro H locs ls hw hl
  refine va_newaK (atype := .int) h0 hb (hT _ hcl) rfl hd rfl hn hN hbytes hcells hslots rfl fun H1 cA e1 z1 o1 hAr hNm => ?_
  have r4 : s.vm.findClass ("[" ++ FieldType.int.toString) = some (cy 0) := (hK.1.2 0 _ rfl).2
  cases Option.some.inj (hNm.symm.trans r4)
  have he : va_at D vwCl (H.size, .inl (cy 0, N', .inl (fun _ => 0))) H1 := e1
  obtain ⟨hn0, hw1⟩ := g_wnew hA hw he z1 o1
  exact kk H.size hn0 H1 locs ls hw1 hl
end PGN
def zR : Rw := fun _ _ => 0
def ad4 (q0 q1 q2 q3 : Nat) : Nat → Nat → Nat := fun k i => if k = 0 then (match i with | 0 => q0 | 1 => q1 | 2 => q2 | _ => q3) else 0
theorem RX_zero {cy : Nat → ClassId} {x q0 q1 q2 q3 : Nat} {G : GG} (h : G x = some (.inr (4, [.ref q0, .ref q1, .ref q2, .ref q3, .int 0, .int 0, .int 0, .int 0, .int 0]))) (h0 : G q0 = some (.inl (cy 1, 6, .inr (.inr (.inr (.inr (fun _ => none))))))) (h1 : G q1 = some (.inl (cy 2, 8, .inr (.inr (.inr (.inr (fun _ => none))))))) (h2 : G q2 = some (.inl (cy 3, 20, .inr (.inr (.inr (.inr (fun _ => none))))))) (h3 : G q3 = some (.inl (cy 4, 3, .inr (.inr (.inr (.inr (fun _ => none))))))) : RX cy x (ad4 q0 q1 q2 q3) 0 0 0 0 0 zR zR zR zR zR zR zR G := by
  refine ⟨⟨h, ?_, ?_, ?_, ?_⟩, ⟨fun i hi => absurd hi (by omega), fun i hi => absurd hi (by omega), fun i hi => absurd hi (by omega), fun i hi => absurd hi (by omega)⟩, ⟨fun i j hi => absurd hi (by omega), fun i j hi => absurd hi (by omega), fun i j hi => absurd hi (by omega)⟩, by omega⟩
  · show G q0 = _; rw [h0]; simp [oA]
  · show G q1 = _; rw [h1]; simp [oA]
  · show G q2 = _; rw [h2]; simp [oA]
  · show G q3 = _; rw [h3]; simp [oA]

set_option maxHeartbeats 4000000 in
set_option maxRecDepth 100000 in
theorem c_X4_meets (l : Launch) (D : va_G) (cy : Nat → ClassId) {G : GG} {x : Nat} {ad : Nat → Nat → Nat} {b : Int32} {nt nf nc nn : Nat} {T E Cu N KT KF KC : Rw} (h : RX cy x ad b nt nf nc nn T E Cu N KT KF KC G) (hwok : s_wok T nt) (t1 t2 : Int32) : CtrX l D cy yX4_meets prog_1_method_16_code 6 (some .int) kX4_meets [.ref x, .int t1, .int t2] G (pI (fun v G' => ∃ i j, i < nt ∧ t1 = nI i ∧ j < nt ∧ t2 = nI j ∧ (((T i 5 = 0 ∨ T j 5 = 0) ∧ v = -1) ∨ (¬ T i 5 = 0 ∧ ¬ T j 5 = 0 ∧ v = s_meet T i j b)) ∧ RX cy x ad b nt nf nc nn T E Cu N KT KF KC G')) (fun e G' => RX cy x ad b nt nf nc nn T E Cu N KT KF KC G' ∧ ((e = "java/lang/IndexOutOfBoundsException" ∧ ((∀ i, i < nt → t1 ≠ nI i) ∨ (∀ i, i < nt → t2 ≠ nI i))))) := by
  refine CtrX.mk (by decide +kernel) (Nat.le_of_ble_eq_true rfl) ?_
  intro κ C R
  refine g_pc (pc' := 0) rfl ?_
  refine g_seg [(0, .aload_n 0, 1), (1, .iload_n 1, 1)] 2 [(0, .ref x), (1, .int t1), (2, .int t2)] [.int t1, .ref x] C (by decide +kernel) rfl ?_
  refine g_callV (pc := 2) C mV_X4_trapezeNumbered q82 (h.1.1) rfl rfl (c_X4_trapezeNumbered l D cy h t1) rfl ⟨⟨Nat.le_of_ble_eq_true rfl, Nat.le_of_ble_eq_true rfl⟩, Nat.le_of_ble_eq_true rfl, Nat.le_of_ble_eq_true rfl⟩ rfl (Nat.le_of_ble_eq_true rfl) (by decide +kernel) ?_
  refine g_kA (fun v3 G2 hp1 => ?_)
  obtain ⟨rfl, hp1⟩ := hp1
  rcases hp1 with ⟨i4, hi5, hn6, rfl⟩ | ⟨hn6, rfl⟩
  · refine g_seg [(5, .astore_n 3, 1), (6, .aload_n 0, 1), (7, .iload_n 2, 1)] 8 [(3, .ref (ad 1 i4)), (0, .ref x), (1, .int t1), (2, .int t2)] [.int t2, .ref x] C (by decide +kernel) rfl ?_
    refine g_callV (pc := 8) C mV_X4_trapezeNumbered q82 (h.1.1) rfl rfl (c_X4_trapezeNumbered l D cy h t2) rfl ⟨⟨Nat.le_of_ble_eq_true rfl, Nat.le_of_ble_eq_true rfl⟩, Nat.le_of_ble_eq_true rfl, Nat.le_of_ble_eq_true rfl⟩ rfl (Nat.le_of_ble_eq_true rfl) (by decide +kernel) ?_
    refine g_kA (fun v9 G8 hp7 => ?_)
    obtain ⟨rfl, hp7⟩ := hp7
    rcases hp7 with ⟨i10, hi11, hn12, rfl⟩ | ⟨hn12, rfl⟩
    · refine g_seg [(11, .astore 4, 2), (13, .aload_n 3, 1)] 14 [(4, .ref (ad 1 i10)), (3, .ref (ad 1 i4)), (0, .ref x), (1, .int t1), (2, .int t2)] [.ref (ad 1 i4)] C (by decide +kernel) rfl ?_
      refine g_ifnull (pc := 14) (off := 8) C (by decide +kernel) ?_
      refine g_seg [(17, .aload 4, 2)] 19 [(4, .ref (ad 1 i10)), (3, .ref (ad 1 i4)), (0, .ref x), (1, .int t1), (2, .int t2)] [.ref (ad 1 i10)] C (by decide +kernel) rfl ?_
      refine g_ifnonnull (pc := 19) (off := 13) 32 C (by decide +kernel) (by decide) ?_
      refine g_seg [(32, .aload_n 3, 1)] 33 [(4, .ref (ad 1 i10)), (3, .ref (ad 1 i4)), (0, .ref x), (1, .int t1), (2, .int t2)] [.ref (ad 1 i4)] C (by decide +kernel) rfl ?_
      refine g_getf (pc := 33) (k := 6) (v := .int (T i4 5)) C fl_X4_70 (h.2.1.1 i4 hi5) rfl (by decide +kernel) ?_
      refine g_if_eq (pc := 36) (off := 11) 47 C (by decide +kernel) (by decide) (fun c13 => ?_) (fun c13 => ?_)
      · refine g_seg [(47, .iconst (-1), 1)] 48 [(4, .ref (ad 1 i10)), (3, .ref (ad 1 i4)), (0, .ref x), (1, .int t1), (2, .int t2)] [.int (-1)] C (by decide +kernel) rfl ?_
        exact g_iretX (pc := 48) C R (⟨_, rfl, i4, i10, hi5, hn6, hi11, hn12, Or.inl ⟨Or.inl c13, rfl⟩, h⟩) (Nat.le_of_ble_eq_true rfl) (Nat.le_of_ble_eq_true rfl) (by decide +kernel)
      · refine g_seg [(39, .aload 4, 2)] 41 [(4, .ref (ad 1 i10)), (3, .ref (ad 1 i4)), (0, .ref x), (1, .int t1), (2, .int t2)] [.ref (ad 1 i10)] C (by decide +kernel) rfl ?_
        refine g_getf (pc := 41) (k := 6) (v := .int (T i10 5)) C fl_X4_70 (h.2.1.1 i10 hi11) rfl (by decide +kernel) ?_
        refine g_if_ne (pc := 44) (off := 5) 49 C (by decide +kernel) (by decide) (fun c14 => ?_) (fun c14 => ?_)
        · refine g_seg [(49, .iconst 0, 1), (50, .istore 5, 2)] 52 [(5, .int 0), (4, .ref (ad 1 i10)), (3, .ref (ad 1 i4)), (0, .ref x), (1, .int t1), (2, .int t2)] [] C (by decide +kernel) rfl ?_
          refine g_subp [3, 2, 1, 0] (lv' := [(0, .ref x), (3, .ref (ad 1 i4)), (4, .ref (ad 1 i10)), (5, .int 0)]) rfl ?_
          have lp15 : ∀ (m k : Nat) (xk : Int32), 201 + 1 ≤ k + m → k ≤ 201 → xk = nI k → (∀ u, u < k → s_near (s_at T i4 (b + nI u)) (s_at T i10 (b + nI u)) = false) → PG κ 6 0 0 G8 [(0, .ref x), (3, .ref (ad 1 i4)), (4, .ref (ad 1 i10)), (5, .int xk)] 52 [] := by
            intro m
            induction m with
            | zero => intro k xk h1 h2; intros; exact absurd h1 (by omega)
            | succ m ih =>
              intro k xk hm hk hx hs
              refine g_seg [(52, .iload 5, 2), (54, .sipush 200, 3)] 57 [(0, .ref x), (3, .ref (ad 1 i4)), (4, .ref (ad 1 i10)), (5, .int xk)] [.int 200, .int xk] C (by decide +kernel) rfl ?_
              refine g_icmp_gt (pc := 57) (off := 41) 98 C (by decide +kernel) (by decide) (fun c16 => ?_) (fun c16 => ?_)
              · have hk8 : k = 201 := by have := lp_gt hx (by omega) (n := 200) (by decide) c16; omega
                refine g_seg [(98, .iconst (-1), 1)] 99 [(0, .ref x), (3, .ref (ad 1 i4)), (4, .ref (ad 1 i10)), (5, .int xk)] [.int (-1)] C (by decide +kernel) rfl ?_
                exact g_iretX (pc := 99) C R (⟨_, rfl, i4, i10, hi5, hn6, hi11, hn12, Or.inr ⟨c13, c14, (meet_n (by rw [hk8] at hs; exact hs)).symm⟩, h⟩) (Nat.le_of_ble_eq_true rfl) (Nat.le_of_ble_eq_true rfl) (by decide +kernel)
              · have hk8 : k < 201 := by have := lp_ngt hx (by omega) (n := 200) (by decide) c16; omega
                refine g_seg [(60, .aload_n 3, 1), (61, .aload_n 0, 1)] 62 [(0, .ref x), (3, .ref (ad 1 i4)), (4, .ref (ad 1 i10)), (5, .int xk)] [.ref x, .ref (ad 1 i4)] C (by decide +kernel) rfl ?_
                refine g_getf (pc := 62) (k := 8) (v := .int b) C fl_X4_53 (h.1.1) rfl (by decide +kernel) ?_
                refine g_seg [(65, .iload 5, 2), (67, .iadd, 1)] 68 [(0, .ref x), (3, .ref (ad 1 i4)), (4, .ref (ad 1 i10)), (5, .int xk)] [.int (b + xk), .ref (ad 1 i4)] C (by decide +kernel) rfl ?_
                refine g_callV (pc := 68) C mV_X3_placeIn q161 (h.2.1.1 i4 hi5) rfl rfl (c_X3_placeIn l D cy G8 (ad 1 i4) (T i4 0) (T i4 1) (T i4 3) (T i4 2) (T i4 6) (T i4 4) (T i4 5) (KT i4 0) (KT i4 1) (h.2.1.1 i4 hi5) (b + xk) (hwok i4 hi5)) rfl ⟨⟨Nat.le_of_ble_eq_true rfl, Nat.le_of_ble_eq_true rfl⟩, Nat.le_of_ble_eq_true rfl, Nat.le_of_ble_eq_true rfl⟩ rfl (Nat.le_of_ble_eq_true rfl) (by decide +kernel) ?_
                refine g_kI (fun v19 G18 hp17 => ?_)
                obtain ⟨rfl, rfl⟩ := hp17
                refine g_seg [(71, .aload 4, 2), (73, .aload_n 0, 1)] 74 [(0, .ref x), (3, .ref (ad 1 i4)), (4, .ref (ad 1 i10)), (5, .int xk)] [.ref x, .ref (ad 1 i10), .int (s_pl (T i4 0) (T i4 1) (T i4 2) ((b + xk) - (T i4 6)))] C (by decide +kernel) rfl ?_
                refine g_getf (pc := 74) (k := 8) (v := .int b) C fl_X4_53 (h.1.1) rfl (by decide +kernel) ?_
                refine g_seg [(77, .iload 5, 2), (79, .iadd, 1)] 80 [(0, .ref x), (3, .ref (ad 1 i4)), (4, .ref (ad 1 i10)), (5, .int xk)] [.int (b + xk), .ref (ad 1 i10), .int (s_pl (T i4 0) (T i4 1) (T i4 2) ((b + xk) - (T i4 6)))] C (by decide +kernel) rfl ?_
                refine g_callV (pc := 80) C mV_X3_placeIn q161 (h.2.1.1 i10 hi11) rfl rfl (c_X3_placeIn l D cy G18 (ad 1 i10) (T i10 0) (T i10 1) (T i10 3) (T i10 2) (T i10 6) (T i10 4) (T i10 5) (KT i10 0) (KT i10 1) (h.2.1.1 i10 hi11) (b + xk) (hwok i10 hi11)) rfl ⟨⟨Nat.le_of_ble_eq_true rfl, Nat.le_of_ble_eq_true rfl⟩, Nat.le_of_ble_eq_true rfl, Nat.le_of_ble_eq_true rfl⟩ rfl (Nat.le_of_ble_eq_true rfl) (by decide +kernel) ?_
                refine g_kI (fun v22 G21 hp20 => ?_)
                obtain ⟨rfl, rfl⟩ := hp20
                refine g_callS (pc := 83) C mS_X4_isNear q279 (c_X4_isNear l D cy G21 (s_pl (T i4 0) (T i4 1) (T i4 2) ((b + xk) - (T i4 6))) (s_pl (T i10 0) (T i10 1) (T i10 2) ((b + xk) - (T i10 6)))) rfl ⟨⟨Nat.le_of_ble_eq_true rfl, Nat.le_of_ble_eq_true rfl⟩, Nat.le_of_ble_eq_true rfl, Nat.le_of_ble_eq_true rfl⟩ rfl (Nat.le_of_ble_eq_true rfl) (by decide +kernel) ?_
                refine g_kI (fun v25 G24 hp23 => ?_)
                obtain ⟨rfl, hp23⟩ := hp23
                rcases hp23 with ⟨rfl, h26⟩ | ⟨rfl, h26⟩
                · refine g_if_eq (pc := 86) (off := 6) 92 C (by decide +kernel) (by decide) (fun c9 => absurd c9 (by decide)) (fun _ => ?_)
                  refine g_seg [(89, .iload 5, 2)] 91 [(0, .ref x), (3, .ref (ad 1 i4)), (4, .ref (ad 1 i10)), (5, .int xk)] [.int xk] C (by decide +kernel) rfl ?_
                  exact g_iretX (pc := 91) C R (⟨_, rfl, i4, i10, hi5, hn6, hi11, hn12, Or.inr ⟨c13, c14, hx.trans (meet_y hk8 (by rw [← hx]; exact h26) hs).symm⟩, h⟩) (Nat.le_of_ble_eq_true rfl) (Nat.le_of_ble_eq_true rfl) (by decide +kernel)
                · refine g_if_eq (pc := 86) (off := 6) 92 C (by decide +kernel) (by decide) (fun _ => ?_) (fun c9 => absurd (by decide) c9)
                  refine g_seg [(92, .iinc 5 1, 3), (95, .goto (-43), 3)] 52 [(5, .int (xk + 1)), (0, .ref x), (3, .ref (ad 1 i4)), (4, .ref (ad 1 i10))] [] C (by decide +kernel) rfl ?_
                  refine g_subp [1, 2, 3, 0] (lv' := [(0, .ref x), (3, .ref (ad 1 i4)), (4, .ref (ad 1 i10)), (5, .int (xk + 1))]) rfl ?_
                  exact ih (k + 1) (xk + 1) (by omega) (by omega) (lp_s hx) (no_f2 hs (by rw [← hx]; exact h26))
          exact lp15 (201 + 1) 0 0 (by omega) (by omega) (nI_0.symm) (fun u h1 => absurd h1 (by omega))
        · refine g_seg [(47, .iconst (-1), 1)] 48 [(4, .ref (ad 1 i10)), (3, .ref (ad 1 i4)), (0, .ref x), (1, .int t1), (2, .int t2)] [.int (-1)] C (by decide +kernel) rfl ?_
          exact g_iretX (pc := 48) C R (⟨_, rfl, i4, i10, hi5, hn6, hi11, hn12, Or.inl ⟨Or.inr c14, rfl⟩, h⟩) (Nat.le_of_ble_eq_true rfl) (Nat.le_of_ble_eq_true rfl) (by decide +kernel)
    · refine g_seg [(11, .astore 4, 2), (13, .aload_n 3, 1)] 14 [(4, .null), (3, .ref (ad 1 i4)), (0, .ref x), (1, .int t1), (2, .int t2)] [.ref (ad 1 i4)] C (by decide +kernel) rfl ?_
      refine g_ifnull (pc := 14) (off := 8) C (by decide +kernel) ?_
      refine g_seg [(17, .aload 4, 2)] 19 [(4, .null), (3, .ref (ad 1 i4)), (0, .ref x), (1, .int t1), (2, .int t2)] [.null] C (by decide +kernel) rfl ?_
      refine g_ifnonnullN (pc := 19) (off := 13) C (by decide +kernel) ?_
      exact g_throw (pc := 22) (is := 65) (text := "no such trapeze") C R rfl ex_IOE (by decide +kernel) (⟨h, rfl, Or.inr hn12⟩) (Nat.le_of_ble_eq_true rfl) (Nat.le_of_ble_eq_true rfl) (Nat.le_of_ble_eq_true rfl) (Nat.le_of_ble_eq_true rfl) (by decide +kernel) (by decide +kernel) (by decide +kernel) (by decide +kernel) (by decide +kernel)
  · refine g_seg [(5, .astore_n 3, 1), (6, .aload_n 0, 1), (7, .iload_n 2, 1)] 8 [(3, .null), (0, .ref x), (1, .int t1), (2, .int t2)] [.int t2, .ref x] C (by decide +kernel) rfl ?_
    refine g_callV (pc := 8) C mV_X4_trapezeNumbered q82 (h.1.1) rfl rfl (c_X4_trapezeNumbered l D cy h t2) rfl ⟨⟨Nat.le_of_ble_eq_true rfl, Nat.le_of_ble_eq_true rfl⟩, Nat.le_of_ble_eq_true rfl, Nat.le_of_ble_eq_true rfl⟩ rfl (Nat.le_of_ble_eq_true rfl) (by decide +kernel) ?_
    refine g_kA (fun v29 G28 hp27 => ?_)
    obtain ⟨rfl, hp27⟩ := hp27
    rcases hp27 with ⟨i30, hi31, hn32, rfl⟩ | ⟨hn32, rfl⟩
    · refine g_seg [(11, .astore 4, 2), (13, .aload_n 3, 1)] 14 [(4, .ref (ad 1 i30)), (3, .null), (0, .ref x), (1, .int t1), (2, .int t2)] [.null] C (by decide +kernel) rfl ?_
      refine g_ifnullN (pc := 14) (off := 8) 22 C (by decide +kernel) (by decide) ?_
      exact g_throw (pc := 22) (is := 65) (text := "no such trapeze") C R rfl ex_IOE (by decide +kernel) (⟨h, rfl, Or.inl hn6⟩) (Nat.le_of_ble_eq_true rfl) (Nat.le_of_ble_eq_true rfl) (Nat.le_of_ble_eq_true rfl) (Nat.le_of_ble_eq_true rfl) (by decide +kernel) (by decide +kernel) (by decide +kernel) (by decide +kernel) (by decide +kernel)
    · refine g_seg [(11, .astore 4, 2), (13, .aload_n 3, 1)] 14 [(4, .null), (3, .null), (0, .ref x), (1, .int t1), (2, .int t2)] [.null] C (by decide +kernel) rfl ?_
      refine g_ifnullN (pc := 14) (off := 8) 22 C (by decide +kernel) (by decide) ?_
      exact g_throw (pc := 22) (is := 65) (text := "no such trapeze") C R rfl ex_IOE (by decide +kernel) (⟨h, rfl, Or.inl hn6⟩) (Nat.le_of_ble_eq_true rfl) (Nat.le_of_ble_eq_true rfl) (Nat.le_of_ble_eq_true rfl) (Nat.le_of_ble_eq_true rfl) (by decide +kernel) (by decide +kernel) (by decide +kernel) (by decide +kernel) (by decide +kernel)


set_option maxHeartbeats 4000000 in
set_option maxRecDepth 100000 in
theorem c_X4_mean (l : Launch) (D : va_G) (cy : Nat → ClassId) {G : GG} {x : Nat} {ad : Nat → Nat → Nat} {b : Int32} {nt nf nc nn : Nat} {T E Cu N KT KF KC : Rw} (h : RX cy x ad b nt nf nc nn T E Cu N KT KF KC G) : Ctr l D cy yX4_mean prog_1_method_20_code 6 (some .double) kX4_mean [.ref x] G (pD (fun v G' => v = s_mean E nf ∧ RX cy x ad b nt nf nc nn T E Cu N KT KF KC G')) := by
  refine Ctr.mk (by decide +kernel) (Nat.le_of_ble_eq_true rfl) ?_
  intro κ C R
  refine g_pc (pc' := 0) rfl ?_
  refine g_seg [(0, .iconst 0, 1), (1, .istore_n 1, 1), (2, .aload_n 0, 1)] 3 [(1, .int 0), (0, .ref x)] [.ref x] C (by decide +kernel) rfl ?_
  refine g_getf (pc := 3) (k := 1) (v := .ref (ad 0 1)) C fl_X4_17 (h.1.1) rfl (by decide +kernel) ?_
  refine g_seg [(6, .astore_n 2, 1), (7, .aload_n 2, 1)] 8 [(2, .ref (ad 0 1)), (1, .int 0), (0, .ref x)] [.ref (ad 0 1)] C (by decide +kernel) rfl ?_
  refine g_alenA (pc := 8) (len := 8) (t0 := 2) C (h.1.2.2.1) rfl (by decide +kernel) ?_
  refine g_seg [(9, .istore_n 3, 1), (10, .iconst 0, 1), (11, .istore 4, 2)] 13 [(4, .int 0), (3, .int (nI 8)), (2, .ref (ad 0 1)), (1, .int 0), (0, .ref x)] [] C (by decide +kernel) rfl ?_
  refine g_subp [4, 3, 2, 1, 0] (lv' := [(0, .ref x), (1, .int 0), (2, .ref (ad 0 1)), (3, .int (nI 8)), (4, .int 0)]) rfl ?_
  have lp1 : ∀ (m k : Nat) (s xk : Int32), 8 + 1 ≤ k + m → k ≤ 8 → xk = nI k → s = its (fun f s => s + E f 4) 0 (min k nf) → PG κ 6 0 0 G [(0, .ref x), (1, .int s), (2, .ref (ad 0 1)), (3, .int (nI 8)), (4, .int xk)] 13 [] := by
    intro m
    induction m with
    | zero => intro k s xk h1 h2; intros; exact absurd h1 (by omega)
    | succ m ih =>
      intro k s xk hm hk hx hs
      refine g_seg [(13, .iload 4, 2), (15, .iload_n 3, 1)] 16 [(0, .ref x), (1, .int s), (2, .ref (ad 0 1)), (3, .int (nI 8)), (4, .int xk)] [.int (nI 8), .int xk] C (by decide +kernel) rfl ?_
      refine g_icmp_ge (pc := 16) (off := 28) 44 C (by decide +kernel) (by decide) (fun c2 => ?_) (fun c2 => ?_)
      · have hk8 : k = 8 := by have := lp_ge hx (by omega) (by decide) c2; omega
        refine g_seg [(44, .aload_n 0, 1)] 45 [(0, .ref x), (1, .int s), (2, .ref (ad 0 1)), (3, .int (nI 8)), (4, .int xk)] [.ref x] C (by decide +kernel) rfl ?_
        refine g_getf (pc := 45) (k := 5) (v := .int (nI nf)) C fl_X4_98 (h.1.1) rfl (by decide +kernel) ?_
        refine g_if_le (pc := 48) (off := 14) 62 C (by decide +kernel) (by decide) (fun c3 => ?_) (fun c3 => ?_)
        · refine g_seg [(62, .dconst 0, 1)] 63 [(0, .ref x), (1, .int s), (2, .ref (ad 0 1)), (3, .int (nI 8)), (4, .int xk)] [.double FP.dconst0] C (by decide +kernel) rfl ?_
          exact g_dret (pc := 63) C R (⟨_, rfl, mean_0 (h.2.2.2.2.1) c3, h⟩) (Nat.le_of_ble_eq_true rfl) (Nat.le_of_ble_eq_true rfl) (by decide +kernel)
        · refine g_seg [(51, .iload_n 1, 1), (52, .i2d, 1), (53, .aload_n 0, 1)] 54 [(0, .ref x), (1, .int s), (2, .ref (ad 0 1)), (3, .int (nI 8)), (4, .int xk)] [.ref x, .double (FP.i2d s)] C (by decide +kernel) rfl ?_
          refine g_getf (pc := 54) (k := 5) (v := .int (nI nf)) C fl_X4_98 (h.1.1) rfl (by decide +kernel) ?_
          refine g_seg [(57, .i2d, 1)] 58 [(0, .ref x), (1, .int s), (2, .ref (ad 0 1)), (3, .int (nI 8)), (4, .int xk)] [.double (FP.i2d (nI nf)), .double (FP.i2d s)] C (by decide +kernel) rfl ?_
          refine g_ddiv (pc := 58) C (by decide +kernel) (dn_ok (fun h9 => c3 (by rw [h9]; decide))) ?_
          refine g_seg [(59, .goto 4, 3)] 63 [(0, .ref x), (1, .int s), (2, .ref (ad 0 1)), (3, .int (nI 8)), (4, .int xk)] [.double (FP.ddiv (FP.i2d s) (FP.i2d (nI nf)))] C (by decide +kernel) rfl ?_
          exact g_dret (pc := 63) C R (⟨_, rfl, mean_1 (its_e hs hk8 (h.2.2.2.2.1)) c3, h⟩) (Nat.le_of_ble_eq_true rfl) (Nat.le_of_ble_eq_true rfl) (by decide +kernel)
      · have hk8 : k < 8 := by have := lp_lt hx (by omega) (by decide) c2; omega
        refine g_seg [(19, .aload_n 2, 1), (20, .iload 4, 2)] 22 [(0, .ref x), (1, .int s), (2, .ref (ad 0 1)), (3, .int (nI 8)), (4, .int xk)] [.int xk, .ref (ad 0 1)] C (by decide +kernel) rfl ?_
        refine g_aaldA (pc := 22) (len := 8) (t0 := 2) (j := k) C (h.1.2.2.1) rfl (hx) (hk8) (by decide) (by decide +kernel) (fun hi4 => ?_) (fun hi4 => ?_)
        · refine g_seg [(23, .astore 5, 2), (25, .aload 5, 2)] 27 [(5, .ref (ad 2 k)), (0, .ref x), (1, .int s), (2, .ref (ad 0 1)), (3, .int (nI 8)), (4, .int xk)] [.ref (ad 2 k)] C (by decide +kernel) rfl ?_
          refine g_ifnull (pc := 27) (off := 11) C (by decide +kernel) ?_
          refine g_seg [(30, .iload_n 1, 1), (31, .aload 5, 2)] 33 [(5, .ref (ad 2 k)), (0, .ref x), (1, .int s), (2, .ref (ad 0 1)), (3, .int (nI 8)), (4, .int xk)] [.ref (ad 2 k), .int s] C (by decide +kernel) rfl ?_
          refine g_getf (pc := 33) (k := 4) (v := .int (E k 4)) C fl_X4_194 (h.2.1.2.1 k hi4) rfl (by decide +kernel) ?_
          refine g_seg [(36, .iadd, 1), (37, .istore_n 1, 1), (38, .iinc 4 1, 3), (41, .goto (-28), 3)] 13 [(4, .int (xk + 1)), (1, .int (s + (E k 4))), (5, .ref (ad 2 k)), (0, .ref x), (2, .ref (ad 0 1)), (3, .int (nI 8))] [] C (by decide +kernel) rfl ?_
          refine g_subp [3, 1, 4, 5, 0] (lv' := [(0, .ref x), (1, .int (s + (E k 4))), (2, .ref (ad 0 1)), (3, .int (nI 8)), (4, .int (xk + 1))]) rfl ?_
          exact ih (k + 1) (s + (E k 4)) (xk + 1) (by omega) (by omega) (lp_s hx) (its_y hs hi4 rfl)
        · refine g_seg [(23, .astore 5, 2), (25, .aload 5, 2)] 27 [(5, .null), (0, .ref x), (1, .int s), (2, .ref (ad 0 1)), (3, .int (nI 8)), (4, .int xk)] [.null] C (by decide +kernel) rfl ?_
          refine g_ifnullN (pc := 27) (off := 11) 38 C (by decide +kernel) (by decide) ?_
          refine g_seg [(38, .iinc 4 1, 3), (41, .goto (-28), 3)] 13 [(4, .int (xk + 1)), (5, .null), (0, .ref x), (1, .int s), (2, .ref (ad 0 1)), (3, .int (nI 8))] [] C (by decide +kernel) rfl ?_
          refine g_subp [2, 3, 4, 5, 0] (lv' := [(0, .ref x), (1, .int s), (2, .ref (ad 0 1)), (3, .int (nI 8)), (4, .int (xk + 1))]) rfl ?_
          exact ih (k + 1) s (xk + 1) (by omega) (by omega) (lp_s hx) (its_n hs hi4)
  exact lp1 (8 + 1) 0 0 0 (by omega) (by omega) (nI_0.symm) (its_0)

set_option maxHeartbeats 4000000 in
set_option maxRecDepth 100000 in
theorem c_X4_init (l : Launch) (D : va_G) (cy : Nat → ClassId) (G : GG) (x : Nat) (hX0 : G x = some (.inr (4, [.null, .null, .null, .null, .int 0, .int 0, .int 0, .int 0, .int 0]))) : Ctr l D cy yX4_init prog_1_method_1_code 1 none kX4_init [.ref x] G (pV (fun G' => ∃ ad, RX cy x ad 0 0 0 0 0 zR zR zR zR zR zR zR G')) := by
  refine Ctr.mk (by decide +kernel) (Nat.le_of_ble_eq_true rfl) ?_
  intro κ C R
  refine g_pc (pc' := 0) rfl ?_
  refine g_seg [(0, .aload_n 0, 1)] 1 [(0, .ref x)] [.ref x] C (by decide +kernel) rfl ?_
  refine g_obj (pc := 1) C q39 q40 q41 (Nat.le_of_ble_eq_true rfl) (Nat.le_of_ble_eq_true rfl) (by decide +kernel) ?_
  refine g_seg [(4, .aload_n 0, 1), (5, .bipush 6, 2)] 7 [(0, .ref x)] [.int 6, .ref x] C (by decide +kernel) rfl ?_
  refine g_anew (pc := 7) (t0 := 1) (N' := 6) C q42 (fun U h9 => h9.1) rfl (by decide) (by decide) (Nat.le_of_ble_eq_true rfl) (Nat.le_of_ble_eq_true rfl) (Nat.le_of_ble_eq_true rfl) (by decide +kernel) (fun q0 hq0 => ?_)
  refine g_abs (P := fun G9 => G9 x = some (.inr (4, [.null, .null, .null, .null, .int 0, .int 0, .int 0, .int 0, .int 0])) ∧ G9 q0 = some (.inl (cy 1, 6, .inr (.inr (.inr (.inr (fun _ => none))))))) ⟨by rw [g_up_ne (g_fresh hq0 hX0)]; exact hX0, g_up_self ..⟩ (fun Ga1 hg => ?_)
  obtain ⟨hY1, hz1_0⟩ := hg
  refine g_putF (pc := 10) (k := 0) (v := .ref q0) (ty := (.array (.object "CircusLines$Trapeze"))) C fl_X4_11 fp_X4_0 rfl (fun q hq => by cases hq; rfl) (hY1) rfl (by first | rfl | decide) (Nat.le_of_ble_eq_true rfl) (by decide +kernel) ?_
  refine g_abs (P := fun G9 => G9 x = some (.inr (4, [.ref q0, .null, .null, .null, .int 0, .int 0, .int 0, .int 0, .int 0])) ∧ G9 q0 = some (.inl (cy 1, 6, .inr (.inr (.inr (.inr (fun _ => none))))))) ⟨g_up_self .., g_oth hz1_0 hY1 (by simp)⟩ (fun Gb1 hg => ?_)
  obtain ⟨hX1, hw1_0⟩ := hg
  refine g_seg [(13, .aload_n 0, 1), (14, .bipush 8, 2)] 16 [(0, .ref x)] [.int 8, .ref x] C (by decide +kernel) rfl ?_
  refine g_anew (pc := 16) (t0 := 2) (N' := 8) C q44 (fun U h9 => h9.2.1) rfl (by decide) (by decide) (Nat.le_of_ble_eq_true rfl) (Nat.le_of_ble_eq_true rfl) (Nat.le_of_ble_eq_true rfl) (by decide +kernel) (fun q1 hq1 => ?_)
  refine g_abs (P := fun G9 => G9 x = some (.inr (4, [.ref q0, .null, .null, .null, .int 0, .int 0, .int 0, .int 0, .int 0])) ∧ G9 q0 = some (.inl (cy 1, 6, .inr (.inr (.inr (.inr (fun _ => none)))))) ∧ G9 q1 = some (.inl (cy 2, 8, .inr (.inr (.inr (.inr (fun _ => none))))))) ⟨by rw [g_up_ne (g_fresh hq1 hX1)]; exact hX1, by rw [g_up_ne (g_fresh hq1 hw1_0)]; exact hw1_0, g_up_self ..⟩ (fun Ga2 hg => ?_)
  obtain ⟨hY2, hz2_0, hz2_1⟩ := hg
  refine g_putF (pc := 19) (k := 1) (v := .ref q1) (ty := (.array (.object "CircusLines$Flyer"))) C fl_X4_17 fp_X4_1 rfl (fun q hq => by cases hq; rfl) (hY2) rfl (by first | rfl | decide) (Nat.le_of_ble_eq_true rfl) (by decide +kernel) ?_
  refine g_abs (P := fun G9 => G9 x = some (.inr (4, [.ref q0, .ref q1, .null, .null, .int 0, .int 0, .int 0, .int 0, .int 0])) ∧ G9 q0 = some (.inl (cy 1, 6, .inr (.inr (.inr (.inr (fun _ => none)))))) ∧ G9 q1 = some (.inl (cy 2, 8, .inr (.inr (.inr (.inr (fun _ => none))))))) ⟨g_up_self .., g_oth hz2_0 hY2 (by simp), g_oth hz2_1 hY2 (by simp)⟩ (fun Gb2 hg => ?_)
  obtain ⟨hX2, hw2_0, hw2_1⟩ := hg
  refine g_seg [(22, .aload_n 0, 1), (23, .bipush 20, 2)] 25 [(0, .ref x)] [.int 20, .ref x] C (by decide +kernel) rfl ?_
  refine g_anew (pc := 25) (t0 := 3) (N' := 20) C q46 (fun U h9 => h9.2.2.1) rfl (by decide) (by decide) (Nat.le_of_ble_eq_true rfl) (Nat.le_of_ble_eq_true rfl) (Nat.le_of_ble_eq_true rfl) (by decide +kernel) (fun q2 hq2 => ?_)
  refine g_abs (P := fun G9 => G9 x = some (.inr (4, [.ref q0, .ref q1, .null, .null, .int 0, .int 0, .int 0, .int 0, .int 0])) ∧ G9 q0 = some (.inl (cy 1, 6, .inr (.inr (.inr (.inr (fun _ => none)))))) ∧ G9 q1 = some (.inl (cy 2, 8, .inr (.inr (.inr (.inr (fun _ => none)))))) ∧ G9 q2 = some (.inl (cy 3, 20, .inr (.inr (.inr (.inr (fun _ => none))))))) ⟨by rw [g_up_ne (g_fresh hq2 hX2)]; exact hX2, by rw [g_up_ne (g_fresh hq2 hw2_0)]; exact hw2_0, by rw [g_up_ne (g_fresh hq2 hw2_1)]; exact hw2_1, g_up_self ..⟩ (fun Ga3 hg => ?_)
  obtain ⟨hY3, hz3_0, hz3_1, hz3_2⟩ := hg
  refine g_putF (pc := 28) (k := 2) (v := .ref q2) (ty := (.array (.object "CircusLines$Cue"))) C fl_X4_23 fp_X4_2 rfl (fun q hq => by cases hq; rfl) (hY3) rfl (by first | rfl | decide) (Nat.le_of_ble_eq_true rfl) (by decide +kernel) ?_
  refine g_abs (P := fun G9 => G9 x = some (.inr (4, [.ref q0, .ref q1, .ref q2, .null, .int 0, .int 0, .int 0, .int 0, .int 0])) ∧ G9 q0 = some (.inl (cy 1, 6, .inr (.inr (.inr (.inr (fun _ => none)))))) ∧ G9 q1 = some (.inl (cy 2, 8, .inr (.inr (.inr (.inr (fun _ => none)))))) ∧ G9 q2 = some (.inl (cy 3, 20, .inr (.inr (.inr (.inr (fun _ => none))))))) ⟨g_up_self .., g_oth hz3_0 hY3 (by simp), g_oth hz3_1 hY3 (by simp), g_oth hz3_2 hY3 (by simp)⟩ (fun Gb3 hg => ?_)
  obtain ⟨hX3, hw3_0, hw3_1, hw3_2⟩ := hg
  refine g_seg [(31, .aload_n 0, 1), (32, .iconst 3, 1)] 33 [(0, .ref x)] [.int 3, .ref x] C (by decide +kernel) rfl ?_
  refine g_anew (pc := 33) (t0 := 4) (N' := 3) C q48 (fun U h9 => h9.2.2.2.1) rfl (by decide) (by decide) (Nat.le_of_ble_eq_true rfl) (Nat.le_of_ble_eq_true rfl) (Nat.le_of_ble_eq_true rfl) (by decide +kernel) (fun q3 hq3 => ?_)
  refine g_abs (P := fun G9 => G9 x = some (.inr (4, [.ref q0, .ref q1, .ref q2, .null, .int 0, .int 0, .int 0, .int 0, .int 0])) ∧ G9 q0 = some (.inl (cy 1, 6, .inr (.inr (.inr (.inr (fun _ => none)))))) ∧ G9 q1 = some (.inl (cy 2, 8, .inr (.inr (.inr (.inr (fun _ => none)))))) ∧ G9 q2 = some (.inl (cy 3, 20, .inr (.inr (.inr (.inr (fun _ => none)))))) ∧ G9 q3 = some (.inl (cy 4, 3, .inr (.inr (.inr (.inr (fun _ => none))))))) ⟨by rw [g_up_ne (g_fresh hq3 hX3)]; exact hX3, by rw [g_up_ne (g_fresh hq3 hw3_0)]; exact hw3_0, by rw [g_up_ne (g_fresh hq3 hw3_1)]; exact hw3_1, by rw [g_up_ne (g_fresh hq3 hw3_2)]; exact hw3_2, g_up_self ..⟩ (fun Ga4 hg => ?_)
  obtain ⟨hY4, hz4_0, hz4_1, hz4_2, hz4_3⟩ := hg
  refine g_putF (pc := 36) (k := 3) (v := .ref q3) (ty := (.array (.object "CircusLines$Net"))) C fl_X4_29 fp_X4_3 rfl (fun q hq => by cases hq; rfl) (hY4) rfl (by first | rfl | decide) (Nat.le_of_ble_eq_true rfl) (by decide +kernel) ?_
  refine g_abs (P := fun G9 => G9 x = some (.inr (4, [.ref q0, .ref q1, .ref q2, .ref q3, .int 0, .int 0, .int 0, .int 0, .int 0])) ∧ G9 q0 = some (.inl (cy 1, 6, .inr (.inr (.inr (.inr (fun _ => none)))))) ∧ G9 q1 = some (.inl (cy 2, 8, .inr (.inr (.inr (.inr (fun _ => none)))))) ∧ G9 q2 = some (.inl (cy 3, 20, .inr (.inr (.inr (.inr (fun _ => none)))))) ∧ G9 q3 = some (.inl (cy 4, 3, .inr (.inr (.inr (.inr (fun _ => none))))))) ⟨g_up_self .., g_oth hz4_0 hY4 (by simp), g_oth hz4_1 hY4 (by simp), g_oth hz4_2 hY4 (by simp), g_oth hz4_3 hY4 (by simp)⟩ (fun Gb4 hg => ?_)
  obtain ⟨hX4, hw4_0, hw4_1, hw4_2, hw4_3⟩ := hg
  exact g_vret (pc := 39) C R (⟨rfl, _, RX_zero hX4 hw4_0 hw4_1 hw4_2 hw4_3⟩) (Nat.le_of_ble_eq_true rfl) (Nat.le_of_ble_eq_true rfl) (by decide +kernel)
