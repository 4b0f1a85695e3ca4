def s_digest (b : Int32) (nt nf nc nn : Nat) (T E C N : Rw) : Int64 :=
  its (fun k d => (d * 31 + (N k 0).toInt64) * 31 + (N k 1).toInt64)
    (its (fun t d => s_dig (fun w => s_toldC C t (nI w)) d 5)
      (its (fun t d => s_dig (fun w => s_toldFX E b t (nI w)) d 5)
        (its (fun t d => s_dig (fun w => s_toldX T E nf b t (nI w)) d 8)
          (s_dig (fun w => s_countX b nt nf nc T E C (nI w)) 1061 9) nt) nf) nc) nn
theorem mean_0 {E : Rw} {nf : Nat} (hn : nf ≤ 8) (h : nI nf ≤ 0) : FP.dconst0 = s_mean E nf := by
  have : nf = 0 := by
    rcases Nat.eq_zero_or_pos nf with h1 | h1
    · exact h1
    · exact absurd h (nI_nle h1 (by omega))
  unfold s_mean; rw [if_pos this]
theorem mean_1 {E : Rw} {nf : Nat} {s : Int32} (hs : s = s_caught E nf) (h : ¬ nI nf ≤ 0) : FP.ddiv (FP.i2d s) (FP.i2d (nI nf)) = s_mean E nf := by
  have : ¬ nf = 0 := fun e => h (by rw [e]; decide)
  unfold s_mean; rw [if_neg this, hs]
section PGN
variable {κ : Kx} {l0 : Launch} {D0 : va_G} {cy0 : Nat → ClassId} {y : MethodName} {nL ce sl index : Nat} {cc : ByteArray} {rm : Room} {ret : Option FieldType} {G : GG} {lv : LV} {pc : Nat} {st rest : List Value}
/-- a new array of references, all null -/
theorem g_anew {C1 : String} {t0 N' : Nat} {cA : ClassId} {n : Int32} (C : g_OK κ l0 D0 cy0 y nL cc rm ret) (hcl : Cond.classLink y.cls index C1 ∈ lw_T) (hao : ∀ U, g_KA U → va_Nw (.arrayOver (.object C1)) U) (ht : (g_tys cy0)[t0]? = some (cA, .object C1)) (hn : ¬ n < 0) (hN : n.toNatClampNeg = N') (hbytes : N' * 4 ≤ 536870912) (hcells : ce + 1 ≤ rm.cells) (hslots : sl + N' ≤ rm.slots) (hd : decode cc pc = .ok (.anewarray index, 3))
    (kk : ∀ q, G q = none → PG κ nL (ce + 1) (sl + N') (g_up G q (.inl (cA, N', .inr (.inr (.inr (.inr (fun _ => none))))))) lv (pc + 3) (.ref q :: rest)) : PG κ nL ce sl G lv pc (.int n :: rest) := by
  obtain ⟨p, l, e, R, s, m, args, below, meth, c, D, cy, A, H0, Q⟩ := κ
  obtain ⟨⟨-, rfl, rfl⟩, h0, hb, hml, hown, hT, hK, hA, rfl, -⟩ := C
  subst hN
  intro H locs ls hw hl
  have hover : (Cond.arrayOver (.object C1)).before args s = true := va_AO.use (hao s hK.2)
  refine W.anew h0 hb hown (hT _ hcl) hover rfl hd rfl hn hbytes hcells hslots fun cA1 kA comp f1 f2 f3 f4 => ?_
  obtain ⟨kA2, comp2, -, -, -, r4⟩ := (hK.1.2 t0 _ ht).2
  cases Option.some.inj (f1.symm.trans r4)
  generalize hH1 : H.push ({ cls := cA, slots := Array.replicate n.toNatClampNeg .null, vm := .none } : Cell) = H1
  have z1 : H1.size = H.size + 1 := by rw [← hH1, Array.size_push]
  have e1 : H1[H.size]? = some (arrV cA n.toNatClampNeg (fun _ => .null)) := by rw [← hH1, Array.getElem?_push_size, ← arrV_new]
  have o1 : ∀ q : Nat, q < H.size → H1[q]? = H[q]? := fun q hq => by rw [← hH1, Array.getElem?_push, if_neg (Nat.ne_of_lt hq)]
  have he : va_at D vwCl (H.size, .inl (cA, n.toNatClampNeg, .inr (.inr (.inr (.inr (fun _ => none)))))) H1 := by
    show H1[H.size]? = some (vp_cell _ _)
    rw [vp_cell_q]
    exact e1
  obtain ⟨hn0, hw1⟩ := g_wnew hA hw he z1 o1
  exact kk H.size hn0 H1 locs ls hw1 hl
/-- a new int array, all 0 -/
theorem g_newi {N' : Nat} {n : Int32} (C : g_OK κ l0 D0 cy0 y nL cc rm ret) (hcl : Cond.arrayClass .int ∈ lw_T) (hn : ¬ n < 0) (hN : n.toNatClampNeg = N') (hbytes : N' * 4 ≤ 536870912) (hcells : ce + 1 ≤ rm.cells) (hslots : sl + N' ≤ rm.slots) (hd : decode cc pc = .ok (.newarray .int, 2))
    (kk : ∀ q, G q = none → PG κ nL (ce + 1) (sl + N') (g_up G q (.inl (cy0 0, N', .inl (fun _ => 0)))) lv (pc + 2) (.ref q :: rest)) : PG κ nL ce sl G lv pc (.int n :: rest) := by
  obtain ⟨p, l, e, R, s, m, args, below, meth, c, D, cy, A, H0, Q⟩ := κ
  obtain ⟨⟨-, rfl, rfl⟩, h0, hb, hml, hown, hT, hK, hA, rfl, -⟩ := C
  intro H locs ls hw hl
  refine va_newaK (atype := .int) h0 hb (hT _ hcl) rfl hd rfl hn hN hbytes hcells hslots rfl fun H1 cA e1 z1 o1 hAr hNm => ?_
  have r4 : s.vm.findClass ("[" ++ FieldType.int.toString) = some (cy 0) := (hK.1.2 0 _ rfl).2
  cases Option.some.inj (hNm.symm.trans r4)
  have he : va_at D vwCl (H.size, .inl (cy 0, N', .inl (fun _ => 0))) H1 := e1
  obtain ⟨hn0, hw1⟩ := g_wnew hA hw he z1 o1
  exact kk H.size hn0 H1 locs ls hw1 hl
end PGN
def zR : Rw := fun _ _ => 0
def ad4 (q0 q1 q2 q3 : Nat) : Nat → Nat → Nat := fun k i => if k = 0 then (match i with | 0 => q0 | 1 => q1 | 2 => q2 | _ => q3) else 0
theorem RX_zero {cy : Nat → ClassId} {x q0 q1 q2 q3 : Nat} {G : GG} (h : G x = some (.inr (4, [.ref q0, .ref q1, .ref q2, .ref q3, .int 0, .int 0, .int 0, .int 0, .int 0]))) (h0 : G q0 = some (.inl (cy 1, 6, .inr (.inr (.inr (.inr (fun _ => none))))))) (h1 : G q1 = some (.inl (cy 2, 8, .inr (.inr (.inr (.inr (fun _ => none))))))) (h2 : G q2 = some (.inl (cy 3, 20, .inr (.inr (.inr (.inr (fun _ => none))))))) (h3 : G q3 = some (.inl (cy 4, 3, .inr (.inr (.inr (.inr (fun _ => none))))))) : RX cy x (ad4 q0 q1 q2 q3) 0 0 0 0 0 zR zR zR zR zR zR zR G := by
  refine ⟨⟨h, ?_, ?_, ?_, ?_⟩, ⟨fun i hi => absurd hi (by omega), fun i hi => absurd hi (by omega), fun i hi => absurd hi (by omega), fun i hi => absurd hi (by omega)⟩, ⟨fun i j hi => absurd hi (by omega), fun i j hi => absurd hi (by omega), fun i j hi => absurd hi (by omega)⟩, by omega⟩
  · show G q0 = _; rw [h0]; simp [oA]
  · show G q1 = _; rw [h1]; simp [oA]
  · show G q2 = _; rw [h2]; simp [oA]
  · show G q3 = _; rw [h3]; simp [oA]

set_option maxHeartbeats 4000000 in
set_option maxRecDepth 100000 in
theorem c_X4_meets (l : Launch) (D : va_G) (cy : Nat → ClassId) {G : GG} {x : Nat} {ad : Nat → Nat → Nat} {b : Int32} {nt nf nc nn : Nat} {T E Cu N KT KF KC : Rw} (h : RX cy x ad b nt nf nc nn T E Cu N KT KF KC G) (hwok : s_wok T nt) (t1 t2 : Int32) : CtrX l D cy yX4_meets prog_1_method_16_code 6 (some .int) kX4_meets [.ref x, .int t1, .int t2] G (pI (fun v G' => ∃ i j, i < nt ∧ t1 = nI i ∧ j < nt ∧ t2 = nI j ∧ (((T i 5 = 0 ∨ T j 5 = 0) ∧ v = -1) ∨ (¬ T i 5 = 0 ∧ ¬ T j 5 = 0 ∧ v = s_meet T i j b)) ∧ RX cy x ad b nt nf nc nn T E Cu N KT KF KC G')) (fun e G' => RX cy x ad b nt nf nc nn T E Cu N KT KF KC G' ∧ ((e = "java/lang/IndexOutOfBoundsException" ∧ ((∀ i, i < nt → t1 ≠ nI i) ∨ (∀ i, i < nt → t2 ≠ nI i))))) := by
  refine CtrX.mk (by decide +kernel) (Nat.le_of_ble_eq_true rfl) ?_
  intro κ C R
  refine g_pc (pc' := 0) rfl ?_
  refine g_seg [(0, .aload_n 0, 1), (1, .iload_n 1, 1)] 2 [(0, .ref x), (1, .int t1), (2, .int t2)] [.int t1, .ref x] C (by decide +kernel) rfl ?_
  refine g_callV (pc := 2) C mV_X4_trapezeNumbered q328 (h.1.1) rfl rfl (c_X4_trapezeNumbered l D cy h t1) rfl ⟨⟨Nat.le_of_ble_eq_true rfl, Nat.le_of_ble_eq_true rfl⟩, Nat.le_of_ble_eq_true rfl, Nat.le_of_ble_eq_true rfl⟩ rfl (Nat.le_of_ble_eq_true rfl) (by decide +kernel) ?_
  refine g_kA (fun v3 G2 hp1 => ?_)
  obtain ⟨rfl, hp1⟩ := hp1
  rcases hp1 with ⟨i4, hi5, hn6, rfl⟩ | ⟨hn6, rfl⟩
  · refine g_seg [(5, .astore_n 3, 1), (6, .aload_n 0, 1), (7, .iload_n 2, 1)] 8 [(3, .ref (ad 1 i4)), (0, .ref x), (1, .int t1), (2, .int t2)] [.int t2, .ref x] C (by decide +kernel) rfl ?_
    refine g_callV (pc := 8) C mV_X4_trapezeNumbered q328 (h.1.1) rfl rfl (c_X4_trapezeNumbered l D cy h t2) rfl ⟨⟨Nat.le_of_ble_eq_true rfl, Nat.le_of_ble_eq_true rfl⟩, Nat.le_of_ble_eq_true rfl, Nat.le_of_ble_eq_true rfl⟩ rfl (Nat.le_of_ble_eq_true rfl) (by decide +kernel) ?_
    refine g_kA (fun v9 G8 hp7 => ?_)
    obtain ⟨rfl, hp7⟩ := hp7
    rcases hp7 with ⟨i10, hi11, hn12, rfl⟩ | ⟨hn12, rfl⟩
    · refine g_seg [(11, .astore 4, 2), (13, .aload_n 3, 1)] 14 [(4, .ref (ad 1 i10)), (3, .ref (ad 1 i4)), (0, .ref x), (1, .int t1), (2, .int t2)] [.ref (ad 1 i4)] C (by decide +kernel) rfl ?_
      refine g_ifnull (pc := 14) (off := 8) C (by decide +kernel) ?_
      refine g_seg [(17, .aload 4, 2)] 19 [(4, .ref (ad 1 i10)), (3, .ref (ad 1 i4)), (0, .ref x), (1, .int t1), (2, .int t2)] [.ref (ad 1 i10)] C (by decide +kernel) rfl ?_
      refine g_ifnonnull (pc := 19) (off := 13) 32 C (by decide +kernel) (by decide) ?_
      refine g_seg [(32, .aload_n 3, 1)] 33 [(4, .ref (ad 1 i10)), (3, .ref (ad 1 i4)), (0, .ref x), (1, .int t1), (2, .int t2)] [.ref (ad 1 i4)] C (by decide +kernel) rfl ?_
      refine g_getf (pc := 33) (k := 6) (v := .int (T i4 5)) C fl_X4_70 (h.2.1.1 i4 hi5) rfl (by decide +kernel) ?_
      refine g_if_eq (pc := 36) (off := 11) 47 C (by decide +kernel) (by decide) (fun c13 => ?_) (fun c13 => ?_)
      · refine g_seg [(47, .iconst (-1), 1)] 48 [(4, .ref (ad 1 i10)), (3, .ref (ad 1 i4)), (0, .ref x), (1, .int t1), (2, .int t2)] [.int (-1)] C (by decide +kernel) rfl ?_
        exact g_iretX (pc := 48) C R (⟨_, rfl, i4, i10, hi5, hn6, hi11, hn12, Or.inl ⟨Or.inl c13, rfl⟩, h⟩) (Nat.le_of_ble_eq_true rfl) (Nat.le_of_ble_eq_true rfl) (by decide +kernel)
      · refine g_seg [(39, .aload 4, 2)] 41 [(4, .ref (ad 1 i10)), (3, .ref (ad 1 i4)), (0, .ref x), (1, .int t1), (2, .int t2)] [.ref (ad 1 i10)] C (by decide +kernel) rfl ?_
        refine g_getf (pc := 41) (k := 6) (v := .int (T i10 5)) C fl_X4_70 (h.2.1.1 i10 hi11) rfl (by decide +kernel) ?_
        refine g_if_ne (pc := 44) (off := 5) 49 C (by decide +kernel) (by decide) (fun c14 => ?_) (fun c14 => ?_)
        · refine g_seg [(49, .iconst 0, 1), (50, .istore 5, 2)] 52 [(5, .int 0), (4, .ref (ad 1 i10)), (3, .ref (ad 1 i4)), (0, .ref x), (1, .int t1), (2, .int t2)] [] C (by decide +kernel) rfl ?_
          refine g_subp [3, 2, 1, 0] (lv' := [(0, .ref x), (3, .ref (ad 1 i4)), (4, .ref (ad 1 i10)), (5, .int 0)]) rfl ?_
          have lp15 : ∀ (m k : Nat) (xk : Int32), 201 + 1 ≤ k + m → k ≤ 201 → xk = nI k → (∀ u, u < k → s_near (s_at T i4 (b + nI u)) (s_at T i10 (b + nI u)) = false) → PG κ 6 0 0 G8 [(0, .ref x), (3, .ref (ad 1 i4)), (4, .ref (ad 1 i10)), (5, .int xk)] 52 [] := by
            intro m
            induction m with
            | zero => intro k xk h1 h2; intros; exact absurd h1 (by omega)
            | succ m ih =>
              intro k xk hm hk hx hs
              refine g_seg [(52, .iload 5, 2), (54, .sipush 200, 3)] 57 [(0, .ref x), (3, .ref (ad 1 i4)), (4, .ref (ad 1 i10)), (5, .int xk)] [.int 200, .int xk] C (by decide +kernel) rfl ?_
              refine g_icmp_gt (pc := 57) (off := 41) 98 C (by decide +kernel) (by decide) (fun c16 => ?_) (fun c16 => ?_)
              · have hk8 : k = 201 := by have := lp_gt hx (by omega) (n := 200) (by decide) c16; omega
                refine g_seg [(98, .iconst (-1), 1)] 99 [(0, .ref x), (3, .ref (ad 1 i4)), (4, .ref (ad 1 i10)), (5, .int xk)] [.int (-1)] C (by decide +kernel) rfl ?_
                exact g_iretX (pc := 99) C R (⟨_, rfl, i4, i10, hi5, hn6, hi11, hn12, Or.inr ⟨c13, c14, (meet_n (by rw [hk8] at hs; exact hs)).symm⟩, h⟩) (Nat.le_of_ble_eq_true rfl) (Nat.le_of_ble_eq_true rfl) (by decide +kernel)
              · have hk8 : k < 201 := by have := lp_ngt hx (by omega) (n := 200) (by decide) c16; omega
                refine g_seg [(60, .aload_n 3, 1), (61, .aload_n 0, 1)] 62 [(0, .ref x), (3, .ref (ad 1 i4)), (4, .ref (ad 1 i10)), (5, .int xk)] [.ref x, .ref (ad 1 i4)] C (by decide +kernel) rfl ?_
                refine g_getf (pc := 62) (k := 8) (v := .int b) C fl_X4_53 (h.1.1) rfl (by decide +kernel) ?_
                refine g_seg [(65, .iload 5, 2), (67, .iadd, 1)] 68 [(0, .ref x), (3, .ref (ad 1 i4)), (4, .ref (ad 1 i10)), (5, .int xk)] [.int (b + xk), .ref (ad 1 i4)] C (by decide +kernel) rfl ?_
                refine g_callV (pc := 68) C mV_X3_placeIn q151 (h.2.1.1 i4 hi5) rfl rfl (c_X3_placeIn l D cy G8 (ad 1 i4) (T i4 0) (T i4 1) (T i4 3) (T i4 2) (T i4 6) (T i4 4) (T i4 5) (KT i4 0) (KT i4 1) (h.2.1.1 i4 hi5) (b + xk) (hwok i4 hi5)) rfl ⟨⟨Nat.le_of_ble_eq_true rfl, Nat.le_of_ble_eq_true rfl⟩, Nat.le_of_ble_eq_true rfl, Nat.le_of_ble_eq_true rfl⟩ rfl (Nat.le_of_ble_eq_true rfl) (by decide +kernel) ?_
                refine g_kI (fun v19 G18 hp17 => ?_)
                obtain ⟨rfl, rfl⟩ := hp17
                refine g_seg [(71, .aload 4, 2), (73, .aload_n 0, 1)] 74 [(0, .ref x), (3, .ref (ad 1 i4)), (4, .ref (ad 1 i10)), (5, .int xk)] [.ref x, .ref (ad 1 i10), .int (s_pl (T i4 0) (T i4 1) (T i4 2) ((b + xk) - (T i4 6)))] C (by decide +kernel) rfl ?_
                refine g_getf (pc := 74) (k := 8) (v := .int b) C fl_X4_53 (h.1.1) rfl (by decide +kernel) ?_
                refine g_seg [(77, .iload 5, 2), (79, .iadd, 1)] 80 [(0, .ref x), (3, .ref (ad 1 i4)), (4, .ref (ad 1 i10)), (5, .int xk)] [.int (b + xk), .ref (ad 1 i10), .int (s_pl (T i4 0) (T i4 1) (T i4 2) ((b + xk) - (T i4 6)))] C (by decide +kernel) rfl ?_
                refine g_callV (pc := 80) C mV_X3_placeIn q151 (h.2.1.1 i10 hi11) rfl rfl (c_X3_placeIn l D cy G18 (ad 1 i10) (T i10 0) (T i10 1) (T i10 3) (T i10 2) (T i10 6) (T i10 4) (T i10 5) (KT i10 0) (KT i10 1) (h.2.1.1 i10 hi11) (b + xk) (hwok i10 hi11)) rfl ⟨⟨Nat.le_of_ble_eq_true rfl, Nat.le_of_ble_eq_true rfl⟩, Nat.le_of_ble_eq_true rfl, Nat.le_of_ble_eq_true rfl⟩ rfl (Nat.le_of_ble_eq_true rfl) (by decide +kernel) ?_
                refine g_kI (fun v22 G21 hp20 => ?_)
                obtain ⟨rfl, rfl⟩ := hp20
                refine g_callS (pc := 83) C mS_X4_isNear q573 (c_X4_isNear l D cy G21 (s_pl (T i4 0) (T i4 1) (T i4 2) ((b + xk) - (T i4 6))) (s_pl (T i10 0) (T i10 1) (T i10 2) ((b + xk) - (T i10 6)))) rfl ⟨⟨Nat.le_of_ble_eq_true rfl, Nat.le_of_ble_eq_true rfl⟩, Nat.le_of_ble_eq_true rfl, Nat.le_of_ble_eq_true rfl⟩ rfl (Nat.le_of_ble_eq_true rfl) (by decide +kernel) ?_
                refine g_kI (fun v25 G24 hp23 => ?_)
                obtain ⟨rfl, hp23⟩ := hp23
                rcases hp23 with ⟨rfl, h26⟩ | ⟨rfl, h26⟩
                · refine g_if_eq (pc := 86) (off := 6) 92 C (by decide +kernel) (by decide) (fun c9 => absurd c9 (by decide)) (fun _ => ?_)
                  refine g_seg [(89, .iload 5, 2)] 91 [(0, .ref x), (3, .ref (ad 1 i4)), (4, .ref (ad 1 i10)), (5, .int xk)] [.int xk] C (by decide +kernel) rfl ?_
                  exact g_iretX (pc := 91) C R (⟨_, rfl, i4, i10, hi5, hn6, hi11, hn12, Or.inr ⟨c13, c14, hx.trans (meet_y hk8 (by rw [← hx]; exact h26) hs).symm⟩, h⟩) (Nat.le_of_ble_eq_true rfl) (Nat.le_of_ble_eq_true rfl) (by decide +kernel)
                · refine g_if_eq (pc := 86) (off := 6) 92 C (by decide +kernel) (by decide) (fun _ => ?_) (fun c9 => absurd (by decide) c9)
                  refine g_seg [(92, .iinc 5 1, 3), (95, .goto (-43), 3)] 52 [(5, .int (xk + 1)), (0, .ref x), (3, .ref (ad 1 i4)), (4, .ref (ad 1 i10))] [] C (by decide +kernel) rfl ?_
                  refine g_subp [1, 2, 3, 0] (lv' := [(0, .ref x), (3, .ref (ad 1 i4)), (4, .ref (ad 1 i10)), (5, .int (xk + 1))]) rfl ?_
                  exact ih (k + 1) (xk + 1) (by omega) (by omega) (lp_s hx) (no_f2 hs (by rw [← hx]; exact h26))
          exact lp15 (201 + 1) 0 0 (by omega) (by omega) (nI_0.symm) (fun u h1 => absurd h1 (by omega))
        · refine g_seg [(47, .iconst (-1), 1)] 48 [(4, .ref (ad 1 i10)), (3, .ref (ad 1 i4)), (0, .ref x), (1, .int t1), (2, .int t2)] [.int (-1)] C (by decide +kernel) rfl ?_
          exact g_iretX (pc := 48) C R (⟨_, rfl, i4, i10, hi5, hn6, hi11, hn12, Or.inl ⟨Or.inr c14, rfl⟩, h⟩) (Nat.le_of_ble_eq_true rfl) (Nat.le_of_ble_eq_true rfl) (by decide +kernel)
    · refine g_seg [(11, .astore 4, 2), (13, .aload_n 3, 1)] 14 [(4, .null), (3, .ref (ad 1 i4)), (0, .ref x), (1, .int t1), (2, .int t2)] [.ref (ad 1 i4)] C (by decide +kernel) rfl ?_
      refine g_ifnull (pc := 14) (off := 8) C (by decide +kernel) ?_
      refine g_seg [(17, .aload 4, 2)] 19 [(4, .null), (3, .ref (ad 1 i4)), (0, .ref x), (1, .int t1), (2, .int t2)] [.null] C (by decide +kernel) rfl ?_
      refine g_ifnonnullN (pc := 19) (off := 13) C (by decide +kernel) ?_
      exact g_throw (pc := 22) (is := 65) (text := "no such trapeze") C R rfl ex_IOE (by decide +kernel) (⟨h, rfl, Or.inr hn12⟩) (Nat.le_of_ble_eq_true rfl) (Nat.le_of_ble_eq_true rfl) (Nat.le_of_ble_eq_true rfl) (Nat.le_of_ble_eq_true rfl) (by decide +kernel) (by decide +kernel) (by decide +kernel) (by decide +kernel) (by decide +kernel)
  · refine g_seg [(5, .astore_n 3, 1), (6, .aload_n 0, 1), (7, .iload_n 2, 1)] 8 [(3, .null), (0, .ref x), (1, .int t1), (2, .int t2)] [.int t2, .ref x] C (by decide +kernel) rfl ?_
    refine g_callV (pc := 8) C mV_X4_trapezeNumbered q328 (h.1.1) rfl rfl (c_X4_trapezeNumbered l D cy h t2) rfl ⟨⟨Nat.le_of_ble_eq_true rfl, Nat.le_of_ble_eq_true rfl⟩, Nat.le_of_ble_eq_true rfl, Nat.le_of_ble_eq_true rfl⟩ rfl (Nat.le_of_ble_eq_true rfl) (by decide +kernel) ?_
    refine g_kA (fun v29 G28 hp27 => ?_)
    obtain ⟨rfl, hp27⟩ := hp27
    rcases hp27 with ⟨i30, hi31, hn32, rfl⟩ | ⟨hn32, rfl⟩
    · refine g_seg [(11, .astore 4, 2), (13, .aload_n 3, 1)] 14 [(4, .ref (ad 1 i30)), (3, .null), (0, .ref x), (1, .int t1), (2, .int t2)] [.null] C (by decide +kernel) rfl ?_
      refine g_ifnullN (pc := 14) (off := 8) 22 C (by decide +kernel) (by decide) ?_
      exact g_throw (pc := 22) (is := 65) (text := "no such trapeze") C R rfl ex_IOE (by decide +kernel) (⟨h, rfl, Or.inl hn6⟩) (Nat.le_of_ble_eq_true rfl) (Nat.le_of_ble_eq_true rfl) (Nat.le_of_ble_eq_true rfl) (Nat.le_of_ble_eq_true rfl) (by decide +kernel) (by decide +kernel) (by decide +kernel) (by decide +kernel) (by decide +kernel)
    · refine g_seg [(11, .astore 4, 2), (13, .aload_n 3, 1)] 14 [(4, .null), (3, .null), (0, .ref x), (1, .int t1), (2, .int t2)] [.null] C (by decide +kernel) rfl ?_
      refine g_ifnullN (pc := 14) (off := 8) 22 C (by decide +kernel) (by decide) ?_
      exact g_throw (pc := 22) (is := 65) (text := "no such trapeze") C R rfl ex_IOE (by decide +kernel) (⟨h, rfl, Or.inl hn6⟩) (Nat.le_of_ble_eq_true rfl) (Nat.le_of_ble_eq_true rfl) (Nat.le_of_ble_eq_true rfl) (Nat.le_of_ble_eq_true rfl) (by decide +kernel) (by decide +kernel) (by decide +kernel) (by decide +kernel) (by decide +kernel)
set_option maxHeartbeats 4000000 in
set_option maxRecDepth 100000 in
theorem c_X4_flight (l : Launch) (D : va_G) (cy : Nat → ClassId) {G : GG} {x : Nat} {ad : Nat → Nat → Nat} {b : Int32} {nt nf nc nn : Nat} {T E Cu N KT KF KC : Rw} (h : RX cy x ad b nt nf nc nn T E Cu N KT KF KC G) (hwok : s_wok T nt) (t1 t2 : Int32) : CtrX l D cy yX4_flight prog_1_method_17_code 10 (some .int) kX4_flight [.ref x, .int t1, .int t2] G (pI (fun v G' => ∃ i j, i < nf ∧ t1 = nI i ∧ j < nt ∧ t2 = nI j ∧ (((∀ g, g < nt → E i 1 ≠ nI g) ∧ v = -1) ∨ ∃ g, g < nt ∧ E i 1 = nI g ∧ v = s_flight T j b (s_at T g b)) ∧ RX cy x ad b nt nf nc nn T E Cu N KT KF KC G')) (fun e G' => RX cy x ad b nt nf nc nn T E Cu N KT KF KC G' ∧ ((e = "java/lang/IndexOutOfBoundsException" ∧ ((∀ i, i < nf → t1 ≠ nI i) ∨ (∀ i, i < nt → t2 ≠ nI i))))) := by
  refine CtrX.mk (by decide +kernel) (Nat.le_of_ble_eq_true rfl) ?_
  intro κ C R
  refine g_pc (pc' := 0) rfl ?_
  refine g_seg [(0, .aload_n 0, 1), (1, .iload_n 1, 1)] 2 [(0, .ref x), (1, .int t1), (2, .int t2)] [.int t1, .ref x] C (by decide +kernel) rfl ?_
  refine g_callV (pc := 2) C mV_X4_flyerNumbered q444 (h.1.1) rfl rfl (c_X4_flyerNumbered l D cy h t1) rfl ⟨⟨Nat.le_of_ble_eq_true rfl, Nat.le_of_ble_eq_true rfl⟩, Nat.le_of_ble_eq_true rfl, Nat.le_of_ble_eq_true rfl⟩ rfl (Nat.le_of_ble_eq_true rfl) (by decide +kernel) ?_
  refine g_kA (fun v3 G2 hp1 => ?_)
  obtain ⟨rfl, hp1⟩ := hp1
  rcases hp1 with ⟨i4, hi5, hn6, rfl⟩ | ⟨hn6, rfl⟩
  · refine g_seg [(5, .astore_n 3, 1), (6, .aload_n 0, 1), (7, .iload_n 2, 1)] 8 [(3, .ref (ad 2 i4)), (0, .ref x), (1, .int t1), (2, .int t2)] [.int t2, .ref x] C (by decide +kernel) rfl ?_
    refine g_callV (pc := 8) C mV_X4_trapezeNumbered q328 (h.1.1) rfl rfl (c_X4_trapezeNumbered l D cy h t2) rfl ⟨⟨Nat.le_of_ble_eq_true rfl, Nat.le_of_ble_eq_true rfl⟩, Nat.le_of_ble_eq_true rfl, Nat.le_of_ble_eq_true rfl⟩ rfl (Nat.le_of_ble_eq_true rfl) (by decide +kernel) ?_
    refine g_kA (fun v9 G8 hp7 => ?_)
    obtain ⟨rfl, hp7⟩ := hp7
    rcases hp7 with ⟨i10, hi11, hn12, rfl⟩ | ⟨hn12, rfl⟩
    · refine g_seg [(11, .astore 4, 2), (13, .aload_n 3, 1)] 14 [(4, .ref (ad 1 i10)), (3, .ref (ad 2 i4)), (0, .ref x), (1, .int t1), (2, .int t2)] [.ref (ad 2 i4)] C (by decide +kernel) rfl ?_
      refine g_ifnull (pc := 14) (off := 8) C (by decide +kernel) ?_
      refine g_seg [(17, .aload 4, 2)] 19 [(4, .ref (ad 1 i10)), (3, .ref (ad 2 i4)), (0, .ref x), (1, .int t1), (2, .int t2)] [.ref (ad 1 i10)] C (by decide +kernel) rfl ?_
      refine g_ifnonnull (pc := 19) (off := 13) 32 C (by decide +kernel) (by decide) ?_
      refine g_seg [(32, .aload_n 0, 1), (33, .aload_n 3, 1)] 34 [(4, .ref (ad 1 i10)), (3, .ref (ad 2 i4)), (0, .ref x), (1, .int t1), (2, .int t2)] [.ref (ad 2 i4), .ref x] C (by decide +kernel) rfl ?_
      refine g_getf (pc := 34) (k := 1) (v := .int (E i4 1)) C fl_X4_177 (h.2.1.2.1 i4 hi5) rfl (by decide +kernel) ?_
      refine g_callV (pc := 37) C mV_X4_trapezeNumbered q328 (h.1.1) rfl rfl (c_X4_trapezeNumbered l D cy h (E i4 1)) rfl ⟨⟨Nat.le_of_ble_eq_true rfl, Nat.le_of_ble_eq_true rfl⟩, Nat.le_of_ble_eq_true rfl, Nat.le_of_ble_eq_true rfl⟩ rfl (Nat.le_of_ble_eq_true rfl) (by decide +kernel) ?_
      refine g_kA (fun v15 G14 hp13 => ?_)
      obtain ⟨rfl, hp13⟩ := hp13
      rcases hp13 with ⟨i16, hi17, hn18, rfl⟩ | ⟨hn18, rfl⟩
      · refine g_seg [(40, .astore 5, 2), (42, .aload 5, 2)] 44 [(5, .ref (ad 1 i16)), (4, .ref (ad 1 i10)), (3, .ref (ad 2 i4)), (0, .ref x), (1, .int t1), (2, .int t2)] [.ref (ad 1 i16)] C (by decide +kernel) rfl ?_
        refine g_ifnonnull (pc := 44) (off := 5) 49 C (by decide +kernel) (by decide) ?_
        refine g_seg [(49, .aload 5, 2), (51, .aload_n 0, 1)] 52 [(5, .ref (ad 1 i16)), (4, .ref (ad 1 i10)), (3, .ref (ad 2 i4)), (0, .ref x), (1, .int t1), (2, .int t2)] [.ref x, .ref (ad 1 i16)] C (by decide +kernel) rfl ?_
        refine g_getf (pc := 52) (k := 8) (v := .int b) C fl_X4_53 (h.1.1) rfl (by decide +kernel) ?_
        refine g_callV (pc := 55) C mV_X3_placeIn q151 (h.2.1.1 i16 hi17) rfl rfl (c_X3_placeIn l D cy G14 (ad 1 i16) (T i16 0) (T i16 1) (T i16 3) (T i16 2) (T i16 6) (T i16 4) (T i16 5) (KT i16 0) (KT i16 1) (h.2.1.1 i16 hi17) b (hwok i16 hi17)) rfl ⟨⟨Nat.le_of_ble_eq_true rfl, Nat.le_of_ble_eq_true rfl⟩, Nat.le_of_ble_eq_true rfl, Nat.le_of_ble_eq_true rfl⟩ rfl (Nat.le_of_ble_eq_true rfl) (by decide +kernel) ?_
        refine g_kI (fun v21 G20 hp19 => ?_)
        obtain ⟨rfl, rfl⟩ := hp19
        refine g_seg [(58, .istore 6, 2), (60, .iconst 1, 1), (61, .istore 7, 2)] 63 [(7, .int 1), (6, .int (s_pl (T i16 0) (T i16 1) (T i16 2) (b - (T i16 6)))), (5, .ref (ad 1 i16)), (4, .ref (ad 1 i10)), (3, .ref (ad 2 i4)), (0, .ref x), (1, .int t1), (2, .int t2)] [] C (by decide +kernel) rfl ?_
        refine g_subp [5, 3, 1, 0] (lv' := [(0, .ref x), (4, .ref (ad 1 i10)), (6, .int (s_pl (T i16 0) (T i16 1) (T i16 2) (b - (T i16 6)))), (7, .int 1)]) rfl ?_
        have lp22 : ∀ (m k : Nat) (xk : Int32), 6 + 1 ≤ k + m → k ≤ 6 → xk = nI (k + 1) → (∀ u, u < k → s_fl T i10 b (s_at T i16 b) u = none) → PG κ 10 0 0 G20 [(0, .ref x), (4, .ref (ad 1 i10)), (6, .int (s_pl (T i16 0) (T i16 1) (T i16 2) (b - (T i16 6)))), (7, .int xk)] 63 [] := by
          intro m
          induction m with
          | zero => intro k xk h1 h2; intros; exact absurd h1 (by omega)
          | succ m ih =>
            intro k xk hm hk hx hs
            refine g_seg [(63, .iload 7, 2), (65, .bipush 6, 2)] 67 [(0, .ref x), (4, .ref (ad 1 i10)), (6, .int (s_pl (T i16 0) (T i16 1) (T i16 2) (b - (T i16 6)))), (7, .int xk)] [.int 6, .int xk] C (by decide +kernel) rfl ?_
            refine g_icmp_gt (pc := 67) (off := 65) 132 C (by decide +kernel) (by decide) (fun c23 => ?_) (fun c23 => ?_)
            · have hk8 : k = 6 := by have := lp_gt hx (by omega) (n := 6) (by decide) c23; omega
              refine g_seg [(132, .iconst (-1), 1)] 133 [(0, .ref x), (4, .ref (ad 1 i10)), (6, .int (s_pl (T i16 0) (T i16 1) (T i16 2) (b - (T i16 6)))), (7, .int xk)] [.int (-1)] C (by decide +kernel) rfl ?_
              exact g_iretX (pc := 133) C R (⟨_, rfl, i4, i10, hi5, hn6, hi11, hn12, Or.inr ⟨i16, hi17, hn18, (fl_n (by rw [hk8] at hs; exact hs)).symm⟩, h⟩) (Nat.le_of_ble_eq_true rfl) (Nat.le_of_ble_eq_true rfl) (by decide +kernel)
            · have hk8 : k < 6 := by have := lp_ngt hx (by omega) (n := 6) (by decide) c23; omega
              refine g_seg [(70, .aload 4, 2), (72, .aload_n 0, 1)] 73 [(0, .ref x), (4, .ref (ad 1 i10)), (6, .int (s_pl (T i16 0) (T i16 1) (T i16 2) (b - (T i16 6)))), (7, .int xk)] [.ref x, .ref (ad 1 i10)] C (by decide +kernel) rfl ?_
              refine g_getf (pc := 73) (k := 8) (v := .int b) C fl_X4_53 (h.1.1) rfl (by decide +kernel) ?_
              refine g_seg [(76, .iload 7, 2), (78, .iadd, 1)] 79 [(0, .ref x), (4, .ref (ad 1 i10)), (6, .int (s_pl (T i16 0) (T i16 1) (T i16 2) (b - (T i16 6)))), (7, .int xk)] [.int (b + xk), .ref (ad 1 i10)] C (by decide +kernel) rfl ?_
              refine g_callV (pc := 79) C mV_X3_placeIn q151 (h.2.1.1 i10 hi11) rfl rfl (c_X3_placeIn l D cy G20 (ad 1 i10) (T i10 0) (T i10 1) (T i10 3) (T i10 2) (T i10 6) (T i10 4) (T i10 5) (KT i10 0) (KT i10 1) (h.2.1.1 i10 hi11) (b + xk) (hwok i10 hi11)) rfl ⟨⟨Nat.le_of_ble_eq_true rfl, Nat.le_of_ble_eq_true rfl⟩, Nat.le_of_ble_eq_true rfl, Nat.le_of_ble_eq_true rfl⟩ rfl (Nat.le_of_ble_eq_true rfl) (by decide +kernel) ?_
              refine g_kI (fun v26 G25 hp24 => ?_)
              obtain ⟨rfl, rfl⟩ := hp24
              refine g_seg [(82, .istore 8, 2), (84, .bipush (-20), 2), (86, .istore 9, 2)] 88 [(9, .int (-20)), (8, .int (s_pl (T i10 0) (T i10 1) (T i10 2) ((b + xk) - (T i10 6)))), (0, .ref x), (4, .ref (ad 1 i10)), (6, .int (s_pl (T i16 0) (T i16 1) (T i16 2) (b - (T i16 6)))), (7, .int xk)] [] C (by decide +kernel) rfl ?_
              refine g_subp [2, 3, 4, 5, 1, 0] (lv' := [(0, .ref x), (4, .ref (ad 1 i10)), (6, .int (s_pl (T i16 0) (T i16 1) (T i16 2) (b - (T i16 6)))), (7, .int xk), (8, .int (s_pl (T i10 0) (T i10 1) (T i10 2) ((b + xk) - (T i10 6)))), (9, .int (-20))]) rfl ?_
              have lp27 : ∀ (m2 r : Nat) (xr : Int32), 41 + 1 ≤ r + m2 → r ≤ 41 → xr = nI r - 20 → (∀ u, u < r → s_near (s_at T i16 b + (nI u - 20)) (s_at T i10 (b + nI (k + 1))) = false) → PG κ 10 0 0 G25 [(0, .ref x), (4, .ref (ad 1 i10)), (6, .int (s_pl (T i16 0) (T i16 1) (T i16 2) (b - (T i16 6)))), (7, .int xk), (8, .int (s_pl (T i10 0) (T i10 1) (T i10 2) ((b + xk) - (T i10 6)))), (9, .int xr)] 88 [] := by
                intro m2
                induction m2 with
                | zero => intro r xr h1 h2; intros; exact absurd h1 (by omega)
                | succ m2 ih2 =>
                  intro r xr hm2 hr hxr hs2
                  refine g_seg [(88, .iload 9, 2), (90, .bipush 20, 2)] 92 [(0, .ref x), (4, .ref (ad 1 i10)), (6, .int (s_pl (T i16 0) (T i16 1) (T i16 2) (b - (T i16 6)))), (7, .int xk), (8, .int (s_pl (T i10 0) (T i10 1) (T i10 2) ((b + xk) - (T i10 6)))), (9, .int xr)] [.int 20, .int xr] C (by decide +kernel) rfl ?_
                  refine g_icmp_gt (pc := 92) (off := 34) 126 C (by decide +kernel) (by decide) (fun c28 => ?_) (fun c28 => ?_)
                  · have hj8 : r = 41 := by have := sub_gt hxr (by omega) c28; omega
                    refine g_seg [(126, .iinc 7 1, 3), (129, .goto (-66), 3)] 63 [(7, .int (xk + 1)), (0, .ref x), (4, .ref (ad 1 i10)), (6, .int (s_pl (T i16 0) (T i16 1) (T i16 2) (b - (T i16 6)))), (8, .int (s_pl (T i10 0) (T i10 1) (T i10 2) ((b + xk) - (T i10 6)))), (9, .int xr)] [] C (by decide +kernel) rfl ?_
                    refine g_subp [1, 2, 3, 0] (lv' := [(0, .ref x), (4, .ref (ad 1 i10)), (6, .int (s_pl (T i16 0) (T i16 1) (T i16 2) (b - (T i16 6)))), (7, .int (xk + 1))]) rfl ?_
                    exact ih (k + 1) (xk + 1) (by omega) (by omega) (lp_s hx) (nonex hs (fl_0 (by rw [hj8] at hs2; exact hs2)))
                  · have hj8 : r < 41 := sub_ngt hxr (by omega) c28
                    refine g_seg [(95, .iload 6, 2), (97, .iload 9, 2), (99, .iadd, 1), (100, .iload 8, 2)] 102 [(0, .ref x), (4, .ref (ad 1 i10)), (6, .int (s_pl (T i16 0) (T i16 1) (T i16 2) (b - (T i16 6)))), (7, .int xk), (8, .int (s_pl (T i10 0) (T i10 1) (T i10 2) ((b + xk) - (T i10 6)))), (9, .int xr)] [.int (s_pl (T i10 0) (T i10 1) (T i10 2) ((b + xk) - (T i10 6))), .int ((s_pl (T i16 0) (T i16 1) (T i16 2) (b - (T i16 6))) + xr)] C (by decide +kernel) rfl ?_
                    refine g_callS (pc := 102) C mS_X4_isNear q573 (c_X4_isNear l D cy G25 ((s_pl (T i16 0) (T i16 1) (T i16 2) (b - (T i16 6))) + xr) (s_pl (T i10 0) (T i10 1) (T i10 2) ((b + xk) - (T i10 6)))) rfl ⟨⟨Nat.le_of_ble_eq_true rfl, Nat.le_of_ble_eq_true rfl⟩, Nat.le_of_ble_eq_true rfl, Nat.le_of_ble_eq_true rfl⟩ rfl (Nat.le_of_ble_eq_true rfl) (by decide +kernel) ?_
                    refine g_kI (fun v31 G30 hp29 => ?_)
                    obtain ⟨rfl, hp29⟩ := hp29
                    rcases hp29 with ⟨rfl, h32⟩ | ⟨rfl, h32⟩
                    · refine g_if_eq (pc := 105) (off := 15) 120 C (by decide +kernel) (by decide) (fun c9 => absurd c9 (by decide)) (fun _ => ?_)
                      refine g_seg [(108, .bipush 100, 2), (110, .iload 7, 2), (112, .imul, 1), (113, .iload 9, 2), (115, .iadd, 1), (116, .bipush 20, 2), (118, .iadd, 1)] 119 [(0, .ref x), (4, .ref (ad 1 i10)), (6, .int (s_pl (T i16 0) (T i16 1) (T i16 2) (b - (T i16 6)))), (7, .int xk), (8, .int (s_pl (T i10 0) (T i10 1) (T i10 2) ((b + xk) - (T i10 6)))), (9, .int xr)] [.int (((100 * xk) + xr) + 20)] C (by decide +kernel) rfl ?_
                      exact g_iretX (pc := 119) C R (⟨_, rfl, i4, i10, hi5, hn6, hi11, hn12, Or.inr ⟨i16, hi17, hn18, by rw [fl_y hk8 hj8 (by rw [← hx, ← hxr]; exact h32) hs2 hs, ← hx, ← hxr]⟩, h⟩) (Nat.le_of_ble_eq_true rfl) (Nat.le_of_ble_eq_true rfl) (by decide +kernel)
                    · refine g_if_eq (pc := 105) (off := 15) 120 C (by decide +kernel) (by decide) (fun _ => ?_) (fun c9 => absurd (by decide) c9)
                      refine g_seg [(120, .iinc 9 1, 3), (123, .goto (-35), 3)] 88 [(9, .int (xr + 1)), (0, .ref x), (4, .ref (ad 1 i10)), (6, .int (s_pl (T i16 0) (T i16 1) (T i16 2) (b - (T i16 6)))), (7, .int xk), (8, .int (s_pl (T i10 0) (T i10 1) (T i10 2) ((b + xk) - (T i10 6))))] [] C (by decide +kernel) rfl ?_
                      refine g_subp [1, 2, 3, 4, 5, 0] (lv' := [(0, .ref x), (4, .ref (ad 1 i10)), (6, .int (s_pl (T i16 0) (T i16 1) (T i16 2) (b - (T i16 6)))), (7, .int xk), (8, .int (s_pl (T i10 0) (T i10 1) (T i10 2) ((b + xk) - (T i10 6)))), (9, .int (xr + 1))]) rfl ?_
                      exact ih2 (r + 1) (xr + 1) (by omega) (by omega) (sub_s hxr) (no_f2 hs2 (by rw [← hx, ← hxr]; exact h32))
              exact lp27 (41 + 1) 0 (-20) (by omega) (by omega) (sub_0) (fun u h1 => absurd h1 (by omega))
        exact lp22 (6 + 1) 0 1 (by omega) (by omega) (by decide) (fun u h1 => absurd h1 (by omega))
      · refine g_seg [(40, .astore 5, 2), (42, .aload 5, 2)] 44 [(5, .null), (4, .ref (ad 1 i10)), (3, .ref (ad 2 i4)), (0, .ref x), (1, .int t1), (2, .int t2)] [.null] C (by decide +kernel) rfl ?_
        refine g_ifnonnullN (pc := 44) (off := 5) C (by decide +kernel) ?_
        refine g_seg [(47, .iconst (-1), 1)] 48 [(5, .null), (4, .ref (ad 1 i10)), (3, .ref (ad 2 i4)), (0, .ref x), (1, .int t1), (2, .int t2)] [.int (-1)] C (by decide +kernel) rfl ?_
        exact g_iretX (pc := 48) C R (⟨_, rfl, i4, i10, hi5, hn6, hi11, hn12, Or.inl ⟨hn18, rfl⟩, h⟩) (Nat.le_of_ble_eq_true rfl) (Nat.le_of_ble_eq_true rfl) (by decide +kernel)
    · refine g_seg [(11, .astore 4, 2), (13, .aload_n 3, 1)] 14 [(4, .null), (3, .ref (ad 2 i4)), (0, .ref x), (1, .int t1), (2, .int t2)] [.ref (ad 2 i4)] C (by decide +kernel) rfl ?_
      refine g_ifnull (pc := 14) (off := 8) C (by decide +kernel) ?_
      refine g_seg [(17, .aload 4, 2)] 19 [(4, .null), (3, .ref (ad 2 i4)), (0, .ref x), (1, .int t1), (2, .int t2)] [.null] C (by decide +kernel) rfl ?_
      refine g_ifnonnullN (pc := 19) (off := 13) C (by decide +kernel) ?_
      exact g_throw (pc := 22) (is := 108) (text := "no such flyer or trapeze") C R rfl ex_IOE (by decide +kernel) (⟨h, rfl, Or.inr hn12⟩) (Nat.le_of_ble_eq_true rfl) (Nat.le_of_ble_eq_true rfl) (Nat.le_of_ble_eq_true rfl) (Nat.le_of_ble_eq_true rfl) (by decide +kernel) (by decide +kernel) (by decide +kernel) (by decide +kernel) (by decide +kernel)
  · refine g_seg [(5, .astore_n 3, 1), (6, .aload_n 0, 1), (7, .iload_n 2, 1)] 8 [(3, .null), (0, .ref x), (1, .int t1), (2, .int t2)] [.int t2, .ref x] C (by decide +kernel) rfl ?_
    refine g_callV (pc := 8) C mV_X4_trapezeNumbered q328 (h.1.1) rfl rfl (c_X4_trapezeNumbered l D cy h t2) rfl ⟨⟨Nat.le_of_ble_eq_true rfl, Nat.le_of_ble_eq_true rfl⟩, Nat.le_of_ble_eq_true rfl, Nat.le_of_ble_eq_true rfl⟩ rfl (Nat.le_of_ble_eq_true rfl) (by decide +kernel) ?_
    refine g_kA (fun v35 G34 hp33 => ?_)
    obtain ⟨rfl, hp33⟩ := hp33
    rcases hp33 with ⟨i36, hi37, hn38, rfl⟩ | ⟨hn38, rfl⟩
    · refine g_seg [(11, .astore 4, 2), (13, .aload_n 3, 1)] 14 [(4, .ref (ad 1 i36)), (3, .null), (0, .ref x), (1, .int t1), (2, .int t2)] [.null] C (by decide +kernel) rfl ?_
      refine g_ifnullN (pc := 14) (off := 8) 22 C (by decide +kernel) (by decide) ?_
      exact g_throw (pc := 22) (is := 108) (text := "no such flyer or trapeze") C R rfl ex_IOE (by decide +kernel) (⟨h, rfl, Or.inl hn6⟩) (Nat.le_of_ble_eq_true rfl) (Nat.le_of_ble_eq_true rfl) (Nat.le_of_ble_eq_true rfl) (Nat.le_of_ble_eq_true rfl) (by decide +kernel) (by decide +kernel) (by decide +kernel) (by decide +kernel) (by decide +kernel)
    · refine g_seg [(11, .astore 4, 2), (13, .aload_n 3, 1)] 14 [(4, .null), (3, .null), (0, .ref x), (1, .int t1), (2, .int t2)] [.null] C (by decide +kernel) rfl ?_
      refine g_ifnullN (pc := 14) (off := 8) 22 C (by decide +kernel) (by decide) ?_
      exact g_throw (pc := 22) (is := 108) (text := "no such flyer or trapeze") C R rfl ex_IOE (by decide +kernel) (⟨h, rfl, Or.inl hn6⟩) (Nat.le_of_ble_eq_true rfl) (Nat.le_of_ble_eq_true rfl) (Nat.le_of_ble_eq_true rfl) (Nat.le_of_ble_eq_true rfl) (by decide +kernel) (by decide +kernel) (by decide +kernel) (by decide +kernel) (by decide +kernel)
set_option maxHeartbeats 4000000 in
set_option maxRecDepth 100000 in
theorem c_X4_advise (l : Launch) (D : va_G) (cy : Nat → ClassId) {G : GG} {x : Nat} {ad : Nat → Nat → Nat} {b : Int32} {nt nf nc nn : Nat} {T E Cu N KT KF KC : Rw} (h : RX cy x ad b nt nf nc nn T E Cu N KT KF KC G) (hwok : s_wok T nt) (t1 t2 : Int32) : CtrX l D cy yX4_advise prog_1_method_18_code 8 (some .int) kX4_advise [.ref x, .int t1, .int t2] G (pI (fun v G' => ∃ i j, i < nt ∧ t1 = nI i ∧ j < nt ∧ t2 = nI j ∧ ¬ t1 = t2 ∧ (((T i 5 = 0 ∨ T j 5 = 0) ∧ v = -1) ∨ (¬ T i 5 = 0 ∧ ¬ T j 5 = 0 ∧ v = s_advise T i j b)) ∧ RX cy x ad b nt nf nc nn T E Cu N KT KF KC G')) (fun e G' => RX cy x ad b nt nf nc nn T E Cu N KT KF KC G' ∧ ((e = "java/lang/IndexOutOfBoundsException" ∧ ((∀ i, i < nt → t1 ≠ nI i) ∨ (∀ i, i < nt → t2 ≠ nI i))) ∨ (e = "java/lang/IllegalArgumentException" ∧ (∃ i, i < nt ∧ t1 = nI i) ∧ (∃ i, i < nt ∧ t2 = nI i) ∧ t1 = t2))) := by
  refine CtrX.mk (by decide +kernel) (Nat.le_of_ble_eq_true rfl) ?_
  intro κ C R
  refine g_pc (pc' := 0) rfl ?_
  refine g_seg [(0, .aload_n 0, 1), (1, .iload_n 1, 1)] 2 [(0, .ref x), (1, .int t1), (2, .int t2)] [.int t1, .ref x] C (by decide +kernel) rfl ?_
  refine g_callV (pc := 2) C mV_X4_trapezeNumbered q328 (h.1.1) rfl rfl (c_X4_trapezeNumbered l D cy h t1) rfl ⟨⟨Nat.le_of_ble_eq_true rfl, Nat.le_of_ble_eq_true rfl⟩, Nat.le_of_ble_eq_true rfl, Nat.le_of_ble_eq_true rfl⟩ rfl (Nat.le_of_ble_eq_true rfl) (by decide +kernel) ?_
  refine g_kA (fun v3 G2 hp1 => ?_)
  obtain ⟨rfl, hp1⟩ := hp1
  rcases hp1 with ⟨i4, hi5, hn6, rfl⟩ | ⟨hn6, rfl⟩
  · refine g_seg [(5, .astore_n 3, 1), (6, .aload_n 0, 1), (7, .iload_n 2, 1)] 8 [(3, .ref (ad 1 i4)), (0, .ref x), (1, .int t1), (2, .int t2)] [.int t2, .ref x] C (by decide +kernel) rfl ?_
    refine g_callV (pc := 8) C mV_X4_trapezeNumbered q328 (h.1.1) rfl rfl (c_X4_trapezeNumbered l D cy h t2) rfl ⟨⟨Nat.le_of_ble_eq_true rfl, Nat.le_of_ble_eq_true rfl⟩, Nat.le_of_ble_eq_true rfl, Nat.le_of_ble_eq_true rfl⟩ rfl (Nat.le_of_ble_eq_true rfl) (by decide +kernel) ?_
    refine g_kA (fun v9 G8 hp7 => ?_)
    obtain ⟨rfl, hp7⟩ := hp7
    rcases hp7 with ⟨i10, hi11, hn12, rfl⟩ | ⟨hn12, rfl⟩
    · refine g_seg [(11, .astore 4, 2), (13, .aload_n 3, 1)] 14 [(4, .ref (ad 1 i10)), (3, .ref (ad 1 i4)), (0, .ref x), (1, .int t1), (2, .int t2)] [.ref (ad 1 i4)] C (by decide +kernel) rfl ?_
      refine g_ifnull (pc := 14) (off := 8) C (by decide +kernel) ?_
      refine g_seg [(17, .aload 4, 2)] 19 [(4, .ref (ad 1 i10)), (3, .ref (ad 1 i4)), (0, .ref x), (1, .int t1), (2, .int t2)] [.ref (ad 1 i10)] C (by decide +kernel) rfl ?_
      refine g_ifnonnull (pc := 19) (off := 13) 32 C (by decide +kernel) (by decide) ?_
      refine g_seg [(32, .iload_n 1, 1), (33, .iload_n 2, 1)] 34 [(4, .ref (ad 1 i10)), (3, .ref (ad 1 i4)), (0, .ref x), (1, .int t1), (2, .int t2)] [.int t2, .int t1] C (by decide +kernel) rfl ?_
      refine g_icmp_ne (pc := 34) (off := 13) 47 C (by decide +kernel) (by decide) (fun c13 => ?_) (fun c13 => ?_)
      · refine g_seg [(47, .aload_n 3, 1)] 48 [(4, .ref (ad 1 i10)), (3, .ref (ad 1 i4)), (0, .ref x), (1, .int t1), (2, .int t2)] [.ref (ad 1 i4)] C (by decide +kernel) rfl ?_
        refine g_getf (pc := 48) (k := 6) (v := .int (T i4 5)) C fl_X4_70 (h.2.1.1 i4 hi5) rfl (by decide +kernel) ?_
        refine g_if_eq (pc := 51) (off := 11) 62 C (by decide +kernel) (by decide) (fun c14 => ?_) (fun c14 => ?_)
        · refine g_seg [(62, .iconst (-1), 1)] 63 [(4, .ref (ad 1 i10)), (3, .ref (ad 1 i4)), (0, .ref x), (1, .int t1), (2, .int t2)] [.int (-1)] C (by decide +kernel) rfl ?_
          exact g_iretX (pc := 63) C R (⟨_, rfl, i4, i10, hi5, hn6, hi11, hn12, c13, Or.inl ⟨Or.inl c14, rfl⟩, h⟩) (Nat.le_of_ble_eq_true rfl) (Nat.le_of_ble_eq_true rfl) (by decide +kernel)
        · refine g_seg [(54, .aload 4, 2)] 56 [(4, .ref (ad 1 i10)), (3, .ref (ad 1 i4)), (0, .ref x), (1, .int t1), (2, .int t2)] [.ref (ad 1 i10)] C (by decide +kernel) rfl ?_
          refine g_getf (pc := 56) (k := 6) (v := .int (T i10 5)) C fl_X4_70 (h.2.1.1 i10 hi11) rfl (by decide +kernel) ?_
          refine g_if_ne (pc := 59) (off := 5) 64 C (by decide +kernel) (by decide) (fun c15 => ?_) (fun c15 => ?_)
          · refine g_seg [(64, .iconst 0, 1), (65, .istore 5, 2)] 67 [(5, .int 0), (4, .ref (ad 1 i10)), (3, .ref (ad 1 i4)), (0, .ref x), (1, .int t1), (2, .int t2)] [] C (by decide +kernel) rfl ?_
            refine g_subp [3, 2, 1, 0] (lv' := [(0, .ref x), (3, .ref (ad 1 i4)), (4, .ref (ad 1 i10)), (5, .int 0)]) rfl ?_
            have lp16 : ∀ (m k : Nat) (xk : Int32), 201 + 1 ≤ k + m → k ≤ 201 → xk = nI k → (∀ u, u < k → s_ad T i4 i10 b u = none) → PG κ 8 0 0 G8 [(0, .ref x), (3, .ref (ad 1 i4)), (4, .ref (ad 1 i10)), (5, .int xk)] 67 [] := by
              intro m
              induction m with
              | zero => intro k xk h1 h2; intros; exact absurd h1 (by omega)
              | succ m ih =>
                intro k xk hm hk hx hs
                refine g_seg [(67, .iload 5, 2), (69, .sipush 200, 3)] 72 [(0, .ref x), (3, .ref (ad 1 i4)), (4, .ref (ad 1 i10)), (5, .int xk)] [.int 200, .int xk] C (by decide +kernel) rfl ?_
                refine g_icmp_gt (pc := 72) (off := 58) 130 C (by decide +kernel) (by decide) (fun c17 => ?_) (fun c17 => ?_)
                · have hk8 : k = 201 := by have := lp_gt hx (by omega) (n := 200) (by decide) c17; omega
                  refine g_seg [(130, .iconst (-1), 1)] 131 [(0, .ref x), (3, .ref (ad 1 i4)), (4, .ref (ad 1 i10)), (5, .int xk)] [.int (-1)] C (by decide +kernel) rfl ?_
                  exact g_iretX (pc := 131) C R (⟨_, rfl, i4, i10, hi5, hn6, hi11, hn12, c13, Or.inr ⟨c14, c15, (ad_n (by rw [hk8] at hs; exact hs)).symm⟩, h⟩) (Nat.le_of_ble_eq_true rfl) (Nat.le_of_ble_eq_true rfl) (by decide +kernel)
                · have hk8 : k < 201 := by have := lp_ngt hx (by omega) (n := 200) (by decide) c17; omega
                  refine g_seg [(75, .aload 4, 2), (77, .aload_n 0, 1)] 78 [(0, .ref x), (3, .ref (ad 1 i4)), (4, .ref (ad 1 i10)), (5, .int xk)] [.ref x, .ref (ad 1 i10)] C (by decide +kernel) rfl ?_
                  refine g_getf (pc := 78) (k := 8) (v := .int b) C fl_X4_53 (h.1.1) rfl (by decide +kernel) ?_
                  refine g_seg [(81, .iload 5, 2), (83, .iadd, 1)] 84 [(0, .ref x), (3, .ref (ad 1 i4)), (4, .ref (ad 1 i10)), (5, .int xk)] [.int (b + xk), .ref (ad 1 i10)] C (by decide +kernel) rfl ?_
                  refine g_callV (pc := 84) C mV_X3_placeIn q151 (h.2.1.1 i10 hi11) rfl rfl (c_X3_placeIn l D cy G8 (ad 1 i10) (T i10 0) (T i10 1) (T i10 3) (T i10 2) (T i10 6) (T i10 4) (T i10 5) (KT i10 0) (KT i10 1) (h.2.1.1 i10 hi11) (b + xk) (hwok i10 hi11)) rfl ⟨⟨Nat.le_of_ble_eq_true rfl, Nat.le_of_ble_eq_true rfl⟩, Nat.le_of_ble_eq_true rfl, Nat.le_of_ble_eq_true rfl⟩ rfl (Nat.le_of_ble_eq_true rfl) (by decide +kernel) ?_
                  refine g_kI (fun v20 G19 hp18 => ?_)
                  obtain ⟨rfl, rfl⟩ := hp18
                  refine g_seg [(87, .istore 6, 2), (89, .iconst 0, 1), (90, .istore 7, 2)] 92 [(7, .int 0), (6, .int (s_pl (T i10 0) (T i10 1) (T i10 2) ((b + xk) - (T i10 6)))), (0, .ref x), (3, .ref (ad 1 i4)), (4, .ref (ad 1 i10)), (5, .int xk)] [] C (by decide +kernel) rfl ?_
                  refine g_subp [2, 3, 4, 5, 1, 0] (lv' := [(0, .ref x), (3, .ref (ad 1 i4)), (4, .ref (ad 1 i10)), (5, .int xk), (6, .int (s_pl (T i10 0) (T i10 1) (T i10 2) ((b + xk) - (T i10 6)))), (7, .int 0)]) rfl ?_
                  have lp21 : ∀ (m2 q : Nat) (xw : Int32), 11 + 1 ≤ q + m2 → q ≤ 11 → xw = nI q → (∀ u, u < q → s_near (s_pl (T i4 0) (T i4 1) (nI u) (nI k)) (s_at T i10 (b + nI k)) = false) → PG κ 8 0 0 G19 [(0, .ref x), (3, .ref (ad 1 i4)), (4, .ref (ad 1 i10)), (5, .int xk), (6, .int (s_pl (T i10 0) (T i10 1) (T i10 2) ((b + xk) - (T i10 6)))), (7, .int xw)] 92 [] := by
                    intro m2
                    induction m2 with
                    | zero => intro q xw h1 h2; intros; exact absurd h1 (by omega)
                    | succ m2 ih2 =>
                      intro q xw hm2 hq hxw hs2
                      refine g_seg [(92, .iload 7, 2), (94, .bipush 10, 2)] 96 [(0, .ref x), (3, .ref (ad 1 i4)), (4, .ref (ad 1 i10)), (5, .int xk), (6, .int (s_pl (T i10 0) (T i10 1) (T i10 2) ((b + xk) - (T i10 6)))), (7, .int xw)] [.int 10, .int xw] C (by decide +kernel) rfl ?_
                      refine g_icmp_gt (pc := 96) (off := 28) 124 C (by decide +kernel) (by decide) (fun c22 => ?_) (fun c22 => ?_)
                      · have hj8 : q = 11 := by have := lp_gt hxw (by omega) (n := 10) (by decide) c22; omega
                        refine g_seg [(124, .iinc 5 1, 3), (127, .goto (-60), 3)] 67 [(5, .int (xk + 1)), (0, .ref x), (3, .ref (ad 1 i4)), (4, .ref (ad 1 i10)), (6, .int (s_pl (T i10 0) (T i10 1) (T i10 2) ((b + xk) - (T i10 6)))), (7, .int xw)] [] C (by decide +kernel) rfl ?_
                        refine g_subp [1, 2, 3, 0] (lv' := [(0, .ref x), (3, .ref (ad 1 i4)), (4, .ref (ad 1 i10)), (5, .int (xk + 1))]) rfl ?_
                        exact ih (k + 1) (xk + 1) (by omega) (by omega) (lp_s hx) (nonex hs (ad_0 (by rw [hj8] at hs2; exact hs2)))
                      · have hj8 : q < 11 := by have := lp_ngt hxw (by omega) (n := 10) (by decide) c22; omega
                        refine g_seg [(99, .aload_n 3, 1), (100, .iload 5, 2), (102, .iload 7, 2)] 104 [(0, .ref x), (3, .ref (ad 1 i4)), (4, .ref (ad 1 i10)), (5, .int xk), (6, .int (s_pl (T i10 0) (T i10 1) (T i10 2) ((b + xk) - (T i10 6)))), (7, .int xw)] [.int xw, .int xk, .ref (ad 1 i4)] C (by decide +kernel) rfl ?_
                        refine g_callV (pc := 104) C mV_X3_placeSinceLeftEnd q618 (h.2.1.1 i4 hi5) rfl rfl (c_X3_placeSinceLeftEnd l D cy G19 (ad 1 i4) (T i4 0) (T i4 1) (T i4 3) (T i4 2) (T i4 6) (T i4 4) (T i4 5) (KT i4 0) (KT i4 1) (h.2.1.1 i4 hi5) xk xw (⟨q, by omega, hxw⟩)) rfl ⟨⟨Nat.le_of_ble_eq_true rfl, Nat.le_of_ble_eq_true rfl⟩, Nat.le_of_ble_eq_true rfl, Nat.le_of_ble_eq_true rfl⟩ rfl (Nat.le_of_ble_eq_true rfl) (by decide +kernel) ?_
                        refine g_kI (fun v25 G24 hp23 => ?_)
                        obtain ⟨rfl, rfl⟩ := hp23
                        refine g_seg [(107, .iload 6, 2)] 109 [(0, .ref x), (3, .ref (ad 1 i4)), (4, .ref (ad 1 i10)), (5, .int xk), (6, .int (s_pl (T i10 0) (T i10 1) (T i10 2) ((b + xk) - (T i10 6)))), (7, .int xw)] [.int (s_pl (T i10 0) (T i10 1) (T i10 2) ((b + xk) - (T i10 6))), .int (s_pl (T i4 0) (T i4 1) xw xk)] C (by decide +kernel) rfl ?_
                        refine g_callS (pc := 109) C mS_X4_isNear q573 (c_X4_isNear l D cy G24 (s_pl (T i4 0) (T i4 1) xw xk) (s_pl (T i10 0) (T i10 1) (T i10 2) ((b + xk) - (T i10 6)))) rfl ⟨⟨Nat.le_of_ble_eq_true rfl, Nat.le_of_ble_eq_true rfl⟩, Nat.le_of_ble_eq_true rfl, Nat.le_of_ble_eq_true rfl⟩ rfl (Nat.le_of_ble_eq_true rfl) (by decide +kernel) ?_
                        refine g_kI (fun v28 G27 hp26 => ?_)
                        obtain ⟨rfl, hp26⟩ := hp26
                        rcases hp26 with ⟨rfl, h29⟩ | ⟨rfl, h29⟩
                        · refine g_if_eq (pc := 112) (off := 6) 118 C (by decide +kernel) (by decide) (fun c9 => absurd c9 (by decide)) (fun _ => ?_)
                          refine g_seg [(115, .iload 7, 2)] 117 [(0, .ref x), (3, .ref (ad 1 i4)), (4, .ref (ad 1 i10)), (5, .int xk), (6, .int (s_pl (T i10 0) (T i10 1) (T i10 2) ((b + xk) - (T i10 6)))), (7, .int xw)] [.int xw] C (by decide +kernel) rfl ?_
                          exact g_iretX (pc := 117) C R (⟨_, rfl, i4, i10, hi5, hn6, hi11, hn12, c13, Or.inr ⟨c14, c15, hxw.trans (ad_y hk8 hj8 (by rw [← hx, ← hxw]; exact h29) hs2 hs).symm⟩, h⟩) (Nat.le_of_ble_eq_true rfl) (Nat.le_of_ble_eq_true rfl) (by decide +kernel)
                        · refine g_if_eq (pc := 112) (off := 6) 118 C (by decide +kernel) (by decide) (fun _ => ?_) (fun c9 => absurd (by decide) c9)
                          refine g_seg [(118, .iinc 7 1, 3), (121, .goto (-29), 3)] 92 [(7, .int (xw + 1)), (0, .ref x), (3, .ref (ad 1 i4)), (4, .ref (ad 1 i10)), (5, .int xk), (6, .int (s_pl (T i10 0) (T i10 1) (T i10 2) ((b + xk) - (T i10 6))))] [] C (by decide +kernel) rfl ?_
                          refine g_subp [1, 2, 3, 4, 5, 0] (lv' := [(0, .ref x), (3, .ref (ad 1 i4)), (4, .ref (ad 1 i10)), (5, .int xk), (6, .int (s_pl (T i10 0) (T i10 1) (T i10 2) ((b + xk) - (T i10 6)))), (7, .int (xw + 1))]) rfl ?_
                          exact ih2 (q + 1) (xw + 1) (by omega) (by omega) (lp_s hxw) (no_f2 hs2 (by rw [← hx, ← hxw]; exact h29))
                  exact lp21 (11 + 1) 0 0 (by omega) (by omega) (nI_0.symm) (fun u h1 => absurd h1 (by omega))
            exact lp16 (201 + 1) 0 0 (by omega) (by omega) (nI_0.symm) (fun u h1 => absurd h1 (by omega))
          · refine g_seg [(62, .iconst (-1), 1)] 63 [(4, .ref (ad 1 i10)), (3, .ref (ad 1 i4)), (0, .ref x), (1, .int t1), (2, .int t2)] [.int (-1)] C (by decide +kernel) rfl ?_
            exact g_iretX (pc := 63) C R (⟨_, rfl, i4, i10, hi5, hn6, hi11, hn12, c13, Or.inl ⟨Or.inr c15, rfl⟩, h⟩) (Nat.le_of_ble_eq_true rfl) (Nat.le_of_ble_eq_true rfl) (by decide +kernel)
      · exact g_throw (pc := 37) (is := 180) (text := "both are the same trapeze") C R rfl ex_IAE (by decide +kernel) (⟨h, Or.inr (⟨rfl, ⟨i4, hi5, hn6⟩, ⟨i10, hi11, hn12⟩, c13⟩)⟩) (Nat.le_of_ble_eq_true rfl) (Nat.le_of_ble_eq_true rfl) (Nat.le_of_ble_eq_true rfl) (Nat.le_of_ble_eq_true rfl) (by decide +kernel) (by decide +kernel) (by decide +kernel) (by decide +kernel) (by decide +kernel)
    · refine g_seg [(11, .astore 4, 2), (13, .aload_n 3, 1)] 14 [(4, .null), (3, .ref (ad 1 i4)), (0, .ref x), (1, .int t1), (2, .int t2)] [.ref (ad 1 i4)] C (by decide +kernel) rfl ?_
      refine g_ifnull (pc := 14) (off := 8) C (by decide +kernel) ?_
      refine g_seg [(17, .aload 4, 2)] 19 [(4, .null), (3, .ref (ad 1 i4)), (0, .ref x), (1, .int t1), (2, .int t2)] [.null] C (by decide +kernel) rfl ?_
      refine g_ifnonnullN (pc := 19) (off := 13) C (by decide +kernel) ?_
      exact g_throw (pc := 22) (is := 65) (text := "no such trapeze") C R rfl ex_IOE (by decide +kernel) (⟨h, Or.inl ⟨rfl, Or.inr hn12⟩⟩) (Nat.le_of_ble_eq_true rfl) (Nat.le_of_ble_eq_true rfl) (Nat.le_of_ble_eq_true rfl) (Nat.le_of_ble_eq_true rfl) (by decide +kernel) (by decide +kernel) (by decide +kernel) (by decide +kernel) (by decide +kernel)
  · refine g_seg [(5, .astore_n 3, 1), (6, .aload_n 0, 1), (7, .iload_n 2, 1)] 8 [(3, .null), (0, .ref x), (1, .int t1), (2, .int t2)] [.int t2, .ref x] C (by decide +kernel) rfl ?_
    refine g_callV (pc := 8) C mV_X4_trapezeNumbered q328 (h.1.1) rfl rfl (c_X4_trapezeNumbered l D cy h t2) rfl ⟨⟨Nat.le_of_ble_eq_true rfl, Nat.le_of_ble_eq_true rfl⟩, Nat.le_of_ble_eq_true rfl, Nat.le_of_ble_eq_true rfl⟩ rfl (Nat.le_of_ble_eq_true rfl) (by decide +kernel) ?_
    refine g_kA (fun v32 G31 hp30 => ?_)
    obtain ⟨rfl, hp30⟩ := hp30
    rcases hp30 with ⟨i33, hi34, hn35, rfl⟩ | ⟨hn35, rfl⟩
    · refine g_seg [(11, .astore 4, 2), (13, .aload_n 3, 1)] 14 [(4, .ref (ad 1 i33)), (3, .null), (0, .ref x), (1, .int t1), (2, .int t2)] [.null] C (by decide +kernel) rfl ?_
      refine g_ifnullN (pc := 14) (off := 8) 22 C (by decide +kernel) (by decide) ?_
      exact g_throw (pc := 22) (is := 65) (text := "no such trapeze") C R rfl ex_IOE (by decide +kernel) (⟨h, Or.inl ⟨rfl, Or.inl hn6⟩⟩) (Nat.le_of_ble_eq_true rfl) (Nat.le_of_ble_eq_true rfl) (Nat.le_of_ble_eq_true rfl) (Nat.le_of_ble_eq_true rfl) (by decide +kernel) (by decide +kernel) (by decide +kernel) (by decide +kernel) (by decide +kernel)
    · refine g_seg [(11, .astore 4, 2), (13, .aload_n 3, 1)] 14 [(4, .null), (3, .null), (0, .ref x), (1, .int t1), (2, .int t2)] [.null] C (by decide +kernel) rfl ?_
      refine g_ifnullN (pc := 14) (off := 8) 22 C (by decide +kernel) (by decide) ?_
      exact g_throw (pc := 22) (is := 65) (text := "no such trapeze") C R rfl ex_IOE (by decide +kernel) (⟨h, Or.inl ⟨rfl, Or.inl hn6⟩⟩) (Nat.le_of_ble_eq_true rfl) (Nat.le_of_ble_eq_true rfl) (Nat.le_of_ble_eq_true rfl) (Nat.le_of_ble_eq_true rfl) (by decide +kernel) (by decide +kernel) (by decide +kernel) (by decide +kernel) (by decide +kernel)
set_option maxHeartbeats 4000000 in
set_option maxRecDepth 100000 in
theorem c_X4_mean (l : Launch) (D : va_G) (cy : Nat → ClassId) {G : GG} {x : Nat} {ad : Nat → Nat → Nat} {b : Int32} {nt nf nc nn : Nat} {T E Cu N KT KF KC : Rw} (h : RX cy x ad b nt nf nc nn T E Cu N KT KF KC G) : Ctr l D cy yX4_mean prog_1_method_20_code 6 (some .double) kX4_mean [.ref x] G (pD (fun v G' => v = s_mean E nf ∧ RX cy x ad b nt nf nc nn T E Cu N KT KF KC G')) := by
  refine Ctr.mk (by decide +kernel) (Nat.le_of_ble_eq_true rfl) ?_
  intro κ C R
  refine g_pc (pc' := 0) rfl ?_
  refine g_seg [(0, .iconst 0, 1), (1, .istore_n 1, 1), (2, .aload_n 0, 1)] 3 [(1, .int 0), (0, .ref x)] [.ref x] C (by decide +kernel) rfl ?_
  refine g_getf (pc := 3) (k := 1) (v := .ref (ad 0 1)) C fl_X4_17 (h.1.1) rfl (by decide +kernel) ?_
  refine g_seg [(6, .astore_n 2, 1), (7, .aload_n 2, 1)] 8 [(2, .ref (ad 0 1)), (1, .int 0), (0, .ref x)] [.ref (ad 0 1)] C (by decide +kernel) rfl ?_
  refine g_alenA (pc := 8) (len := 8) (t0 := 2) C (h.1.2.2.1) rfl (by decide +kernel) ?_
  refine g_seg [(9, .istore_n 3, 1), (10, .iconst 0, 1), (11, .istore 4, 2)] 13 [(4, .int 0), (3, .int (nI 8)), (2, .ref (ad 0 1)), (1, .int 0), (0, .ref x)] [] C (by decide +kernel) rfl ?_
  refine g_subp [4, 3, 2, 1, 0] (lv' := [(0, .ref x), (1, .int 0), (2, .ref (ad 0 1)), (3, .int (nI 8)), (4, .int 0)]) rfl ?_
  have lp1 : ∀ (m k : Nat) (s xk : Int32), 8 + 1 ≤ k + m → k ≤ 8 → xk = nI k → s = its (fun f s => s + E f 4) 0 (min k nf) → PG κ 6 0 0 G [(0, .ref x), (1, .int s), (2, .ref (ad 0 1)), (3, .int (nI 8)), (4, .int xk)] 13 [] := by
    intro m
    induction m with
    | zero => intro k s xk h1 h2; intros; exact absurd h1 (by omega)
    | succ m ih =>
      intro k s xk hm hk hx hs
      refine g_seg [(13, .iload 4, 2), (15, .iload_n 3, 1)] 16 [(0, .ref x), (1, .int s), (2, .ref (ad 0 1)), (3, .int (nI 8)), (4, .int xk)] [.int (nI 8), .int xk] C (by decide +kernel) rfl ?_
      refine g_icmp_ge (pc := 16) (off := 28) 44 C (by decide +kernel) (by decide) (fun c2 => ?_) (fun c2 => ?_)
      · have hk8 : k = 8 := by have := lp_ge hx (by omega) (by decide) c2; omega
        refine g_seg [(44, .aload_n 0, 1)] 45 [(0, .ref x), (1, .int s), (2, .ref (ad 0 1)), (3, .int (nI 8)), (4, .int xk)] [.ref x] C (by decide +kernel) rfl ?_
        refine g_getf (pc := 45) (k := 5) (v := .int (nI nf)) C fl_X4_98 (h.1.1) rfl (by decide +kernel) ?_
        refine g_if_le (pc := 48) (off := 14) 62 C (by decide +kernel) (by decide) (fun c3 => ?_) (fun c3 => ?_)
        · refine g_seg [(62, .dconst 0, 1)] 63 [(0, .ref x), (1, .int s), (2, .ref (ad 0 1)), (3, .int (nI 8)), (4, .int xk)] [.double FP.dconst0] C (by decide +kernel) rfl ?_
          exact g_dret (pc := 63) C R (⟨_, rfl, mean_0 (h.2.2.2.2.1) c3, h⟩) (Nat.le_of_ble_eq_true rfl) (Nat.le_of_ble_eq_true rfl) (by decide +kernel)
        · refine g_seg [(51, .iload_n 1, 1), (52, .i2d, 1), (53, .aload_n 0, 1)] 54 [(0, .ref x), (1, .int s), (2, .ref (ad 0 1)), (3, .int (nI 8)), (4, .int xk)] [.ref x, .double (FP.i2d s)] C (by decide +kernel) rfl ?_
          refine g_getf (pc := 54) (k := 5) (v := .int (nI nf)) C fl_X4_98 (h.1.1) rfl (by decide +kernel) ?_
          refine g_seg [(57, .i2d, 1)] 58 [(0, .ref x), (1, .int s), (2, .ref (ad 0 1)), (3, .int (nI 8)), (4, .int xk)] [.double (FP.i2d (nI nf)), .double (FP.i2d s)] C (by decide +kernel) rfl ?_
          refine g_ddiv (pc := 58) C (by decide +kernel) (dn_ok (fun h9 => c3 (by rw [h9]; decide))) ?_
          refine g_seg [(59, .goto 4, 3)] 63 [(0, .ref x), (1, .int s), (2, .ref (ad 0 1)), (3, .int (nI 8)), (4, .int xk)] [.double (FP.ddiv (FP.i2d s) (FP.i2d (nI nf)))] C (by decide +kernel) rfl ?_
          exact g_dret (pc := 63) C R (⟨_, rfl, mean_1 (its_e hs hk8 (h.2.2.2.2.1)) c3, h⟩) (Nat.le_of_ble_eq_true rfl) (Nat.le_of_ble_eq_true rfl) (by decide +kernel)
      · have hk8 : k < 8 := by have := lp_lt hx (by omega) (by decide) c2; omega
        refine g_seg [(19, .aload_n 2, 1), (20, .iload 4, 2)] 22 [(0, .ref x), (1, .int s), (2, .ref (ad 0 1)), (3, .int (nI 8)), (4, .int xk)] [.int xk, .ref (ad 0 1)] C (by decide +kernel) rfl ?_
        refine g_aaldA (pc := 22) (len := 8) (t0 := 2) (j := k) C (h.1.2.2.1) rfl (hx) (hk8) (by decide) (by decide +kernel) (fun hi4 => ?_) (fun hi4 => ?_)
        · refine g_seg [(23, .astore 5, 2), (25, .aload 5, 2)] 27 [(5, .ref (ad 2 k)), (0, .ref x), (1, .int s), (2, .ref (ad 0 1)), (3, .int (nI 8)), (4, .int xk)] [.ref (ad 2 k)] C (by decide +kernel) rfl ?_
          refine g_ifnull (pc := 27) (off := 11) C (by decide +kernel) ?_
          refine g_seg [(30, .iload_n 1, 1), (31, .aload 5, 2)] 33 [(5, .ref (ad 2 k)), (0, .ref x), (1, .int s), (2, .ref (ad 0 1)), (3, .int (nI 8)), (4, .int xk)] [.ref (ad 2 k), .int s] C (by decide +kernel) rfl ?_
          refine g_getf (pc := 33) (k := 4) (v := .int (E k 4)) C fl_X4_194 (h.2.1.2.1 k hi4) rfl (by decide +kernel) ?_
          refine g_seg [(36, .iadd, 1), (37, .istore_n 1, 1), (38, .iinc 4 1, 3), (41, .goto (-28), 3)] 13 [(4, .int (xk + 1)), (1, .int (s + (E k 4))), (5, .ref (ad 2 k)), (0, .ref x), (2, .ref (ad 0 1)), (3, .int (nI 8))] [] C (by decide +kernel) rfl ?_
          refine g_subp [3, 1, 4, 5, 0] (lv' := [(0, .ref x), (1, .int (s + (E k 4))), (2, .ref (ad 0 1)), (3, .int (nI 8)), (4, .int (xk + 1))]) rfl ?_
          exact ih (k + 1) (s + (E k 4)) (xk + 1) (by omega) (by omega) (lp_s hx) (its_y hs hi4 rfl)
        · refine g_seg [(23, .astore 5, 2), (25, .aload 5, 2)] 27 [(5, .null), (0, .ref x), (1, .int s), (2, .ref (ad 0 1)), (3, .int (nI 8)), (4, .int xk)] [.null] C (by decide +kernel) rfl ?_
          refine g_ifnullN (pc := 27) (off := 11) 38 C (by decide +kernel) (by decide) ?_
          refine g_seg [(38, .iinc 4 1, 3), (41, .goto (-28), 3)] 13 [(4, .int (xk + 1)), (5, .null), (0, .ref x), (1, .int s), (2, .ref (ad 0 1)), (3, .int (nI 8))] [] C (by decide +kernel) rfl ?_
          refine g_subp [2, 3, 4, 5, 0] (lv' := [(0, .ref x), (1, .int s), (2, .ref (ad 0 1)), (3, .int (nI 8)), (4, .int (xk + 1))]) rfl ?_
          exact ih (k + 1) s (xk + 1) (by omega) (by omega) (lp_s hx) (its_n hs hi4)
  exact lp1 (8 + 1) 0 0 0 (by omega) (by omega) (nI_0.symm) (its_0)
set_option maxHeartbeats 4000000 in
set_option maxRecDepth 100000 in
theorem c_X4_digest (l : Launch) (D : va_G) (cy : Nat → ClassId) {G : GG} {x : Nat} {ad : Nat → Nat → Nat} {b : Int32} {nt nf nc nn : Nat} {T E Cu N KT KF KC : Rw} (h : RX cy x ad b nt nf nc nn T E Cu N KT KF KC G) (hwok : s_wok T nt) : Ctr l D cy yX4_digest prog_1_method_21_code 7 (some .long) kX4_digest [.ref x] G (pL (fun v G' => v = s_digest b nt nf nc nn T E Cu N ∧ RX cy x ad b nt nf nc nn T E Cu N KT KF KC G')) := by
  refine Ctr.mk (by decide +kernel) (Nat.le_of_ble_eq_true rfl) ?_
  intro κ C R
  refine g_pc (pc' := 0) rfl ?_
  refine g_ldc2 (pc := 0) (v := 1061) C q125 (by decide +kernel) ?_
  refine g_seg [(3, .lstore_n 1, 1), (4, .iconst 0, 1), (5, .istore_n 3, 1)] 6 [(3, .int 0), (1, .long 1061), (0, .ref x)] [] C (by decide +kernel) rfl ?_
  refine g_subp [2, 1, 0] (lv' := [(0, .ref x), (1, .long 1061), (3, .int 0)]) rfl ?_
  have lp1 : ∀ (m k : Nat) (dd : Int64) (xk : Int32), 9 + 1 ≤ k + m → k ≤ 9 → xk = nI k → dd = s_dig (fun w => s_countX b nt nf nc T E Cu (nI w)) 1061 k → PG κ 7 0 0 G [(0, .ref x), (1, .long dd), (3, .int xk)] 6 [] := by
    intro m
    induction m with
    | zero => intro k dd xk h1 h2; intros; exact absurd h1 (by omega)
    | succ m ih =>
      intro k dd xk hm hk hx hd
      refine g_seg [(6, .iload_n 3, 1), (7, .bipush 8, 2)] 9 [(0, .ref x), (1, .long dd), (3, .int xk)] [.int 8, .int xk] C (by decide +kernel) rfl ?_
      refine g_icmp_gt (pc := 9) (off := 22) 31 C (by decide +kernel) (by decide) (fun c2 => ?_) (fun c2 => ?_)
      · have hk8 : k = 9 := by have := lp_gt hx (by omega) (n := 8) (by decide) c2; omega
        refine g_seg [(31, .aload_n 0, 1), (32, .lload_n 1, 1)] 33 [(0, .ref x), (1, .long dd), (3, .int xk)] [.long dd, .ref x] C (by decide +kernel) rfl ?_
        refine g_callV (pc := 33) C mV_X4_withTrapezes q143 (h.1.1) rfl rfl (c_X4_withTrapezes l D cy h dd hwok) rfl ⟨⟨Nat.le_of_ble_eq_true rfl, Nat.le_of_ble_eq_true rfl⟩, Nat.le_of_ble_eq_true rfl, Nat.le_of_ble_eq_true rfl⟩ rfl (Nat.le_of_ble_eq_true rfl) (by decide +kernel) ?_
        refine g_kL (fun v5 G4 hp3 => ?_)
        obtain ⟨rfl, rfl⟩ := hp3
        refine g_seg [(36, .lstore_n 1, 1), (37, .aload_n 0, 1), (38, .lload_n 1, 1)] 39 [(1, .long (its (fun t d => s_dig (fun w => s_toldX T E nf b t (nI w)) d 8) dd nt)), (0, .ref x), (3, .int xk)] [.long (its (fun t d => s_dig (fun w => s_toldX T E nf b t (nI w)) d 8) dd nt), .ref x] C (by decide +kernel) rfl ?_
        refine g_callV (pc := 39) C mV_X4_withFlyers q173 (h.1.1) rfl rfl (c_X4_withFlyers l D cy h (its (fun t d => s_dig (fun w => s_toldX T E nf b t (nI w)) d 8) dd nt)) rfl ⟨⟨Nat.le_of_ble_eq_true rfl, Nat.le_of_ble_eq_true rfl⟩, Nat.le_of_ble_eq_true rfl, Nat.le_of_ble_eq_true rfl⟩ rfl (Nat.le_of_ble_eq_true rfl) (by decide +kernel) ?_
        refine g_kL (fun v8 G7 hp6 => ?_)
        obtain ⟨rfl, rfl⟩ := hp6
        refine g_seg [(42, .lstore_n 1, 1), (43, .aload_n 0, 1), (44, .lload_n 1, 1)] 45 [(1, .long (its (fun t d => s_dig (fun w => s_toldFX E b t (nI w)) d 5) (its (fun t d => s_dig (fun w => s_toldX T E nf b t (nI w)) d 8) dd nt) nf)), (0, .ref x), (3, .int xk)] [.long (its (fun t d => s_dig (fun w => s_toldFX E b t (nI w)) d 5) (its (fun t d => s_dig (fun w => s_toldX T E nf b t (nI w)) d 8) dd nt) nf), .ref x] C (by decide +kernel) rfl ?_
        refine g_callV (pc := 45) C mV_X4_withCues q181 (h.1.1) rfl rfl (c_X4_withCues l D cy h (its (fun t d => s_dig (fun w => s_toldFX E b t (nI w)) d 5) (its (fun t d => s_dig (fun w => s_toldX T E nf b t (nI w)) d 8) dd nt) nf)) rfl ⟨⟨Nat.le_of_ble_eq_true rfl, Nat.le_of_ble_eq_true rfl⟩, Nat.le_of_ble_eq_true rfl, Nat.le_of_ble_eq_true rfl⟩ rfl (Nat.le_of_ble_eq_true rfl) (by decide +kernel) ?_
        refine g_kL (fun v11 G10 hp9 => ?_)
        obtain ⟨rfl, rfl⟩ := hp9
        refine g_seg [(48, .lstore_n 1, 1), (49, .aload_n 0, 1)] 50 [(1, .long (its (fun t d => s_dig (fun w => s_toldC Cu t (nI w)) d 5) (its (fun t d => s_dig (fun w => s_toldFX E b t (nI w)) d 5) (its (fun t d => s_dig (fun w => s_toldX T E nf b t (nI w)) d 8) dd nt) nf) nc)), (0, .ref x), (3, .int xk)] [.ref x] C (by decide +kernel) rfl ?_
        refine g_getf (pc := 50) (k := 3) (v := .ref (ad 0 3)) C fl_X4_29 (h.1.1) rfl (by decide +kernel) ?_
        refine g_seg [(53, .astore_n 3, 1), (54, .aload_n 3, 1)] 55 [(3, .ref (ad 0 3)), (1, .long (its (fun t d => s_dig (fun w => s_toldC Cu t (nI w)) d 5) (its (fun t d => s_dig (fun w => s_toldFX E b t (nI w)) d 5) (its (fun t d => s_dig (fun w => s_toldX T E nf b t (nI w)) d 8) dd nt) nf) nc)), (0, .ref x)] [.ref (ad 0 3)] C (by decide +kernel) rfl ?_
        refine g_alenA (pc := 55) (len := 3) (t0 := 4) C (h.1.2.2.2.2) rfl (by decide +kernel) ?_
        refine g_seg [(56, .istore 4, 2), (58, .iconst 0, 1), (59, .istore 5, 2)] 61 [(5, .int 0), (4, .int (nI 3)), (3, .ref (ad 0 3)), (1, .long (its (fun t d => s_dig (fun w => s_toldC Cu t (nI w)) d 5) (its (fun t d => s_dig (fun w => s_toldFX E b t (nI w)) d 5) (its (fun t d => s_dig (fun w => s_toldX T E nf b t (nI w)) d 8) dd nt) nf) nc)), (0, .ref x)] [] C (by decide +kernel) rfl ?_
        refine g_subp [4, 3, 2, 1, 0] (lv' := [(0, .ref x), (1, .long (its (fun t d => s_dig (fun w => s_toldC Cu t (nI w)) d 5) (its (fun t d => s_dig (fun w => s_toldFX E b t (nI w)) d 5) (its (fun t d => s_dig (fun w => s_toldX T E nf b t (nI w)) d 8) dd nt) nf) nc)), (3, .ref (ad 0 3)), (4, .int (nI 3)), (5, .int 0)]) rfl ?_
        have lp12 : ∀ (m2 q : Nat) (d2 : Int64) (xq : Int32), 3 + 1 ≤ q + m2 → q ≤ 3 → xq = nI q → d2 = its (fun k d => (d * 31 + (N k 0).toInt64) * 31 + (N k 1).toInt64) (its (fun t d => s_dig (fun w => s_toldC Cu t (nI w)) d 5) (its (fun t d => s_dig (fun w => s_toldFX E b t (nI w)) d 5) (its (fun t d => s_dig (fun w => s_toldX T E nf b t (nI w)) d 8) dd nt) nf) nc) (min q nn) → PG κ 7 0 0 G10 [(0, .ref x), (1, .long d2), (3, .ref (ad 0 3)), (4, .int (nI 3)), (5, .int xq)] 61 [] := by
          intro m2
          induction m2 with
          | zero => intro q d2 xq h1 h2; intros; exact absurd h1 (by omega)
          | succ m2 ih2 =>
            intro q d2 xq hm2 hq hxq hs
            refine g_seg [(61, .iload 5, 2), (63, .iload 4, 2)] 65 [(0, .ref x), (1, .long d2), (3, .ref (ad 0 3)), (4, .int (nI 3)), (5, .int xq)] [.int (nI 3), .int xq] C (by decide +kernel) rfl ?_
            refine g_icmp_ge (pc := 65) (off := 44) 109 C (by decide +kernel) (by decide) (fun c13 => ?_) (fun c13 => ?_)
            · have hq8 : q = 3 := by have := lp_ge hxq (by omega) (by decide) c13; omega
              refine g_seg [(109, .lload_n 1, 1)] 110 [(0, .ref x), (1, .long d2), (3, .ref (ad 0 3)), (4, .int (nI 3)), (5, .int xq)] [.long d2] C (by decide +kernel) rfl ?_
              exact g_lret (pc := 110) C R (⟨_, rfl, by rw [its_e hs hq8 (h.2.2.2.2.2.2), hd, hk8]; rfl, h⟩) (Nat.le_of_ble_eq_true rfl) (Nat.le_of_ble_eq_true rfl) (by decide +kernel)
            · have hq8 : q < 3 := lp_lt hxq (by omega) (by decide) c13
              refine g_seg [(68, .aload_n 3, 1), (69, .iload 5, 2)] 71 [(0, .ref x), (1, .long d2), (3, .ref (ad 0 3)), (4, .int (nI 3)), (5, .int xq)] [.int xq, .ref (ad 0 3)] C (by decide +kernel) rfl ?_
              refine g_aaldA (pc := 71) (len := 3) (t0 := 4) (j := q) C (h.1.2.2.2.2) rfl (hxq) (hq8) (by decide) (by decide +kernel) (fun hi14 => ?_) (fun hi14 => ?_)
              · refine g_seg [(72, .astore 6, 2), (74, .aload 6, 2)] 76 [(6, .ref (ad 4 q)), (0, .ref x), (1, .long d2), (3, .ref (ad 0 3)), (4, .int (nI 3)), (5, .int xq)] [.ref (ad 4 q)] C (by decide +kernel) rfl ?_
                refine g_ifnull (pc := 76) (off := 27) C (by decide +kernel) ?_
                refine g_seg [(79, .lload_n 1, 1)] 80 [(6, .ref (ad 4 q)), (0, .ref x), (1, .long d2), (3, .ref (ad 0 3)), (4, .int (nI 3)), (5, .int xq)] [.long d2] C (by decide +kernel) rfl ?_
                refine g_ldc2 (pc := 80) (v := 31) C q126 (by decide +kernel) ?_
                refine g_seg [(83, .lmul, 1), (84, .aload 6, 2)] 86 [(6, .ref (ad 4 q)), (0, .ref x), (1, .long d2), (3, .ref (ad 0 3)), (4, .int (nI 3)), (5, .int xq)] [.ref (ad 4 q), .long (d2 * 31)] C (by decide +kernel) rfl ?_
                refine g_getf (pc := 86) (k := 0) (v := .int (N q 0)) C fl_X4_211 (h.2.1.2.2.2 q hi14) rfl (by decide +kernel) ?_
                refine g_seg [(89, .i2l, 1), (90, .ladd, 1)] 91 [(6, .ref (ad 4 q)), (0, .ref x), (1, .long d2), (3, .ref (ad 0 3)), (4, .int (nI 3)), (5, .int xq)] [.long ((d2 * 31) + (N q 0).toInt64)] C (by decide +kernel) rfl ?_
                refine g_ldc2 (pc := 91) (v := 31) C q126 (by decide +kernel) ?_
                refine g_seg [(94, .lmul, 1), (95, .aload 6, 2)] 97 [(6, .ref (ad 4 q)), (0, .ref x), (1, .long d2), (3, .ref (ad 0 3)), (4, .int (nI 3)), (5, .int xq)] [.ref (ad 4 q), .long (((d2 * 31) + (N q 0).toInt64) * 31)] C (by decide +kernel) rfl ?_
                refine g_getf (pc := 97) (k := 1) (v := .int (N q 1)) C fl_X4_214 (h.2.1.2.2.2 q hi14) rfl (by decide +kernel) ?_
                refine g_seg [(100, .i2l, 1), (101, .ladd, 1), (102, .lstore_n 1, 1), (103, .iinc 5 1, 3), (106, .goto (-45), 3)] 61 [(5, .int (xq + 1)), (1, .long ((((d2 * 31) + (N q 0).toInt64) * 31) + (N q 1).toInt64)), (6, .ref (ad 4 q)), (0, .ref x), (3, .ref (ad 0 3)), (4, .int (nI 3))] [] C (by decide +kernel) rfl ?_
                refine g_subp [3, 1, 4, 5, 0] (lv' := [(0, .ref x), (1, .long ((((d2 * 31) + (N q 0).toInt64) * 31) + (N q 1).toInt64)), (3, .ref (ad 0 3)), (4, .int (nI 3)), (5, .int (xq + 1))]) rfl ?_
                exact ih2 (q + 1) ((((d2 * 31) + (N q 0).toInt64) * 31) + (N q 1).toInt64) (xq + 1) (by omega) (by omega) (lp_s hxq) (its_y hs hi14 rfl)
              · refine g_seg [(72, .astore 6, 2), (74, .aload 6, 2)] 76 [(6, .null), (0, .ref x), (1, .long d2), (3, .ref (ad 0 3)), (4, .int (nI 3)), (5, .int xq)] [.null] C (by decide +kernel) rfl ?_
                refine g_ifnullN (pc := 76) (off := 27) 103 C (by decide +kernel) (by decide) ?_
                refine g_seg [(103, .iinc 5 1, 3), (106, .goto (-45), 3)] 61 [(5, .int (xq + 1)), (6, .null), (0, .ref x), (1, .long d2), (3, .ref (ad 0 3)), (4, .int (nI 3))] [] C (by decide +kernel) rfl ?_
                refine g_subp [2, 3, 4, 5, 0] (lv' := [(0, .ref x), (1, .long d2), (3, .ref (ad 0 3)), (4, .int (nI 3)), (5, .int (xq + 1))]) rfl ?_
                exact ih2 (q + 1) d2 (xq + 1) (by omega) (by omega) (lp_s hxq) (its_n hs hi14)
        exact lp12 (3 + 1) 0 (its (fun t d => s_dig (fun w => s_toldC Cu t (nI w)) d 5) (its (fun t d => s_dig (fun w => s_toldFX E b t (nI w)) d 5) (its (fun t d => s_dig (fun w => s_toldX T E nf b t (nI w)) d 8) dd nt) nf) nc) 0 (by omega) (by omega) (nI_0.symm) (its_0)
      · have hk8 : k < 9 := by have := lp_ngt hx (by omega) (n := 8) (by decide) c2; omega
        refine g_seg [(12, .lload_n 1, 1)] 13 [(0, .ref x), (1, .long dd), (3, .int xk)] [.long dd] C (by decide +kernel) rfl ?_
        refine g_ldc2 (pc := 13) (v := 31) C q126 (by decide +kernel) ?_
        refine g_seg [(16, .lmul, 1), (17, .aload_n 0, 1), (18, .iload_n 3, 1)] 19 [(0, .ref x), (1, .long dd), (3, .int xk)] [.int xk, .ref x, .long (dd * 31)] C (by decide +kernel) rfl ?_
        refine g_callV (pc := 19) C mV_X4_tally q127 (h.1.1) rfl rfl (c_X4_tally l D cy h xk) rfl ⟨⟨Nat.le_of_ble_eq_true rfl, Nat.le_of_ble_eq_true rfl⟩, Nat.le_of_ble_eq_true rfl, Nat.le_of_ble_eq_true rfl⟩ rfl (Nat.le_of_ble_eq_true rfl) (by decide +kernel) ?_
        refine g_kI (fun v17 G16 hp15 => ?_)
        obtain ⟨rfl, rfl⟩ := hp15
        refine g_seg [(22, .i2l, 1), (23, .ladd, 1), (24, .lstore_n 1, 1), (25, .iinc 3 1, 3), (28, .goto (-22), 3)] 6 [(3, .int (xk + 1)), (1, .long ((dd * 31) + (s_countX b nt nf nc T E Cu xk).toInt64)), (0, .ref x)] [] C (by decide +kernel) rfl ?_
        refine g_subp [2, 1, 0] (lv' := [(0, .ref x), (1, .long ((dd * 31) + (s_countX b nt nf nc T E Cu xk).toInt64)), (3, .int (xk + 1))]) rfl ?_
        exact ih (k + 1) ((dd * 31) + (s_countX b nt nf nc T E Cu xk).toInt64) (xk + 1) (by omega) (by omega) (lp_s hx) (by rw [hd, hx]; rfl)
  exact lp1 (9 + 1) 0 1061 0 (by omega) (by omega) (nI_0.symm) (rfl)
set_option maxHeartbeats 4000000 in
set_option maxRecDepth 100000 in
theorem c_X4_init (l : Launch) (D : va_G) (cy : Nat → ClassId) (G : GG) (x : Nat) (hX0 : G x = some (.inr (4, [.null, .null, .null, .null, .int 0, .int 0, .int 0, .int 0, .int 0]))) : Ctr l D cy yX4_init prog_1_method_1_code 1 none kX4_init [.ref x] G (pV (fun G' => ∃ ad, RX cy x ad 0 0 0 0 0 zR zR zR zR zR zR zR G')) := by
  refine Ctr.mk (by decide +kernel) (Nat.le_of_ble_eq_true rfl) ?_
  intro κ C R
  refine g_pc (pc' := 0) rfl ?_
  refine g_seg [(0, .aload_n 0, 1)] 1 [(0, .ref x)] [.ref x] C (by decide +kernel) rfl ?_
  refine g_obj (pc := 1) C q67 q68 q69 (Nat.le_of_ble_eq_true rfl) (Nat.le_of_ble_eq_true rfl) (by decide +kernel) ?_
  refine g_seg [(4, .aload_n 0, 1), (5, .bipush 6, 2)] 7 [(0, .ref x)] [.int 6, .ref x] C (by decide +kernel) rfl ?_
  refine g_anew (pc := 7) (t0 := 1) (N' := 6) C q70 (fun U h9 => h9.1) rfl (by decide) (by decide) (Nat.le_of_ble_eq_true rfl) (Nat.le_of_ble_eq_true rfl) (Nat.le_of_ble_eq_true rfl) (by decide +kernel) (fun q0 hq0 => ?_)
  refine g_abs (P := fun G9 => G9 x = some (.inr (4, [.null, .null, .null, .null, .int 0, .int 0, .int 0, .int 0, .int 0])) ∧ G9 q0 = some (.inl (cy 1, 6, .inr (.inr (.inr (.inr (fun _ => none))))))) ⟨by rw [g_up_ne (g_fresh hq0 hX0)]; exact hX0, g_up_self ..⟩ (fun Ga1 hg => ?_)
  obtain ⟨hY1, hz1_0⟩ := hg
  refine g_putF (pc := 10) (k := 0) (v := .ref q0) (ty := (.array (.object "CircusLines$Trapeze"))) C fl_X4_11 fp_X4_0 rfl (fun q hq => by cases hq; rfl) (hY1) rfl (by first | rfl | decide) (Nat.le_of_ble_eq_true rfl) (by decide +kernel) ?_
  refine g_abs (P := fun G9 => G9 x = some (.inr (4, [.ref q0, .null, .null, .null, .int 0, .int 0, .int 0, .int 0, .int 0])) ∧ G9 q0 = some (.inl (cy 1, 6, .inr (.inr (.inr (.inr (fun _ => none))))))) ⟨g_up_self .., g_oth hz1_0 hY1 (by simp)⟩ (fun Gb1 hg => ?_)
  obtain ⟨hX1, hw1_0⟩ := hg
  refine g_seg [(13, .aload_n 0, 1), (14, .bipush 8, 2)] 16 [(0, .ref x)] [.int 8, .ref x] C (by decide +kernel) rfl ?_
  refine g_anew (pc := 16) (t0 := 2) (N' := 8) C q72 (fun U h9 => h9.2.1) rfl (by decide) (by decide) (Nat.le_of_ble_eq_true rfl) (Nat.le_of_ble_eq_true rfl) (Nat.le_of_ble_eq_true rfl) (by decide +kernel) (fun q1 hq1 => ?_)
  refine g_abs (P := fun G9 => G9 x = some (.inr (4, [.ref q0, .null, .null, .null, .int 0, .int 0, .int 0, .int 0, .int 0])) ∧ G9 q0 = some (.inl (cy 1, 6, .inr (.inr (.inr (.inr (fun _ => none)))))) ∧ G9 q1 = some (.inl (cy 2, 8, .inr (.inr (.inr (.inr (fun _ => none))))))) ⟨by rw [g_up_ne (g_fresh hq1 hX1)]; exact hX1, by rw [g_up_ne (g_fresh hq1 hw1_0)]; exact hw1_0, g_up_self ..⟩ (fun Ga2 hg => ?_)
  obtain ⟨hY2, hz2_0, hz2_1⟩ := hg
  refine g_putF (pc := 19) (k := 1) (v := .ref q1) (ty := (.array (.object "CircusLines$Flyer"))) C fl_X4_17 fp_X4_1 rfl (fun q hq => by cases hq; rfl) (hY2) rfl (by first | rfl | decide) (Nat.le_of_ble_eq_true rfl) (by decide +kernel) ?_
  refine g_abs (P := fun G9 => G9 x = some (.inr (4, [.ref q0, .ref q1, .null, .null, .int 0, .int 0, .int 0, .int 0, .int 0])) ∧ G9 q0 = some (.inl (cy 1, 6, .inr (.inr (.inr (.inr (fun _ => none)))))) ∧ G9 q1 = some (.inl (cy 2, 8, .inr (.inr (.inr (.inr (fun _ => none))))))) ⟨g_up_self .., g_oth hz2_0 hY2 (by simp), g_oth hz2_1 hY2 (by simp)⟩ (fun Gb2 hg => ?_)
  obtain ⟨hX2, hw2_0, hw2_1⟩ := hg
  refine g_seg [(22, .aload_n 0, 1), (23, .bipush 20, 2)] 25 [(0, .ref x)] [.int 20, .ref x] C (by decide +kernel) rfl ?_
  refine g_anew (pc := 25) (t0 := 3) (N' := 20) C q74 (fun U h9 => h9.2.2.1) rfl (by decide) (by decide) (Nat.le_of_ble_eq_true rfl) (Nat.le_of_ble_eq_true rfl) (Nat.le_of_ble_eq_true rfl) (by decide +kernel) (fun q2 hq2 => ?_)
  refine g_abs (P := fun G9 => G9 x = some (.inr (4, [.ref q0, .ref q1, .null, .null, .int 0, .int 0, .int 0, .int 0, .int 0])) ∧ G9 q0 = some (.inl (cy 1, 6, .inr (.inr (.inr (.inr (fun _ => none)))))) ∧ G9 q1 = some (.inl (cy 2, 8, .inr (.inr (.inr (.inr (fun _ => none)))))) ∧ G9 q2 = some (.inl (cy 3, 20, .inr (.inr (.inr (.inr (fun _ => none))))))) ⟨by rw [g_up_ne (g_fresh hq2 hX2)]; exact hX2, by rw [g_up_ne (g_fresh hq2 hw2_0)]; exact hw2_0, by rw [g_up_ne (g_fresh hq2 hw2_1)]; exact hw2_1, g_up_self ..⟩ (fun Ga3 hg => ?_)
  obtain ⟨hY3, hz3_0, hz3_1, hz3_2⟩ := hg
  refine g_putF (pc := 28) (k := 2) (v := .ref q2) (ty := (.array (.object "CircusLines$Cue"))) C fl_X4_23 fp_X4_2 rfl (fun q hq => by cases hq; rfl) (hY3) rfl (by first | rfl | decide) (Nat.le_of_ble_eq_true rfl) (by decide +kernel) ?_
  refine g_abs (P := fun G9 => G9 x = some (.inr (4, [.ref q0, .ref q1, .ref q2, .null, .int 0, .int 0, .int 0, .int 0, .int 0])) ∧ G9 q0 = some (.inl (cy 1, 6, .inr (.inr (.inr (.inr (fun _ => none)))))) ∧ G9 q1 = some (.inl (cy 2, 8, .inr (.inr (.inr (.inr (fun _ => none)))))) ∧ G9 q2 = some (.inl (cy 3, 20, .inr (.inr (.inr (.inr (fun _ => none))))))) ⟨g_up_self .., g_oth hz3_0 hY3 (by simp), g_oth hz3_1 hY3 (by simp), g_oth hz3_2 hY3 (by simp)⟩ (fun Gb3 hg => ?_)
  obtain ⟨hX3, hw3_0, hw3_1, hw3_2⟩ := hg
  refine g_seg [(31, .aload_n 0, 1), (32, .iconst 3, 1)] 33 [(0, .ref x)] [.int 3, .ref x] C (by decide +kernel) rfl ?_
  refine g_anew (pc := 33) (t0 := 4) (N' := 3) C q76 (fun U h9 => h9.2.2.2.1) rfl (by decide) (by decide) (Nat.le_of_ble_eq_true rfl) (Nat.le_of_ble_eq_true rfl) (Nat.le_of_ble_eq_true rfl) (by decide +kernel) (fun q3 hq3 => ?_)
  refine g_abs (P := fun G9 => G9 x = some (.inr (4, [.ref q0, .ref q1, .ref q2, .null, .int 0, .int 0, .int 0, .int 0, .int 0])) ∧ G9 q0 = some (.inl (cy 1, 6, .inr (.inr (.inr (.inr (fun _ => none)))))) ∧ G9 q1 = some (.inl (cy 2, 8, .inr (.inr (.inr (.inr (fun _ => none)))))) ∧ G9 q2 = some (.inl (cy 3, 20, .inr (.inr (.inr (.inr (fun _ => none)))))) ∧ G9 q3 = some (.inl (cy 4, 3, .inr (.inr (.inr (.inr (fun _ => none))))))) ⟨by rw [g_up_ne (g_fresh hq3 hX3)]; exact hX3, by rw [g_up_ne (g_fresh hq3 hw3_0)]; exact hw3_0, by rw [g_up_ne (g_fresh hq3 hw3_1)]; exact hw3_1, by rw [g_up_ne (g_fresh hq3 hw3_2)]; exact hw3_2, g_up_self ..⟩ (fun Ga4 hg => ?_)
  obtain ⟨hY4, hz4_0, hz4_1, hz4_2, hz4_3⟩ := hg
  refine g_putF (pc := 36) (k := 3) (v := .ref q3) (ty := (.array (.object "CircusLines$Net"))) C fl_X4_29 fp_X4_3 rfl (fun q hq => by cases hq; rfl) (hY4) rfl (by first | rfl | decide) (Nat.le_of_ble_eq_true rfl) (by decide +kernel) ?_
  refine g_abs (P := fun G9 => G9 x = some (.inr (4, [.ref q0, .ref q1, .ref q2, .ref q3, .int 0, .int 0, .int 0, .int 0, .int 0])) ∧ G9 q0 = some (.inl (cy 1, 6, .inr (.inr (.inr (.inr (fun _ => none)))))) ∧ G9 q1 = some (.inl (cy 2, 8, .inr (.inr (.inr (.inr (fun _ => none)))))) ∧ G9 q2 = some (.inl (cy 3, 20, .inr (.inr (.inr (.inr (fun _ => none)))))) ∧ G9 q3 = some (.inl (cy 4, 3, .inr (.inr (.inr (.inr (fun _ => none))))))) ⟨g_up_self .., g_oth hz4_0 hY4 (by simp), g_oth hz4_1 hY4 (by simp), g_oth hz4_2 hY4 (by simp), g_oth hz4_3 hY4 (by simp)⟩ (fun Gb4 hg => ?_)
  obtain ⟨hX4, hw4_0, hw4_1, hw4_2, hw4_3⟩ := hg
  exact g_vret (pc := 39) C R (⟨rfl, _, RX_zero hX4 hw4_0 hw4_1 hw4_2 hw4_3⟩) (Nat.le_of_ble_eq_true rfl) (Nat.le_of_ble_eq_true rfl) (by decide +kernel)
