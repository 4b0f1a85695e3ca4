/-! before the loop -/
theorem one_sub {G : GG} {q : Nat} {e0 : va_E} : ∀ a e, g_up (fun _ => none) q e0 a = some e → g_up G q e0 a = some e := by
  intro a e h
  by_cases hq : a = q
  · subst hq; rw [g_up_self] at h ⊢; exact h
  · rw [g_up_ne hq] at h; cases h
/-- a world grown by one framed constructor -/
theorem one_fr {G G' G3 : GG} {q : Nat} {e0 : va_E} (hq : G q = none) (h : fr (g_up (fun _ => none) q e0) (g_up G q e0) G' G3) : (∀ a e, G a = some e → G3 a = some e) ∧ (∀ a e, G' a = some e → G3 a = some e) ∧ ∀ a e, G a = some e → G' a = none := by
  obtain ⟨f1, f2, f3⟩ := h
  have hne : ∀ a e, G a = some e → a ≠ q := fun a e ha z => by subst z; rw [hq] at ha; cases ha
  refine ⟨fun a e ha => f2 a e (by rw [g_up_ne (hne a e ha)]; exact ha) (by rw [g_up_ne (hne a e ha)]), f1, fun a e ha => ?_⟩
  cases h1 : G' a with
  | none => rfl
  | some e1 =>
    rcases f3 a e1 h1 with ⟨e2, h2⟩ | h2
    · rw [g_up_ne (hne a e ha)] at h2; cases h2
    · rw [g_up_ne (hne a e ha), ha] at h2; cases h2
theorem LW_start {cy : Nat → ClassId} {x m o : Nat} {ad : Nat → Nat → Nat} {am : Nat → Nat} {G1 G2 G3 : GG} (hX : RX cy x ad 0 0 0 0 0 zR zR zR zR zR zR zR G1) (hM : RM cy m am 0 0 0 0 0 0 zR zR zR zR G2) (t1 : ∀ a e, G1 a = some e → G3 a = some e) (t2 : ∀ a e, G2 a = some e → G3 a = some e) (t3 : ∀ a e, G1 a = some e → G2 a = none) (ho : G3 o = none) : LW cy x m o (g_up G3 o (.inl (cy 6, 1, .inr (.inl (fun _ => 0))))) 0 := by
  have n1 : ∀ a e, G3 a = some e → a ≠ o := fun a e ha z => by subst z; rw [ho] at ha; cases ha
  refine ⟨G1, G2, ad, am, 0, 0, 0, 0, 0, zR, zR, zR, zR, zR, zR, zR, zR, fun _ => 0, hX, hM, ⟨fun a e ha => ?_, fun a e ha => ?_, t3⟩, ⟨g_up_self .., ?_, ?_⟩, ?_, ?_, ?_⟩
  · rw [g_up_ne (n1 a e (t1 a e ha))]; exact t1 a e ha
  · rw [g_up_ne (n1 a e (t2 a e ha))]; exact t2 a e ha
  · cases h : G1 o with
    | none => rfl
    | some e => exact absurd rfl (n1 o e (t1 o e h))
  · cases h : G2 o with
    | none => rfl
    | some e => exact absurd rfl (n1 o e (t2 o e h))
  · exact ⟨fun i hi => absurd hi (Nat.not_lt_zero i), fun i hi => absurd hi (Nat.not_lt_zero i)⟩
  · exact ⟨fun i hi => absurd hi (Nat.not_lt_zero i), fun i hi => absurd hi (Nat.not_lt_zero i)⟩
  · exact fun i hi => absurd hi (Nat.not_lt_zero i)
set_option maxHeartbeats 4000000 in
set_option maxRecDepth 100000 in
theorem t_start {nm : String} {κ : Kx} {l : Launch} {D : va_G} {cy : Nat → ClassId} {b L : Nat} {xs : Nat → Int32} (C : g_OK κ l D cy (yLw nm) 9 code room_1 (some .boolean)) (hCX : g_CX κ) (hSC : g_SC κ b L xs) (hL : L ≤ 2560) (fin : ∀ G ce sl x m o k, ce ≤ 12 + 16 * 513 → sl ≤ 246 + 400 * 513 → PG κ 9 ce sl G [(0, .ref b), (1, .ref x), (2, .ref m), (3, .ref o), (4, .int (nI (5 * k)))] 1362 []) : PG κ 9 0 0 (fun _ => none) [(0, .ref b)] 0 [] := by
  refine g_new (pc := 0) (ci := 4) (fs := [.null, .null, .null, .null, .int 0, .int 0, .int 0, .int 0, .int 0]) C rfl inX4 tyX4_ok q62 q63 q48 (fun j hj => by rcases (show j = 0 ∨ j = 1 ∨ j = 2 ∨ j = 3 ∨ j = 4 ∨ j = 5 ∨ j = 6 ∨ j = 7 ∨ j = 8 by omega) with rfl | rfl | rfl | rfl | rfl | rfl | rfl | rfl | rfl <;> rfl) (Nat.le_of_ble_eq_true rfl) (Nat.le_of_ble_eq_true rfl) (by decide +kernel) (fun x hx => ?_)
  refine g_seg [(3, .dup, 1)] 4 [(0, .ref b)] [.ref x, .ref x] C (by decide +kernel) rfl ?_
  refine g_callI (pc := 4) C mI_X4_init q64 (c_X4_init l D cy _ x (g_up_self ..)) rfl ⟨⟨(Nat.le_of_ble_eq_true rfl), (Nat.le_of_ble_eq_true rfl)⟩, (Nat.le_of_ble_eq_true rfl), (Nat.le_of_ble_eq_true rfl)⟩ rfl (Nat.le_of_ble_eq_true rfl) (by decide +kernel) (g_kV (fun G1 h1 => ?_))
  obtain ⟨ad, hX⟩ := h1
  refine g_seg [(7, .astore_n 1, 1)] 8 [(1, .ref x), (0, .ref b)] [] C (by decide +kernel) rfl ?_
  refine g_new (pc := 8) (ci := 5) (fs := [.int 0, .int 0, .int 0, .int 0, .int 0, .null, .null, .null, .null, .null]) C rfl inX5 tyX5_ok q659 q660 q49 (fun j hj => by rcases (show j = 0 ∨ j = 1 ∨ j = 2 ∨ j = 3 ∨ j = 4 ∨ j = 5 ∨ j = 6 ∨ j = 7 ∨ j = 8 ∨ j = 9 by omega) with rfl | rfl | rfl | rfl | rfl | rfl | rfl | rfl | rfl | rfl <;> rfl) (Nat.le_of_ble_eq_true rfl) (Nat.le_of_ble_eq_true rfl) (by decide +kernel) (fun m hm => ?_)
  refine g_seg [(11, .dup, 1)] 12 [(1, .ref x), (0, .ref b)] [.ref m, .ref m] C (by decide +kernel) rfl ?_
  refine g_callI (pc := 12) C mI_X5_init q661 (Ctr.frame (G1 := g_up (fun _ => none) m (.inr (5, [.int 0, .int 0, .int 0, .int 0, .int 0, .null, .null, .null, .null, .null]))) (c_X5_init l D cy _ m (g_up_self ..)) one_sub) rfl ⟨⟨(Nat.le_of_ble_eq_true rfl), (Nat.le_of_ble_eq_true rfl)⟩, (Nat.le_of_ble_eq_true rfl), (Nat.le_of_ble_eq_true rfl)⟩ rfl (Nat.le_of_ble_eq_true rfl) (by decide +kernel) (fun r G3 h3 => ?_)
  obtain ⟨G2, ⟨rfl, am, hM⟩, hf⟩ := h3
  obtain ⟨t1, t2, t3⟩ := one_fr hm hf
  show PG κ 9 _ _ G3 [(1, .ref x), (0, .ref b)] 15 [.ref m]
  refine g_seg [(15, .astore_n 2, 1), (16, .iconst 1, 1)] 17 [(2, .ref m), (1, .ref x), (0, .ref b)] [.int 1] C (by decide +kernel) rfl ?_
  refine g_newl (pc := 17) (N' := 1) C q902 (by decide) (by decide) (by decide) (Nat.le_of_ble_eq_true rfl) (Nat.le_of_ble_eq_true rfl) (by decide +kernel) (fun o ho => ?_)
  refine g_seg [(19, .astore_n 3, 1), (20, .iconst 0, 1), (21, .istore 4, 2)] 23 [(4, .int 0), (3, .ref o), (2, .ref m), (1, .ref x), (0, .ref b)] [] C (by decide +kernel) rfl ?_
  refine g_subp [4, 3, 2, 1, 0] (lv' := [(0, .ref b), (1, .ref x), (2, .ref m), (3, .ref o), (4, .int 0)]) rfl ?_
  have hlw : LW cy x m o (g_up G3 o (.inl (cy 6, 1, .inr (.inl (fun _ => 0))))) 0 := LW_start hX hM t1 t2 t3 ho
  exact t_loop (c0 := 12) (s0 := 246) C hCX hSC hL (by decide) (by decide) (fun G ce sl k => fin G ce sl x m o k) 514 0 0 _ _ _ (by omega) (by omega) (by omega) (Nat.le_of_ble_eq_true rfl) (Nat.le_of_ble_eq_true rfl) hlw
/-! what the tables say at the start -/
theorem e_mem {w : Cond} (h : decide (w ∈ lw_tbl) = true) : w ∈ lw_tbl := of_decide_eq_true h
theorem e_STR {A : Array Value} {s : State} (hts : ∀ w ∈ lw_tbl, w.before A s = true) {cC : ClassId} (hc : s.vm.findClass "CircusLines" = some cC) : g_STR s := by
  have h : g_strs.all (fun q => decide (Cond.stringRef "CircusLines" q.1 q.2 ∈ lw_tbl)) = true := by decide +kernel
  intro q hq
  have h1 := hts _ (e_mem (List.all_eq_true.mp h q hq))
  obtain ⟨k, cf, i, a, -, -, -, -, -, h2⟩ := Cond.stringRef_spec hc h1
  exact ⟨a, vk_R.of h1 h2⟩
theorem e_NG {A : Array Value} {s : State} (hts : ∀ w ∈ lw_tbl, w.before A s = true) : g_NG s :=
  ⟨va_Nw.of rfl (hts _ (e_mem (by decide +kernel))), va_Nw.of rfl (hts _ (e_mem (by decide +kernel))), va_Nw.of rfl (hts _ (e_mem (by decide +kernel))), va_Nw.of rfl (hts _ (e_mem (by decide +kernel))), va_Nw.of rfl (hts _ (e_mem (by decide +kernel))), va_Nw.of rfl (hts _ (e_mem (by decide +kernel))), va_Nw.of rfl (hts _ (e_mem (by decide +kernel)))⟩
theorem e_KA {A : Array Value} {s : State} (hts : ∀ w ∈ lw_tbl, w.before A s = true) : g_KA s :=
  ⟨hts (.arrayOver (.object "CircusLines$Trapeze")) (e_mem (by decide +kernel)), hts (.arrayOver (.object "CircusLines$Flyer")) (e_mem (by decide +kernel)), hts (.arrayOver (.object "CircusLines$Cue")) (e_mem (by decide +kernel)), hts (.arrayOver (.object "CircusLines$Net")) (e_mem (by decide +kernel)), hts (.arrayOver (.array .int)) (e_mem (by decide +kernel)), va_Nw.of rfl (hts (.castable "[I" "java/lang/Cloneable") (e_mem (by decide +kernel)))⟩
theorem e_ZZ {A : Array Value} {s : State} (hts : ∀ w ∈ lw_tbl, w.before A s = true) (hf : ∀ w ∈ flatC (Jvm.Cond.and given_1 narrow_1), w.before A s = true) : g_ZZ (fun q => s.heap.size ≤ q) s s.heap :=
  ⟨vx_Zqof (hts (.laysStatic Bundle.tN "UNASSIGNED_STACK" Bundle.steD) (e_mem (by decide +kernel))) (hts (.initialized Bundle.tN) (e_mem (by decide +kernel))) (hf _ (by decide +kernel)) (fun a ha => Nat.not_le.mpr ha),
   vx_Zqof (hts (.laysStatic Bundle.tN "SUPPRESSED_SENTINEL" Bundle.listD) (e_mem (by decide +kernel))) (hts (.initialized Bundle.tN) (e_mem (by decide +kernel))) (hf _ (by decide +kernel)) (fun a ha => Nat.not_le.mpr ha)⟩
theorem e_EX {A : Array Value} {s : State} (hts : ∀ w ∈ lw_tbl, w.before A s = true) (hf : ∀ w ∈ flatC (Jvm.Cond.and given_1 narrow_1), w.before A s = true) : g_EX s := by
  have h1 : exs.all (fun E => decide (Cond.castable E E ∈ lw_tbl)) = true := by decide +kernel
  have h2 : exs.all (fun E => exs.all (fun E' => decide (E = E') || decide (Cond.not (.castable E E') ∈ flatC (Jvm.Cond.and given_1 narrow_1)))) = true := by decide +kernel
  intro E hE
  refine ⟨va_Nw.of rfl (hts _ (e_mem (List.all_eq_true.mp h1 E hE))), fun E' hE' hne => ?_⟩
  have h3 := List.all_eq_true.mp (List.all_eq_true.mp h2 E hE) E' hE'
  rw [decide_eq_false hne, Bool.false_or] at h3
  exact va_Nc.of (hf _ (of_decide_eq_true h3))
theorem e_ao {A : Array Value} {s : State} {n : String} (h : (Cond.arrayOver (.object n)).before A s = true) : ∃ c, ArrOfT s c (.object n) ∧ va_RA s c (.object n) := by
  obtain ⟨comp, c, k, h1, h2, h3, h4, h5⟩ := Cond.arrayOver_spec h
  exact ⟨c, fun n z => ⟨fun k h => (by cases h), k, h3, comp, h4⟩, k, comp, h3, h4, h1, h5⟩
theorem e_K {A : Array Value} {s : State} (hts : ∀ w ∈ lw_tbl, w.before A s = true) : ∃ (D : va_G) (cy : Nat → ClassId), g_K D cy s ∧ s.vm.findClass "CircusLines" = some (D.1 4) := by
  have hT : ∀ w ∈ lw_T, w.before A s = true := fun w hw => hts w (lw_T_tbl w hw)
  obtain ⟨c0, i0, k0⟩ := u_known (C := RX0) (T := TX0) (N := 6) (n := 6) hT inX0 (hts (.instantiable "CircusLines$Cue" 6) (e_mem (by decide +kernel)))
  obtain ⟨c1, i1, k1⟩ := u_known (C := RX1) (T := TX1) (N := 10) (n := 10) hT inX1 (hts (.instantiable "CircusLines$Flyer" 10) (e_mem (by decide +kernel)))
  obtain ⟨c2, i2, k2⟩ := u_known (C := RX2) (T := TX2) (N := 2) (n := 2) hT inX2 (hts (.instantiable "CircusLines$Net" 2) (e_mem (by decide +kernel)))
  obtain ⟨c3, i3, k3⟩ := u_known (C := RX3) (T := TX3) (N := 9) (n := 9) hT inX3 (hts (.instantiable "CircusLines$Trapeze" 9) (e_mem (by decide +kernel)))
  obtain ⟨c4, i4, k4⟩ := u_known (C := RX4) (T := TX4) (N := 9) (n := 9) hT inX4 (hts (.instantiable "CircusLines" 9) (e_mem (by decide +kernel)))
  obtain ⟨c5, i5, k5⟩ := u_known (C := RX5) (T := TX5) (N := 10) (n := 10) hT inX5 (hts (.instantiable "CircusLinesModel" 10) (e_mem (by decide +kernel)))
  obtain ⟨y0, z0, p0, a1, a2, a3⟩ := Cond.arrayClass_spec (hts (.arrayClass .int) (e_mem (by decide +kernel)))
  obtain ⟨y1, r1, s1⟩ := e_ao (hts (.arrayOver (.object "CircusLines$Trapeze")) (e_mem (by decide +kernel)))
  obtain ⟨y2, r2, s2⟩ := e_ao (hts (.arrayOver (.object "CircusLines$Flyer")) (e_mem (by decide +kernel)))
  obtain ⟨y3, r3, s3⟩ := e_ao (hts (.arrayOver (.object "CircusLines$Cue")) (e_mem (by decide +kernel)))
  obtain ⟨y4, r4, s4⟩ := e_ao (hts (.arrayOver (.object "CircusLines$Net")) (e_mem (by decide +kernel)))
  obtain ⟨comp5, y5, z5, b1, b2, b3, b4, b5⟩ := arrayOverA_spec (hts (.arrayOver (.array .int)) (e_mem (by decide +kernel)))
  obtain ⟨y6, z6, p6, d1, d2, d3⟩ := Cond.arrayClass_spec (hts (.arrayClass .long) (e_mem (by decide +kernel)))
  refine ⟨(fun k => match k with | 0 => c0 | 1 => c1 | 2 => c2 | 3 => c3 | 4 => c4 | _ => c5, fun k => match k with | 0 => i0 | 1 => i1 | 2 => i2 | 3 => i3 | 4 => i4 | _ => i5), (fun k => match k with | 0 => y0 | 1 => y1 | 2 => y2 | 3 => y3 | 4 => y4 | 5 => y5 | _ => y6), ⟨⟨fun k q hq => ?_, fun k q hq => ?_⟩, e_KA hts⟩, k4.2.1⟩
  · match k, hq with
    | 0, hq => cases hq; exact k0
    | 1, hq => cases hq; exact k1
    | 2, hq => cases hq; exact k2
    | 3, hq => cases hq; exact k3
    | 4, hq => cases hq; exact k4
    | 5, hq => cases hq; exact k5
    | k + 6, hq => simp [vwCl] at hq
  · match k, hq with
    | 0, hq => cases hq; exact ⟨fun n z => ⟨fun k h => (by cases h), z0, a2, p0, a3⟩, a1⟩
    | 1, hq => cases hq; exact ⟨r1, s1⟩
    | 2, hq => cases hq; exact ⟨r2, s2⟩
    | 3, hq => cases hq; exact ⟨r3, s3⟩
    | 4, hq => cases hq; exact ⟨r4, s4⟩
    | 5, hq => cases hq; exact ⟨fun n z => ⟨fun k h => (by cases h), z5, b3, comp5, b4⟩, b5⟩
    | 6, hq => cases hq; exact ⟨fun n z => ⟨fun k h => (by cases h), z6, d2, p6, d3⟩, d1⟩
    | k + 7, hq => simp [g_tys] at hq
