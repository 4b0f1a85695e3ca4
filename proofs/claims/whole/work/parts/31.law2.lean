/-! rows for the law's own body -/
theorem g_wsW {y : MethodName} {b : ByteArray} {n : Nat} {ret : Option FieldType} {hh : List (Nat × Nat × Nat × Nat)} (h : Cond.codeWith y b n ret hh ∈ lw_T) : ∀ w ∈ wsW y b n ret hh, w ∈ lw_T ∧ ((w.onTables && w.keeps) = true ∨ ∃ ty, w = .arrayClass ty) := by
  intro w hw
  rcases List.mem_cons.mp hw with rfl | h1
  · exact lw_T_good _ h
  · exact lw_T_good w h1
theorem g_blindW (l : Launch) (D : va_G) (cy : Nat → ClassId) (G : GG) (sz : Nat) (av : List Value) : FrameBlind (g_PcW l D cy G sz av) := by
  intro a U g mk h
  obtain ⟨h0, h1, h2, h3, h4, h5⟩ := h
  exact ⟨h0, h1, h2, g_K.moved (u := U) (U := U.calling g mk a) (Vm.Alike.refl U.vm) h3, g_XF.same (u := U) (U := U.calling g mk a) rfl h4, g_EX.moved (u := U) (U := U.calling g mk a) (Vm.Alike.refl U.vm) h5⟩
/-- what the law's body knows besides: throws, the script -/
def g_CX (κ : Kx) : Prop :=
  match κ with
  | (_, l, _, _, s, _, _, _, _, _, _, _, A, H0, _) => g_XF l A s H0 ∧ g_EX s
def g_SC (κ : Kx) (b L : Nat) (xs : Nat → Int32) : Prop :=
  match κ with
  | (_, _, _, _, s, _, _, _, _, _, _, _, A, H0, _) => va_X b L xs s H0 ∧ b < H0.size ∧ ¬ A b
def g_mW (y : MethodName) (b : ByteArray) (n : Nat) (ret : Option FieldType) (hh : List (Nat × Nat × Nat × Nat)) (k : Nat) : Prop := Cond.codeWith y b n ret hh ∈ lw_T ∧ Cond.initialized y.cls ∈ lw_T ∧ (y.cls ≠ "java/lang/invoke/MethodHandle" ∧ y.cls ≠ "java/lang/invoke/VarHandle") ∧ (parseMethodDescriptor y.desc).map (fun d => d.parameters.length) = some k ∧ Cond.static y ∈ lw_T
section PGL
variable {κ : Kx} {l0 : Launch} {D0 : va_G} {cy0 : Nat → ClassId} {y y' : MethodName} {nL ce sl n' index k : Nat} {cc b' : ByteArray} {rm rm' : Room} {ret ret' : Option FieldType} {G : GG} {lv : LV} {pc : Nat} {st rest As : List Value} {post : Option Value → GG → Prop} {hh : List (Nat × Nat × Nat × Nat)}
theorem g_callSW (C : g_OK κ l0 D0 cy0 y nL cc rm ret) (hX : g_CX κ) (hm : g_mW y' b' n' ret' hh k) (hlink : Cond.methodLink y.cls index y' ∈ lw_T) (hM : CtrW l0 D0 cy0 y' b' n' ret' hh rm' As G post) (hn : As.length = k) (hr : g_room rm rm' n' ce sl) (hst : st = As.reverse ++ rest) (hcat : (rest.map fun v => v.category).sum ≤ 8) (hd : decode cc pc = .ok (.invokestatic index, 3))
    (kk : ∀ r G', post r G' → PG κ nL (ce + rm'.cells) (sl + rm'.slots) G' lv (pc + 3) (r.toList ++ rest)) : PG κ nL ce sl G lv pc st := by
  obtain ⟨p, l, e, R, s, m, args, below, meth, c, D, cy, A, H0, Q⟩ := κ
  obtain ⟨⟨rfl, rfl, rfl⟩, h0, hb, hml, hown, hT, hK, hA, rfl, -⟩ := C
  obtain ⟨hF, hE⟩ := hX
  obtain ⟨m1, m2, m3, m4, m5⟩ := hm
  intro H locs ls hw hl
  have hAG : ∀ q, g_A G H.size q → A q := fun q hq => by
    rcases hq with ⟨e, he⟩ | hq
    · exact (hw.1 q e he).2
    · exact hA q (Nat.le_trans hw.2.1 hq)
  exact g_fin hA hw (vx_runSW (As := As) ⟨h0, hb, hml, hown, hT⟩ (hM H.size) ⟨⟨rfl, rfl, hr.1.1, hr.1.2, pay_in hT (g_wsW m1), List.mem_cons_self⟩, hT _ m1, hT _ m2, m3, fun sig h => by rw [h] at m4; exact (Option.some.inj m4).symm, hT _ hlink, hT _ m5⟩ ⟨g_blindW l D cy G H.size _, fun U hU hW => ⟨rfl, by rw [hU], fun a e h => by rw [hU]; exact (hw.1 a e h).1, g_K.moved hW.alike hK, g_XF.moved hW (fun q h1 h2 => by rw [hU]; exact hw.2.2.1 q h1 h2) hAG hF, g_EX.moved hW.alike hE⟩⟩ rfl hn hl.1 hst (lv_room hcat) hd hr.2) (fun r G' hp H1 locs1 hw1 => kk r G' hp H1 locs1 ls hw1 hl)
/-- the script's ints -/
theorem g_sald {b L j : Nat} {xs : Nat → Int32} {i : Int32} (C : g_OK κ l0 D0 cy0 y nL cc rm ret) (hS : g_SC κ b L xs) (hi : i = nI j) (hj : j < L) (hL : L < 100000) (hd : decode cc pc = .ok (.iaload, 1)) (kk : PG κ nL ce sl G lv (pc + 1) (.int (xs j) :: rest)) : PG κ nL ce sl G lv pc (.int i :: .ref b :: rest) := by
  obtain ⟨p, l, e, R, s, m, args, below, meth, c, D, cy, A, H0, Q⟩ := κ
  obtain ⟨-, h0, hb, hml, hown, hT, hK, hA, rfl, -⟩ := C
  obtain ⟨⟨scr, s1, s2, s3, s4, s5⟩, s6, s7⟩ := hS
  intro H locs ls hw hl
  have ei : i.toNatClampNeg = j := by rw [hi]; exact nI_clamp (by omega)
  refine W.iald h0 hb (by rw [hw.2.2.1 b s6 s7]; exact s1) s2 s3 (by rw [s4, hi]; exact vp_in_nI hj (by omega)) (by rw [ei]; exact s5 j hj) rfl rfl hd (kk H locs ls hw hl)
theorem g_salen {b L : Nat} {xs : Nat → Int32} (C : g_OK κ l0 D0 cy0 y nL cc rm ret) (hS : g_SC κ b L xs) (hd : decode cc pc = .ok (.arraylength, 1)) (kk : PG κ nL ce sl G lv (pc + 1) (.int (nI L) :: rest)) : PG κ nL ce sl G lv pc (.ref b :: rest) := by
  obtain ⟨p, l, e, R, s, m, args, below, meth, c, D, cy, A, H0, Q⟩ := κ
  obtain ⟨-, h0, hb, hml, hown, hT, hK, hA, rfl, -⟩ := C
  obtain ⟨⟨scr, s1, s2, s3, s4, s5⟩, s6, s7⟩ := hS
  intro H locs ls hw hl
  exact W.alen h0 hb (by rw [hw.2.2.1 b s6 s7]; exact s1) s2 (by rw [s4]; rfl) rfl rfl hd (kk H locs ls hw hl)
/-- a new long array, all 0 -/
theorem g_newl {N' : Nat} {n : Int32} (C : g_OK κ l0 D0 cy0 y nL cc rm ret) (hcl : Cond.arrayClass .long ∈ lw_T) (hn : ¬ n < 0) (hN : n.toNatClampNeg = N') (hbytes : N' * 8 ≤ 536870912) (hcells : ce + 1 ≤ rm.cells) (hslots : sl + N' ≤ rm.slots) (hd : decode cc pc = .ok (.newarray .long, 2))
    (kk : ∀ q, G q = none → PG κ nL (ce + 1) (sl + N') (g_up G q (.inl (cy0 6, N', .inr (.inl (fun _ => 0))))) lv (pc + 2) (.ref q :: rest)) : PG κ nL ce sl G lv pc (.int n :: rest) := by
  obtain ⟨p, l, e, R, s, m, args, below, meth, c, D, cy, A, H0, Q⟩ := κ
  obtain ⟨⟨-, rfl, rfl⟩, h0, hb, hml, hown, hT, hK, hA, rfl, -⟩ := C
  intro H locs ls hw hl
  refine va_newaK (atype := .long) h0 hb (hT _ hcl) rfl hd rfl hn hN hbytes hcells hslots rfl fun H1 cA e1 z1 o1 hAr hNm => ?_
  have r4 : s.vm.findClass ("[" ++ FieldType.long.toString) = some (cy 6) := (hK.1.2 6 _ rfl).2
  cases Option.some.inj (hNm.symm.trans r4)
  have he : va_at D vwCl (H.size, .inl (cy 6, N', .inr (.inl (fun _ => 0)))) H1 := e1
  obtain ⟨hn0, hw1⟩ := g_wnew hA hw he z1 o1
  exact kk H.size hn0 H1 locs ls hw1 hl
end PGL
/-! the two rings side by side -/
def LW (cy : Nat → ClassId) (x m o : Nat) (G : GG) (bn : Nat) : Prop :=
  ∃ (G1 G2 : GG) (ad : Nat → Nat → Nat) (am : Nat → Nat) (th : Int32) (nt nf nc nn : Nat) (T E Cu N KT KF KC F : Rw) (z : Nat → Int64), RX cy x ad (nI bn) nt nf nc nn T E Cu N KT KF KC G1 ∧ RM cy m am th (nI bn) nt nf nc nn T F Cu N G2 ∧ ((∀ a e, G1 a = some e → G a = some e) ∧ (∀ a e, G2 a = some e → G a = some e) ∧ ∀ a e, G1 a = some e → G2 a = none) ∧ (G o = some (.inl (cy 6, 1, .inr (.inl z))) ∧ G1 o = none ∧ G2 o = none) ∧ nvT nt T ∧ SF nt nf E F ∧ nvC nf nc Cu (nI bn)
/-- behind a wrapper that came back: the class's new world, the reference's old one, out's new long -/
theorem fo_step {cy : Nat → ClassId} {o : Nat} {z : Int64} {G1 G2 G G' G3 : GG} (h : fo cy o z G1 G G' G3) (s2 : ∀ a e, G2 a = some e → G a = some e) (dj : ∀ a e, G1 a = some e → G2 a = none) (ho : ∃ e, G o = some e) (ho1 : G1 o = none) (ho2 : G2 o = none) : (∀ a e, G' a = some e → G3 a = some e) ∧ (∀ a e, G2 a = some e → G3 a = some e) ∧ (∀ a e, G' a = some e → G2 a = none) ∧ G3 o = some (.inl (cy 6, 1, .inr (.inl (fun _ => z)))) ∧ G' o = none := by
  obtain ⟨f1, f2, f3, f4⟩ := h
  refine ⟨f1, fun a e ha => ?_, fun a e ha => ?_, f3, ?_⟩
  · refine f2 a e (s2 a e ha) ?_ ?_
    · cases h1 : G1 a with
      | none => rfl
      | some e1 => have := dj a e1 h1; rw [this] at ha; cases ha
    · intro q; subst q; rw [ho2] at ha; cases ha
  · rcases f4 a e ha with ⟨e1, h1⟩ | h1
    · exact dj a e1 h1
    · cases h2 : G2 a with
      | none => rfl
      | some e2 => have := s2 a e2 h2; rw [h1] at this; cases this
  · cases h1 : G' o with
    | none => rfl
    | some e1 =>
      rcases f4 o e1 h1 with ⟨e2, h2⟩ | h2
      · rw [ho1] at h2; cases h2
      · obtain ⟨e3, h3⟩ := ho; rw [h2] at h3; cases h3
/-- behind a framed call of one ring: the other ring's world Gb and out's cell stand -/
theorem fr_step {o : Nat} {Ga Gb G G' G3 : GG} {eo : va_E} (h : fr Ga G G' G3) (sb : ∀ a e, Gb a = some e → G a = some e) (dj : ∀ a e, Ga a = some e → Gb a = none) (ho : G o = some eo) (hoa : Ga o = none) : (∀ a e, G' a = some e → G3 a = some e) ∧ (∀ a e, Gb a = some e → G3 a = some e) ∧ (∀ a e, G' a = some e → Gb a = none) ∧ G3 o = some eo ∧ G' o = none := by
  obtain ⟨f1, f2, f4⟩ := h
  refine ⟨f1, fun a e ha => ?_, fun a e ha => ?_, f2 o eo ho hoa, ?_⟩
  · refine f2 a e (sb a e ha) ?_
    cases h1 : Ga a with
    | none => rfl
    | some e1 => have := dj a e1 h1; rw [this] at ha; cases ha
  · rcases f4 a e ha with ⟨e1, h1⟩ | h1
    · exact dj a e1 h1
    · cases h2 : Gb a with
      | none => rfl
      | some e2 => have := sb a e2 h2; rw [h1] at this; cases this
  · cases h1 : G' o with
    | none => rfl
    | some e1 =>
      rcases f4 o e1 h1 with ⟨e2, h2⟩ | h2
      · rw [hoa] at h2; cases h2
      · rw [h2] at ho; cases ho
