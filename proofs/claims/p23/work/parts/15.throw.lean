def g_strs : List (Nat × String) := [(136, "no such trapeze, or what is not 0 to 7"), (142, "no such flyer, or what is not 0 to 4"), (148, "no such cue, or what is not 0 to 4"), (154, "what is not 0 to 8"), (65, "no such trapeze"), (159, "beats is not 0 to 500"), (168, "beats is not 1 to 200"), (186, "what is not 4 to 8"), (39, "no such trapeze can be made"), (50, "there are 6 trapezes"), (68, "weight is not 0 to 10"), (74, "the trapeze is broken"), (101, "there are 8 flyers"), (108, "no such flyer or trapeze"), (118, "the flyer can't mount, or the trapeze is broken or full"), (89, "no net can be spread so"), (94, "there are 3 nets"), (124, "no such flyer"), (126, "no cue can be given so"), (131, "the beat has gone by, or there are 20 cues")]
def g_STR (U : State) : Prop := ∀ q ∈ g_strs, ∃ a, vk_R "CircusLines" q.1 q.2 a U
def g_NG (U : State) : Prop := va_Nw (.declares ⟨"java/lang/RuntimeException", "<init>", "(Ljava/lang/String;)V"⟩) U ∧ va_Nw (.declares ⟨"java/lang/Exception", "<init>", "(Ljava/lang/String;)V"⟩) U ∧ va_Nw (.declares ⟨"java/lang/Throwable", "<init>", "(Ljava/lang/String;)V"⟩) U ∧ va_Nw (.castable "java/lang/IndexOutOfBoundsException" "java/lang/IndexOutOfBoundsException") U ∧ va_Nw (.castable "java/lang/IllegalArgumentException" "java/lang/IllegalArgumentException") U ∧ va_Nw (.castable "java/lang/IllegalStateException" "java/lang/IllegalStateException") U ∧ va_Nw (.methodLinkNest "CircusLines" 103 ⟨"CircusLines$Flyer", "<init>", "()V"⟩ "CircusLines") U ∧ va_Nw (.methodLinkNest "CircusLinesLaw" 75 ⟨"CircusLinesLaw$Sim", "<init>", "()V"⟩ "CircusLinesLaw") U
theorem g_NG.same {u U : State} (hv : u.vm = U.vm) (h : g_NG u) : g_NG U := ⟨va_Nw.same rfl hv h.1, va_Nw.same rfl hv h.2.1, va_Nw.same rfl hv h.2.2.1, va_Nw.same rfl hv h.2.2.2.1, va_Nw.same rfl hv h.2.2.2.2.1, va_Nw.same rfl hv h.2.2.2.2.2.1, va_Nw.same rfl hv h.2.2.2.2.2.2.1, va_Nw.same rfl hv h.2.2.2.2.2.2.2⟩
theorem g_NG.warm {s U : State} (hW : s.WarmedH U.vm) (h : g_NG s) : g_NG U := ⟨va_Nw.warmD hW h.1, va_Nw.warmD hW h.2.1, va_Nw.warmD hW h.2.2.1, va_Nw.warmC hW h.2.2.2.1, va_Nw.warmC hW h.2.2.2.2.1, va_Nw.warmC hW h.2.2.2.2.2.1, va_Nw.warmM hW h.2.2.2.2.2.2.1, va_Nw.warmM hW h.2.2.2.2.2.2.2⟩
theorem g_STR.same {u U : State} (hv : u.vm = U.vm) (h : g_STR u) : g_STR U := fun q hq => by obtain ⟨a, ha⟩ := h q hq; exact ⟨a, vk_R.same hv.symm ha⟩
theorem g_STR.warm {s U : State} (hW : s.WarmedH U.vm) (h : g_STR s) : g_STR U := fun q hq => by obtain ⟨a, ha⟩ := h q hq; exact ⟨a, vk_R.warm hW ha⟩
def g_ZZ (A : Nat → Prop) (U : State) (H : Heap) : Prop := vx_Zq Bundle.tN "UNASSIGNED_STACK" Bundle.steD A U H ∧ vx_Zq Bundle.tN "SUPPRESSED_SENTINEL" Bundle.listD A U H
/-- what a throwing method needs beside the tables -/
def g_XF (l : Launch) (A : Nat → Prop) (U : State) (H : Heap) : Prop := l.stackTraces = false ∧ g_NG U ∧ g_STR U ∧ g_ZZ A U H
def g_names : List String := ["java/lang/RuntimeException", "java/lang/Exception"]

set_option maxRecDepth 100000 in
theorem at_IAE {args : Array Value} {s : State} (hT : ∀ w ∈ lw_T, w.before args s = true) (hN : g_NG s) : ∀ w ∈ vx_atS "CircusLines" 41 "java/lang/IllegalArgumentException" g_names, w.before args s = true := by
  have h1 : ((vx_atS "CircusLines" 41 "java/lang/IllegalArgumentException" g_names).filter goodWord).all (fun w => decide (w ∈ lw_tbl)) = true := by decide +kernel
  have h2 : ((vx_atS "CircusLines" 41 "java/lang/IllegalArgumentException" g_names).filter (fun w => !goodWord w)).all (fun w => decide (w ∈ ([.declares ⟨"java/lang/RuntimeException", "<init>", "(Ljava/lang/String;)V"⟩, .declares ⟨"java/lang/Exception", "<init>", "(Ljava/lang/String;)V"⟩, .declares ⟨"java/lang/Throwable", "<init>", "(Ljava/lang/String;)V"⟩, .castable "java/lang/IllegalArgumentException" "java/lang/IllegalArgumentException"] : List Cond))) = true := by decide +kernel
  refine vx_hat (fun w hw => ?_) (fun w hw => ?_) (B := [.declares ⟨"java/lang/RuntimeException", "<init>", "(Ljava/lang/String;)V"⟩, .declares ⟨"java/lang/Exception", "<init>", "(Ljava/lang/String;)V"⟩, .declares ⟨"java/lang/Throwable", "<init>", "(Ljava/lang/String;)V"⟩, .castable "java/lang/IllegalArgumentException" "java/lang/IllegalArgumentException"]) (vx_c (va_Nw.use rfl hN.1) (vx_c (va_Nw.use rfl hN.2.1) (vx_c (va_Nw.use rfl hN.2.2.1) (vx_c (va_Nw.use rfl hN.2.2.2.2.1) vx_n))))
  · have h3 := List.all_eq_true.mp h1 w hw
    simp only [decide_eq_true_eq] at h3
    exact hT w (List.mem_filter.mpr ⟨h3, (List.mem_filter.mp hw).2⟩)
  · have h3 := List.all_eq_true.mp h2 w hw
    simpa only [decide_eq_true_eq] using h3
set_option maxRecDepth 100000 in
theorem ot_IAE : ∀ w ∈ Cond.classLink "CircusLines" 37 "java/lang/IllegalArgumentException" :: Cond.initialized "java/lang/IllegalArgumentException" :: vx_atS "CircusLines" 41 "java/lang/IllegalArgumentException" g_names, vx_ot w = true := by
  have h1 : (Cond.classLink "CircusLines" 37 "java/lang/IllegalArgumentException" :: Cond.initialized "java/lang/IllegalArgumentException" :: vx_atS "CircusLines" 41 "java/lang/IllegalArgumentException" g_names).all vx_ot = true := by decide +kernel
  exact List.all_eq_true.mp h1
set_option maxRecDepth 100000 in
theorem at_ISE {args : Array Value} {s : State} (hT : ∀ w ∈ lw_T, w.before args s = true) (hN : g_NG s) : ∀ w ∈ vx_atS "CircusLines" 52 "java/lang/IllegalStateException" g_names, w.before args s = true := by
  have h1 : ((vx_atS "CircusLines" 52 "java/lang/IllegalStateException" g_names).filter goodWord).all (fun w => decide (w ∈ lw_tbl)) = true := by decide +kernel
  have h2 : ((vx_atS "CircusLines" 52 "java/lang/IllegalStateException" g_names).filter (fun w => !goodWord w)).all (fun w => decide (w ∈ ([.declares ⟨"java/lang/RuntimeException", "<init>", "(Ljava/lang/String;)V"⟩, .declares ⟨"java/lang/Exception", "<init>", "(Ljava/lang/String;)V"⟩, .declares ⟨"java/lang/Throwable", "<init>", "(Ljava/lang/String;)V"⟩, .castable "java/lang/IllegalStateException" "java/lang/IllegalStateException"] : List Cond))) = true := by decide +kernel
  refine vx_hat (fun w hw => ?_) (fun w hw => ?_) (B := [.declares ⟨"java/lang/RuntimeException", "<init>", "(Ljava/lang/String;)V"⟩, .declares ⟨"java/lang/Exception", "<init>", "(Ljava/lang/String;)V"⟩, .declares ⟨"java/lang/Throwable", "<init>", "(Ljava/lang/String;)V"⟩, .castable "java/lang/IllegalStateException" "java/lang/IllegalStateException"]) (vx_c (va_Nw.use rfl hN.1) (vx_c (va_Nw.use rfl hN.2.1) (vx_c (va_Nw.use rfl hN.2.2.1) (vx_c (va_Nw.use rfl hN.2.2.2.2.2.1) vx_n))))
  · have h3 := List.all_eq_true.mp h1 w hw
    simp only [decide_eq_true_eq] at h3
    exact hT w (List.mem_filter.mpr ⟨h3, (List.mem_filter.mp hw).2⟩)
  · have h3 := List.all_eq_true.mp h2 w hw
    simpa only [decide_eq_true_eq] using h3
set_option maxRecDepth 100000 in
theorem ot_ISE : ∀ w ∈ Cond.classLink "CircusLines" 48 "java/lang/IllegalStateException" :: Cond.initialized "java/lang/IllegalStateException" :: vx_atS "CircusLines" 52 "java/lang/IllegalStateException" g_names, vx_ot w = true := by
  have h1 : (Cond.classLink "CircusLines" 48 "java/lang/IllegalStateException" :: Cond.initialized "java/lang/IllegalStateException" :: vx_atS "CircusLines" 52 "java/lang/IllegalStateException" g_names).all vx_ot = true := by decide +kernel
  exact List.all_eq_true.mp h1
set_option maxRecDepth 100000 in
theorem at_IOE {args : Array Value} {s : State} (hT : ∀ w ∈ lw_T, w.before args s = true) (hN : g_NG s) : ∀ w ∈ vx_atS "CircusLines" 67 "java/lang/IndexOutOfBoundsException" g_names, w.before args s = true := by
  have h1 : ((vx_atS "CircusLines" 67 "java/lang/IndexOutOfBoundsException" g_names).filter goodWord).all (fun w => decide (w ∈ lw_tbl)) = true := by decide +kernel
  have h2 : ((vx_atS "CircusLines" 67 "java/lang/IndexOutOfBoundsException" g_names).filter (fun w => !goodWord w)).all (fun w => decide (w ∈ ([.declares ⟨"java/lang/RuntimeException", "<init>", "(Ljava/lang/String;)V"⟩, .declares ⟨"java/lang/Exception", "<init>", "(Ljava/lang/String;)V"⟩, .declares ⟨"java/lang/Throwable", "<init>", "(Ljava/lang/String;)V"⟩, .castable "java/lang/IndexOutOfBoundsException" "java/lang/IndexOutOfBoundsException"] : List Cond))) = true := by decide +kernel
  refine vx_hat (fun w hw => ?_) (fun w hw => ?_) (B := [.declares ⟨"java/lang/RuntimeException", "<init>", "(Ljava/lang/String;)V"⟩, .declares ⟨"java/lang/Exception", "<init>", "(Ljava/lang/String;)V"⟩, .declares ⟨"java/lang/Throwable", "<init>", "(Ljava/lang/String;)V"⟩, .castable "java/lang/IndexOutOfBoundsException" "java/lang/IndexOutOfBoundsException"]) (vx_c (va_Nw.use rfl hN.1) (vx_c (va_Nw.use rfl hN.2.1) (vx_c (va_Nw.use rfl hN.2.2.1) (vx_c (va_Nw.use rfl hN.2.2.2.1) vx_n))))
  · have h3 := List.all_eq_true.mp h1 w hw
    simp only [decide_eq_true_eq] at h3
    exact hT w (List.mem_filter.mpr ⟨h3, (List.mem_filter.mp hw).2⟩)
  · have h3 := List.all_eq_true.mp h2 w hw
    simpa only [decide_eq_true_eq] using h3
set_option maxRecDepth 100000 in
theorem ot_IOE : ∀ w ∈ Cond.classLink "CircusLines" 63 "java/lang/IndexOutOfBoundsException" :: Cond.initialized "java/lang/IndexOutOfBoundsException" :: vx_atS "CircusLines" 67 "java/lang/IndexOutOfBoundsException" g_names, vx_ot w = true := by
  have h1 : (Cond.classLink "CircusLines" 63 "java/lang/IndexOutOfBoundsException" :: Cond.initialized "java/lang/IndexOutOfBoundsException" :: vx_atS "CircusLines" 67 "java/lang/IndexOutOfBoundsException" g_names).all vx_ot = true := by decide +kernel
  exact List.all_eq_true.mp h1
theorem g_namesOK : ∀ n ∈ g_names, Bundle.fit n = true := by
  have h1 : g_names.all (fun n => Bundle.fit n) = true := by decide +kernel
  exact List.all_eq_true.mp h1
/-- what a throw of an exception class needs of the tables, by its two numbers -/
def g_ex (ik ic : Nat) (cls : String) : Prop := (∀ (args : Array Value) (s : State), (∀ w ∈ lw_T, w.before args s = true) → g_NG s → ∀ w ∈ vx_atS "CircusLines" ic cls g_names, w.before args s = true) ∧ (∀ w ∈ Cond.classLink "CircusLines" ik cls :: Cond.initialized cls :: vx_atS "CircusLines" ic cls g_names, vx_ot w = true) ∧ Bundle.fit cls = true ∧ Cond.classLink "CircusLines" ik cls ∈ lw_T ∧ Cond.initialized cls ∈ lw_T

theorem ex_IAE : g_ex 37 41 "java/lang/IllegalArgumentException" := ⟨fun _ _ => at_IAE, ot_IAE, by decide +kernel, q230, q26⟩
theorem ex_ISE : g_ex 48 52 "java/lang/IllegalStateException" := ⟨fun _ _ => at_ISE, ot_ISE, by decide +kernel, q416, q27⟩
theorem ex_IOE : g_ex 63 67 "java/lang/IndexOutOfBoundsException" := ⟨fun _ _ => at_IOE, ot_IOE, by decide +kernel, q89, q29⟩
/-! contracts that may throw -/
def g_PcX (l : Launch) (D : va_G) (cy : Nat → ClassId) (G : GG) (sz : Nat) (av : List Value) : Array Value → State → Prop := va_Pc av (fun U => U.heap.size = sz ∧ (∀ a e, G a = some e → va_at D vwCl (a, e) U.heap) ∧ g_K D cy U ∧ g_XF l (g_A G sz) U U.heap)
def g_XC (D : va_G) (A : Nat → Prop) (px : String → GG → Prop) : String → State → State → Prop := fun E st t => ∃ G', px E G' ∧ (∀ a e, G' a = some e → va_at D vwCl (a, e) t.heap ∧ A a) ∧ va_F A st t
def CtrX (l : Launch) (D : va_G) (cy : Nat → ClassId) (y : MethodName) (b : ByteArray) (n : Nat) (ret : Option FieldType) (rm : Room) (av : List Value) (G : GG) (post : Option Value → GG → Prop) (px : String → GG → Prop) : Prop :=
  ∀ sz, vx_Met l y (wsU y b n ret) rm (g_PcX l D cy G sz av) (g_Qc D (g_A G sz) post) (g_XC D (g_A G sz) px) rm.cells rm.slots (g_A G sz)
def g_RTX (κ : Kx) (post : Option Value → GG → Prop) (px : String → GG → Prop) (rm : Room) : Prop :=
  match κ with
  | (_, l, _, _, s, _, args, below, _, c, D, _, A, H0, Q) => Q = vx_MQ below (g_Qc D A post) (g_XC D A px) args s rm.cells rm.slots A ∧ H0 = s.heap ∧ g_XF l A s s.heap ∧ ∀ x ∈ c.exceptionTable.toList, False
theorem g_XF.moved {l : Launch} {A B : Nat → Prop} {s U : State} {H H1 : Heap} (hW : s.WarmedH U.vm) (hq : ∀ a : Nat, a < H.size → ¬ A a → H1[a]? = H[a]?) (hAB : ∀ q, B q → A q) (h : g_XF l A s H) : g_XF l B U H1 :=
  ⟨h.1, h.2.1.warm hW, h.2.2.1.warm hW, ((h.2.2.2.1.kept hq).moved hW.alike).narrow hAB, ((h.2.2.2.2.kept hq).moved hW.alike).narrow hAB⟩
theorem g_XF.same {l : Launch} {A : Nat → Prop} {u U : State} {H : Heap} (hv : u.vm = U.vm) (h : g_XF l A u H) : g_XF l A U H := by
  have ha : u.vm.Alike U.vm := by rw [hv]; exact Vm.Alike.refl _
  exact ⟨h.1, h.2.1.same hv, h.2.2.1.same hv, h.2.2.2.1.moved ha, h.2.2.2.2.moved ha⟩
theorem g_blindX (l : Launch) (D : va_G) (cy : Nat → ClassId) (G : GG) (sz : Nat) (av : List Value) : FrameBlind (g_PcX l D cy G sz av) := by
  intro a U g mk h
  obtain ⟨h0, h1, h2, h3, h4⟩ := h
  exact ⟨h0, h1, h2, g_K.moved (u := U) (U := U.calling g mk a) (Vm.Alike.refl U.vm) h3, g_XF.same (u := U) (U := U.calling g mk a) rfl h4⟩
theorem CtrX.mk {l : Launch} {D : va_G} {cy : Nat → ClassId} {y : MethodName} {b : ByteArray} {n : Nat} {ret : Option FieldType} {rm : Room} {av : List Value} {G : GG} {post : Option Value → GG → Prop} {px : String → GG → Prop}
    (hy : plainName y.cls = true) (hn : (lg_sl av).length ≤ n)
    (body : ∀ κ : Kx, g_OK κ l D cy y n b rm ret → g_RTX κ post px rm → PG κ n 0 0 G (lv_args 0 av) 0 []) : CtrX l D cy y b n ret rm av G post px := by
  intro sz
  refine vx_ofW (cc := b) (maxL := n) (ret := ret) hy rfl ?_
  intro p e s m args below meth c s₁ B hml hx hv
  obtain ⟨rfl, hsz, hP, hK, hF⟩ := hv
  have hts := atoms_spec (ws := wsU y b n ret) B.pre
  subst hsz
  have hb := body (p, l, e, rm, s, m, av.toArray, below, meth, c, D, cy, g_A G s.heap.size, s.heap, vx_MQ below (g_Qc D (g_A G s.heap.size) post) (g_XC D (g_A G s.heap.size) px) av.toArray s rm.cells rm.slots (g_A G s.heap.size))
    ⟨⟨rfl, rfl, rfl⟩, B.exec, B.bytes, hml, findClass_of_methodNamed B.named, fun w hw => hts w (List.mem_cons_of_mem _ hw), hK, fun q h => Or.inr h, rfl, B.returns, B.notSynchronized, (name_of_methodNamed B.named B.method).1⟩ ⟨rfl, rfl, hF, hx⟩
  have hl := lv_entry av hn
  rw [lg_entry_eq]
  exact hb s.heap [] _ ⟨fun a e h => ⟨hP a e h, Or.inl ⟨e, h⟩⟩, va_S.rf⟩ hl
section PGX
variable {κ : Kx} {l0 : Launch} {D0 : va_G} {cy0 : Nat → ClassId} {y y' : MethodName} {nL ce sl n' index k : Nat} {cc b' : ByteArray} {rm rm' : Room} {ret ret' : Option FieldType} {G : GG} {lv : LV} {pc : Nat} {st rest As : List Value} {a : Nat} {post : Option Value → GG → Prop} {px : String → GG → Prop}
theorem g_throw {ik is ic : Nat} {cls text : String} (C : g_OK κ l0 D0 cy0 y nL cc rm ret) (hR : g_RTX κ post px rm) (hy : y.cls = "CircusLines") (hE : g_ex ik ic cls) (hs : (is, text) ∈ g_strs) (hp : px cls G)
    (hfr : 5 < rm.frames) (hlo : (rest.map fun v => v.category).sum + 82 ≤ rm.locals) (hc : ce + 1 ≤ rm.cells) (hsl : sl + 6 ≤ rm.slots)
    (d0 : decode cc pc = .ok (.new ik, 3)) (d3 : decode cc (pc + 3) = .ok (.dup, 1)) (d4 : decode cc (pc + 4) = .ok (.ldc is, 2)) (d6 : decode cc (pc + 6) = .ok (.invokespecial ic, 3)) (d9 : decode cc (pc + 9) = .ok (.athrow, 1)) : PG κ nL ce sl G lv pc rest := by
  obtain ⟨p, l, e, R, s, m, args, below, meth, c, D, cy, A, H0, Q⟩ := κ
  obtain ⟨rfl, hH, hF, htab⟩ := hR
  subst hH
  obtain ⟨⟨rfl, rfl, rfl⟩, h0, hb, hml, hown, hT, hK, hA, rfl, hr, hlocks, -⟩ := C
  obtain ⟨hat, hot, hfit, hk, hini⟩ := hE
  obtain ⟨hl, hN, hS, hU, hSup⟩ := hF
  rw [hy] at hown
  obtain ⟨sa, hsa⟩ := hS (is, text) hs
  intro H locs ls hw hlv
  exact vx_throwS (A := A) (names := g_names) h0 hb hl hown hfit g_namesOK (hT _ hk) (hT _ hini) hsa (hat args s hT hN) hot hU hSup hw.2 (hlv.1.trans hml.symm) d0 d3 d4 d6 d9 (fun x hx => (htab x hx).elim) hfr hlo hc hsl hlocks
    (fun t ht hz hq => ⟨G, hp, fun a e he => ⟨((hw.1 a e he).1).kept (hq a (hw.1 a e he).1.lt), (hw.1 a e he).2⟩, Nat.le_trans hw.2.1 hz, fun q h1 h2 => (hq q (Nat.lt_of_lt_of_le h1 hw.2.1)).trans (hw.2.2.1 q h1 h2)⟩) hw.2.2.2 hc hsl
theorem g_iretX {v : Int32} (C : g_OK κ l0 D0 cy0 y nL cc rm (some .int)) (hR : g_RTX κ post px rm) (hp : post (some (.int v)) G) (hc : ce ≤ rm.cells) (hs : sl ≤ rm.slots) (hd : decode cc pc = .ok (.ireturn, 1)) : PG κ nL ce sl G lv pc [.int v] := by
  obtain ⟨p, l, e, R, s, m, args, below, meth, c, D, cy, A, H0, Q⟩ := κ
  obtain ⟨rfl, hH, -⟩ := hR
  subst hH
  obtain ⟨-, h0, hb, hml, hown, hT, hK, hA, -, hr, hlocks, -⟩ := C
  intro H locs ls hw hl
  refine vx_ret (W.widen hc hs (W.iret h0 hb hr ?_ hw.2.2.2 hd hlocks))
  intro t ht hW
  exact ⟨⟨_, G, rfl, hp, fun a e h => by rw [ht]; exact hw.1 a e h⟩, hw.2.F ht⟩
/-- a nest mate's own constructor -/
theorem g_callIN {host : String} (C : g_OK κ l0 D0 cy0 y nL cc rm ret) (hR : g_RTX κ (post := post) px rm) (hm : g_mI y' b' n' k) {post' : Option Value → GG → Prop} (hlink : ∀ U, g_NG U → va_Nw (.methodLinkNest y.cls index y' host) U) (hM : Ctr l0 D0 cy0 y' b' n' none rm' (.ref a :: As) G post') (hn : As.length = k) (hr : g_room rm rm' n' ce sl) (hst : st = As.reverse ++ .ref a :: rest) (hcat : (rest.map fun v => v.category).sum ≤ 8) (hd : decode cc pc = .ok (.invokespecial index, 3))
    (kk : ∀ r G', post' r G' → PG κ nL (ce + rm'.cells) (sl + rm'.slots) G' lv (pc + 3) (r.toList ++ rest)) : PG κ nL ce sl G lv pc st := by
  obtain ⟨p, l, e, R, s, m, args, below, meth, c, D, cy, A, H0, Q⟩ := κ
  obtain ⟨rfl, hH, hF, htab⟩ := hR
  obtain ⟨⟨rfl, rfl, rfl⟩, h0, hb, hml, hown, hT, hK, hA, rfl, -⟩ := C
  obtain ⟨m1, m2, m3, m4, m5, m6⟩ := hm
  intro H locs ls hw hl
  exact g_fin hA hw (va_runIN (As := As) (b := a) ⟨h0, hb, hml, hown, hT⟩ (hM H.size) ⟨⟨⟨rfl, rfl, hr.1.1, hr.1.2, pay_in hT (g_wsU m1), List.mem_cons_self⟩, hT _ m1, hT _ m2, m3, fun sig h => by rw [h] at m4; exact (Option.some.inj m4).symm, va_Nw.use rfl (hlink s hF.2.1)⟩, m6, hT _ m5⟩ ⟨g_blind D cy G H.size _, fun U hU hW => ⟨rfl, by rw [hU], fun a e h => by rw [hU]; exact (hw.1 a e h).1, g_K.moved hW.alike hK⟩⟩ rfl hn hl.1 hst (lv_room hcat) hd hr.2) (fun r G' hp H1 locs1 hw1 => kk r G' hp H1 locs1 ls hw1 hl)
end PGX

