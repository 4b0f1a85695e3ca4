/-! calls and returns -/
def g_mV (y : MethodName) (b : ByteArray) (n : Nat) (ret : Option FieldType) (k : Nat) : Prop := Cond.code y b n ret ∈ lw_T ∧ Cond.initialized y.cls ∈ lw_T ∧ (y.cls ≠ "java/lang/invoke/MethodHandle" ∧ y.cls ≠ "java/lang/invoke/VarHandle") ∧ (parseMethodDescriptor y.desc).map (fun d => d.parameters.length) = some k ∧ Cond.instanceMethod y ∈ lw_T ∧ Cond.selects y.cls y y ∈ lw_T
def g_mS (y : MethodName) (b : ByteArray) (n : Nat) (ret : Option FieldType) (k : Nat) : Prop := Cond.code y b n ret ∈ lw_T ∧ Cond.initialized y.cls ∈ lw_T ∧ (y.cls ≠ "java/lang/invoke/MethodHandle" ∧ y.cls ≠ "java/lang/invoke/VarHandle") ∧ (parseMethodDescriptor y.desc).map (fun d => d.parameters.length) = some k ∧ Cond.static y ∈ lw_T
def g_mI (y : MethodName) (b : ByteArray) (n : Nat) (k : Nat) : Prop := Cond.code y b n none ∈ lw_T ∧ Cond.initialized y.cls ∈ lw_T ∧ (y.cls ≠ "java/lang/invoke/MethodHandle" ∧ y.cls ≠ "java/lang/invoke/VarHandle") ∧ (parseMethodDescriptor y.desc).map (fun d => d.parameters.length) = some k ∧ Cond.instanceMethod y ∈ lw_T ∧ y.name = "<init>"
def g_room (rm rm' : Room) (n' ce sl : Nat) : Prop := (rm'.frames + 1 ≤ rm.frames ∧ 8 + (n' + 11) + rm'.locals ≤ rm.locals) ∧ ce + rm'.cells ≤ rm.cells ∧ sl + rm'.slots ≤ rm.slots
theorem g_wsU {y : MethodName} {b : ByteArray} {n : Nat} {ret : Option FieldType} (h : Cond.code y b n ret ∈ lw_T) : ∀ w ∈ wsU y b n ret, w ∈ lw_T ∧ ((w.onTables && w.keeps) = true ∨ ∃ ty, w = .arrayClass ty) := by
  intro w hw
  rcases List.mem_cons.mp hw with rfl | h1
  · exact lw_T_good _ h
  · exact lw_T_good w h1
theorem g_callB {R rm' : Room} {s : State} {args : Array Value} {own : String} {index : Nat} {y : MethodName} {b : ByteArray} {n : Nat} {ret : Option FieldType} {k : Nat} (hT : ∀ w ∈ lw_T, w.before args s = true) (h1 : Cond.code y b n ret ∈ lw_T) (h2 : Cond.initialized y.cls ∈ lw_T) (h3 : y.cls ≠ "java/lang/invoke/MethodHandle" ∧ y.cls ≠ "java/lang/invoke/VarHandle") (h4 : (parseMethodDescriptor y.desc).map (fun d => d.parameters.length) = some k) (hlink : Cond.methodLink own index y ∈ lw_T) (hr : rm'.frames + 1 ≤ R.frames ∧ 8 + (n + 11) + rm'.locals ≤ R.locals) : CallB R s args own index y b n ret (wsU y b n ret) rm' rm'.cells rm'.slots k :=
  ⟨rfl, rfl, hr.1, hr.2, pay_in hT (g_wsU h1), List.mem_cons_self, hT _ h1, hT _ h2, h3, fun sig h => by rw [h] at h4; exact (Option.some.inj h4).symm, hT _ hlink⟩
theorem g_back {D : va_G} {A : Nat → Prop} {H0 H : Heap} {G G' : GG} {locs L : List Loc} {st₀ t T' : State} (hA : ∀ q, H0.size ≤ q → A q) (hw : g_wd D A H0 G H locs) (h0 : st₀.heap = H) (e1 : T'.heap = t.heap) (hL : ∀ q ∈ L, g_A G H.size q.base) (hG : ∀ a e, G' a = some e → va_at D vwCl (a, e) t.heap ∧ g_A G H.size a) (hF : va_F (g_A G H.size) st₀ t) : g_wd D A H0 G' T'.heap (locs ++ L) := by
  have hf : ∀ q, g_A G H.size q → A q := fun q hq => by
    rcases hq with ⟨e, he⟩ | hq
    · exact (hw.1 q e he).2
    · exact hA q (Nat.le_trans hw.2.1 hq)
  refine ⟨fun a e h => ⟨by rw [e1]; exact (hG a e h).1, hf a (hG a e h).2⟩, ?_⟩
  obtain ⟨hz, hk⟩ := hF
  rw [h0] at hz hk
  refine ⟨Nat.le_trans hw.2.1 (by rw [e1]; exact hz), fun q h1 h2 => ?_, fun q hq => ?_⟩
  · rw [e1, hk q (Nat.lt_of_lt_of_le h1 hw.2.1) (fun z => h2 (hf q z))]
    exact hw.2.2.1 q h1 h2
  · rcases List.mem_append.mp hq with h | h
    · exact hw.2.2.2 q h
    · exact hf _ (hL q h)
section PGC
variable {κ : Kx} {l0 : Launch} {D0 : va_G} {cy0 : Nat → ClassId} {y y' : MethodName} {nL ce sl n' index k : Nat} {cc b' : ByteArray} {rm rm' : Room} {ret ret' : Option FieldType} {G : GG} {lv : LV} {pc : Nat} {st rest As : List Value} {a : Nat} {post : Option Value → GG → Prop}
theorem g_fin {p : Program} {l : Launch} {e : Env} {R : Room} {s : State} {m : MethodId} {args : Array Value} {below : List Frame} {meth : Method} {c : Code} {H : Heap} {locs : List Loc} {Q : State → Prop} {D : va_G} {A : Nat → Prop} {H0 : Heap} {ls : Array Slot} {mc ms : Nat} {av : Array Value} (hA : ∀ q, H0.size ≤ q → A q) (hw : g_wd D A H0 G H locs)
    (hr : va_Run p l e R s m args below meth c H locs ce sl mc ms (F0 m pc ls st) rest (g_Qc D (g_A G H.size) post av) (g_A G H.size))
    (kk : ∀ r G', post r G' → ∀ (H1 : Heap) (locs1 : List Loc), g_wd D A H0 G' H1 locs1 → W p l e R s m args below meth c H1 locs1 (ce + mc) (sl + ms) Q (F0 m (pc + 3) ls (r.toList ++ rest))) : W p l e R s m args below meth c H locs ce sl Q (F0 m pc ls st) := by
  intro T hT X
  obtain ⟨v, st₀, t, T', L, h0, X', hL, e1, e2, ⟨⟨r, G', hv, hp, hG⟩, hF⟩, st9⟩ := hr T hT X
  cases hv
  obtain ⟨t2, a1, b1⟩ := kk v G' hp T'.heap (locs ++ L) (g_back hA hw h0 e1 hL hG hF) T' rfl X'
  exact ⟨t2, st9 t2 a1, b1⟩
theorem g_callV {ci : Nat} {fs : List Value} {q : vw_C} (C : g_OK κ l0 D0 cy0 y nL cc rm ret) (hm : g_mV y' b' n' ret' k) (hlink : Cond.methodLink y.cls index y' ∈ lw_T) (ha : G a = some (.inr (ci, fs))) (hc : vwCl[ci]? = some q) (hq : q.1 = y'.cls) (hM : Ctr l0 D0 cy0 y' b' n' ret' rm' (.ref a :: As) G post) (hn : As.length = k) (hr : g_room rm rm' n' ce sl) (hst : st = As.reverse ++ .ref a :: rest) (hcat : (rest.map fun v => v.category).sum ≤ 8) (hd : decode cc pc = .ok (.invokevirtual index, 3))
    (kk : ∀ r G', post r G' → PG κ nL (ce + rm'.cells) (sl + rm'.slots) G' lv (pc + 3) (r.toList ++ rest)) : PG κ nL ce sl G lv pc st := by
  obtain ⟨p, l, e, R, s, m, args, below, meth, c, D, cy, A, H0, Q⟩ := κ
  obtain ⟨⟨rfl, rfl, rfl⟩, h0, hb, hml, hown, hT, hK, hA, rfl, -⟩ := C
  obtain ⟨m1, m2, m3, m4, m5, m6⟩ := hm
  intro H locs ls hw hl
  refine g_fin hA hw (va_runV (C := y'.cls) (As := As) (b := a) ⟨h0, hb, hml, hown, hT⟩ (hM H.size) ⟨g_callB hT m1 m2 m3 m4 hlink hr.1, hT _ m5, hT _ m6⟩ ⟨g_blind D cy G H.size _, ?_, fun U hU hW => ⟨rfl, by rw [hU], fun a e h => by rw [hU]; exact (hw.1 a e h).1, g_K.moved hW.alike hK⟩⟩ rfl hn hl.1 hst (lv_room hcat) hd hr.2) (fun r G' hp H1 locs1 hw1 => kk r G' hp H1 locs1 ls hw1 hl)
  have h9 := va_recv hK.1 (g_sP hw ha) hc (q0 := 0) rfl
  rw [hq] at h9
  exact h9
theorem g_callS (C : g_OK κ l0 D0 cy0 y nL cc rm ret) (hm : g_mS y' b' n' ret' k) (hlink : Cond.methodLink y.cls index y' ∈ lw_T) (hM : Ctr l0 D0 cy0 y' b' n' ret' rm' As G post) (hn : As.length = k) (hr : g_room rm rm' n' ce sl) (hst : st = As.reverse ++ rest) (hcat : (rest.map fun v => v.category).sum ≤ 8) (hd : decode cc pc = .ok (.invokestatic index, 3))
    (kk : ∀ r G', post r G' → PG κ nL (ce + rm'.cells) (sl + rm'.slots) G' lv (pc + 3) (r.toList ++ rest)) : PG κ nL ce sl G lv pc st := by
  obtain ⟨p, l, e, R, s, m, args, below, meth, c, D, cy, A, H0, Q⟩ := κ
  obtain ⟨⟨rfl, rfl, rfl⟩, h0, hb, hml, hown, hT, hK, hA, rfl, -⟩ := C
  obtain ⟨m1, m2, m3, m4, m5⟩ := hm
  intro H locs ls hw hl
  exact g_fin hA hw (va_runS (As := As) ⟨h0, hb, hml, hown, hT⟩ (hM H.size) ⟨g_callB hT m1 m2 m3 m4 hlink hr.1, hT _ m5⟩ ⟨g_blind D cy G H.size _, fun U hU hW => ⟨rfl, by rw [hU], fun a e h => by rw [hU]; exact (hw.1 a e h).1, g_K.moved hW.alike hK⟩⟩ rfl hn hl.1 hst (lv_room hcat) hd hr.2) (fun r G' hp H1 locs1 hw1 => kk r G' hp H1 locs1 ls hw1 hl)
theorem g_callI (C : g_OK κ l0 D0 cy0 y nL cc rm ret) (hm : g_mI y' b' n' k) (hlink : Cond.methodLink y.cls index y' ∈ lw_T) (hM : Ctr l0 D0 cy0 y' b' n' none rm' (.ref a :: As) G post) (hn : As.length = k) (hr : g_room rm rm' n' ce sl) (hst : st = As.reverse ++ .ref a :: rest) (hcat : (rest.map fun v => v.category).sum ≤ 8) (hd : decode cc pc = .ok (.invokespecial index, 3))
    (kk : ∀ r G', post r G' → PG κ nL (ce + rm'.cells) (sl + rm'.slots) G' lv (pc + 3) (r.toList ++ rest)) : PG κ nL ce sl G lv pc st := by
  obtain ⟨p, l, e, R, s, m, args, below, meth, c, D, cy, A, H0, Q⟩ := κ
  obtain ⟨⟨rfl, rfl, rfl⟩, h0, hb, hml, hown, hT, hK, hA, rfl, -⟩ := C
  obtain ⟨m1, m2, m3, m4, m5, m6⟩ := hm
  intro H locs ls hw hl
  exact g_fin hA hw (va_runI (As := As) (b := a) ⟨h0, hb, hml, hown, hT⟩ (hM H.size) ⟨g_callB hT m1 m2 m3 m4 hlink hr.1, m6, hT _ m5⟩ ⟨g_blind D cy G H.size _, fun U hU hW => ⟨rfl, by rw [hU], fun a e h => by rw [hU]; exact (hw.1 a e h).1, g_K.moved hW.alike hK⟩⟩ rfl hn hl.1 hst (lv_room hcat) hd hr.2) (fun r G' hp H1 locs1 hw1 => kk r G' hp H1 locs1 ls hw1 hl)
/-- Object.<init> -/
theorem g_obj (C : g_OK κ l0 D0 cy0 y nL cc rm ret) (h1 : Cond.methodLink y.cls index Lib.objectInit ∈ lw_T) (h2 : Cond.instanceMethod Lib.objectInit ∈ lw_T) (h3 : Cond.code Lib.objectInit ⟨#[0xb1]⟩ 1 none ∈ lw_T) (hf : 1 ≤ rm.frames) (hlo : (rest.map fun v => v.category).sum + 12 ≤ rm.locals) (hd : decode cc pc = .ok (.invokespecial index, 3)) (kk : PG κ nL ce sl G lv (pc + 3) rest) : PG κ nL ce sl G lv pc (.ref a :: rest) := by
  obtain ⟨p, l, e, R, s, m, args, below, meth, c, D, cy, A, H0, Q⟩ := κ
  obtain ⟨⟨rfl, rfl, rfl⟩, h0, hb, hml, hown, hT, hK, hA, rfl, -⟩ := C
  intro H locs ls hw hl
  exact W.objInit h0 hb hown (hT _ h1) (hT _ h2) (hT _ h3) rfl (by rw [hml]; exact hl.1) rfl hd hf (show 2 * 0 + _ + 12 ≤ _ by omega) (kk H locs ls hw hl)
/-- returns -/
theorem g_ret {v : Option Value} (hC : g_OK κ l0 D0 cy0 y nL cc rm ret) (hR : g_RT κ post rm) (hp : post v G) (hc : ce ≤ rm.cells) (hs : sl ≤ rm.slots)
    (row : ∀ p l e R s m args below meth c D cy A H0 Q, κ = (p, l, e, R, s, m, args, below, meth, c, D, cy, A, H0, Q) → ∀ (H : Heap) (locs : List Loc) (ls : Array Slot), p.tables.exec = Jvm.exec → c.code = cc → meth.sig.returnType = ret → meth.locks = false → (∀ t : State, t.heap = H → s.WarmedH t.vm → g_Qc D A post args s (.returned v) t) → (∀ q ∈ locs, A q.base) → W p l e R s m args below meth c H locs rm.cells rm.slots (MQ below (g_Qc D A post) args s rm.cells rm.slots A) (F0 m pc ls st)) : PG κ nL ce sl G lv pc st := by
  obtain ⟨p, l, e, R, s, m, args, below, meth, c, D, cy, A, H0, Q⟩ := κ
  obtain ⟨rfl, hH⟩ := hR
  dsimp only at hH
  subst hH
  obtain ⟨-, h0, hb, hml, hown, hT, hK, hA, -, hr, hlocks, -⟩ := hC
  intro H locs ls hw hl
  refine W.widen hc hs (row p l e R s m args below meth c D cy A s.heap _ rfl H locs ls h0 hb hr hlocks ?_ hw.2.2.2)
  intro t ht hW
  exact ⟨⟨v, G, rfl, hp, fun a e h => by rw [ht]; exact hw.1 a e h⟩, hw.2.F ht⟩
theorem g_iret {v : Int32} (C : g_OK κ l0 D0 cy0 y nL cc rm (some .int)) (hR : g_RT κ post rm) (hp : post (some (.int v)) G) (hc : ce ≤ rm.cells) (hs : sl ≤ rm.slots) (hd : decode cc pc = .ok (.ireturn, 1)) : PG κ nL ce sl G lv pc [.int v] :=
  g_ret C hR hp hc hs (fun p l e R s m args below meth c D cy A H0 Q h9 H locs ls h0 hb hr hlocks hq hf => W.iret h0 hb hr hq hf hd hlocks)
theorem g_zret {v : Int32} (C : g_OK κ l0 D0 cy0 y nL cc rm (some .boolean)) (hR : g_RT κ post rm) (hv : narrow .boolean (.int v) = .int v) (hp : post (some (.int v)) G) (hc : ce ≤ rm.cells) (hs : sl ≤ rm.slots) (hd : decode cc pc = .ok (.ireturn, 1)) : PG κ nL ce sl G lv pc [.int v] :=
  g_ret C hR hp hc hs (fun p l e R s m args below meth c D cy A H0 Q h9 H locs ls h0 hb hr hlocks hq hf => W.zret h0 hb hr hv hq hf hd hlocks)
theorem g_lret {v : Int64} (C : g_OK κ l0 D0 cy0 y nL cc rm (some .long)) (hR : g_RT κ post rm) (hp : post (some (.long v)) G) (hc : ce ≤ rm.cells) (hs : sl ≤ rm.slots) (hd : decode cc pc = .ok (.lreturn, 1)) : PG κ nL ce sl G lv pc [.long v] :=
  g_ret C hR hp hc hs (fun p l e R s m args below meth c D cy A H0 Q h9 H locs ls h0 hb hr hlocks hq hf => W.lret h0 hb hr hq hf hd hlocks)
theorem g_dret {v : UInt64} (C : g_OK κ l0 D0 cy0 y nL cc rm (some .double)) (hR : g_RT κ post rm) (hp : post (some (.double v)) G) (hc : ce ≤ rm.cells) (hs : sl ≤ rm.slots) (hd : decode cc pc = .ok (.dreturn, 1)) : PG κ nL ce sl G lv pc [.double v] :=
  g_ret C hR hp hc hs (fun p l e R s m args below meth c D cy A H0 Q h9 H locs ls h0 hb hr hlocks hq hf => W.dret h0 hb hr hq hf hd hlocks)
theorem g_vret (C : g_OK κ l0 D0 cy0 y nL cc rm none) (hR : g_RT κ post rm) (hp : post none G) (hc : ce ≤ rm.cells) (hs : sl ≤ rm.slots) (hd : decode cc pc = .ok (.return_, 1)) : PG κ nL ce sl G lv pc [] :=
  g_ret C hR hp hc hs (fun p l e R s m args below meth c D cy A H0 Q h9 H locs ls h0 hb hr hlocks hq hf => W.vret h0 hb hr hq hf hd hlocks)
theorem g_aret {rt : FieldType} {v : Value} (C : g_OK κ l0 D0 cy0 y nL cc rm (some rt)) (hR : g_RT κ post rm) (hrt : (∃ n, rt = .object n) ∨ ∃ t, rt = .array t) (hv : v = .null ∨ ∃ a, v = .ref a) (hp : post (some v) G) (hc : ce ≤ rm.cells) (hs : sl ≤ rm.slots) (hd : decode cc pc = .ok (.areturn, 1)) : PG κ nL ce sl G lv pc [v] :=
  g_ret C hR hp hc hs (fun p l e R s m args below meth c D cy A H0 Q h9 H locs ls h0 hb hr hlocks hq hf => W.aret h0 hb hr hrt hv hq hf hd hlocks)
end PGC
/-! answers by their kinds -/
def pI (f : Int32 → GG → Prop) : Option Value → GG → Prop := fun r G' => ∃ v, r = some (.int v) ∧ f v G'
def pL (f : Int64 → GG → Prop) : Option Value → GG → Prop := fun r G' => ∃ v, r = some (.long v) ∧ f v G'
def pD (f : UInt64 → GG → Prop) : Option Value → GG → Prop := fun r G' => ∃ v, r = some (.double v) ∧ f v G'
def pA (f : Value → GG → Prop) : Option Value → GG → Prop := fun r G' => ∃ v, r = some v ∧ f v G'
def pV (f : GG → Prop) : Option Value → GG → Prop := fun r G' => r = none ∧ f G'
section PGK
variable {κ : Kx} {l0 : Launch} {D0 : va_G} {cy0 : Nat → ClassId} {y : MethodName} {nL ce sl index : Nat} {cc : ByteArray} {rm : Room} {ret : Option FieldType} {G : GG} {lv lv' : LV} {pc : Nat} {st rest : List Value}
theorem g_kI {f : Int32 → GG → Prop} (k : ∀ v G', f v G' → PG κ nL ce sl G' lv pc (.int v :: rest)) : ∀ r G', pI f r G' → PG κ nL ce sl G' lv pc (r.toList ++ rest) := fun _ G' ⟨v, h, hf⟩ => by rw [h]; exact k v G' hf
theorem g_kL {f : Int64 → GG → Prop} (k : ∀ v G', f v G' → PG κ nL ce sl G' lv pc (.long v :: rest)) : ∀ r G', pL f r G' → PG κ nL ce sl G' lv pc (r.toList ++ rest) := fun _ G' ⟨v, h, hf⟩ => by rw [h]; exact k v G' hf
theorem g_kD {f : UInt64 → GG → Prop} (k : ∀ v G', f v G' → PG κ nL ce sl G' lv pc (.double v :: rest)) : ∀ r G', pD f r G' → PG κ nL ce sl G' lv pc (r.toList ++ rest) := fun _ G' ⟨v, h, hf⟩ => by rw [h]; exact k v G' hf
theorem g_kA {f : Value → GG → Prop} (k : ∀ v G', f v G' → PG κ nL ce sl G' lv pc (v :: rest)) : ∀ r G', pA f r G' → PG κ nL ce sl G' lv pc (r.toList ++ rest) := fun _ G' ⟨v, h, hf⟩ => by rw [h]; exact k v G' hf
theorem g_kV {f : GG → Prop} (k : ∀ G', f G' → PG κ nL ce sl G' lv pc rest) : ∀ r G', pV f r G' → PG κ nL ce sl G' lv pc (r.toList ++ rest) := fun _ G' ⟨h, hf⟩ => by rw [h]; exact k G' hf
theorem g_subp (ks : List Nat) (h : lv_pick lv ks = lv') (k : PG κ nL ce sl G lv' pc st) : PG κ nL ce sl G lv pc st := by
  obtain ⟨p, l, e, R, s, m, args, below, meth, c, D, cy, A, H0, Q⟩ := κ
  exact fun H locs ls hw hl => k H locs ls hw (lv_sub hl ks h)
theorem g_mmax {x y1 : Int32} (C : g_OK κ l0 D0 cy0 y nL cc rm ret) (h1 : Cond.methodLink y.cls index Lib.Math.max.name ∈ lw_T) (h2 : Cond.static Lib.Math.max.name ∈ lw_T) (h3 : Cond.initialized "java/lang/Math" ∈ lw_T) (h4 : Cond.code Lib.Math.max.name Lib.Math.max.code 2 (some .int) ∈ lw_T) (hf : 1 ≤ rm.frames) (hlo : (rest.map fun v => v.category).sum + 13 ≤ rm.locals) (hc : ce ≤ rm.cells) (hs : sl ≤ rm.slots) (hd : decode cc pc = .ok (.invokestatic index, 3)) (k : PG κ nL ce sl G lv (pc + 3) (.int (if x < y1 then y1 else x) :: rest)) : PG κ nL ce sl G lv pc (.int y1 :: .int x :: rest) := by
  obtain ⟨p, l, e, R, s, m, args, below, meth, c, D, cy, A, H0, Q⟩ := κ
  obtain ⟨⟨rfl, rfl, rfl⟩, h0, hb, hml, hown, hT, hK, hA, rfl, -⟩ := C
  exact fun H locs ls hw hl => va_mmax h0 hb (hml.trans hl.1.symm) hown (hT _ h1) (hT _ h2) (hT _ h3) (hT _ h4) hf hlo hc hs hd (k H locs ls hw hl)
theorem g_mabs {x : Int32} (C : g_OK κ l0 D0 cy0 y nL cc rm ret) (h1 : Cond.methodLink y.cls index Lib.Math.abs.name ∈ lw_T) (h2 : Cond.static Lib.Math.abs.name ∈ lw_T) (h3 : Cond.initialized "java/lang/Math" ∈ lw_T) (h4 : Cond.code Lib.Math.abs.name Lib.Math.abs.code 1 (some .int) ∈ lw_T) (hf : 1 ≤ rm.frames) (hlo : (rest.map fun v => v.category).sum + 13 ≤ rm.locals) (hc : ce ≤ rm.cells) (hs : sl ≤ rm.slots) (hd : decode cc pc = .ok (.invokestatic index, 3)) (k : PG κ nL ce sl G lv (pc + 3) (.int (if 0 ≤ x then x else 0 - x) :: rest)) : PG κ nL ce sl G lv pc (.int x :: rest) := by
  obtain ⟨p, l, e, R, s, m, args, below, meth, c, D, cy, A, H0, Q⟩ := κ
  obtain ⟨⟨rfl, rfl, rfl⟩, h0, hb, hml, hown, hT, hK, hA, rfl, -⟩ := C
  exact fun H locs ls hw hl => va_mabs h0 hb (hml.trans hl.1.symm) hown (hT _ h1) (hT _ h2) (hT _ h3) (hT _ h4) hf hlo hc hs hd (k H locs ls hw hl)
/-- reading a row of references that are given out from 0 on -/
def oA (c : ClassId) (len : Nat) (ad : Nat → Nat) (n : Nat) : va_E := .inl (c, len, .inr (.inr (.inr (.inr (fun i => if i < n then some (ad i) else none)))))
theorem g_aaldA {a len t0 n : Nat} {C1 : String} {cA : ClassId} {ad : Nat → Nat} {x : Int32} {j : Nat} (C : g_OK κ l0 D0 cy0 y nL cc rm ret) (ha : G a = some (oA cA len ad n)) (ht : (g_tys cy0)[t0]? = some (cA, .object C1)) (hx : x = nI j) (hj : j < len) (hlen : len < 2 ^ 31) (hd : decode cc pc = .ok (.aaload, 1)) (k1 : j < n → PG κ nL ce sl G lv (pc + 1) (.ref (ad j) :: rest)) (k2 : ¬ j < n → PG κ nL ce sl G lv (pc + 1) (.null :: rest)) : PG κ nL ce sl G lv pc (.int x :: .ref a :: rest) := by
  refine g_aald C ha ht (by rw [hx]; exact vp_in_nI hj hlen) hd ?_
  rw [hx, nI_clamp (by omega)]
  by_cases h : j < n
  · rw [if_pos h]; exact k1 h
  · rw [if_neg h]; exact k2 h
theorem g_alenA {a len t0 n : Nat} {C1 : String} {cA : ClassId} {ad : Nat → Nat} (C : g_OK κ l0 D0 cy0 y nL cc rm ret) (ha : G a = some (oA cA len ad n)) (ht : (g_tys cy0)[t0]? = some (cA, .object C1)) (hd : decode cc pc = .ok (.arraylength, 1)) (k : PG κ nL ce sl G lv (pc + 1) (.int (nI len) :: rest)) : PG κ nL ce sl G lv pc (.ref a :: rest) :=
  g_alen C ha ht (vp_cell_q ..) hd k
end PGK
