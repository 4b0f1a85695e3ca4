/-! the law's wrappers: static methods that catch -/
def exs : List String := ["java/lang/IllegalArgumentException", "java/lang/IllegalStateException", "java/lang/IndexOutOfBoundsException"]
def g_EX (U : State) : Prop := ∀ E ∈ exs, va_Nw (.castable E E) U ∧ ∀ E' ∈ exs, E ≠ E' → va_Nc E E' U
theorem g_EX.moved {u U : State} (hvm : u.vm.Alike U.vm) (h : g_EX u) : g_EX U := fun E hE => ⟨g_cam hvm (h E hE).1, fun E' h1 h2 => ((h E hE).2 E' h1 h2).moved hvm⟩
def wsW (y : MethodName) (b : ByteArray) (n : Nat) (ret : Option FieldType) (hh : List (Nat × Nat × Nat × Nat)) : List Cond := Cond.codeWith y b n ret hh :: lw_T
def g_PcW (l : Launch) (D : va_G) (cy : Nat → ClassId) (G : GG) (sz : Nat) (av : List Value) : Array Value → State → Prop := va_Pc av (fun U => U.heap.size = sz ∧ (∀ a e, G a = some e → va_at D vwCl (a, e) U.heap) ∧ g_K D cy U ∧ g_XF l (g_A G sz) U U.heap ∧ g_EX U)
def CtrW (l : Launch) (D : va_G) (cy : Nat → ClassId) (y : MethodName) (b : ByteArray) (n : Nat) (ret : Option FieldType) (hh : List (Nat × Nat × Nat × Nat)) (rm : Room) (av : List Value) (G : GG) (post : Option Value → GG → Prop) : Prop :=
  ∀ sz, Met l y (wsW y b n ret hh) rm (g_PcW l D cy G sz av) (g_Qc D (g_A G sz) post) rm.cells rm.slots (g_A G sz)
def g_RTW (κ : Kx) (hh : List (Nat × Nat × Nat × Nat)) (post : Option Value → GG → Prop) (rm : Room) : Prop :=
  match κ with
  | (_, l, _, _, s, _, args, below, _, c, D, _, A, H0, Q) => Q = MQ below (g_Qc D A post) args s rm.cells rm.slots A ∧ H0 = s.heap ∧ g_XF l A s s.heap ∧ g_EX s ∧ c.exceptionTable.toList = tableOf hh
theorem g_RTW.rt {κ : Kx} {hh : List (Nat × Nat × Nat × Nat)} {post : Option Value → GG → Prop} {rm : Room} (h : g_RTW κ hh post rm) : g_RT κ post rm := by
  obtain ⟨p, l, e, R, s, m, args, below, meth, c, D, cy, A, H0, Q⟩ := κ
  exact ⟨h.1, h.2.1⟩
theorem vx_noX {l : Launch} {y : MethodName} {ws : List Cond} {rm : Room} {Pc : Array Value → State → Prop} {Qc : Array Value → State → Outcome → State → Prop} {mc ms : Nat} {free : Addr → Prop} (h : vx_Met l y ws rm Pc Qc (fun _ _ _ => False) mc ms free) : Met l y ws rm Pc Qc mc ms free := by
  intro p e ha hf hc s m args below hfr hap hP hK
  obtain ⟨k, o, q1, q2, q3, q4⟩ := h p e ha hf hc s m args below hfr hap hP hK
  refine ⟨k, o, q1, q2, q3, ?_⟩
  rcases q4 with h1 | ⟨q, -, E, ce, L, hx, -⟩
  · exact h1
  · exact hx.elim
theorem CtrW.mk {l : Launch} {D : va_G} {cy : Nat → ClassId} {y : MethodName} {b : ByteArray} {n : Nat} {ret : Option FieldType} {hh : List (Nat × Nat × Nat × Nat)} {rm : Room} {av : List Value} {G : GG} {post : Option Value → GG → Prop}
    (hy : plainName y.cls = true) (hn : (lg_sl av).length ≤ n)
    (body : ∀ κ : Kx, g_OK κ l D cy y n b rm ret → g_RTW κ hh post rm → PG κ n 0 0 G (lv_args 0 av) 0 []) : CtrW l D cy y b n ret hh rm av G post := by
  intro sz
  refine vx_noX (vx_ofWH (cc := b) (maxL := n) (ret := ret) (hh := hh) hy rfl ?_)
  intro p e s m args below meth c s₁ B hml hv
  obtain ⟨rfl, hsz, hP, hK, hF, hE⟩ := hv
  have hts := atoms_spec (ws := wsW y b n ret hh) B.pre
  subst hsz
  have ht := vx_table (x := y) B (hts _ List.mem_cons_self)
  have hb := body (p, l, e, rm, s, m, av.toArray, below, meth, c, D, cy, g_A G s.heap.size, s.heap, MQ below (g_Qc D (g_A G s.heap.size) post) av.toArray s rm.cells rm.slots (g_A G s.heap.size))
    ⟨⟨rfl, rfl, rfl⟩, B.exec, B.bytes, hml, findClass_of_methodNamed B.named, fun w hw => hts w (List.mem_cons_of_mem _ hw), hK, fun q h => Or.inr h, rfl, B.returns, B.notSynchronized, (name_of_methodNamed B.named B.method).1⟩ ⟨rfl, rfl, hF, hE, ht⟩
  have hl := lv_entry av hn
  rw [lg_entry_eq]
  exact vx_ret (hb s.heap [] _ ⟨fun a e h => ⟨hP a e h, Or.inl ⟨e, h⟩⟩, va_S.rf⟩ hl)
def g_hd (cls : String) (hh : List (Nat × Nat × Nat × Nat)) (pc : Nat) (E : String) (hpc : Nat) : Prop :=
  ∃ pre x suf, tableOf hh = pre ++ x :: suf ∧ x.handlerPc = hpc ∧ covers x pc = true ∧ x.catchType ≠ 0 ∧ Cond.classLink cls x.catchType E ∈ lw_T ∧ E ∈ exs ∧ ∀ z ∈ pre, z.catchType ≠ 0 ∧ ∃ nm, nm ∈ exs ∧ E ≠ nm ∧ Cond.classLink cls z.catchType nm ∈ lw_T
section PGW
variable {κ : Kx} {l0 : Launch} {D0 : va_G} {cy0 : Nat → ClassId} {y y' : MethodName} {nL ce sl n' index k : Nat} {cc b' : ByteArray} {rm rm' : Room} {ret ret' : Option FieldType} {G : GG} {lv : LV} {pc : Nat} {st rest As : List Value} {a : Nat} {post post0 : Option Value → GG → Prop} {px : String → GG → Prop} {hh : List (Nat × Nat × Nat × Nat)}
/-- a call that may throw, where the throw is caught -/
theorem g_callVC {ci : Nat} {fs : List Value} {q : vw_C} (C : g_OK κ l0 D0 cy0 y nL cc rm ret) (hR : g_RTW κ hh post0 rm) (hm : g_mV y' b' n' ret' k) (hlink : Cond.methodLink y.cls index y' ∈ lw_T) (ha : G a = some (.inr (ci, fs))) (hc : vwCl[ci]? = some q) (hq : q.1 = y'.cls) (hM : CtrX l0 D0 cy0 y' b' n' ret' rm' (.ref a :: As) G post px) (hn : As.length = k) (hr : g_room rm rm' n' ce sl) (hst : st = As.reverse ++ .ref a :: rest) (hcat : (rest.map fun v => v.category).sum ≤ 8) (hd : decode cc pc = .ok (.invokevirtual index, 3))
    (kx : ∀ E G', px E G' → ∃ hpc, g_hd y.cls hh pc E hpc ∧ ∀ q, PG κ nL (ce + rm'.cells) (sl + rm'.slots) G' lv hpc [.ref q])
    (kk : ∀ r G', post r G' → PG κ nL (ce + rm'.cells) (sl + rm'.slots) G' lv (pc + 3) (r.toList ++ rest)) : PG κ nL ce sl G lv pc st := by
  obtain ⟨p, l, e, R, s, m, args, below, meth, c, D, cy, A, H0, Q⟩ := κ
  obtain ⟨hQ, hH, hF, hE, htab⟩ := hR
  subst hH
  obtain ⟨⟨rfl, rfl, rfl⟩, h0, hb, hml, hown, hT, hK, hA, rfl, -⟩ := C
  obtain ⟨m1, m2, m3, m4, m5, m6⟩ := hm
  intro H locs ls hw hl
  have h9 := va_recv hK.1 (g_sP hw ha) hc (q0 := 0) rfl
  rw [hq] at h9
  have hAG : ∀ q, g_A G H.size q → A q := fun q hq => by
    rcases hq with ⟨e, he⟩ | hq
    · exact (hw.1 q e he).2
    · exact hA q (Nat.le_trans hw.2.1 hq)
  have hr9 := vx_runV (C := y'.cls) (As := As) (b := a) (cells := ce) (slots := sl) (locs := locs) (e := e) (below := below) (meth := meth) ⟨h0, hb, hml, hown, hT⟩ (hM H.size) ⟨g_callB hT m1 m2 m3 m4 hlink hr.1, hT _ m5, hT _ m6⟩ ⟨g_blindX l D cy G H.size _, h9, fun U hU hW => ⟨rfl, by rw [hU], fun a e h => by rw [hU]; exact (hw.1 a e h).1, g_K.moved hW.alike hK, g_XF.moved hW (fun q h1 h2 => by rw [hU]; exact hw.2.2.1 q h1 h2) hAG hF⟩⟩ (g := F0 m pc ls st) rfl hn hl.1 hst (lv_room hcat) hd hr.2
  intro T hT9 X
  rcases hr9 T hT9 X with ⟨v, st₀, t, T', L, h0', X', hL, e1, e2, ⟨⟨r, G', hv, hp, hG⟩, hF9⟩, st9⟩ | ⟨q9, st₀, t, T', L, E, cE, h0', X', hL, e1, e2, ⟨G', hp, hG, hF9⟩, hce, hcv, hcl, st9⟩
  · cases hv
    obtain ⟨t2, a1, b1⟩ := kk v G' hp T'.heap (locs ++ L) ls (g_back hA hw h0' e1 hL hG hF9) hl T' rfl X'
    exact ⟨t2, st9 t2 a1, b1⟩
  · obtain ⟨hpc, ⟨pre, x, suf, t1, rfl, t3, t4, t5, t6, t7⟩, kh⟩ := kx E G' hp
    have hw1 := g_back hA hw h0' e1 hL hG hF9
    obtain ⟨t2, a1, b1⟩ := vx_catch (own := y.cls) (name := E) (E := E) (ce := cE) (q := q9) (pc := pc) (rest := rest) hown pre x suf (htab.trans t1) (fun z hz => Or.inr ⟨(t7 z hz).1, by obtain ⟨nm, n1, n2, n3⟩ := (t7 z hz).2; exact ⟨nm, hT _ n3, (hE E t6).2 nm n1 n2⟩⟩) t3 t4 (hT _ t5) (va_Nw.use rfl (hE E t6).1) (by rw [e1]; exact hce) hcv hcl (kh q9 T'.heap (locs ++ L) ls hw1 hl) T' rfl X'
    exact ⟨t2, st9.trans a1, b1⟩
/-- the one long of out -/
theorem g_lastM {f : Nat → Int64} {i : Int32} {z : Int64} (C : g_OK κ l0 D0 cy0 y nL cc rm ret) (ha : G a = some (.inl (cy0 6, 1, .inr (.inl f)))) (hi : i = nI 0) (hd : decode cc pc = .ok (.lastore, 1)) (kk : PG κ nL ce sl (g_up G a (.inl (cy0 6, 1, .inr (.inl (fun _ => z))))) lv (pc + 1) rest) : PG κ nL ce sl G lv pc (.long z :: .int i :: .ref a :: rest) := by
  obtain ⟨p, l, e, R, s, m, args, below, meth, c, D, cy, A, H0, Q⟩ := κ
  obtain ⟨⟨-, rfl, rfl⟩, h0, hb, hml, hown, hT, hK, hA, rfl, -⟩ := C
  intro H locs ls hw hl
  have ei : i.toNatClampNeg = 0 := by rw [hi]; exact nI_clamp (by decide)
  have hat : H[a]? = some (arrV (cy 6) 1 (fun j => .long (f j))) := (hw.1 a _ ha).1
  refine W.last h0 hb hat ((hK.1.2 6 _ rfl).1 1 (fun j => .long (f j))) (fun q => by cases q) (by rw [arrV_size, hi]; exact vp_in_nI (by decide) (by decide)) rfl rfl hd fun H1 e1 zz o => ?_
  refine kk H1 _ ls (g_wput hw ha ?_ zz o) hl
  show H1[a]? = some (arrV (cy 6) 1 (fun j => .long z))
  rw [e1, arrV_store, ei]
  unfold arrV
  congr 2
theorem g_laldM {f : Nat → Int64} {i : Int32} (C : g_OK κ l0 D0 cy0 y nL cc rm ret) (ha : G a = some (.inl (cy0 6, 1, .inr (.inl f)))) (hi : i = nI 0) (hd : decode cc pc = .ok (.laload, 1)) (kk : PG κ nL ce sl G lv (pc + 1) (.long (f 0) :: rest)) : PG κ nL ce sl G lv pc (.int i :: .ref a :: rest) := by
  obtain ⟨p, l, e, R, s, m, args, below, meth, c, D, cy, A, H0, Q⟩ := κ
  obtain ⟨⟨-, rfl, rfl⟩, h0, hb, hml, hown, hT, hK, hA, rfl, -⟩ := C
  intro H locs ls hw hl
  have ei : i.toNatClampNeg = 0 := by rw [hi]; exact nI_clamp (by decide)
  refine va_lald h0 hb hK.1 (g_sP hw ha) 0 6 rfl rfl (by rw [hi]; exact vp_in_nI (by decide) (by decide)) hd ?_
  rw [ei]
  exact kk H locs ls hw hl
end PGW
