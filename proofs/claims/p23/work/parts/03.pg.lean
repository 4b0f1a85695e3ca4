/-! THE POOL WORLD: what lies where, as a function of addresses; a walk's state is one goal PG -/
abbrev GG : Type := Nat → Option va_E
def g_up (G : GG) (a : Nat) (e : va_E) : GG := fun q => if q = a then some e else G q
theorem g_up_self (G : GG) (a : Nat) (e : va_E) : g_up G a e a = some e := by simp [g_up]
theorem g_up_ne {G : GG} {a q : Nat} {e : va_E} (h : q ≠ a) : g_up G a e q = G q := by simp [g_up, h]
theorem g_up_up (G : GG) (a : Nat) (e e' : va_E) : g_up (g_up G a e) a e' = g_up G a e' := by
  funext q; by_cases h : q = a <;> simp [g_up, h]
theorem g_up_id {G : GG} {a : Nat} {e : va_E} (h : G a = some e) : g_up G a e = G := by
  funext q; by_cases hq : q = a <;> simp [g_up, hq, h]
def g_A (G : GG) (sz : Nat) : Nat → Prop := fun q => (∃ e, G q = some e) ∨ sz ≤ q
/-- the array classes, by number -/
def g_tys (cy : Nat → ClassId) : List (ClassId × FieldType) := [(cy 0, .int), (cy 1, .object "CircusLines$Trapeze"), (cy 2, .object "CircusLines$Flyer"), (cy 3, .object "CircusLines$Cue"), (cy 4, .object "CircusLines$Net"), (cy 5, .array .int)]
def g_KA (U : State) : Prop := va_Nw (.arrayOver (.object "CircusLines$Trapeze")) U ∧ va_Nw (.arrayOver (.object "CircusLines$Flyer")) U ∧ va_Nw (.arrayOver (.object "CircusLines$Cue")) U ∧ va_Nw (.arrayOver (.object "CircusLines$Net")) U ∧ va_Nw (.arrayOver (.array .int)) U ∧ True
theorem g_aom {ty : FieldType} {u U : State} (h : u.vm.Alike U.vm) (hZ : va_Nw (.arrayOver ty) u) : va_Nw (.arrayOver ty) U := by
  have h1 : (Cond.arrayOver ty).before #[] (u.setVm U.vm) = true := by rw [Cond.arrayOver_setVmC h]; exact hZ
  unfold va_Nw
  unfold Cond.before Cond.holds at h1 ⊢
  simp only [Cond.value] at h1 ⊢
  exact h1
theorem g_cam {A B : String} {u U : State} (h : u.vm.Alike U.vm) (hZ : va_Nw (.castable A B) u) : va_Nw (.castable A B) U := va_tabs rfl (rfl : (u.setVm U.vm).vm = U.vm) (by rw [Cond.castable_setVm h]; exact hZ)
theorem g_KA.moved {u U : State} (h : u.vm.Alike U.vm) (k : g_KA u) : g_KA U := ⟨g_aom h k.1, g_aom h k.2.1, g_aom h k.2.2.1, g_aom h k.2.2.2.1, g_aom h k.2.2.2.2.1, trivial⟩
def g_K (D : va_G) (cy : Nat → ClassId) (U : State) : Prop := va_K D vwCl (g_tys cy) U ∧ g_KA U
theorem g_K.moved {D : va_G} {cy : Nat → ClassId} {u U : State} (hvm : u.vm.Alike U.vm) (h : g_K D cy u) : g_K D cy U := ⟨va_K.moved hvm h.1, g_KA.moved hvm h.2⟩
abbrev Kx : Type := Program × Launch × Env × Room × State × MethodId × Array Value × List Frame × Method × Code × va_G × (Nat → ClassId) × (Nat → Prop) × Heap × (State → Prop)
abbrev LV : Type := List (Nat × Value)
def g_wd (D : va_G) (A : Nat → Prop) (H0 : Heap) (G : GG) (H : Heap) (locs : List Loc) : Prop := (∀ a e, G a = some e → va_at D vwCl (a, e) H ∧ A a) ∧ va_S A H0 H locs
def PG (κ : Kx) (nL ce sl : Nat) (G : GG) (lv : LV) (pc : Nat) (st : List Value) : Prop :=
  match κ with
  | (p, l, e, R, s, m, args, below, meth, c, D, _, A, H0, Q) => ∀ (H : Heap) (locs : List Loc) (ls : Array Slot), g_wd D A H0 G H locs → lv_has ls nL lv → W p l e R s m args below meth c H locs ce sl Q (F0 m pc ls st)
def g_OK (κ : Kx) (l0 : Launch) (D0 : va_G) (cy0 : Nat → ClassId) (y : MethodName) (nL : Nat) (cc : ByteArray) (rm : Room) (ret : Option FieldType) : Prop :=
  match κ with
  | (p, l, _, R, s, m, args, _, meth, c, D, cy, A, H0, _) => (l = l0 ∧ D = D0 ∧ cy = cy0) ∧ p.tables.exec = Jvm.exec ∧ c.code = cc ∧ c.maxLocals = nL ∧ s.vm.findClass y.cls = some m.cls ∧ (∀ w ∈ lw_T, w.before args s = true) ∧ g_K D cy s ∧ (∀ q, H0.size ≤ q → A q) ∧ R = rm ∧ meth.sig.returnType = ret ∧ meth.locks = false ∧ meth.name = y.name
/-! contracts -/
def g_Pc (D : va_G) (cy : Nat → ClassId) (G : GG) (sz : Nat) (av : List Value) : Array Value → State → Prop := va_Pc av (fun U => U.heap.size = sz ∧ (∀ a e, G a = some e → va_at D vwCl (a, e) U.heap) ∧ g_K D cy U)
def g_Qc (D : va_G) (A : Nat → Prop) (post : Option Value → GG → Prop) : Array Value → State → Outcome → State → Prop := fun _ st oc t => (∃ r G', oc = .returned r ∧ post r G' ∧ ∀ a e, G' a = some e → va_at D vwCl (a, e) t.heap ∧ A a) ∧ va_F A st t
def Ctr (l : Launch) (D : va_G) (cy : Nat → ClassId) (y : MethodName) (b : ByteArray) (n : Nat) (ret : Option FieldType) (rm : Room) (av : List Value) (G : GG) (post : Option Value → GG → Prop) : Prop :=
  ∀ sz, Met l y (wsU y b n ret) rm (g_Pc D cy G sz av) (g_Qc D (g_A G sz) post) rm.cells rm.slots (g_A G sz)
def g_RT (κ : Kx) (post : Option Value → GG → Prop) (rm : Room) : Prop :=
  match κ with
  | (_, _, _, _, s, _, args, below, _, _, D, _, A, _, Q) => Q = MQ below (g_Qc D A post) args s rm.cells rm.slots A ∧ κ.2.2.2.2.2.2.2.2.2.2.2.2.2.1 = s.heap
theorem g_blind (D : va_G) (cy : Nat → ClassId) (G : GG) (sz : Nat) (av : List Value) : FrameBlind (g_Pc D cy G sz av) := by
  intro a U g mk h
  obtain ⟨h0, h1, h2, h3⟩ := h
  exact ⟨h0, h1, h2, g_K.moved (u := U) (U := U.calling g mk a) (Vm.Alike.refl U.vm) h3⟩
theorem Ctr.mk {l : Launch} {D : va_G} {cy : Nat → ClassId} {y : MethodName} {b : ByteArray} {n : Nat} {ret : Option FieldType} {rm : Room} {av : List Value} {G : GG} {post : Option Value → GG → Prop}
    (hy : plainName y.cls = true) (hn : (lg_sl av).length ≤ n)
    (body : ∀ κ : Kx, g_OK κ l D cy y n b rm ret → g_RT κ post rm → PG κ n 0 0 G (lv_args 0 av) 0 []) : Ctr l D cy y b n ret rm av G post := by
  intro sz
  refine Met.ofW (cc := b) (maxL := n) (ret := ret) hy rfl ?_
  intro p e s m args below meth c s₁ B hml hv
  obtain ⟨rfl, hsz, hP, hK⟩ := hv
  have hts := atoms_spec (ws := wsU y b n ret) B.pre
  subst hsz
  have hb := body (p, l, e, rm, s, m, av.toArray, below, meth, c, D, cy, g_A G s.heap.size, s.heap, MQ below (g_Qc D (g_A G s.heap.size) post) av.toArray s rm.cells rm.slots (g_A G s.heap.size))
    ⟨⟨rfl, rfl, rfl⟩, B.exec, B.bytes, hml, findClass_of_methodNamed B.named, fun w hw => hts w (List.mem_cons_of_mem _ hw), hK, fun q h => Or.inr h, rfl, B.returns, B.notSynchronized, (name_of_methodNamed B.named B.method).1⟩ ⟨rfl, rfl⟩
  have hl := lv_entry av hn
  rw [lg_entry_eq]
  exact hb s.heap [] _ ⟨fun a e h => ⟨hP a e h, Or.inl ⟨e, h⟩⟩, va_S.rf⟩ hl
/-! straight runs: what simple instructions do to locals and stack, by a function -/
def g_get : LV → Nat → Option Value
  | [], _ => none
  | q :: r, i => if q.1 = i then some q.2 else g_get r i
theorem g_get_in {lv : LV} {i : Nat} {v : Value} (h : g_get lv i = some v) : (i, v) ∈ lv := by
  induction lv with
  | nil => cases h
  | cons q r ih =>
    obtain ⟨a, b⟩ := q
    simp only [g_get] at h
    split at h
    · rename_i h1
      cases h
      subst h1
      exact List.mem_cons_self
    · exact List.mem_cons_of_mem _ (ih h)
def g_set1 (lv : LV) (i : Nat) (v : Value) : LV := (i, v) :: lv.filter (fun q => !(q.1 == i) && !(q.1 + 1 == i && q.2.category == 2))
def g_set2 (lv : LV) (i : Nat) (v : Value) : LV := (i, v) :: lv.filter (fun q => !(q.1 == i) && (!(q.1 == i + 1) && !(q.1 + 1 == i && q.2.category == 2)))
def g_lit : Int → Option Int32
  | -1 => some (-1)
  | 0 => some 0
  | 1 => some 1
  | 2 => some 2
  | 3 => some 3
  | 4 => some 4
  | 5 => some 5
  | _ => none
def g_lit8 : Int → Option Int32
  | -50 => some (-50)
  | -2 => some (-2)
  | -20 => some (-20)
  | 6 => some 6
  | 7 => some 7
  | 8 => some 8
  | 9 => some 9
  | 10 => some 10
  | 11 => some 11
  | 12 => some 12
  | 15 => some 15
  | 16 => some 16
  | 20 => some 20
  | 30 => some 30
  | 31 => some 31
  | 40 => some 40
  | 41 => some 41
  | 42 => some 42
  | 50 => some 50
  | 60 => some 60
  | 99 => some 99
  | 100 => some 100
  | _ => none
def g_lit16 : Int → Option Int32
  | 150 => some 150
  | 157 => some 157
  | 200 => some 200
  | 500 => some 500
  | 512 => some 512
  | 9999 => some 9999
  | _ => none
theorem g_lit_ok {n : Int} {v : Int32} (h : g_lit n = some v) : Int32.ofInt n = v := by
  unfold g_lit at h; split at h <;> first | (cases h; decide) | cases h
theorem g_lit8_ok {n : Int} {v : Int32} (h : g_lit8 n = some v) : (Int8.ofInt n).toInt32 = v := by
  unfold g_lit8 at h; split at h <;> first | (cases h; decide) | cases h
theorem g_lit16_ok {n : Int} {v : Int32} (h : g_lit16 n = some v) : (Int16.ofInt n).toInt32 = v := by
  unfold g_lit16 at h; split at h <;> first | (cases h; decide) | cases h
/-- one simple instruction: the next place, the locals, the stack -/
def g_xs (nL : Nat) (i : Instr) (len pc : Nat) (lv : LV) (st : List Value) : Option (Nat × LV × List Value) :=
  match i, len, st with
  | .iconst n, 1, st => (g_lit n).map fun v => (pc + 1, lv, .int v :: st)
  | .bipush n, 2, st => (g_lit8 n).map fun v => (pc + 2, lv, .int v :: st)
  | .sipush n, 3, st => (g_lit16 n).map fun v => (pc + 3, lv, .int v :: st)
  | .iload_n k, 1, st => match g_get lv k with | some (.int x) => some (pc + 1, lv, .int x :: st) | _ => none
  | .iload k, 2, st => match g_get lv k with | some (.int x) => some (pc + 2, lv, .int x :: st) | _ => none
  | .lload_n k, 1, st => match g_get lv k with | some (.long x) => some (pc + 1, lv, .long x :: st) | _ => none
  | .lload k, 2, st => match g_get lv k with | some (.long x) => some (pc + 2, lv, .long x :: st) | _ => none
  | .dload k, 2, st => match g_get lv k with | some (.double x) => some (pc + 2, lv, .double x :: st) | _ => none
  | .aload_n k, 1, st => match g_get lv k with | some (.ref x) => some (pc + 1, lv, .ref x :: st) | some .null => some (pc + 1, lv, .null :: st) | _ => none
  | .aload k, 2, st => match g_get lv k with | some (.ref x) => some (pc + 2, lv, .ref x :: st) | some .null => some (pc + 2, lv, .null :: st) | _ => none
  | .istore_n k, 1, .int x :: st => if (k : Nat) < nL then some (pc + 1, g_set1 lv k (.int x), st) else none
  | .istore k, 2, .int x :: st => if k < nL then some (pc + 2, g_set1 lv k (.int x), st) else none
  | .astore_n k, 1, .ref x :: st => if (k : Nat) < nL then some (pc + 1, g_set1 lv k (.ref x), st) else none
  | .astore k, 2, .ref x :: st => if k < nL then some (pc + 2, g_set1 lv k (.ref x), st) else none
  | .astore_n k, 1, .null :: st => if (k : Nat) < nL then some (pc + 1, g_set1 lv k .null, st) else none
  | .astore k, 2, .null :: st => if k < nL then some (pc + 2, g_set1 lv k .null, st) else none
  | .lstore_n k, 1, .long x :: st => if (k : Nat) + 1 < nL then some (pc + 1, g_set2 lv k (.long x), st) else none
  | .lstore k, 2, .long x :: st => if k + 1 < nL then some (pc + 2, g_set2 lv k (.long x), st) else none
  | .dstore k, 2, .double x :: st => if k + 1 < nL then some (pc + 2, g_set2 lv k (.double x), st) else none
  | .iinc k n, 3, st => match g_get lv k, g_lit n with | some (.int x), some v => if k < nL then some (pc + 3, g_set1 lv k (.int (x + v)), st) else none | _, _ => none
  | .iadd, 1, .int y :: .int x :: st => some (pc + 1, lv, .int (x + y) :: st)
  | .isub, 1, .int y :: .int x :: st => some (pc + 1, lv, .int (x - y) :: st)
  | .imul, 1, .int y :: .int x :: st => some (pc + 1, lv, .int (x * y) :: st)
  | .iand, 1, .int y :: .int x :: st => some (pc + 1, lv, .int (x &&& y) :: st)
  | .ladd, 1, .long y :: .long x :: st => some (pc + 1, lv, .long (x + y) :: st)
  | .lmul, 1, .long y :: .long x :: st => some (pc + 1, lv, .long (x * y) :: st)
  | .lcmp, 1, .long y :: .long x :: st => some (pc + 1, lv, .int (lg_cmp x y) :: st)
  | .i2l, 1, .int x :: st => some (pc + 1, lv, .long x.toInt64 :: st)
  | .i2d, 1, .int x :: st => some (pc + 1, lv, .double (FP.i2d x) :: st)
  | .dcmp op, 1, .double y :: .double x :: st => some (pc + 1, lv, .int (Op.cmpValue (FP.dcmp x y) op) :: st)
  | .dconst 0, 1, st => some (pc + 1, lv, .double FP.dconst0 :: st)
  | .aconst_null, 1, st => some (pc + 1, lv, .null :: st)
  | .ishr, 1, .int y :: .int x :: st => some (pc + 1, lv, .int (x >>> (y &&& 31)) :: st)
  | .dup, 1, .ref x :: st => some (pc + 1, lv, .ref x :: .ref x :: st)
  | .dup, 1, .int x :: st => some (pc + 1, lv, .int x :: .int x :: st)
  | .pop, 1, .int _ :: st => some (pc + 1, lv, st)
  | .dup2, 1, .int y :: .ref x :: st => some (pc + 1, lv, .int y :: .ref x :: .int y :: .ref x :: st)
  | .goto off, 3, st => if 0 ≤ (pc : Int) + off then some (((pc : Int) + off).toNat, lv, st) else none
  | _, _, _ => none

section PGR
variable {κ : Kx} {l0 : Launch} {D0 : va_G} {cy0 : Nat → ClassId} {y : MethodName} {nL ce sl : Nat} {cc : ByteArray} {rm : Room} {ret : Option FieldType} {G : GG} {lv lv' : LV} {pc pc' : Nat} {st st' rest : List Value}
set_option maxHeartbeats 4000000 in
theorem g_xs_ok {i : Instr} {len : Nat} (C : g_OK κ l0 D0 cy0 y nL cc rm ret) (hd : decode cc pc = .ok (i, len)) (hx : g_xs nL i len pc lv st = some (pc', lv', st')) (k : PG κ nL ce sl G lv' pc' st') : PG κ nL ce sl G lv pc st := by
  obtain ⟨p, l, e, R, s, m, args, below, meth, c, D, cy, A, H0, Q⟩ := κ
  obtain ⟨-, h0, hb, hml, -⟩ := C
  intro H locs ls hw hl
  unfold g_xs at hx
  split at hx
  · obtain ⟨v, hv, e9⟩ := Option.map_eq_some_iff.mp hx; cases e9; exact lv_iconst h0 hb hd (g_lit_ok hv) (k H locs ls hw hl)
  · obtain ⟨v, hv, e9⟩ := Option.map_eq_some_iff.mp hx; cases e9; exact lv_bipush h0 hb hd (g_lit8_ok hv) (k H locs ls hw hl)
  · obtain ⟨v, hv, e9⟩ := Option.map_eq_some_iff.mp hx; cases e9; exact lv_sipush h0 hb hd (g_lit16_ok hv) (k H locs ls hw hl)
  · split at hx <;> first | (cases hx; done) | (rename_i hg; cases hx; exact lv_iload_n h0 hb hd rfl (hl.2.2 _ (g_get_in hg)) (k H locs ls hw hl))
  · split at hx <;> first | (cases hx; done) | (rename_i hg; cases hx; exact lv_iload h0 hb hd (hl.2.2 _ (g_get_in hg)) (k H locs ls hw hl))
  · split at hx <;> first | (cases hx; done) | (rename_i hg; cases hx; exact lv_lload_n h0 hb hd rfl (hl.2.2 _ (g_get_in hg)) (k H locs ls hw hl))
  · split at hx <;> first | (cases hx; done) | (rename_i hg; cases hx; exact lv_lload h0 hb hd (hl.2.2 _ (g_get_in hg)) (k H locs ls hw hl))
  · split at hx <;> first | (cases hx; done) | (rename_i hg; cases hx; exact lv_dload h0 hb hd (hl.2.2 _ (g_get_in hg)) (k H locs ls hw hl))
  · split at hx <;> first | (cases hx; done) | (rename_i hg; cases hx; exact lv_aload_n h0 hb hd rfl (hl.2.2 _ (g_get_in hg)) (k H locs ls hw hl)) | (rename_i hg; cases hx; exact lv_aload_nN h0 hb hd rfl (hl.2.2 _ (g_get_in hg)) (k H locs ls hw hl))
  · split at hx <;> first | (cases hx; done) | (rename_i hg; cases hx; exact lv_aload h0 hb hd (hl.2.2 _ (g_get_in hg)) (k H locs ls hw hl)) | (rename_i hg; cases hx; exact lv_aloadN h0 hb hd (hl.2.2 _ (g_get_in hg)) (k H locs ls hw hl))
  · split at hx <;> first | (cases hx; done) | (rename_i hg; cases hx; exact lv_istore_n h0 hb hd rfl hl hg rfl (fun ls' hl' => k H locs ls' hw hl'))
  · split at hx <;> first | (cases hx; done) | (rename_i hg; cases hx; exact lv_istore h0 hb hd hl hg rfl (fun ls' hl' => k H locs ls' hw hl'))
  · split at hx <;> first | (cases hx; done) | (rename_i hg; cases hx; exact lv_astore_n h0 hb hd rfl hl hg rfl (fun ls' hl' => k H locs ls' hw hl'))
  · split at hx <;> first | (cases hx; done) | (rename_i hg; cases hx; exact lv_astore h0 hb hd hl hg rfl (fun ls' hl' => k H locs ls' hw hl'))
  · split at hx <;> first | (cases hx; done) | (rename_i hg; cases hx; exact lv_astore_nN h0 hb hd rfl hl hg rfl (fun ls' hl' => k H locs ls' hw hl'))
  · split at hx <;> first | (cases hx; done) | (rename_i hg; cases hx; exact lv_astoreN h0 hb hd hl hg rfl (fun ls' hl' => k H locs ls' hw hl'))
  · split at hx <;> first | (cases hx; done) | (rename_i hg; cases hx; exact lv_lstore_n h0 hb hd rfl hl hg rfl (fun ls' hl' => k H locs ls' hw hl'))
  · split at hx <;> first | (cases hx; done) | (rename_i hg; cases hx; exact lv_lstore h0 hb hd hl hg rfl (fun ls' hl' => k H locs ls' hw hl'))
  · split at hx <;> first | (cases hx; done) | (rename_i hg; cases hx; exact lv_dstore h0 hb hd hl hg rfl (fun ls' hl' => k H locs ls' hw hl'))
  · split at hx
    · rename_i hg hv
      split at hx
      · rename_i hn
        cases hx
        obtain ⟨j, hj⟩ := List.getElem?_of_mem (g_get_in hg)
        exact lv_iinc h0 hb hd hl hj (by rw [g_lit_ok hv]) hn rfl (fun ls' hl' => k H locs ls' hw hl')
      · cases hx
    · cases hx
  · cases hx; exact lv_iadd h0 hb hd (k H locs ls hw hl)
  · cases hx; exact lv_isub h0 hb hd (k H locs ls hw hl)
  · cases hx; exact lv_imul h0 hb hd (k H locs ls hw hl)
  · cases hx; exact lv_iand h0 hb hd (k H locs ls hw hl)
  · cases hx; exact lv_ladd h0 hb hd (k H locs ls hw hl)
  · cases hx; exact lv_lmul h0 hb hd (k H locs ls hw hl)
  · cases hx; exact W.lcmp h0 hb hd (k H locs ls hw hl)
  · cases hx; exact lv_i2l h0 hb hd rfl (k H locs ls hw hl)
  · cases hx; exact lv_i2d h0 hb hd (k H locs ls hw hl)
  · cases hx; exact lv_dcmp h0 hb hd (k H locs ls hw hl)
  · cases hx; exact lv_dconst0 h0 hb hd (k H locs ls hw hl)
  · cases hx; exact lv_null h0 hb hd (k H locs ls hw hl)
  · cases hx; exact lv_ishr h0 hb hd (k H locs ls hw hl)
  · cases hx; exact lv_dup h0 hb hd rfl (k H locs ls hw hl)
  · cases hx; exact lv_dup h0 hb hd rfl (k H locs ls hw hl)
  · cases hx; exact lv_pop h0 hb hd rfl (k H locs ls hw hl)
  · cases hx; exact lv_dup2_11 h0 hb hd rfl rfl (k H locs ls hw hl)
  · split at hx
    · rename_i hg
      cases hx
      exact lv_goto h0 hb hd (by omega) (k H locs ls hw hl)
    · cases hx
  · cases hx
/-- a straight run of simple instructions, listed with their places and lengths -/
def g_run (nL : Nat) : List (Nat × Instr × Nat) → Nat → LV → List Value → Option (Nat × LV × List Value)
  | [], pc, lv, st => some (pc, lv, st)
  | q :: r, pc, lv, st => if q.1 = pc then (match g_xs nL q.2.1 q.2.2 pc lv st with | some z => g_run nL r z.1 z.2.1 z.2.2 | none => none) else none
theorem g_seg (is : List (Nat × Instr × Nat)) (pc' : Nat) (lv' : LV) (st' : List Value) (C : g_OK κ l0 D0 cy0 y nL cc rm ret) (hd : is.all (fun q => decide (decode cc q.1 = .ok (q.2.1, q.2.2))) = true) (hx : g_run nL is pc lv st = some (pc', lv', st')) (k : PG κ nL ce sl G lv' pc' st') : PG κ nL ce sl G lv pc st := by
  induction is generalizing pc lv st with
  | nil => cases hx; exact k
  | cons q r ih =>
    simp only [List.all_cons, Bool.and_eq_true, decide_eq_true_eq] at hd
    simp only [g_run] at hx
    split at hx
    · rename_i hq
      split at hx
      · rename_i z hz
        rw [hq] at hd
        obtain ⟨pc1, lv1, st1⟩ := z
        exact g_xs_ok C hd.1 hz (ih hd.2 hx)
      · cases hx
    · cases hx
/-- fewer listed locals, in another order -/
theorem g_sub (lv' : LV) (h : ∀ q ∈ lv', q ∈ lv) (k : PG κ nL ce sl G lv' pc st) : PG κ nL ce sl G lv pc st := by
  obtain ⟨p, l, e, R, s, m, args, below, meth, c, D, cy, A, H0, Q⟩ := κ
  exact fun H locs ls hw hl => k H locs ls hw ⟨hl.1, hl.2.1, fun q hq => hl.2.2 q (h q hq)⟩
theorem g_widen {k n : Nat} (h1 : ce ≤ k) (h2 : sl ≤ n) (kk : PG κ nL k n G lv pc st) : PG κ nL ce sl G lv pc st := by
  obtain ⟨p, l, e, R, s, m, args, below, meth, c, D, cy, A, H0, Q⟩ := κ
  exact fun H locs ls hw hl => W.widen h1 h2 (kk H locs ls hw hl)
theorem g_pc (h : pc = pc') (k : PG κ nL ce sl G lv pc' st) : PG κ nL ce sl G lv pc st := h ▸ k
theorem g_if_eq {x : Int32} {off : Int} (tgt : Nat) (C : g_OK κ l0 D0 cy0 y nL cc rm ret) (hd : decode cc pc = .ok (.ifCond .eq off, 3)) (ht : (pc : Int) + off = (tgt : Int)) (kt : x = 0 → PG κ nL ce sl G lv tgt rest) (kf : ¬ x = 0 → PG κ nL ce sl G lv (pc + 3) rest) : PG κ nL ce sl G lv pc (.int x :: rest) := by
  obtain ⟨p, l, e, R, s, m, args, below, meth, c, D, cy, A, H0, Q⟩ := κ
  obtain ⟨-, h0, hb, hml, -⟩ := C
  exact fun H locs ls hw hl => lv_if_eq h0 hb hd ht (fun h => kt h H locs ls hw hl) (fun h => kf h H locs ls hw hl)
theorem g_icmp_eq {x y1 : Int32} {off : Int} (tgt : Nat) (C : g_OK κ l0 D0 cy0 y nL cc rm ret) (hd : decode cc pc = .ok (.if_icmp .eq off, 3)) (ht : (pc : Int) + off = (tgt : Int)) (kt : x = y1 → PG κ nL ce sl G lv tgt rest) (kf : ¬ x = y1 → PG κ nL ce sl G lv (pc + 3) rest) : PG κ nL ce sl G lv pc (.int y1 :: .int x :: rest) := by
  obtain ⟨p, l, e, R, s, m, args, below, meth, c, D, cy, A, H0, Q⟩ := κ
  obtain ⟨-, h0, hb, hml, -⟩ := C
  exact fun H locs ls hw hl => lv_icmp_eq h0 hb hd ht (fun h => kt h H locs ls hw hl) (fun h => kf h H locs ls hw hl)
theorem g_if_ne {x : Int32} {off : Int} (tgt : Nat) (C : g_OK κ l0 D0 cy0 y nL cc rm ret) (hd : decode cc pc = .ok (.ifCond .ne off, 3)) (ht : (pc : Int) + off = (tgt : Int)) (kt : ¬ x = 0 → PG κ nL ce sl G lv tgt rest) (kf : x = 0 → PG κ nL ce sl G lv (pc + 3) rest) : PG κ nL ce sl G lv pc (.int x :: rest) := by
  obtain ⟨p, l, e, R, s, m, args, below, meth, c, D, cy, A, H0, Q⟩ := κ
  obtain ⟨-, h0, hb, hml, -⟩ := C
  exact fun H locs ls hw hl => lv_if_ne h0 hb hd ht (fun h => kt h H locs ls hw hl) (fun h => kf h H locs ls hw hl)
theorem g_icmp_ne {x y1 : Int32} {off : Int} (tgt : Nat) (C : g_OK κ l0 D0 cy0 y nL cc rm ret) (hd : decode cc pc = .ok (.if_icmp .ne off, 3)) (ht : (pc : Int) + off = (tgt : Int)) (kt : ¬ x = y1 → PG κ nL ce sl G lv tgt rest) (kf : x = y1 → PG κ nL ce sl G lv (pc + 3) rest) : PG κ nL ce sl G lv pc (.int y1 :: .int x :: rest) := by
  obtain ⟨p, l, e, R, s, m, args, below, meth, c, D, cy, A, H0, Q⟩ := κ
  obtain ⟨-, h0, hb, hml, -⟩ := C
  exact fun H locs ls hw hl => lv_icmp_ne h0 hb hd ht (fun h => kt h H locs ls hw hl) (fun h => kf h H locs ls hw hl)
theorem g_if_lt {x : Int32} {off : Int} (tgt : Nat) (C : g_OK κ l0 D0 cy0 y nL cc rm ret) (hd : decode cc pc = .ok (.ifCond .lt off, 3)) (ht : (pc : Int) + off = (tgt : Int)) (kt : x < 0 → PG κ nL ce sl G lv tgt rest) (kf : ¬ x < 0 → PG κ nL ce sl G lv (pc + 3) rest) : PG κ nL ce sl G lv pc (.int x :: rest) := by
  obtain ⟨p, l, e, R, s, m, args, below, meth, c, D, cy, A, H0, Q⟩ := κ
  obtain ⟨-, h0, hb, hml, -⟩ := C
  exact fun H locs ls hw hl => lv_if_lt h0 hb hd ht (fun h => kt h H locs ls hw hl) (fun h => kf h H locs ls hw hl)
theorem g_icmp_lt {x y1 : Int32} {off : Int} (tgt : Nat) (C : g_OK κ l0 D0 cy0 y nL cc rm ret) (hd : decode cc pc = .ok (.if_icmp .lt off, 3)) (ht : (pc : Int) + off = (tgt : Int)) (kt : x < y1 → PG κ nL ce sl G lv tgt rest) (kf : ¬ x < y1 → PG κ nL ce sl G lv (pc + 3) rest) : PG κ nL ce sl G lv pc (.int y1 :: .int x :: rest) := by
  obtain ⟨p, l, e, R, s, m, args, below, meth, c, D, cy, A, H0, Q⟩ := κ
  obtain ⟨-, h0, hb, hml, -⟩ := C
  exact fun H locs ls hw hl => lv_icmp_lt h0 hb hd ht (fun h => kt h H locs ls hw hl) (fun h => kf h H locs ls hw hl)
theorem g_if_ge {x : Int32} {off : Int} (tgt : Nat) (C : g_OK κ l0 D0 cy0 y nL cc rm ret) (hd : decode cc pc = .ok (.ifCond .ge off, 3)) (ht : (pc : Int) + off = (tgt : Int)) (kt : 0 ≤ x → PG κ nL ce sl G lv tgt rest) (kf : ¬ 0 ≤ x → PG κ nL ce sl G lv (pc + 3) rest) : PG κ nL ce sl G lv pc (.int x :: rest) := by
  obtain ⟨p, l, e, R, s, m, args, below, meth, c, D, cy, A, H0, Q⟩ := κ
  obtain ⟨-, h0, hb, hml, -⟩ := C
  exact fun H locs ls hw hl => lv_if_ge h0 hb hd ht (fun h => kt h H locs ls hw hl) (fun h => kf h H locs ls hw hl)
theorem g_icmp_ge {x y1 : Int32} {off : Int} (tgt : Nat) (C : g_OK κ l0 D0 cy0 y nL cc rm ret) (hd : decode cc pc = .ok (.if_icmp .ge off, 3)) (ht : (pc : Int) + off = (tgt : Int)) (kt : y1 ≤ x → PG κ nL ce sl G lv tgt rest) (kf : ¬ y1 ≤ x → PG κ nL ce sl G lv (pc + 3) rest) : PG κ nL ce sl G lv pc (.int y1 :: .int x :: rest) := by
  obtain ⟨p, l, e, R, s, m, args, below, meth, c, D, cy, A, H0, Q⟩ := κ
  obtain ⟨-, h0, hb, hml, -⟩ := C
  exact fun H locs ls hw hl => lv_icmp_ge h0 hb hd ht (fun h => kt h H locs ls hw hl) (fun h => kf h H locs ls hw hl)
theorem g_if_gt {x : Int32} {off : Int} (tgt : Nat) (C : g_OK κ l0 D0 cy0 y nL cc rm ret) (hd : decode cc pc = .ok (.ifCond .gt off, 3)) (ht : (pc : Int) + off = (tgt : Int)) (kt : 0 < x → PG κ nL ce sl G lv tgt rest) (kf : ¬ 0 < x → PG κ nL ce sl G lv (pc + 3) rest) : PG κ nL ce sl G lv pc (.int x :: rest) := by
  obtain ⟨p, l, e, R, s, m, args, below, meth, c, D, cy, A, H0, Q⟩ := κ
  obtain ⟨-, h0, hb, hml, -⟩ := C
  exact fun H locs ls hw hl => lv_if_gt h0 hb hd ht (fun h => kt h H locs ls hw hl) (fun h => kf h H locs ls hw hl)
theorem g_icmp_gt {x y1 : Int32} {off : Int} (tgt : Nat) (C : g_OK κ l0 D0 cy0 y nL cc rm ret) (hd : decode cc pc = .ok (.if_icmp .gt off, 3)) (ht : (pc : Int) + off = (tgt : Int)) (kt : y1 < x → PG κ nL ce sl G lv tgt rest) (kf : ¬ y1 < x → PG κ nL ce sl G lv (pc + 3) rest) : PG κ nL ce sl G lv pc (.int y1 :: .int x :: rest) := by
  obtain ⟨p, l, e, R, s, m, args, below, meth, c, D, cy, A, H0, Q⟩ := κ
  obtain ⟨-, h0, hb, hml, -⟩ := C
  exact fun H locs ls hw hl => lv_icmp_gt h0 hb hd ht (fun h => kt h H locs ls hw hl) (fun h => kf h H locs ls hw hl)
theorem g_if_le {x : Int32} {off : Int} (tgt : Nat) (C : g_OK κ l0 D0 cy0 y nL cc rm ret) (hd : decode cc pc = .ok (.ifCond .le off, 3)) (ht : (pc : Int) + off = (tgt : Int)) (kt : x ≤ 0 → PG κ nL ce sl G lv tgt rest) (kf : ¬ x ≤ 0 → PG κ nL ce sl G lv (pc + 3) rest) : PG κ nL ce sl G lv pc (.int x :: rest) := by
  obtain ⟨p, l, e, R, s, m, args, below, meth, c, D, cy, A, H0, Q⟩ := κ
  obtain ⟨-, h0, hb, hml, -⟩ := C
  exact fun H locs ls hw hl => lv_if_le h0 hb hd ht (fun h => kt h H locs ls hw hl) (fun h => kf h H locs ls hw hl)
theorem g_icmp_le {x y1 : Int32} {off : Int} (tgt : Nat) (C : g_OK κ l0 D0 cy0 y nL cc rm ret) (hd : decode cc pc = .ok (.if_icmp .le off, 3)) (ht : (pc : Int) + off = (tgt : Int)) (kt : x ≤ y1 → PG κ nL ce sl G lv tgt rest) (kf : ¬ x ≤ y1 → PG κ nL ce sl G lv (pc + 3) rest) : PG κ nL ce sl G lv pc (.int y1 :: .int x :: rest) := by
  obtain ⟨p, l, e, R, s, m, args, below, meth, c, D, cy, A, H0, Q⟩ := κ
  obtain ⟨-, h0, hb, hml, -⟩ := C
  exact fun H locs ls hw hl => lv_icmp_le h0 hb hd ht (fun h => kt h H locs ls hw hl) (fun h => kf h H locs ls hw hl)
theorem g_ifnull {a : Nat} {off : Int} (C : g_OK κ l0 D0 cy0 y nL cc rm ret) (hd : decode cc pc = .ok (.ifnull off, 3)) (k : PG κ nL ce sl G lv (pc + 3) rest) : PG κ nL ce sl G lv pc (.ref a :: rest) := by
  obtain ⟨p, l, e, R, s, m, args, below, meth, c, D, cy, A, H0, Q⟩ := κ
  obtain ⟨-, h0, hb, hml, -⟩ := C
  exact fun H locs ls hw hl => lv_ifnull h0 hb hd (k H locs ls hw hl)
theorem g_ifnonnull {a : Nat} {off : Int} (tgt : Nat) (C : g_OK κ l0 D0 cy0 y nL cc rm ret) (hd : decode cc pc = .ok (.ifnonnull off, 3)) (ht : (pc : Int) + off = (tgt : Int)) (k : PG κ nL ce sl G lv tgt rest) : PG κ nL ce sl G lv pc (.ref a :: rest) := by
  obtain ⟨p, l, e, R, s, m, args, below, meth, c, D, cy, A, H0, Q⟩ := κ
  obtain ⟨-, h0, hb, hml, -⟩ := C
  exact fun H locs ls hw hl => lv_ifnonnull h0 hb hd ht (k H locs ls hw hl)
theorem g_ifnullN {off : Int} (tgt : Nat) (C : g_OK κ l0 D0 cy0 y nL cc rm ret) (hd : decode cc pc = .ok (.ifnull off, 3)) (ht : (pc : Int) + off = (tgt : Int)) (k : PG κ nL ce sl G lv tgt rest) : PG κ nL ce sl G lv pc (.null :: rest) := by
  obtain ⟨p, l, e, R, s, m, args, below, meth, c, D, cy, A, H0, Q⟩ := κ
  obtain ⟨-, h0, hb, hml, -⟩ := C
  exact fun H locs ls hw hl => lv_ifnullN h0 hb hd ht (k H locs ls hw hl)
theorem g_ifnonnullN {off : Int} (C : g_OK κ l0 D0 cy0 y nL cc rm ret) (hd : decode cc pc = .ok (.ifnonnull off, 3)) (k : PG κ nL ce sl G lv (pc + 3) rest) : PG κ nL ce sl G lv pc (.null :: rest) := by
  obtain ⟨p, l, e, R, s, m, args, below, meth, c, D, cy, A, H0, Q⟩ := κ
  obtain ⟨-, h0, hb, hml, -⟩ := C
  exact fun H locs ls hw hl => lv_ifnonnullN h0 hb hd (k H locs ls hw hl)
theorem g_idiv {x y1 : Int32} (C : g_OK κ l0 D0 cy0 y nL cc rm ret) (hd : decode cc pc = .ok (.idiv, 1)) (hne : ¬ y1 = 0) (k : PG κ nL ce sl G lv (pc + 1) (.int (x / y1) :: rest)) : PG κ nL ce sl G lv pc (.int y1 :: .int x :: rest) := by
  obtain ⟨p, l, e, R, s, m, args, below, meth, c, D, cy, A, H0, Q⟩ := κ
  obtain ⟨-, h0, hb, hml, -⟩ := C
  exact fun H locs ls hw hl => lv_idiv h0 hb hd hne (k H locs ls hw hl)
theorem g_irem {x y1 : Int32} (C : g_OK κ l0 D0 cy0 y nL cc rm ret) (hd : decode cc pc = .ok (.irem, 1)) (hne : ¬ y1 = 0) (k : PG κ nL ce sl G lv (pc + 1) (.int (x - x / y1 * y1) :: rest)) : PG κ nL ce sl G lv pc (.int y1 :: .int x :: rest) := by
  obtain ⟨p, l, e, R, s, m, args, below, meth, c, D, cy, A, H0, Q⟩ := κ
  obtain ⟨-, h0, hb, hml, -⟩ := C
  exact fun H locs ls hw hl => lv_irem h0 hb hd hne (k H locs ls hw hl)
theorem g_ddiv {x y1 : UInt64} (C : g_OK κ l0 D0 cy0 y nL cc rm ret) (hd : decode cc pc = .ok (.ddiv, 1)) (hne : vf_n64 (FP.ddiv x y1)) (k : PG κ nL ce sl G lv (pc + 1) (.double (FP.ddiv x y1) :: rest)) : PG κ nL ce sl G lv pc (.double y1 :: .double x :: rest) := by
  obtain ⟨p, l, e, R, s, m, args, below, meth, c, D, cy, A, H0, Q⟩ := κ
  obtain ⟨-, h0, hb, hml, -⟩ := C
  exact fun H locs ls hw hl => lv_ddiv h0 hb hd hne (k H locs ls hw hl)
theorem g_ldc2 {index : Nat} {v : Int64} (C : g_OK κ l0 D0 cy0 y nL cc rm ret) (hw0 : Cond.constantLong y.cls index v ∈ lw_T) (hd : decode cc pc = .ok (.ldc2_w index, 3)) (k : PG κ nL ce sl G lv (pc + 3) (.long v :: rest)) : PG κ nL ce sl G lv pc rest := by
  obtain ⟨p, l, e, R, s, m, args, below, meth, c, D, cy, A, H0, Q⟩ := κ
  obtain ⟨-, h0, hb, hml, hown, hT, -⟩ := C
  exact fun H locs ls hw hl => lv_ldc2 h0 hb hown (hT _ hw0) hd (k H locs ls hw hl)
theorem g_tableOut {dflt lo hi : Int} {offs : Array Int} {len : Nat} {x : Int32} (tgt : Nat) (C : g_OK κ l0 D0 cy0 y nL cc rm ret) (hd : decode cc pc = .ok (.tableswitch dflt lo hi offs, len)) (h : x.toInt < lo ∨ hi < x.toInt) (ht : (pc : Int) + dflt = (tgt : Int)) (k : PG κ nL ce sl G lv tgt rest) : PG κ nL ce sl G lv pc (.int x :: rest) := by
  obtain ⟨p, l, e, R, s, m, args, below, meth, c, D, cy, A, H0, Q⟩ := κ
  obtain ⟨-, h0, hb, hml, -⟩ := C
  exact fun H locs ls hw hl => lv_tableOut h0 hb hd h ht (k H locs ls hw hl)
theorem g_tableIn {dflt lo hi : Int} {offs : Array Int} {len : Nat} {x : Int32} {off : Int} (tgt : Nat) (C : g_OK κ l0 D0 cy0 y nL cc rm ret) (hd : decode cc pc = .ok (.tableswitch dflt lo hi offs, len)) (h1 : ¬ x.toInt < lo) (h2 : ¬ hi < x.toInt) (ho : offs[(x.toInt - lo).toNat]? = some off) (ht : (pc : Int) + off = (tgt : Int)) (k : PG κ nL ce sl G lv tgt rest) : PG κ nL ce sl G lv pc (.int x :: rest) := by
  obtain ⟨p, l, e, R, s, m, args, below, meth, c, D, cy, A, H0, Q⟩ := κ
  obtain ⟨-, h0, hb, hml, -⟩ := C
  exact fun H locs ls hw hl => lv_tableIn h0 hb hd h1 h2 ho ht (k H locs ls hw hl)
end PGR
