/-! rows over the heap -/
theorem g_sP {D : va_G} {G : GG} {H : Heap} {A : Nat → Prop} {H0 : Heap} {locs : List Loc} (hw : g_wd D A H0 G H locs) {a : Nat} {e : va_E} (ha : G a = some e) : va_P D vwCl [(a, e)] H := by
  intro k q hk
  have hz : k < 1 := (List.getElem?_eq_some_iff.mp hk).1
  rw [show k = 0 by omega] at hk
  cases hk
  exact (hw.1 a e ha).1
theorem g_wput {D : va_G} {G : GG} {H H1 : Heap} {A : Nat → Prop} {H0 : Heap} {locs : List Loc} {a k : Nat} {e0 e : va_E} (hw : g_wd D A H0 G H locs) (ha : G a = some e0) (he : va_at D vwCl (a, e) H1) (z : H1.size = H.size) (oq : ∀ q : Nat, q ≠ a → H1[q]? = H[q]?) : g_wd D A H0 (g_up G a e) H1 (locs ++ [⟨a, k⟩]) := by
  refine ⟨fun b e' hb => ?_, hw.2.put z oq (hw.1 a e0 ha).2⟩
  by_cases hq : b = a
  · subst hq
    rw [g_up_self] at hb
    cases hb
    exact ⟨he, (hw.1 b e0 ha).2⟩
  · rw [g_up_ne hq] at hb
    exact ⟨(hw.1 b e' hb).1.kept (oq b hq), (hw.1 b e' hb).2⟩
theorem g_wnew {D : va_G} {G : GG} {H H1 : Heap} {A : Nat → Prop} {H0 : Heap} {locs : List Loc} {e : va_E} (hA : ∀ q, H0.size ≤ q → A q) (hw : g_wd D A H0 G H locs) (he : va_at D vwCl (H.size, e) H1) (z : H1.size = H.size + 1) (oq : ∀ q : Nat, q < H.size → H1[q]? = H[q]?) : G H.size = none ∧ g_wd D A H0 (g_up G H.size e) H1 locs := by
  have hn : G H.size = none := by
    cases h : G H.size with
    | none => rfl
    | some e' => exact absurd (hw.1 _ e' h).1.lt (Nat.lt_irrefl _)
  refine ⟨hn, fun b e' hb => ?_, Nat.le_trans hw.2.1 (by omega), fun x h1 h2 => (oq x (Nat.lt_of_lt_of_le h1 hw.2.1)).trans (hw.2.2.1 x h1 h2), hw.2.2.2⟩
  by_cases hq : b = H.size
  · subst hq
    rw [g_up_self] at hb
    cases hb
    exact ⟨he, hA _ hw.2.1⟩
  · rw [g_up_ne hq] at hb
    have h1 := hw.1 b e' hb
    exact ⟨h1.1.kept (oq b h1.1.lt), h1.2⟩
/-- a field's link from a class: what getfield needs -/
def g_fl (own : String) (index ci k : Nat) : Prop := ∃ (C : String) (T : u_T) (N : Nat), vwCl[ci]? = some (C, T, N) ∧ k < N ∧ (∀ w ∈ u_ws C T N, w ∈ lw_T) ∧ Cond.fieldLink own index C (T k).2.1 (T k).2.2.1 ∈ lw_T ∧ (T k).1 = C
/-- what putfield needs of the class -/
def g_fp (ci k : Nat) (ty : FieldType) (fin : Bool) : Prop := ∃ (C : String) (T : u_T) (N : Nat) (ty0 : Nat → FieldType), vwCl[ci]? = some (C, T, N) ∧ (∀ k, k < N → parseFieldDescriptor (T k).2.2.1 = some (ty0 k)) ∧ (∀ a, a < N → ∀ b, b < N → a ≠ b → (T a).2.1 ≠ (T b).2.1) ∧ (T k).2.2.2 = fin ∧ parseFieldDescriptor (T k).2.2.1 = some ty
section PGH
variable {κ : Kx} {l0 : Launch} {D0 : va_G} {cy0 : Nat → ClassId} {y : MethodName} {nL ce sl : Nat} {cc : ByteArray} {rm : Room} {ret : Option FieldType} {G : GG} {lv : LV} {pc : Nat} {st rest : List Value} {a : Nat}
theorem g_getf {ci k index : Nat} {fs : List Value} {v : Value} (C : g_OK κ l0 D0 cy0 y nL cc rm ret) (hf : g_fl y.cls index ci k) (ha : G a = some (.inr (ci, fs))) (hv : fs[k]? = some v) (hd : decode cc pc = .ok (.getfield index, 3)) (kk : PG κ nL ce sl G lv (pc + 3) (v :: rest)) : PG κ nL ce sl G lv pc (.ref a :: rest) := by
  obtain ⟨p, l, e, R, s, m, args, below, meth, c, D, cy, A, H0, Q⟩ := κ
  obtain ⟨⟨-, rfl, rfl⟩, h0, hb, hml, hown, hT, hK, -⟩ := C
  obtain ⟨C1, T, N, hc, hk, hin, hlink, h1⟩ := hf
  intro H locs ls hw hl
  exact va_get h0 hb hT hin hown hK.1 (g_sP hw ha) 0 rfl hc k hk (hT _ hlink) (fun x hx => by rw [← h1]; rw [h1]; rw [h1] at hx; exact hx) hv hd (kk H locs ls hw hl)
theorem g_putf {ci k index : Nat} {fs : List Value} {v : Value} {ty : FieldType} (C : g_OK κ l0 D0 cy0 y nL cc rm ret) (hf : g_fl y.cls index ci k) (hp : g_fp ci k ty false) (ha : G a = some (.inr (ci, fs))) (hn : narrow ty v = v) (hfit : fits ty v = true) (hl0 : k < fs.length) (hd : decode cc pc = .ok (.putfield index, 3)) (kk : PG κ nL ce sl (g_up G a (.inr (ci, fs.set k v))) lv (pc + 3) rest) : PG κ nL ce sl G lv pc (v :: .ref a :: rest) := by
  obtain ⟨p, l, e, R, s, m, args, below, meth, c, D, cy, A, H0, Q⟩ := κ
  obtain ⟨⟨-, rfl, rfl⟩, h0, hb, hml, hown, hT, hK, -⟩ := C
  obtain ⟨C1, T, N, hc, hk, hin, hlink, h1⟩ := hf
  obtain ⟨C2, T2, N2, ty0, hc2, hty, hnm, hfin, hdd⟩ := hp
  cases hc.symm.trans hc2
  intro H locs ls hw hl
  have hap := va_apart (own := C1) hT hin ty0 hty hnm hK.1 hc
  obtain ⟨r, g1, cell, q1, q2, q3, q4⟩ := (hw.1 a _ ha).1
  have hr : r = (C1, T, N) := Option.some.inj (g1.symm.trans hc)
  subst hr
  obtain ⟨hS, hfc, kC, hkC, hkind⟩ := hK.1.1 ci _ hc
  obtain ⟨cf, kf, fi, f, hi, hsl⟩ := hS k hk
  have hlay := hT _ (hin _ (u_in_lay hk))
  unfold u_lay at hlay
  rw [if_neg (by rw [hfin]; decide)] at hlay
  have hst := (u_facts hfc hkC (u_lays hT hin hk) hi).1
  have h6 := u_store hfc hkC hkind hlay hi hdd hn hfit
  have hi' := hi
  rw [h1] at hi'
  refine W.putK h0 hb (f := f) ⟨hown, hT _ hlink, ⟨_, _, _, hi'⟩, hst⟩ (by rw [q2]; exact h6) q1 q3 (by rw [hsl]; exact k2_hasslot (q4 k hk)) rfl rfl hd fun H' e1 e2 e3 => ?_
  rw [hsl] at e1 ⊢
  exact kk H' _ ls (g_wput hw ha ⟨_, hc, t_OB.to (V := updV (vp_V fs) k v) ⟨_, e1, q2, q3, t_set q4 hap hk v⟩ (fun j _ => vp_updV_set hl0 v j)⟩ e2 e3) hl
theorem g_putF {ci k index : Nat} {fs : List Value} {v : Value} {ty : FieldType} (C : g_OK κ l0 D0 cy0 y nL cc rm ret) (hf : g_fl y.cls index ci k) (hp : g_fp ci k ty true) (hy : y.name = "<init>") (hdecl : ∀ q, vwCl[ci]? = some q → q.1 = y.cls) (ha : G a = some (.inr (ci, fs))) (hn : narrow ty v = v) (hfit : fits ty v = true) (hl0 : k < fs.length) (hd : decode cc pc = .ok (.putfield index, 3)) (kk : PG κ nL ce sl (g_up G a (.inr (ci, fs.set k v))) lv (pc + 3) rest) : PG κ nL ce sl G lv pc (v :: .ref a :: rest) := by
  obtain ⟨p, l, e, R, s, m, args, below, meth, c, D, cy, A, H0, Q⟩ := κ
  obtain ⟨⟨-, rfl, rfl⟩, h0, hb, hml, hown, hT, hK, -, -, -, -, hmn⟩ := C
  obtain ⟨C1, T, N, hc, hk, hin, hlink, h1⟩ := hf
  obtain ⟨C2, T2, N2, ty0, hc2, hty, hnm, hfin, hdd⟩ := hp
  cases hc.symm.trans hc2
  intro H locs ls hw hl
  have hap := va_apart (own := C1) hT hin ty0 hty hnm hK.1 hc
  obtain ⟨r, g1, cell, q1, q2, q3, q4⟩ := (hw.1 a _ ha).1
  have hr : r = (C1, T, N) := Option.some.inj (g1.symm.trans hc)
  subst hr
  have hd1 : C1 = y.cls := hdecl _ hc
  obtain ⟨hS, hfc, kC, hkC, hkind⟩ := hK.1.1 ci _ hc
  obtain ⟨cf, kf, fi, f, hi, hsl⟩ := hS k hk
  have hlay := hT _ (hin _ (u_in_lay hk))
  unfold u_lay at hlay
  rw [if_pos hfin] at hlay
  have hst := (u_facts hfc hkC (u_lays hT hin hk) hi).1
  have hcf : m.cls = cf := by
    obtain ⟨_, _, c', _, _, _, -, -, hf', -, -, -, hown2, -⟩ := Cond.laysFinal_spec hlay
    have e1 : c' = cf := by have := hi.symm.trans hf'; simp at this; exact this.1.symm
    rw [h1, hd1] at hown2
    rw [← e1]; exact Option.some.inj (hown.symm.trans hown2)
  have h6 := u_fits hfc hkC hkind (Or.inr hlay) hi hdd hn hfit
  have hi' := hi
  rw [h1] at hi'
  refine W.putFinK h0 hb hown (hT _ hlink) hi' hst hcf (hmn.trans hy) (by rw [q2]; exact h6) q1 q3 (by rw [hsl]; exact k2_hasslot (q4 k hk)) rfl rfl hd fun H' e1 e2 e3 => ?_
  rw [hsl] at e1 ⊢
  exact kk H' _ ls (g_wput hw ha ⟨_, hc, t_OB.to (V := updV (vp_V fs) k v) ⟨_, e1, q2, q3, t_set q4 hap hk v⟩ (fun j _ => vp_updV_set hl0 v j)⟩ e2 e3) hl
/-- new: a fresh address -/
theorem g_new {ci index : Nat} {C1 : String} {T : u_T} {N : Nat} {ty : Nat → FieldType} {fs : List Value} (C : g_OK κ l0 D0 cy0 y nL cc rm ret) (hc : vwCl[ci]? = some (C1, T, N)) (hin : ∀ w ∈ u_ws C1 T N, w ∈ lw_T) (hty : ∀ k, k < N → parseFieldDescriptor (T k).2.2.1 = some (ty k)) (hcl : Cond.classLink y.cls index C1 ∈ lw_T) (hinst : Cond.instantiable C1 N ∈ lw_T) (hini : Cond.initialized C1 ∈ lw_T) (hfs : ∀ j, j < N → defaultValue (ty j) = vp_V fs j) (hcells : ce + 1 ≤ rm.cells) (hslots : sl + N ≤ rm.slots) (hd : decode cc pc = .ok (.new index, 3))
    (kk : ∀ q, G q = none → PG κ nL (ce + 1) (sl + N) (g_up G q (.inr (ci, fs))) lv (pc + 3) (.ref q :: rest)) : PG κ nL ce sl G lv pc rest := by
  obtain ⟨p, l, e, R, s, m, args, below, meth, c, D, cy, A, H0, Q⟩ := κ
  obtain ⟨⟨-, rfl, rfl⟩, h0, hb, hml, hown, hT, hK, hA, rfl, -⟩ := C
  intro H locs ls hw hl
  have hKn := hK.1.1 ci _ hc
  refine W.newcK h0 hb hown (hT _ hcl) (hT _ hinst) (hT _ hini) rfl hd hcells hslots hKn.2.1 rfl fun H1 kC hkC e1 z1 o1 => ?_
  have he : va_at D vwCl (H.size, .inr (ci, fs)) H1 := ⟨_, hc, (u_born ty hT hin hKn hkC e1 hty).to hfs⟩
  obtain ⟨hn, hw1⟩ := g_wnew hA hw he z1 o1
  exact kk H.size hn H1 locs ls hw1 hl
/-- int arrays -/
theorem g_iald {n : Nat} {f : Nat → Int32} {i : Int32} (C : g_OK κ l0 D0 cy0 y nL cc rm ret) (ha : G a = some (.inl (cy0 0, n, .inl f))) (hin : vp_in i n) (hd : decode cc pc = .ok (.iaload, 1)) (kk : PG κ nL ce sl G lv (pc + 1) (.int (f i.toNatClampNeg) :: rest)) : PG κ nL ce sl G lv pc (.int i :: .ref a :: rest) := by
  obtain ⟨p, l, e, R, s, m, args, below, meth, c, D, cy, A, H0, Q⟩ := κ
  obtain ⟨⟨-, rfl, rfl⟩, h0, hb, hml, hown, hT, hK, hA, rfl, -⟩ := C
  intro H locs ls hw hl
  exact va_iald h0 hb hK.1 (g_sP hw ha) 0 0 rfl rfl hin hd (kk H locs ls hw hl)
theorem g_iast {n : Nat} {f : Nat → Int32} {i x : Int32} (C : g_OK κ l0 D0 cy0 y nL cc rm ret) (ha : G a = some (.inl (cy0 0, n, .inl f))) (hin : vp_in i n) (hd : decode cc pc = .ok (.iastore, 1)) (kk : PG κ nL ce sl (g_up G a (.inl (cy0 0, n, .inl (upd f i.toNatClampNeg x)))) lv (pc + 1) rest) : PG κ nL ce sl G lv pc (.int x :: .int i :: .ref a :: rest) := by
  obtain ⟨p, l, e, R, s, m, args, below, meth, c, D, cy, A, H0, Q⟩ := κ
  obtain ⟨⟨-, rfl, rfl⟩, h0, hb, hml, hown, hT, hK, hA, rfl, -⟩ := C
  intro H locs ls hw hl
  have hlt : i.toNatClampNeg < n := Nat.not_le.mp fun q => hin (Or.inr q)
  have hat : H[a]? = some (arrV (cy 0) n (fun j => .int (f j))) := (hw.1 a _ ha).1
  refine W.iast h0 hb hat ((hK.1.2 0 _ rfl).1 n (fun j => .int (f j))) (fun q => by cases q) (by rw [arrV_size]; exact hin) rfl rfl hd fun H1 e1 z o => ?_
  refine kk H1 _ ls (g_wput hw ha ?_ z o) hl
  show H1[a]? = some (arrV (cy 0) n (fun j => .int (upd f i.toNatClampNeg x j)))
  rw [e1, arrV_store]
  congr 2
  funext q
  by_cases hq : q = i.toNatClampNeg <;> simp [updV, upd, hq]
theorem g_alen {n : Nat} {x : vp_A} {ty : FieldType} {t0 : Nat} {cA : ClassId} {F : Nat → Value} (C : g_OK κ l0 D0 cy0 y nL cc rm ret) (ha : G a = some (.inl (cA, x))) (ht : (g_tys cy0)[t0]? = some (cA, ty)) (hx : vp_cell cA x = arrV cA n F) (hd : decode cc pc = .ok (.arraylength, 1)) (kk : PG κ nL ce sl G lv (pc + 1) (.int (nI n) :: rest)) : PG κ nL ce sl G lv pc (.ref a :: rest) := by
  obtain ⟨p, l, e, R, s, m, args, below, meth, c, D, cy, A, H0, Q⟩ := κ
  obtain ⟨⟨-, rfl, rfl⟩, h0, hb, hml, hown, hT, hK, hA, rfl, -⟩ := C
  intro H locs ls hw hl
  have hat : H[a]? = some (vp_cell cA x) := (hw.1 a _ ha).1
  rw [hx] at hat
  exact W.alen h0 hb hat ((hK.1.2 t0 _ ht).1 n F) (by rw [arrV_size]; rfl) rfl rfl hd (kk H locs ls hw hl)
/-- reference arrays -/
theorem g_aald {n t0 : Nat} {C1 : String} {cA : ClassId} {f : Nat → Option Nat} {i : Int32} (C : g_OK κ l0 D0 cy0 y nL cc rm ret) (ha : G a = some (.inl (cA, n, .inr (.inr (.inr (.inr f)))))) (ht : (g_tys cy0)[t0]? = some (cA, .object C1)) (hin : vp_in i n) (hd : decode cc pc = .ok (.aaload, 1)) (kk : PG κ nL ce sl G lv (pc + 1) (va_rf (f i.toNatClampNeg) :: rest)) : PG κ nL ce sl G lv pc (.int i :: .ref a :: rest) := by
  obtain ⟨p, l, e, R, s, m, args, below, meth, c, D, cy, A, H0, Q⟩ := κ
  obtain ⟨⟨-, rfl, rfl⟩, h0, hb, hml, hown, hT, hK, hA, rfl, -⟩ := C
  intro H locs ls hw hl
  exact va_aldq h0 hb hK.1 (g_sP hw ha) 0 t0 rfl ht hin hd (kk H locs ls hw hl)
theorem g_aast {n t0 ci v : Nat} {r : vw_C} {cA : ClassId} {f : Nat → Option Nat} {i : Int32} {vs : List Value} (C : g_OK κ l0 D0 cy0 y nL cc rm ret) (ha : G a = some (.inl (cA, n, .inr (.inr (.inr (.inr f)))))) (ht : (g_tys cy0)[t0]? = some (cA, .object r.1)) (hv : G v = some (.inr (ci, vs))) (hc : vwCl[ci]? = some r) (hin : vp_in i n) (hd : decode cc pc = .ok (.aastore, 1)) (kk : PG κ nL ce sl (g_up G a (.inl (cA, n, .inr (.inr (.inr (.inr (va_up f i.toNatClampNeg (some v)))))))) lv (pc + 1) rest) : PG κ nL ce sl G lv pc (.ref v :: .int i :: .ref a :: rest) := by
  obtain ⟨p, l, e, R, s, m, args, below, meth, c, D, cy, A, H0, Q⟩ := κ
  obtain ⟨⟨-, rfl, rfl⟩, h0, hb, hml, hown, hT, hK, hA, rfl, -⟩ := C
  intro H locs ls hw hl
  have hlt : i.toNatClampNeg < n := Nat.not_le.mp fun q => hin (Or.inr q)
  have h1 : ¬ i < 0 := fun q => hin (Or.inl q)
  obtain ⟨r', hr', cellV, g1, g2, g3, -⟩ := (hw.1 v _ hv).1
  have hcls := (hK.1.1 ci r hc).2
  obtain ⟨kA, comp, k1, k2, k3, -⟩ := (hK.1.2 t0 _ ht).2
  have hcomp : comp = D.1 ci := Option.some.inj (k3.symm.trans hcls.1)
  subst hcomp
  obtain ⟨kC, hkC, -⟩ := hcls.2
  have hat : H[a]? = some (arrV cA n (fun j => va_rf (f j))) := (hw.1 a _ ha).1
  refine W.aast h0 hb hat (fun q h => by cases h) (fun h => by cases h) k1 k2 rfl hkC ⟨h1, by rw [arrV_size]; exact hlt⟩ g1 (fun q h => by rw [g3] at h; cases h) (by rw [g2]; exact hkC) (by rw [g2]; exact va_assign hcls) rfl rfl hd fun H1 e1 z o => ?_
  refine kk H1 _ ls (g_wput hw ha ?_ z o) hl
  show H1[a]? = some (arrV cA n (fun j => va_rf (va_up f i.toNatClampNeg (some v) j)))
  rw [e1, arrV_store]
  congr 2
  funext q
  by_cases hq : q = i.toNatClampNeg
  · subst hq; simp [updV, va_up, va_rf]
  · simp [updV, va_up, hq]
end PGH
