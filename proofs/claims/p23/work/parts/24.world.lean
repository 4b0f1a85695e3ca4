/-! three worlds side by side: the class's, Sim's, and what the law makes by the way -/
def sG (G G' : GG) : Prop := ∀ a e, G a = some e → G' a = some e
def dG (G G' : GG) : Prop := ∀ a e, G a = some e → G' a = none
def nG : GG := fun _ => none
def W3 (G1 G2 G3 G : GG) : Prop := (sG G1 G ∧ sG G2 G ∧ sG G3 G) ∧ dG G1 G2 ∧ dG G1 G3 ∧ dG G2 G3
theorem dG.symm {G G' : GG} (h : dG G G') : dG G' G := fun a e ha => by
  cases h1 : G a with
  | none => rfl
  | some e1 => rw [h a e1 h1] at ha; cases ha
theorem dG.oth {G G' : GG} {a : Nat} {e : va_E} (h : dG G G') (ha : G' a = some e) : G a = none := h.symm a e ha
theorem sG.rf (G : GG) : sG G G := fun _ _ h => h
/-- a framed call over one of two worlds -/
theorem fr_two {Ga Gb G Ga' G' : GG} (h : fr Ga G Ga' G') (sb : sG Gb G) (dj : dG Ga Gb) : sG Ga' G' ∧ sG Gb G' ∧ dG Ga' Gb := by
  obtain ⟨f1, f2, f3⟩ := h
  refine ⟨f1, fun a e ha => f2 a e (sb a e ha) (dj.oth ha), fun a e ha => ?_⟩
  rcases f3 a e ha with ⟨e1, h1⟩ | h1
  · exact dj a e1 h1
  · cases h2 : Gb a with
    | none => rfl
    | some e2 => have := sb a e2 h2; rw [h1] at this; cases this
theorem W3.c1 {G1 G2 G3 G G1' G' : GG} (h : W3 G1 G2 G3 G) (f : fr G1 G G1' G') : W3 G1' G2 G3 G' := by
  obtain ⟨⟨s1, s2, s3⟩, d12, d13, d23⟩ := h
  obtain ⟨a1, a2, a3⟩ := fr_two f s2 d12
  obtain ⟨-, b2, b3⟩ := fr_two f s3 d13
  exact ⟨⟨a1, a2, b2⟩, a3, b3, d23⟩
theorem W3.c2 {G1 G2 G3 G G2' G' : GG} (h : W3 G1 G2 G3 G) (f : fr G2 G G2' G') : W3 G1 G2' G3 G' := by
  obtain ⟨⟨s1, s2, s3⟩, d12, d13, d23⟩ := h
  obtain ⟨a1, a2, a3⟩ := fr_two f s1 d12.symm
  obtain ⟨-, b2, b3⟩ := fr_two f s3 d23
  exact ⟨⟨a2, a1, b2⟩, a3.symm, d13, b3⟩
theorem sG.up {G1 G : GG} {q : Nat} {e : va_E} (h : sG G1 G) (hq : G1 q = none) : sG G1 (g_up G q e) := fun a e1 ha => by
  by_cases hz : a = q
  · subst hz; rw [hq] at ha; cases ha
  · rw [g_up_ne hz]; exact h a e1 ha
theorem sG.upup {G1 G : GG} {q : Nat} {e : va_E} (h : sG G1 G) : sG (g_up G1 q e) (g_up G q e) := fun a e1 ha => by
  by_cases hz : a = q
  · subst hz; rw [g_up_self] at ha ⊢; exact ha
  · rw [g_up_ne hz] at ha ⊢; exact h a e1 ha
theorem dG.up {G1 G3 : GG} {q : Nat} {e : va_E} (h : dG G1 G3) (hq : G1 q = none) : dG G1 (g_up G3 q e) := fun a e1 ha => by
  by_cases hz : a = q
  · subst hz; rw [hq] at ha; cases ha
  · rw [g_up_ne hz]; exact h a e1 ha
theorem sG.none {G1 G : GG} {q : Nat} (h : sG G1 G) (hq : G q = none) : G1 q = none := by
  cases h1 : G1 q with
  | none => rfl
  | some e => have := h q e h1; rw [hq] at this; cases this
theorem W3.p3 {G1 G2 G3 G : GG} {q : Nat} {e0 e : va_E} (h : W3 G1 G2 G3 G) (hq : G3 q = some e0) : W3 G1 G2 (g_up G3 q e) (g_up G q e) := by
  obtain ⟨⟨s1, s2, s3⟩, d12, d13, d23⟩ := h
  exact ⟨⟨s1.up (d13.oth hq), s2.up (d23.oth hq), s3.upup⟩, d12, d13.up (d13.oth hq), d23.up (d23.oth hq)⟩
theorem W3.n3 {G1 G2 G3 G : GG} {q : Nat} {e : va_E} (h : W3 G1 G2 G3 G) (hq : G q = none) : W3 G1 G2 (g_up G3 q e) (g_up G q e) := by
  obtain ⟨⟨s1, s2, s3⟩, d12, d13, d23⟩ := h
  exact ⟨⟨s1.up (s1.none hq), s2.up (s2.none hq), s3.upup⟩, d12, d13.up (s1.none hq), d23.up (s2.none hq)⟩
theorem W3.p2 {G1 G2 G3 G : GG} {q : Nat} {e0 e : va_E} (h : W3 G1 G2 G3 G) (hq : G2 q = some e0) : W3 G1 (g_up G2 q e) G3 (g_up G q e) := by
  obtain ⟨⟨s1, s2, s3⟩, d12, d13, d23⟩ := h
  exact ⟨⟨s1.up (d12.oth hq), s2.upup, s3.up (d23.symm.oth hq)⟩, d12.up (d12.oth hq), d13, (d23.symm.up (d23.symm.oth hq)).symm⟩
/-- new cells, all at once -/
def gG (G G3 G' : GG) : GG := fun a => match G a with | none => G' a | some _ => G3 a
theorem W3.g3 {G1 G2 G3 G G' : GG} (h : W3 G1 G2 G3 G) (hs : sG G G') : W3 G1 G2 (gG G G3 G') G' := by
  obtain ⟨⟨s1, s2, s3⟩, d12, d13, d23⟩ := h
  refine ⟨⟨fun a e ha => hs a e (s1 a e ha), fun a e ha => hs a e (s2 a e ha), fun a e ha => ?_⟩, d12, fun a e ha => ?_, fun a e ha => ?_⟩
  · unfold gG at ha
    cases hG : G a with
    | none => rw [hG] at ha; exact ha
    | some e1 => rw [hG] at ha; exact hs a e (s3 a e ha)
  · unfold gG; rw [s1 a e ha]; exact d13 a e ha
  · unfold gG; rw [s2 a e ha]; exact d23 a e ha
theorem gG_new {G G3 G' : GG} {a : Nat} (h : G a = none) : gG G G3 G' a = G' a := by unfold gG; rw [h]
theorem gG_old {G G3 G' : GG} {a : Nat} {e : va_E} (s3 : sG G3 G) (h : G3 a = some e) : gG G G3 G' a = some e := by unfold gG; rw [s3 a e h]; exact h
theorem W3.x3 {G1 G2 G3 G : GG} (h : W3 G1 G2 G3 G) : W3 G1 G2 nG G :=
  ⟨⟨h.1.1, h.1.2.1, fun a e ha => by cases ha⟩, h.2.1, fun a e ha => rfl, fun a e ha => rfl⟩
/-- the class in its world -/
def LX (cy : Nat → ClassId) (x : Nat) (b : Int32) (nt nf nc nn : Nat) (T E C N : Rw) (G2 G3 G : GG) : Prop := ∃ (G1 : GG) (ad : Nat → Nat → Nat) (KT KF KC : Rw), RX cy x ad b nt nf nc nn T E C N KT KF KC G1 ∧ W3 G1 G2 G3 G
/-- Sim in its world -/
def LM (cy : Nat → ClassId) (s : Nat) (b : Int32) (nt nf nc nn : Nat) (S F C N : Rw) (G2 : GG) : Prop := ∃ (rt : Nat → Nat) (rd : Nat → Nat → Nat), RS cy s rt rd b nt nf nc nn S F C N G2
/-! contracts of methods that read the script -/
def g_PcS (l : Launch) (D : va_G) (cy : Nat → ClassId) (G : GG) (sz : Nat) (av : List Value) (b L : Nat) (xs : Nat → Int32) : Array Value → State → Prop := va_Pc av (fun U => U.heap.size = sz ∧ (∀ a e, G a = some e → va_at D vwCl (a, e) U.heap) ∧ g_K D cy U ∧ g_XF l (g_A G sz) U U.heap ∧ va_X b L xs U U.heap ∧ b < sz ∧ G b = none)
def CtrS (l : Launch) (D : va_G) (cy : Nat → ClassId) (y : MethodName) (b : ByteArray) (n : Nat) (ret : Option FieldType) (rm : Room) (av : List Value) (G : GG) (sb L : Nat) (xs : Nat → Int32) (post : Option Value → GG → Prop) : Prop :=
  ∀ sz, Met l y (wsU y b n ret) rm (g_PcS l D cy G sz av sb L xs) (g_Qc D (g_A G sz) post) rm.cells rm.slots (g_A G sz)
theorem g_blindS (l : Launch) (D : va_G) (cy : Nat → ClassId) (G : GG) (sz : Nat) (av : List Value) (b L : Nat) (xs : Nat → Int32) : FrameBlind (g_PcS l D cy G sz av b L xs) := by
  intro a U g mk h
  obtain ⟨h0, h1, h2, h3, h4, h5, h6⟩ := h
  exact ⟨h0, h1, h2, g_K.moved (u := U) (U := U.calling g mk a) (Vm.Alike.refl U.vm) h3, g_XF.same (u := U) (U := U.calling g mk a) rfl h4, va_X.moved (u := U) (U := U.calling g mk a) (Vm.Alike.refl U.vm) h5, h6⟩
theorem CtrS.mk {l : Launch} {D : va_G} {cy : Nat → ClassId} {y : MethodName} {b : ByteArray} {n : Nat} {ret : Option FieldType} {rm : Room} {av : List Value} {G : GG} {sb L : Nat} {xs : Nat → Int32} {post : Option Value → GG → Prop} (hy : plainName y.cls = true) (hn : (lg_sl av).length ≤ n)
    (body : ∀ κ : Kx, g_OK κ l D cy y n b rm ret → g_RT κ post rm → g_XX κ → g_SC κ sb L xs → PG κ n 0 0 G (lv_args 0 av) 0 []) : CtrS l D cy y b n ret rm av G sb L xs post := by
  intro sz
  refine Met.ofW (cc := b) (maxL := n) (ret := ret) hy rfl ?_
  intro p e s m args below meth c s₁ B hml hv
  obtain ⟨rfl, hsz, hP, hK, hF, hX, hbl, hbG⟩ := hv
  have hts := atoms_spec (ws := wsU y b n ret) B.pre
  subst hsz
  have hb := body (p, l, e, rm, s, m, av.toArray, below, meth, c, D, cy, g_A G s.heap.size, s.heap, MQ below (g_Qc D (g_A G s.heap.size) post) av.toArray s rm.cells rm.slots (g_A G s.heap.size))
    ⟨⟨rfl, rfl, rfl⟩, B.exec, B.bytes, hml, findClass_of_methodNamed B.named, fun w hw => hts w (List.mem_cons_of_mem _ hw), hK, fun q h => Or.inr h, rfl, B.returns, B.notSynchronized, (name_of_methodNamed B.named B.method).1⟩ ⟨rfl, rfl⟩ hF
    ⟨hX, hbl, fun z => by
      rcases z with ⟨e9, h9⟩ | h9
      · rw [hbG] at h9; cases h9
      · exact absurd hbl (Nat.not_lt.mpr h9)⟩
  have hl := lv_entry av hn
  rw [lg_entry_eq]
  exact hb s.heap [] _ ⟨fun a e h => ⟨hP a e h, Or.inl ⟨e, h⟩⟩, va_S.rf⟩ hl
theorem g_callSS {κ : Kx} {l0 : Launch} {D0 : va_G} {cy0 : Nat → ClassId} {y y' : MethodName} {nL ce sl n' index k : Nat} {cc b' : ByteArray} {rm rm' : Room} {ret ret' : Option FieldType} {G : GG} {lv : LV} {pc : Nat} {st rest As : List Value} {sb L : Nat} {xs : Nat → Int32} {post : Option Value → GG → Prop} (C : g_OK κ l0 D0 cy0 y nL cc rm ret) (hX : g_XX κ) (hS : g_SC κ sb L xs) (hm : g_mS y' b' n' ret' k) (hlink : Cond.methodLink y.cls index y' ∈ lw_T) (hM : CtrS l0 D0 cy0 y' b' n' ret' rm' As G sb L xs post) (hn : As.length = k) (hr : g_room rm rm' n' ce sl) (hst : st = As.reverse ++ rest) (hcat : (rest.map fun v => v.category).sum ≤ 8) (hd : decode cc pc = .ok (.invokestatic index, 3))
    (kk : ∀ r G', post r G' → PG κ nL (ce + rm'.cells) (sl + rm'.slots) G' lv (pc + 3) (r.toList ++ rest)) : PG κ nL ce sl G lv pc st := by
  obtain ⟨p, l, e, R, s, m, args, below, meth, c, D, cy, A, H0, Q⟩ := κ
  obtain ⟨⟨rfl, rfl, rfl⟩, h0, hb, hml, hown, hT, hK, hA, rfl, -⟩ := C
  obtain ⟨m1, m2, m3, m4, m5⟩ := hm
  obtain ⟨x1, x2, x3⟩ := hS
  intro H locs ls hw hl
  have hAG : ∀ q, g_A G H.size q → A q := fun q hq => by
    rcases hq with ⟨e, he⟩ | hq
    · exact (hw.1 q e he).2
    · exact hA q (Nat.le_trans hw.2.1 hq)
  have hGb : G sb = none := by
    cases h1 : G sb with
    | none => rfl
    | some e1 => exact absurd (hw.1 sb e1 h1).2 x3
  exact g_fin hA hw (va_runS (As := As) ⟨h0, hb, hml, hown, hT⟩ (hM H.size) ⟨g_callB hT m1 m2 m3 m4 hlink hr.1, hT _ m5⟩ ⟨g_blindS l D cy G H.size _ sb L xs, fun U hU hW => ⟨rfl, by rw [hU], fun a e h => by rw [hU]; exact (hw.1 a e h).1, g_K.moved hW.alike hK, g_XF.moved hW (fun q h1 h2 => by rw [hU]; exact hw.2.2.1 q h1 h2) hAG hX, va_X.kept (va_X.moved hW.alike x1) (by rw [hU]; exact hw.2.2.1 sb x2 x3), Nat.lt_of_lt_of_le x2 hw.2.1, hGb⟩⟩ rfl hn hl.1 hst (lv_room hcat) hd hr.2) (fun r G' hp H1 locs1 hw1 => kk r G' hp H1 locs1 ls hw1 hl)
/-! rows of references, as they grow -/
theorem oA_0 {c : ClassId} {n : Nat} {f : Nat → Nat} : (.inl (c, n, .inr (.inr (.inr (.inr (fun _ => none))))) : va_E) = oA c n f 0 := by
  unfold oA
  congr 6
theorem oA_s {c : ClassId} {n k : Nat} {f : Nat → Nat} {v : Nat} (hv : f k = v) : (.inl (c, n, .inr (.inr (.inr (.inr (va_up (fun i => if i < k then some (f i) else none) k (some v)))))) : va_E) = oA c n f (k + 1) := by
  subst hv
  unfold oA
  congr 7
  funext i
  unfold va_up
  by_cases h : i = k
  · subst h; simp
  · rw [if_neg h]
    dsimp only
    by_cases h1 : i < k
    · rw [if_pos h1, if_pos (by omega)]
    · rw [if_neg h1, if_neg (by omega)]
theorem oA_c {c : ClassId} {n k : Nat} {f g : Nat → Nat} (h : ∀ i, i < k → f i = g i) : oA c n f k = oA c n g k := by
  unfold oA
  congr 7
  funext i
  by_cases h1 : i < k
  · rw [if_pos h1, if_pos h1, h i h1]
  · rw [if_neg h1, if_neg h1]

theorem q405 : (Cond.constant "CircusLinesLaw" 7 (2147483647 : Int32) : Cond) ∈ lw_T := lw_T_in (i := 405) (by decide +kernel) rfl
theorem q398 : (Cond.constant "CircusLinesLaw" 8 (790386105 : Int32) : Cond) ∈ lw_T := lw_T_in (i := 398) (by decide +kernel) rfl
theorem y_below {v n : Int32} {m : Nat} (hn : n = nI m) (h0 : 0 < m) (h1 : m ≤ 1000) : ∃ j, j < m ∧ (v &&& 2147483647) - (v &&& 2147483647) / n * n = nI j := by
  obtain ⟨a, ha, e⟩ := pk_andE v (m := 2147483647) 31 (by decide)
  rw [e, hn, pk_rem (by omega) h0 (by omega)]
  exact ⟨a % m, Nat.mod_lt _ h0, rfl⟩
set_option maxHeartbeats 4000000 in
set_option maxRecDepth 100000 in
theorem c_L_below (l : Launch) (D : va_G) (cy : Nat → ClassId) (G : GG) (v n : Int32) (m : Nat) (hn : n = nI m) (h0 : 0 < m) (h1 : m ≤ 1000) : Ctr l D cy yL_below method_2_code 2 (some .int) kL_below [.int v, .int n] G (pI (fun v' G' => G' = G ∧ ∃ j, j < m ∧ v' = nI j)) := by
  refine Ctr.mk (by decide +kernel) (Nat.le_of_ble_eq_true rfl) ?_
  intro κ C R
  refine g_pc (pc' := 0) rfl ?_
  refine g_seg [(0, .iload_n 0, 1)] 1 [(0, .int v), (1, .int n)] [.int v] C (by decide +kernel) rfl ?_
  refine g_ldc (pc := 1) (v := 2147483647) C q405 (by decide +kernel) ?_
  refine g_seg [(3, .iand, 1), (4, .iload_n 1, 1)] 5 [(0, .int v), (1, .int n)] [.int n, .int (v &&& 2147483647)] C (by decide +kernel) rfl ?_
  refine g_irem (pc := 5) C (by decide +kernel) (by rw [hn]; exact nI_ne0 h0 (by omega)) ?_
  exact g_iret (pc := 6) C R (⟨_, rfl, rfl, y_below hn h0 h1⟩) (Nat.le_of_ble_eq_true rfl) (Nat.le_of_ble_eq_true rfl) (by decide +kernel)
set_option maxHeartbeats 4000000 in
set_option maxRecDepth 100000 in
theorem c_L_cell (l : Launch) (D : va_G) (cy : Nat → ClassId) (G : GG) (sb L : Nat) (xs : Nat → Int32) (hL : L ≤ 260) (k : Int32) (j : Nat) (hk : k = nI j) (hj : j < 1000) : CtrS l D cy yL_cell method_3_code 2 (some .int) kL_cell [.ref sb, .int k] G sb L xs (pI (fun v' G' => G' = G)) := by
  refine CtrS.mk (by decide +kernel) (Nat.le_of_ble_eq_true rfl) ?_
  intro κ C R X Z
  refine g_pc (pc' := 0) rfl ?_
  refine g_seg [(0, .iload_n 1, 1), (1, .aload_n 0, 1)] 2 [(0, .ref sb), (1, .int k)] [.ref sb, .int k] C (by decide +kernel) rfl ?_
  refine g_salen (pc := 2) C Z (by decide +kernel) ?_
  refine g_icmp_ge (pc := 3) (off := 9) 12 C (by decide +kernel) (by decide) (fun c1 => ?_) (fun c1 => ?_)
  · refine g_ldc (pc := 12) (v := 790386105) C q398 (by decide +kernel) ?_
    refine g_seg [(14, .iload_n 1, 1), (15, .iconst 3, 1), (16, .iadd, 1), (17, .imul, 1)] 18 [(0, .ref sb), (1, .int k)] [.int (790386105 * (k + 3))] C (by decide +kernel) rfl ?_
    exact g_iret (pc := 18) C R (⟨_, rfl, rfl⟩) (Nat.le_of_ble_eq_true rfl) (Nat.le_of_ble_eq_true rfl) (by decide +kernel)
  · have hjL : j < L := lp_lt hk (by omega) (by omega) c1
    refine g_seg [(6, .aload_n 0, 1), (7, .iload_n 1, 1)] 8 [(0, .ref sb), (1, .int k)] [.int k, .ref sb] C (by decide +kernel) rfl ?_
    refine g_sald (pc := 8) (j := j) C Z hk hjL (by omega) (by decide +kernel) ?_
    refine g_seg [(9, .goto 9, 3)] 18 [(0, .ref sb), (1, .int k)] [.int (xs j)] C (by decide +kernel) rfl ?_
    exact g_iret (pc := 18) C R (⟨_, rfl, rfl⟩) (Nat.le_of_ble_eq_true rfl) (Nat.le_of_ble_eq_true rfl) (by decide +kernel)
set_option maxHeartbeats 4000000 in
set_option maxRecDepth 100000 in
theorem c_X5_more (l : Launch) (D : va_G) (cy : Nat → ClassId) (G : GG) (a r n : Nat) (f : Nat → Nat) (hn : n ≤ 20) (ha : G a = some (oA (cy 5) n f n)) (he : ∀ i, i < n → ∃ w g, G (f i) = some (.inl (cy 0, w, .inl g))) (hr : ∃ w g, G r = some (.inl (cy 0, w, .inl g))) : Ctr l D cy yX5_more prog_7_method_2_code 4 (some (.array (.array .int))) kX5_more [.ref a, .ref r] G (pA (fun v G' => ∃ q, v = .ref q ∧ G q = none ∧ G' = g_up G q (oA (cy 5) (n + 1) (fun i => if i < n then f i else r) (n + 1)))) := by
  refine Ctr.mk (by decide +kernel) (Nat.le_of_ble_eq_true rfl) ?_
  intro κ C R
  refine g_pc (pc' := 0) rfl ?_
  refine g_seg [(0, .aload_n 0, 1)] 1 [(0, .ref a), (1, .ref r)] [.ref a] C (by decide +kernel) rfl ?_
  refine g_alenI (pc := 1) C ha (by decide +kernel) ?_
  refine g_seg [(2, .iconst 1, 1), (3, .iadd, 1)] 4 [(0, .ref a), (1, .ref r)] [.int ((nI n) + 1)] C (by decide +kernel) rfl ?_
  refine g_anewA (pc := 4) (N' := n + 1) C q409 (by rw [nI_1]; exact nI_ge0 (by omega)) (by rw [nI_1]; exact nI_clamp (by omega)) (by omega) (Nat.le_of_ble_eq_true rfl) (by show 0 + (n + 1) ≤ 21; omega) (by decide +kernel) (fun q hq => ?_)
  rw [oA_0 (f := f)]
  have hqa : a ≠ q := g_fresh hq ha
  have haG : ∀ e9, g_up G q e9 a = some (oA (cy 5) n f n) := fun e9 => by rw [g_up_ne hqa]; exact ha
  have heG : ∀ e9 i, i < n → ∃ w9 g9, g_up G q e9 (f i) = some (.inl (cy 0, w9, .inl g9)) := fun e9 i hi => by obtain ⟨w9, g9, h9⟩ := he i hi; exact ⟨w9, g9, by rw [g_up_ne (g_fresh hq h9)]; exact h9⟩
  have hrG : ∀ e9, ∃ w9 g9, g_up G q e9 r = some (.inl (cy 0, w9, .inl g9)) := fun e9 => by obtain ⟨w9, g9, h9⟩ := hr; exact ⟨w9, g9, by rw [g_up_ne (g_fresh hq h9)]; exact h9⟩
  refine g_seg [(7, .astore_n 2, 1), (8, .iconst 0, 1), (9, .istore_n 3, 1)] 10 [(3, .int 0), (2, .ref q), (0, .ref a), (1, .ref r)] [] C (by decide +kernel) rfl ?_
  refine g_subp [2, 3, 1, 0] (lv' := [(0, .ref a), (1, .ref r), (2, .ref q), (3, .int 0)]) rfl ?_
  have lp1 : ∀ (m k : Nat) (xk : Int32), n + 1 ≤ k + m → k ≤ n → xk = nI k → PG κ 4 (0 + 1) (0 + (n + 1)) (g_up G q (oA (cy 5) (n + 1) f k)) [(0, .ref a), (1, .ref r), (2, .ref q), (3, .int xk)] 10 [] := by
    intro m
    induction m with
    | zero => intro k xk h1 h2; intros; exact absurd h1 (by omega)
    | succ m ih =>
      intro k xk hm hk hx
      refine g_seg [(10, .iload_n 3, 1), (11, .aload_n 0, 1)] 12 [(0, .ref a), (1, .ref r), (2, .ref q), (3, .int xk)] [.ref a, .int xk] C (by decide +kernel) rfl ?_
      refine g_alenI (pc := 12) C (haG _) (by decide +kernel) ?_
      refine g_icmp_ge (pc := 13) (off := 15) 28 C (by decide +kernel) (by decide) (fun c2 => ?_) (fun c2 => ?_)
      · have hk8 : k = n := by have := lp_ge (n := n) hx (by omega) (by omega) c2; omega
        refine g_seg [(28, .aload_n 2, 1), (29, .aload_n 0, 1)] 30 [(0, .ref a), (1, .ref r), (2, .ref q), (3, .int xk)] [.ref a, .ref q] C (by decide +kernel) rfl ?_
        refine g_alenI (pc := 30) C (haG _) (by decide +kernel) ?_
        refine g_seg [(31, .aload_n 1, 1)] 32 [(0, .ref a), (1, .ref r), (2, .ref q), (3, .int xk)] [.ref r, .int (nI n), .ref q] C (by decide +kernel) rfl ?_
        obtain ⟨w9, g9, h9⟩ := hrG (oA (cy 5) (n + 1) f k)
        refine g_aastI (pc := 32) (j := n) C (g_up_self ..) h9 rfl (by omega) (by omega) (by decide +kernel) ?_
        rw [g_up_up]
        refine g_seg [(33, .aload_n 2, 1)] 34 [(0, .ref a), (1, .ref r), (2, .ref q), (3, .int xk)] [.ref q] C (by decide +kernel) rfl ?_
        subst hk8
        exact g_aret (pc := 34) C R (Or.inr ⟨_, rfl⟩) (Or.inr ⟨_, rfl⟩) (⟨_, rfl, q, rfl, hq, by rw [show (fun i => if i < k then some (f i) else none) = (fun i => if i < k then some ((fun i => if i < k then f i else r) i) else none) from funext fun i => by by_cases h9 : i < k <;> simp [h9], oA_s (by simp)]⟩) (Nat.le_of_ble_eq_true rfl) (by show 0 + (k + 1) ≤ 21; omega) (by decide +kernel)
      · have hk8 : k < n := lp_lt (n := n) hx (by omega) (by omega) c2
        refine g_seg [(16, .aload_n 2, 1), (17, .iload_n 3, 1), (18, .aload_n 0, 1), (19, .iload_n 3, 1)] 20 [(0, .ref a), (1, .ref r), (2, .ref q), (3, .int xk)] [.int xk, .ref a, .int xk, .ref q] C (by decide +kernel) rfl ?_
        refine g_aaldS (pc := 20) (j := k) C (haG _) hx hk8 (by omega) (by decide +kernel) ?_
        obtain ⟨w9, g9, h9⟩ := heG (oA (cy 5) (n + 1) f k) k hk8
        refine g_aastI (pc := 21) (j := k) C (g_up_self ..) h9 hx (by omega) (by omega) (by decide +kernel) ?_
        rw [g_up_up, oA_s rfl]
        refine g_seg [(22, .iinc 3 1, 3), (25, .goto (-15), 3)] 10 [(3, .int (xk + 1)), (0, .ref a), (1, .ref r), (2, .ref q)] [] C (by decide +kernel) rfl ?_
        refine g_subp [1, 2, 3, 0] (lv' := [(0, .ref a), (1, .ref r), (2, .ref q), (3, .int (xk + 1))]) rfl ?_
        exact ih (k + 1) (xk + 1) (by omega) (by omega) (lp_s hx)
  exact lp1 (n + 1) 0 0 (by omega) (by omega) (nI_0.symm)
def rt4 (a b c d : Nat) : Nat → Nat := fun i => match i with | 0 => a | 1 => b | 2 => c | _ => d
theorem RS_zero {cy : Nat → ClassId} {s q0 q1 q2 q3 : Nat} {G : GG} (h : G s = some (.inr (5, [.ref q0, .ref q1, .ref q2, .ref q3, .int 0]))) (h0 : G q0 = some (oA (cy 5) 0 (fun _ => 0) 0)) (h1 : G q1 = some (oA (cy 5) 0 (fun _ => 0) 0)) (h2 : G q2 = some (oA (cy 5) 0 (fun _ => 0) 0)) (h3 : G q3 = some (oA (cy 5) 0 (fun _ => 0) 0)) : RS cy s (rt4 q0 q1 q2 q3) (fun _ _ => 0) 0 0 0 0 0 zR zR zR zR G :=
  ⟨⟨h, h0, h1, h2, h3⟩, ⟨fun i hi => absurd hi (by omega), fun i hi => absurd hi (by omega), fun i hi => absurd hi (by omega), fun i hi => absurd hi (by omega)⟩, ⟨fun i j hi => absurd hi (by omega), fun i j hi => absurd hi (by omega), fun i j hi => absurd hi (by omega), fun i j hi => absurd hi (by omega)⟩, by omega⟩
set_option maxHeartbeats 4000000 in
set_option maxRecDepth 100000 in
theorem c_X5_init (l : Launch) (D : va_G) (cy : Nat → ClassId) (G : GG) (s : Nat) (hX0 : G s = some (.inr (5, [.null, .null, .null, .null, .int 0]))) : Ctr l D cy yX5_init prog_7_method_1_code 1 none kX5_init [.ref s] G (pV (fun G' => ∃ rt rd, RS cy s rt rd 0 0 0 0 0 zR zR zR zR G')) := by
  refine Ctr.mk (by decide +kernel) (Nat.le_of_ble_eq_true rfl) ?_
  intro κ C R
  refine g_pc (pc' := 0) rfl ?_
  refine g_seg [(0, .aload_n 0, 1)] 1 [(0, .ref s)] [.ref s] C (by decide +kernel) rfl ?_
  refine g_obj (pc := 1) C q614 q40 q41 (Nat.le_of_ble_eq_true rfl) (Nat.le_of_ble_eq_true rfl) (by decide +kernel) ?_
  refine g_seg [(4, .aload_n 0, 1), (5, .iconst 0, 1)] 6 [(0, .ref s)] [.int 0, .ref s] C (by decide +kernel) rfl ?_
  refine g_anewA (pc := 6) (N' := 0) C q409 (by decide) (by decide) (by decide) (Nat.le_of_ble_eq_true rfl) (Nat.le_of_ble_eq_true rfl) (by decide +kernel) (fun q1 hq2 => ?_)
  have hd_q1 := g_fresh hq2 hX0
  refine g_abs (P := fun G9 => G9 s = some (.inr (5, [.null, .null, .null, .null, .int 0])) ∧ G9 q1 = some (oA (cy 5) 0 (fun _ => 0) 0)) ⟨by rw [g_up_ne hd_q1]; exact hX0, by rw [g_up_self]; exact congrArg some oA_0⟩ (fun Gi3 hg => ?_)
  obtain ⟨hi4, hi5⟩ := hg
  refine g_putf (pc := 9) (k := 0) (v := .ref q1) (ty := (.array (.array .int))) C fl_X5_9 fp_X5_0 (hi4) rfl (by first | rfl | decide) (Nat.le_of_ble_eq_true rfl) (by decide +kernel) ?_
  refine g_abs (P := fun G9 => G9 s = some (.inr (5, [.ref q1, .null, .null, .null, .int 0])) ∧ G9 q1 = some (oA (cy 5) 0 (fun _ => 0) 0)) ⟨g_up_self .., g_oth hi5 hi4 (by simp [oA])⟩ (fun Gi6 hg => ?_)
  obtain ⟨hi7, hi8⟩ := hg
  refine g_seg [(12, .aload_n 0, 1), (13, .iconst 0, 1)] 14 [(0, .ref s)] [.int 0, .ref s] C (by decide +kernel) rfl ?_
  refine g_anewA (pc := 14) (N' := 0) C q409 (by decide) (by decide) (by decide) (Nat.le_of_ble_eq_true rfl) (Nat.le_of_ble_eq_true rfl) (by decide +kernel) (fun q9 hq10 => ?_)
  have hd_q9 := g_fresh hq10 hi7
  have hd_q1_q9 := g_fresh hq10 hi8
  refine g_abs (P := fun G9 => G9 s = some (.inr (5, [.ref q1, .null, .null, .null, .int 0])) ∧ G9 q1 = some (oA (cy 5) 0 (fun _ => 0) 0) ∧ G9 q9 = some (oA (cy 5) 0 (fun _ => 0) 0)) ⟨by rw [g_up_ne hd_q9]; exact hi7, by rw [g_up_ne hd_q1_q9]; exact hi8, by rw [g_up_self]; exact congrArg some oA_0⟩ (fun Gi11 hg => ?_)
  obtain ⟨hi12, hi13, hi14⟩ := hg
  refine g_putf (pc := 17) (k := 1) (v := .ref q9) (ty := (.array (.array .int))) C fl_X5_15 fp_X5_1 (hi12) rfl (by first | rfl | decide) (Nat.le_of_ble_eq_true rfl) (by decide +kernel) ?_
  refine g_abs (P := fun G9 => G9 s = some (.inr (5, [.ref q1, .ref q9, .null, .null, .int 0])) ∧ G9 q1 = some (oA (cy 5) 0 (fun _ => 0) 0) ∧ G9 q9 = some (oA (cy 5) 0 (fun _ => 0) 0)) ⟨g_up_self .., g_oth hi13 hi12 (by simp [oA]), g_oth hi14 hi12 (by simp [oA])⟩ (fun Gi15 hg => ?_)
  obtain ⟨hi16, hi17, hi18⟩ := hg
  refine g_seg [(20, .aload_n 0, 1), (21, .iconst 0, 1)] 22 [(0, .ref s)] [.int 0, .ref s] C (by decide +kernel) rfl ?_
  refine g_anewA (pc := 22) (N' := 0) C q409 (by decide) (by decide) (by decide) (Nat.le_of_ble_eq_true rfl) (Nat.le_of_ble_eq_true rfl) (by decide +kernel) (fun q19 hq20 => ?_)
  have hd_q19 := g_fresh hq20 hi16
  have hd_q1_q19 := g_fresh hq20 hi17
  have hd_q9_q19 := g_fresh hq20 hi18
  refine g_abs (P := fun G9 => G9 s = some (.inr (5, [.ref q1, .ref q9, .null, .null, .int 0])) ∧ G9 q1 = some (oA (cy 5) 0 (fun _ => 0) 0) ∧ G9 q9 = some (oA (cy 5) 0 (fun _ => 0) 0) ∧ G9 q19 = some (oA (cy 5) 0 (fun _ => 0) 0)) ⟨by rw [g_up_ne hd_q19]; exact hi16, by rw [g_up_ne hd_q1_q19]; exact hi17, by rw [g_up_ne hd_q9_q19]; exact hi18, by rw [g_up_self]; exact congrArg some oA_0⟩ (fun Gi21 hg => ?_)
  obtain ⟨hi22, hi23, hi24, hi25⟩ := hg
  refine g_putf (pc := 25) (k := 2) (v := .ref q19) (ty := (.array (.array .int))) C fl_X5_18 fp_X5_2 (hi22) rfl (by first | rfl | decide) (Nat.le_of_ble_eq_true rfl) (by decide +kernel) ?_
  refine g_abs (P := fun G9 => G9 s = some (.inr (5, [.ref q1, .ref q9, .ref q19, .null, .int 0])) ∧ G9 q1 = some (oA (cy 5) 0 (fun _ => 0) 0) ∧ G9 q9 = some (oA (cy 5) 0 (fun _ => 0) 0) ∧ G9 q19 = some (oA (cy 5) 0 (fun _ => 0) 0)) ⟨g_up_self .., g_oth hi23 hi22 (by simp [oA]), g_oth hi24 hi22 (by simp [oA]), g_oth hi25 hi22 (by simp [oA])⟩ (fun Gi26 hg => ?_)
  obtain ⟨hi27, hi28, hi29, hi30⟩ := hg
  refine g_seg [(28, .aload_n 0, 1), (29, .iconst 0, 1)] 30 [(0, .ref s)] [.int 0, .ref s] C (by decide +kernel) rfl ?_
  refine g_anewA (pc := 30) (N' := 0) C q409 (by decide) (by decide) (by decide) (Nat.le_of_ble_eq_true rfl) (Nat.le_of_ble_eq_true rfl) (by decide +kernel) (fun q31 hq32 => ?_)
  have hd_q31 := g_fresh hq32 hi27
  have hd_q1_q31 := g_fresh hq32 hi28
  have hd_q9_q31 := g_fresh hq32 hi29
  have hd_q19_q31 := g_fresh hq32 hi30
  refine g_abs (P := fun G9 => G9 s = some (.inr (5, [.ref q1, .ref q9, .ref q19, .null, .int 0])) ∧ G9 q1 = some (oA (cy 5) 0 (fun _ => 0) 0) ∧ G9 q9 = some (oA (cy 5) 0 (fun _ => 0) 0) ∧ G9 q19 = some (oA (cy 5) 0 (fun _ => 0) 0) ∧ G9 q31 = some (oA (cy 5) 0 (fun _ => 0) 0)) ⟨by rw [g_up_ne hd_q31]; exact hi27, by rw [g_up_ne hd_q1_q31]; exact hi28, by rw [g_up_ne hd_q9_q31]; exact hi29, by rw [g_up_ne hd_q19_q31]; exact hi30, by rw [g_up_self]; exact congrArg some oA_0⟩ (fun Gi33 hg => ?_)
  obtain ⟨hi34, hi35, hi36, hi37, hi38⟩ := hg
  refine g_putf (pc := 33) (k := 3) (v := .ref q31) (ty := (.array (.array .int))) C fl_X5_21 fp_X5_3 (hi34) rfl (by first | rfl | decide) (Nat.le_of_ble_eq_true rfl) (by decide +kernel) ?_
  refine g_abs (P := fun G9 => G9 s = some (.inr (5, [.ref q1, .ref q9, .ref q19, .ref q31, .int 0])) ∧ G9 q1 = some (oA (cy 5) 0 (fun _ => 0) 0) ∧ G9 q9 = some (oA (cy 5) 0 (fun _ => 0) 0) ∧ G9 q19 = some (oA (cy 5) 0 (fun _ => 0) 0) ∧ G9 q31 = some (oA (cy 5) 0 (fun _ => 0) 0)) ⟨g_up_self .., g_oth hi35 hi34 (by simp [oA]), g_oth hi36 hi34 (by simp [oA]), g_oth hi37 hi34 (by simp [oA]), g_oth hi38 hi34 (by simp [oA])⟩ (fun Gi39 hg => ?_)
  obtain ⟨hi40, hi41, hi42, hi43, hi44⟩ := hg
  exact g_vret (pc := 36) C R (⟨rfl, _, _, RS_zero hi40 hi41 hi42 hi43 hi44⟩) (Nat.le_of_ble_eq_true rfl) (Nat.le_of_ble_eq_true rfl) (by decide +kernel)
