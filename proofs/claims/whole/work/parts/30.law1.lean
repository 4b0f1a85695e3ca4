/-- what a wrapper leaves: the callee's world, out's new long, the rest -/
def fo (cy : Nat → ClassId) (o : Nat) (z : Int64) (G1 G G' G3 : GG) : Prop := (∀ a e, G' a = some e → G3 a = some e) ∧ (∀ a e, G a = some e → G1 a = none → a ≠ o → G3 a = some e) ∧ G3 o = some (.inl (cy 6, 1, .inr (.inl (fun _ => z)))) ∧ ∀ a e, G' a = some e → (∃ e1, G1 a = some e1) ∨ G a = none
theorem fr_out {cy : Nat → ClassId} {o : Nat} {z : Int64} {G1 G G' G2 : GG} {e0 : va_E} (ho : G o = some e0) (ho1 : G1 o = none) (h : fr G1 G G' G2) : fo cy o z G1 G G' (g_up G2 o (.inl (cy 6, 1, .inr (.inl (fun _ => z))))) := by
  refine ⟨fun a e ha => ?_, fun a e ha h1 hne => ?_, g_up_self .., h.2.2⟩
  · have hne : a ≠ o := by
      intro q
      subst q
      rcases h.2.2 a e ha with ⟨e1, h1⟩ | h1
      · rw [ho1] at h1; cases h1
      · rw [ho] at h1; cases h1
    rw [g_up_ne hne]; exact h.1 a e ha
  · rw [g_up_ne hne]; exact h.2.1 a e ha h1
set_option maxHeartbeats 4000000 in
set_option maxRecDepth 100000 in
theorem c_L_rig (l : Launch) (D : va_G) (cy : Nat → ClassId) {G G1 : GG} {x o : Nat} {fs : List Value} {f : Nat → Int64} {P : Int32 → GG → Prop} {px : String → GG → Prop} (p0 p1 p2 p3 : Int32) (hM : CtrX l D cy yX4_rig prog_1_method_2_code 6 (some .int) kX4_rig [.ref x, .int p0, .int p1, .int p2, .int p3] G1 (pI P) px) (hs : ∀ a e, G1 a = some e → G a = some e) (hx : G1 x = some (.inr (4, fs))) (ho : G o = some (.inl (cy 6, 1, .inr (.inl f)))) (ho1 : G1 o = none) (hpx : ∀ E G', px E G' → E = "java/lang/IllegalArgumentException" ∨ E = "java/lang/IllegalStateException") : CtrW l D cy yL_rig method_3_code 7 (some .int) [(0, 14, 17, 13), (0, 14, 21, 15)] kL_rig [.ref x, .int p0, .int p1, .int p2, .int p3, .ref o] G (pI (fun v G3 => (v = 0 ∧ ∃ z G', P z G' ∧ fo cy o z.toInt64 G1 G G' G3) ∨ ∃ E G', px E G' ∧ fr G1 G G' G3 ∧ v = (if E = "java/lang/IllegalArgumentException" then 1 else (if E = "java/lang/IllegalStateException" then 2 else 0)))) := by
  refine CtrW.mk (by decide +kernel) (Nat.le_of_ble_eq_true rfl) ?_
  intro κ C R
  refine g_pc (pc' := 0) rfl ?_
  refine g_seg [(0, .aload 5, 2), (2, .iconst 0, 1), (3, .aload_n 0, 1), (4, .iload_n 1, 1), (5, .iload_n 2, 1), (6, .iload_n 3, 1), (7, .iload 4, 2)] 9 [(0, .ref x), (1, .int p0), (2, .int p1), (3, .int p2), (4, .int p3), (5, .ref o)] [.int p3, .int p2, .int p1, .int p0, .ref x, .int 0, .ref o] C (by decide +kernel) rfl ?_
  refine g_callVC (pc := 9) C R mV_X4_rig q193 (hs _ _ hx) rfl rfl (CtrX.frame hM hs) rfl ⟨⟨(Nat.le_of_ble_eq_true rfl), (Nat.le_of_ble_eq_true rfl)⟩, (Nat.le_of_ble_eq_true rfl), (Nat.le_of_ble_eq_true rfl)⟩ rfl (Nat.le_of_ble_eq_true rfl) (by decide +kernel) (fun E G2 h9 => ?_) (fun r G2 h9 => ?_)
  · obtain ⟨G', hp, hf⟩ := h9
    rcases hpx E G' hp with rfl | rfl
    · refine ⟨17, ⟨[], ⟨0, 14, 17, 13⟩, [⟨0, 14, 21, 15⟩], rfl, rfl, rfl, by decide, q191, by decide, fun z hz => by cases hz⟩, fun q => ?_⟩
      refine g_seg [(17, .astore 6, 2), (19, .iconst 1, 1)] 20 [(6, .ref q), (0, .ref x), (1, .int p0), (2, .int p1), (3, .int p2), (4, .int p3), (5, .ref o)] [.int 1] C (by decide +kernel) rfl ?_
      exact g_iret (pc := 20) C R.rt (⟨_, rfl, Or.inr ⟨_, G', hp, hf, rfl⟩⟩) (Nat.le_of_ble_eq_true rfl) (Nat.le_of_ble_eq_true rfl) (by decide +kernel)
    · refine ⟨21, ⟨[⟨0, 14, 17, 13⟩], ⟨0, 14, 21, 15⟩, [], rfl, rfl, rfl, by decide, q192, by decide, fun z hz => by simp only [List.mem_cons, List.mem_nil_iff, or_false] at hz; rcases hz with rfl; exact ⟨by decide, "java/lang/IllegalArgumentException", by decide, by decide, q191⟩⟩, fun q => ?_⟩
      refine g_seg [(21, .astore 6, 2), (23, .iconst 2, 1)] 24 [(6, .ref q), (0, .ref x), (1, .int p0), (2, .int p1), (3, .int p2), (4, .int p3), (5, .ref o)] [.int 2] C (by decide +kernel) rfl ?_
      exact g_iret (pc := 24) C R.rt (⟨_, rfl, Or.inr ⟨_, G', hp, hf, rfl⟩⟩) (Nat.le_of_ble_eq_true rfl) (Nat.le_of_ble_eq_true rfl) (by decide +kernel)
  · obtain ⟨G', ⟨v, rfl, hp⟩, hf⟩ := h9
    show PG κ 7 (0 + kX4_rig.cells) (0 + kX4_rig.slots) G2 [(0, .ref x), (1, .int p0), (2, .int p1), (3, .int p2), (4, .int p3), (5, .ref o)] 12 [.int v, .int 0, .ref o]
    refine g_seg [(12, .i2l, 1)] 13 [(0, .ref x), (1, .int p0), (2, .int p1), (3, .int p2), (4, .int p3), (5, .ref o)] [.long v.toInt64, .int 0, .ref o] C (by decide +kernel) rfl ?_
    refine g_lastM (pc := 13) C (hf.2.1 o _ ho ho1) rfl (by decide +kernel) ?_
    refine g_seg [(14, .goto 11, 3), (25, .iconst 0, 1)] 26 [(0, .ref x), (1, .int p0), (2, .int p1), (3, .int p2), (4, .int p3), (5, .ref o)] [.int 0] C (by decide +kernel) rfl ?_
    exact g_iret (pc := 26) C R.rt (⟨_, rfl, Or.inl ⟨rfl, v, G', hp, fr_out ho ho1 hf⟩⟩) (Nat.le_of_ble_eq_true rfl) (Nat.le_of_ble_eq_true rfl) (by decide +kernel)
set_option maxHeartbeats 4000000 in
set_option maxRecDepth 100000 in
theorem c_L_weigh (l : Launch) (D : va_G) (cy : Nat → ClassId) {G G1 : GG} {x o : Nat} {fs : List Value} {f : Nat → Int64} {P : Int32 → GG → Prop} {px : String → GG → Prop} (p0 p1 : Int32) (hM : CtrX l D cy yX4_weigh prog_1_method_3_code 5 (some .int) kX4_weigh [.ref x, .int p0, .int p1] G1 (pI P) px) (hs : ∀ a e, G1 a = some e → G a = some e) (hx : G1 x = some (.inr (4, fs))) (ho : G o = some (.inl (cy 6, 1, .inr (.inl f)))) (ho1 : G1 o = none) (hpx : ∀ E G', px E G' → E = "java/lang/IndexOutOfBoundsException" ∨ E = "java/lang/IllegalArgumentException" ∨ E = "java/lang/IllegalStateException") : CtrW l D cy yL_weigh method_4_code 5 (some .int) [(0, 10, 13, 21), (0, 10, 17, 13), (0, 10, 21, 15)] kL_weigh [.ref x, .int p0, .int p1, .ref o] G (pI (fun v G3 => (v = 0 ∧ ∃ z G', P z G' ∧ fo cy o z.toInt64 G1 G G' G3) ∨ ∃ E G', px E G' ∧ fr G1 G G' G3 ∧ v = (if E = "java/lang/IndexOutOfBoundsException" then 1 else (if E = "java/lang/IllegalArgumentException" then 2 else (if E = "java/lang/IllegalStateException" then 3 else 0))))) := by
  refine CtrW.mk (by decide +kernel) (Nat.le_of_ble_eq_true rfl) ?_
  intro κ C R
  refine g_pc (pc' := 0) rfl ?_
  refine g_seg [(0, .aload_n 3, 1), (1, .iconst 0, 1), (2, .aload_n 0, 1), (3, .iload_n 1, 1), (4, .iload_n 2, 1)] 5 [(0, .ref x), (1, .int p0), (2, .int p1), (3, .ref o)] [.int p1, .int p0, .ref x, .int 0, .ref o] C (by decide +kernel) rfl ?_
  refine g_callVC (pc := 5) C R mV_X4_weigh q324 (hs _ _ hx) rfl rfl (CtrX.frame hM hs) rfl ⟨⟨(Nat.le_of_ble_eq_true rfl), (Nat.le_of_ble_eq_true rfl)⟩, (Nat.le_of_ble_eq_true rfl), (Nat.le_of_ble_eq_true rfl)⟩ rfl (Nat.le_of_ble_eq_true rfl) (by decide +kernel) (fun E G2 h9 => ?_) (fun r G2 h9 => ?_)
  · obtain ⟨G', hp, hf⟩ := h9
    rcases hpx E G' hp with rfl | rfl | rfl
    · refine ⟨13, ⟨[], ⟨0, 10, 13, 21⟩, [⟨0, 10, 17, 13⟩, ⟨0, 10, 21, 15⟩], rfl, rfl, rfl, by decide, q323, by decide, fun z hz => by cases hz⟩, fun q => ?_⟩
      refine g_seg [(13, .astore 4, 2), (15, .iconst 1, 1)] 16 [(4, .ref q), (0, .ref x), (1, .int p0), (2, .int p1), (3, .ref o)] [.int 1] C (by decide +kernel) rfl ?_
      exact g_iret (pc := 16) C R.rt (⟨_, rfl, Or.inr ⟨_, G', hp, hf, rfl⟩⟩) (Nat.le_of_ble_eq_true rfl) (Nat.le_of_ble_eq_true rfl) (by decide +kernel)
    · refine ⟨17, ⟨[⟨0, 10, 13, 21⟩], ⟨0, 10, 17, 13⟩, [⟨0, 10, 21, 15⟩], rfl, rfl, rfl, by decide, q191, by decide, fun z hz => by simp only [List.mem_cons, List.mem_nil_iff, or_false] at hz; rcases hz with rfl; exact ⟨by decide, "java/lang/IndexOutOfBoundsException", by decide, by decide, q323⟩⟩, fun q => ?_⟩
      refine g_seg [(17, .astore 4, 2), (19, .iconst 2, 1)] 20 [(4, .ref q), (0, .ref x), (1, .int p0), (2, .int p1), (3, .ref o)] [.int 2] C (by decide +kernel) rfl ?_
      exact g_iret (pc := 20) C R.rt (⟨_, rfl, Or.inr ⟨_, G', hp, hf, rfl⟩⟩) (Nat.le_of_ble_eq_true rfl) (Nat.le_of_ble_eq_true rfl) (by decide +kernel)
    · refine ⟨21, ⟨[⟨0, 10, 13, 21⟩, ⟨0, 10, 17, 13⟩], ⟨0, 10, 21, 15⟩, [], rfl, rfl, rfl, by decide, q192, by decide, fun z hz => by simp only [List.mem_cons, List.mem_nil_iff, or_false] at hz; rcases hz with rfl | rfl; exact ⟨by decide, "java/lang/IndexOutOfBoundsException", by decide, by decide, q323⟩; exact ⟨by decide, "java/lang/IllegalArgumentException", by decide, by decide, q191⟩⟩, fun q => ?_⟩
      refine g_seg [(21, .astore 4, 2), (23, .iconst 3, 1)] 24 [(4, .ref q), (0, .ref x), (1, .int p0), (2, .int p1), (3, .ref o)] [.int 3] C (by decide +kernel) rfl ?_
      exact g_iret (pc := 24) C R.rt (⟨_, rfl, Or.inr ⟨_, G', hp, hf, rfl⟩⟩) (Nat.le_of_ble_eq_true rfl) (Nat.le_of_ble_eq_true rfl) (by decide +kernel)
  · obtain ⟨G', ⟨v, rfl, hp⟩, hf⟩ := h9
    show PG κ 5 (0 + kX4_weigh.cells) (0 + kX4_weigh.slots) G2 [(0, .ref x), (1, .int p0), (2, .int p1), (3, .ref o)] 8 [.int v, .int 0, .ref o]
    refine g_seg [(8, .i2l, 1)] 9 [(0, .ref x), (1, .int p0), (2, .int p1), (3, .ref o)] [.long v.toInt64, .int 0, .ref o] C (by decide +kernel) rfl ?_
    refine g_lastM (pc := 9) C (hf.2.1 o _ ho ho1) rfl (by decide +kernel) ?_
    refine g_seg [(10, .goto 15, 3), (25, .iconst 0, 1)] 26 [(0, .ref x), (1, .int p0), (2, .int p1), (3, .ref o)] [.int 0] C (by decide +kernel) rfl ?_
    exact g_iret (pc := 26) C R.rt (⟨_, rfl, Or.inl ⟨rfl, v, G', hp, fr_out ho ho1 hf⟩⟩) (Nat.le_of_ble_eq_true rfl) (Nat.le_of_ble_eq_true rfl) (by decide +kernel)
set_option maxHeartbeats 4000000 in
set_option maxRecDepth 100000 in
theorem c_L_mend (l : Launch) (D : va_G) (cy : Nat → ClassId) {G G1 : GG} {x o : Nat} {fs : List Value} {f : Nat → Int64} {P : Int32 → GG → Prop} {px : String → GG → Prop} (p0 : Int32) (hM : CtrX l D cy yX4_mend prog_1_method_4_code 4 (some .int) kX4_mend [.ref x, .int p0] G1 (pI P) px) (hs : ∀ a e, G1 a = some e → G a = some e) (hx : G1 x = some (.inr (4, fs))) (ho : G o = some (.inl (cy 6, 1, .inr (.inl f)))) (ho1 : G1 o = none) (hpx : ∀ E G', px E G' → E = "java/lang/IndexOutOfBoundsException") : CtrW l D cy yL_mend method_5_code 4 (some .int) [(0, 9, 12, 21)] kL_mend [.ref x, .int p0, .ref o] G (pI (fun v G3 => (v = 0 ∧ ∃ z G', P z G' ∧ fo cy o z.toInt64 G1 G G' G3) ∨ ∃ E G', px E G' ∧ fr G1 G G' G3 ∧ v = (if E = "java/lang/IndexOutOfBoundsException" then 1 else 0))) := by
  refine CtrW.mk (by decide +kernel) (Nat.le_of_ble_eq_true rfl) ?_
  intro κ C R
  refine g_pc (pc' := 0) rfl ?_
  refine g_seg [(0, .aload_n 2, 1), (1, .iconst 0, 1), (2, .aload_n 0, 1), (3, .iload_n 1, 1)] 4 [(0, .ref x), (1, .int p0), (2, .ref o)] [.int p0, .ref x, .int 0, .ref o] C (by decide +kernel) rfl ?_
  refine g_callVC (pc := 4) C R mV_X4_mend q357 (hs _ _ hx) rfl rfl (CtrX.frame hM hs) rfl ⟨⟨(Nat.le_of_ble_eq_true rfl), (Nat.le_of_ble_eq_true rfl)⟩, (Nat.le_of_ble_eq_true rfl), (Nat.le_of_ble_eq_true rfl)⟩ rfl (Nat.le_of_ble_eq_true rfl) (by decide +kernel) (fun E G2 h9 => ?_) (fun r G2 h9 => ?_)
  · obtain ⟨G', hp, hf⟩ := h9
    have hE := hpx E G' hp
    subst hE
    refine ⟨12, ⟨[], ⟨0, 9, 12, 21⟩, [], rfl, rfl, rfl, by decide, q323, by decide, fun z hz => by cases hz⟩, fun q => ?_⟩
    refine g_seg [(12, .astore_n 3, 1), (13, .iconst 1, 1)] 14 [(3, .ref q), (0, .ref x), (1, .int p0), (2, .ref o)] [.int 1] C (by decide +kernel) rfl ?_
    exact g_iret (pc := 14) C R.rt (⟨_, rfl, Or.inr ⟨_, G', hp, hf, rfl⟩⟩) (Nat.le_of_ble_eq_true rfl) (Nat.le_of_ble_eq_true rfl) (by decide +kernel)
  · obtain ⟨G', ⟨v, rfl, hp⟩, hf⟩ := h9
    show PG κ 4 (0 + kX4_mend.cells) (0 + kX4_mend.slots) G2 [(0, .ref x), (1, .int p0), (2, .ref o)] 7 [.int v, .int 0, .ref o]
    refine g_seg [(7, .i2l, 1)] 8 [(0, .ref x), (1, .int p0), (2, .ref o)] [.long v.toInt64, .int 0, .ref o] C (by decide +kernel) rfl ?_
    refine g_lastM (pc := 8) C (hf.2.1 o _ ho ho1) rfl (by decide +kernel) ?_
    refine g_seg [(9, .goto 6, 3), (15, .iconst 0, 1)] 16 [(0, .ref x), (1, .int p0), (2, .ref o)] [.int 0] C (by decide +kernel) rfl ?_
    exact g_iret (pc := 16) C R.rt (⟨_, rfl, Or.inl ⟨rfl, v, G', hp, fr_out ho ho1 hf⟩⟩) (Nat.le_of_ble_eq_true rfl) (Nat.le_of_ble_eq_true rfl) (by decide +kernel)
set_option maxHeartbeats 4000000 in
set_option maxRecDepth 100000 in
theorem c_L_spread (l : Launch) (D : va_G) (cy : Nat → ClassId) {G G1 : GG} {x o : Nat} {fs : List Value} {f : Nat → Int64} {P : Int32 → GG → Prop} {px : String → GG → Prop} (p0 p1 : Int32) (hM : CtrX l D cy yX4_spread prog_1_method_5_code 4 (some .int) kX4_spread [.ref x, .int p0, .int p1] G1 (pI P) px) (hs : ∀ a e, G1 a = some e → G a = some e) (hx : G1 x = some (.inr (4, fs))) (ho : G o = some (.inl (cy 6, 1, .inr (.inl f)))) (ho1 : G1 o = none) (hpx : ∀ E G', px E G' → E = "java/lang/IllegalArgumentException" ∨ E = "java/lang/IllegalStateException") : CtrW l D cy yL_spread method_6_code 5 (some .int) [(0, 10, 13, 13), (0, 10, 17, 15)] kL_spread [.ref x, .int p0, .int p1, .ref o] G (pI (fun v G3 => (v = 0 ∧ ∃ z G', P z G' ∧ fo cy o z.toInt64 G1 G G' G3) ∨ ∃ E G', px E G' ∧ fr G1 G G' G3 ∧ v = (if E = "java/lang/IllegalArgumentException" then 1 else (if E = "java/lang/IllegalStateException" then 2 else 0)))) := by
  refine CtrW.mk (by decide +kernel) (Nat.le_of_ble_eq_true rfl) ?_
  intro κ C R
  refine g_pc (pc' := 0) rfl ?_
  refine g_seg [(0, .aload_n 3, 1), (1, .iconst 0, 1), (2, .aload_n 0, 1), (3, .iload_n 1, 1), (4, .iload_n 2, 1)] 5 [(0, .ref x), (1, .int p0), (2, .int p1), (3, .ref o)] [.int p1, .int p0, .ref x, .int 0, .ref o] C (by decide +kernel) rfl ?_
  refine g_callVC (pc := 5) C R mV_X4_spread q368 (hs _ _ hx) rfl rfl (CtrX.frame hM hs) rfl ⟨⟨(Nat.le_of_ble_eq_true rfl), (Nat.le_of_ble_eq_true rfl)⟩, (Nat.le_of_ble_eq_true rfl), (Nat.le_of_ble_eq_true rfl)⟩ rfl (Nat.le_of_ble_eq_true rfl) (by decide +kernel) (fun E G2 h9 => ?_) (fun r G2 h9 => ?_)
  · obtain ⟨G', hp, hf⟩ := h9
    rcases hpx E G' hp with rfl | rfl
    · refine ⟨13, ⟨[], ⟨0, 10, 13, 13⟩, [⟨0, 10, 17, 15⟩], rfl, rfl, rfl, by decide, q191, by decide, fun z hz => by cases hz⟩, fun q => ?_⟩
      refine g_seg [(13, .astore 4, 2), (15, .iconst 1, 1)] 16 [(4, .ref q), (0, .ref x), (1, .int p0), (2, .int p1), (3, .ref o)] [.int 1] C (by decide +kernel) rfl ?_
      exact g_iret (pc := 16) C R.rt (⟨_, rfl, Or.inr ⟨_, G', hp, hf, rfl⟩⟩) (Nat.le_of_ble_eq_true rfl) (Nat.le_of_ble_eq_true rfl) (by decide +kernel)
    · refine ⟨17, ⟨[⟨0, 10, 13, 13⟩], ⟨0, 10, 17, 15⟩, [], rfl, rfl, rfl, by decide, q192, by decide, fun z hz => by simp only [List.mem_cons, List.mem_nil_iff, or_false] at hz; rcases hz with rfl; exact ⟨by decide, "java/lang/IllegalArgumentException", by decide, by decide, q191⟩⟩, fun q => ?_⟩
      refine g_seg [(17, .astore 4, 2), (19, .iconst 2, 1)] 20 [(4, .ref q), (0, .ref x), (1, .int p0), (2, .int p1), (3, .ref o)] [.int 2] C (by decide +kernel) rfl ?_
      exact g_iret (pc := 20) C R.rt (⟨_, rfl, Or.inr ⟨_, G', hp, hf, rfl⟩⟩) (Nat.le_of_ble_eq_true rfl) (Nat.le_of_ble_eq_true rfl) (by decide +kernel)
  · obtain ⟨G', ⟨v, rfl, hp⟩, hf⟩ := h9
    show PG κ 5 (0 + kX4_spread.cells) (0 + kX4_spread.slots) G2 [(0, .ref x), (1, .int p0), (2, .int p1), (3, .ref o)] 8 [.int v, .int 0, .ref o]
    refine g_seg [(8, .i2l, 1)] 9 [(0, .ref x), (1, .int p0), (2, .int p1), (3, .ref o)] [.long v.toInt64, .int 0, .ref o] C (by decide +kernel) rfl ?_
    refine g_lastM (pc := 9) C (hf.2.1 o _ ho ho1) rfl (by decide +kernel) ?_
    refine g_seg [(10, .goto 11, 3), (21, .iconst 0, 1)] 22 [(0, .ref x), (1, .int p0), (2, .int p1), (3, .ref o)] [.int 0] C (by decide +kernel) rfl ?_
    exact g_iret (pc := 22) C R.rt (⟨_, rfl, Or.inl ⟨rfl, v, G', hp, fr_out ho ho1 hf⟩⟩) (Nat.le_of_ble_eq_true rfl) (Nat.le_of_ble_eq_true rfl) (by decide +kernel)
set_option maxHeartbeats 4000000 in
set_option maxRecDepth 100000 in
theorem c_L_join (l : Launch) (D : va_G) (cy : Nat → ClassId) {G G1 : GG} {x o : Nat} {fs : List Value} {f : Nat → Int64} {P : Int32 → GG → Prop} {px : String → GG → Prop} (hM : CtrX l D cy yX4_join prog_1_method_6_code 2 (some .int) kX4_join [.ref x] G1 (pI P) px) (hs : ∀ a e, G1 a = some e → G a = some e) (hx : G1 x = some (.inr (4, fs))) (ho : G o = some (.inl (cy 6, 1, .inr (.inl f)))) (ho1 : G1 o = none) (hpx : ∀ E G', px E G' → E = "java/lang/IllegalStateException") : CtrW l D cy yL_join method_7_code 3 (some .int) [(0, 8, 11, 15)] kL_join [.ref x, .ref o] G (pI (fun v G3 => (v = 0 ∧ ∃ z G', P z G' ∧ fo cy o z.toInt64 G1 G G' G3) ∨ ∃ E G', px E G' ∧ fr G1 G G' G3 ∧ v = (if E = "java/lang/IllegalStateException" then 1 else 0))) := by
  refine CtrW.mk (by decide +kernel) (Nat.le_of_ble_eq_true rfl) ?_
  intro κ C R
  refine g_pc (pc' := 0) rfl ?_
  refine g_seg [(0, .aload_n 1, 1), (1, .iconst 0, 1), (2, .aload_n 0, 1)] 3 [(0, .ref x), (1, .ref o)] [.ref x, .int 0, .ref o] C (by decide +kernel) rfl ?_
  refine g_callVC (pc := 3) C R mV_X4_join q391 (hs _ _ hx) rfl rfl (CtrX.frame hM hs) rfl ⟨⟨(Nat.le_of_ble_eq_true rfl), (Nat.le_of_ble_eq_true rfl)⟩, (Nat.le_of_ble_eq_true rfl), (Nat.le_of_ble_eq_true rfl)⟩ rfl (Nat.le_of_ble_eq_true rfl) (by decide +kernel) (fun E G2 h9 => ?_) (fun r G2 h9 => ?_)
  · obtain ⟨G', hp, hf⟩ := h9
    have hE := hpx E G' hp
    subst hE
    refine ⟨11, ⟨[], ⟨0, 8, 11, 15⟩, [], rfl, rfl, rfl, by decide, q192, by decide, fun z hz => by cases hz⟩, fun q => ?_⟩
    refine g_seg [(11, .astore_n 2, 1), (12, .iconst 1, 1)] 13 [(2, .ref q), (0, .ref x), (1, .ref o)] [.int 1] C (by decide +kernel) rfl ?_
    exact g_iret (pc := 13) C R.rt (⟨_, rfl, Or.inr ⟨_, G', hp, hf, rfl⟩⟩) (Nat.le_of_ble_eq_true rfl) (Nat.le_of_ble_eq_true rfl) (by decide +kernel)
  · obtain ⟨G', ⟨v, rfl, hp⟩, hf⟩ := h9
    show PG κ 3 (0 + kX4_join.cells) (0 + kX4_join.slots) G2 [(0, .ref x), (1, .ref o)] 6 [.int v, .int 0, .ref o]
    refine g_seg [(6, .i2l, 1)] 7 [(0, .ref x), (1, .ref o)] [.long v.toInt64, .int 0, .ref o] C (by decide +kernel) rfl ?_
    refine g_lastM (pc := 7) C (hf.2.1 o _ ho ho1) rfl (by decide +kernel) ?_
    refine g_seg [(8, .goto 6, 3), (14, .iconst 0, 1)] 15 [(0, .ref x), (1, .ref o)] [.int 0] C (by decide +kernel) rfl ?_
    exact g_iret (pc := 15) C R.rt (⟨_, rfl, Or.inl ⟨rfl, v, G', hp, fr_out ho ho1 hf⟩⟩) (Nat.le_of_ble_eq_true rfl) (Nat.le_of_ble_eq_true rfl) (by decide +kernel)
set_option maxHeartbeats 4000000 in
set_option maxRecDepth 100000 in
theorem c_L_mount (l : Launch) (D : va_G) (cy : Nat → ClassId) {G G1 : GG} {x o : Nat} {fs : List Value} {f : Nat → Int64} {P : Int32 → GG → Prop} {px : String → GG → Prop} (p0 p1 : Int32) (hM : CtrX l D cy yX4_mount prog_1_method_7_code 6 (some .int) kX4_mount [.ref x, .int p0, .int p1] G1 (pI P) px) (hs : ∀ a e, G1 a = some e → G a = some e) (hx : G1 x = some (.inr (4, fs))) (ho : G o = some (.inl (cy 6, 1, .inr (.inl f)))) (ho1 : G1 o = none) (hpx : ∀ E G', px E G' → E = "java/lang/IndexOutOfBoundsException" ∨ E = "java/lang/IllegalStateException") : CtrW l D cy yL_mount method_8_code 5 (some .int) [(0, 10, 13, 21), (0, 10, 17, 15)] kL_mount [.ref x, .int p0, .int p1, .ref o] G (pI (fun v G3 => (v = 0 ∧ ∃ z G', P z G' ∧ fo cy o z.toInt64 G1 G G' G3) ∨ ∃ E G', px E G' ∧ fr G1 G G' G3 ∧ v = (if E = "java/lang/IndexOutOfBoundsException" then 1 else (if E = "java/lang/IllegalStateException" then 2 else 0)))) := by
  refine CtrW.mk (by decide +kernel) (Nat.le_of_ble_eq_true rfl) ?_
  intro κ C R
  refine g_pc (pc' := 0) rfl ?_
  refine g_seg [(0, .aload_n 3, 1), (1, .iconst 0, 1), (2, .aload_n 0, 1), (3, .iload_n 1, 1), (4, .iload_n 2, 1)] 5 [(0, .ref x), (1, .int p0), (2, .int p1), (3, .ref o)] [.int p1, .int p0, .ref x, .int 0, .ref o] C (by decide +kernel) rfl ?_
  refine g_callVC (pc := 5) C R mV_X4_mount q440 (hs _ _ hx) rfl rfl (CtrX.frame hM hs) rfl ⟨⟨(Nat.le_of_ble_eq_true rfl), (Nat.le_of_ble_eq_true rfl)⟩, (Nat.le_of_ble_eq_true rfl), (Nat.le_of_ble_eq_true rfl)⟩ rfl (Nat.le_of_ble_eq_true rfl) (by decide +kernel) (fun E G2 h9 => ?_) (fun r G2 h9 => ?_)
  · obtain ⟨G', hp, hf⟩ := h9
    rcases hpx E G' hp with rfl | rfl
    · refine ⟨13, ⟨[], ⟨0, 10, 13, 21⟩, [⟨0, 10, 17, 15⟩], rfl, rfl, rfl, by decide, q323, by decide, fun z hz => by cases hz⟩, fun q => ?_⟩
      refine g_seg [(13, .astore 4, 2), (15, .iconst 1, 1)] 16 [(4, .ref q), (0, .ref x), (1, .int p0), (2, .int p1), (3, .ref o)] [.int 1] C (by decide +kernel) rfl ?_
      exact g_iret (pc := 16) C R.rt (⟨_, rfl, Or.inr ⟨_, G', hp, hf, rfl⟩⟩) (Nat.le_of_ble_eq_true rfl) (Nat.le_of_ble_eq_true rfl) (by decide +kernel)
    · refine ⟨17, ⟨[⟨0, 10, 13, 21⟩], ⟨0, 10, 17, 15⟩, [], rfl, rfl, rfl, by decide, q192, by decide, fun z hz => by simp only [List.mem_cons, List.mem_nil_iff, or_false] at hz; rcases hz with rfl; exact ⟨by decide, "java/lang/IndexOutOfBoundsException", by decide, by decide, q323⟩⟩, fun q => ?_⟩
      refine g_seg [(17, .astore 4, 2), (19, .iconst 2, 1)] 20 [(4, .ref q), (0, .ref x), (1, .int p0), (2, .int p1), (3, .ref o)] [.int 2] C (by decide +kernel) rfl ?_
      exact g_iret (pc := 20) C R.rt (⟨_, rfl, Or.inr ⟨_, G', hp, hf, rfl⟩⟩) (Nat.le_of_ble_eq_true rfl) (Nat.le_of_ble_eq_true rfl) (by decide +kernel)
  · obtain ⟨G', ⟨v, rfl, hp⟩, hf⟩ := h9
    show PG κ 5 (0 + kX4_mount.cells) (0 + kX4_mount.slots) G2 [(0, .ref x), (1, .int p0), (2, .int p1), (3, .ref o)] 8 [.int v, .int 0, .ref o]
    refine g_seg [(8, .i2l, 1)] 9 [(0, .ref x), (1, .int p0), (2, .int p1), (3, .ref o)] [.long v.toInt64, .int 0, .ref o] C (by decide +kernel) rfl ?_
    refine g_lastM (pc := 9) C (hf.2.1 o _ ho ho1) rfl (by decide +kernel) ?_
    refine g_seg [(10, .goto 11, 3), (21, .iconst 0, 1)] 22 [(0, .ref x), (1, .int p0), (2, .int p1), (3, .ref o)] [.int 0] C (by decide +kernel) rfl ?_
    exact g_iret (pc := 22) C R.rt (⟨_, rfl, Or.inl ⟨rfl, v, G', hp, fr_out ho ho1 hf⟩⟩) (Nat.le_of_ble_eq_true rfl) (Nat.le_of_ble_eq_true rfl) (by decide +kernel)
set_option maxHeartbeats 4000000 in
set_option maxRecDepth 100000 in
theorem c_L_cue (l : Launch) (D : va_G) (cy : Nat → ClassId) {G G1 : GG} {x o : Nat} {fs : List Value} {f : Nat → Int64} {P : Int32 → GG → Prop} {px : String → GG → Prop} (p0 p1 p2 p3 : Int32) (hM : CtrX l D cy yX4_cue prog_1_method_8_code 6 (some .int) kX4_cue [.ref x, .int p0, .int p1, .int p2, .int p3] G1 (pI P) px) (hs : ∀ a e, G1 a = some e → G a = some e) (hx : G1 x = some (.inr (4, fs))) (ho : G o = some (.inl (cy 6, 1, .inr (.inl f)))) (ho1 : G1 o = none) (hpx : ∀ E G', px E G' → E = "java/lang/IndexOutOfBoundsException" ∨ E = "java/lang/IllegalArgumentException" ∨ E = "java/lang/IllegalStateException") : CtrW l D cy yL_cue method_9_code 7 (some .int) [(0, 14, 17, 21), (0, 14, 21, 13), (0, 14, 25, 15)] kL_cue [.ref x, .int p0, .int p1, .int p2, .int p3, .ref o] G (pI (fun v G3 => (v = 0 ∧ ∃ z G', P z G' ∧ fo cy o z.toInt64 G1 G G' G3) ∨ ∃ E G', px E G' ∧ fr G1 G G' G3 ∧ v = (if E = "java/lang/IndexOutOfBoundsException" then 1 else (if E = "java/lang/IllegalArgumentException" then 2 else (if E = "java/lang/IllegalStateException" then 3 else 0))))) := by
  refine CtrW.mk (by decide +kernel) (Nat.le_of_ble_eq_true rfl) ?_
  intro κ C R
  refine g_pc (pc' := 0) rfl ?_
  refine g_seg [(0, .aload 5, 2), (2, .iconst 0, 1), (3, .aload_n 0, 1), (4, .iload_n 1, 1), (5, .iload_n 2, 1), (6, .iload_n 3, 1), (7, .iload 4, 2)] 9 [(0, .ref x), (1, .int p0), (2, .int p1), (3, .int p2), (4, .int p3), (5, .ref o)] [.int p3, .int p2, .int p1, .int p0, .ref x, .int 0, .ref o] C (by decide +kernel) rfl ?_
  refine g_callVC (pc := 9) C R mV_X4_cue q461 (hs _ _ hx) rfl rfl (CtrX.frame hM hs) rfl ⟨⟨(Nat.le_of_ble_eq_true rfl), (Nat.le_of_ble_eq_true rfl)⟩, (Nat.le_of_ble_eq_true rfl), (Nat.le_of_ble_eq_true rfl)⟩ rfl (Nat.le_of_ble_eq_true rfl) (by decide +kernel) (fun E G2 h9 => ?_) (fun r G2 h9 => ?_)
  · obtain ⟨G', hp, hf⟩ := h9
    rcases hpx E G' hp with rfl | rfl | rfl
    · refine ⟨17, ⟨[], ⟨0, 14, 17, 21⟩, [⟨0, 14, 21, 13⟩, ⟨0, 14, 25, 15⟩], rfl, rfl, rfl, by decide, q323, by decide, fun z hz => by cases hz⟩, fun q => ?_⟩
      refine g_seg [(17, .astore 6, 2), (19, .iconst 1, 1)] 20 [(6, .ref q), (0, .ref x), (1, .int p0), (2, .int p1), (3, .int p2), (4, .int p3), (5, .ref o)] [.int 1] C (by decide +kernel) rfl ?_
      exact g_iret (pc := 20) C R.rt (⟨_, rfl, Or.inr ⟨_, G', hp, hf, rfl⟩⟩) (Nat.le_of_ble_eq_true rfl) (Nat.le_of_ble_eq_true rfl) (by decide +kernel)
    · refine ⟨21, ⟨[⟨0, 14, 17, 21⟩], ⟨0, 14, 21, 13⟩, [⟨0, 14, 25, 15⟩], rfl, rfl, rfl, by decide, q191, by decide, fun z hz => by simp only [List.mem_cons, List.mem_nil_iff, or_false] at hz; rcases hz with rfl; exact ⟨by decide, "java/lang/IndexOutOfBoundsException", by decide, by decide, q323⟩⟩, fun q => ?_⟩
      refine g_seg [(21, .astore 6, 2), (23, .iconst 2, 1)] 24 [(6, .ref q), (0, .ref x), (1, .int p0), (2, .int p1), (3, .int p2), (4, .int p3), (5, .ref o)] [.int 2] C (by decide +kernel) rfl ?_
      exact g_iret (pc := 24) C R.rt (⟨_, rfl, Or.inr ⟨_, G', hp, hf, rfl⟩⟩) (Nat.le_of_ble_eq_true rfl) (Nat.le_of_ble_eq_true rfl) (by decide +kernel)
    · refine ⟨25, ⟨[⟨0, 14, 17, 21⟩, ⟨0, 14, 21, 13⟩], ⟨0, 14, 25, 15⟩, [], rfl, rfl, rfl, by decide, q192, by decide, fun z hz => by simp only [List.mem_cons, List.mem_nil_iff, or_false] at hz; rcases hz with rfl | rfl; exact ⟨by decide, "java/lang/IndexOutOfBoundsException", by decide, by decide, q323⟩; exact ⟨by decide, "java/lang/IllegalArgumentException", by decide, by decide, q191⟩⟩, fun q => ?_⟩
      refine g_seg [(25, .astore 6, 2), (27, .iconst 3, 1)] 28 [(6, .ref q), (0, .ref x), (1, .int p0), (2, .int p1), (3, .int p2), (4, .int p3), (5, .ref o)] [.int 3] C (by decide +kernel) rfl ?_
      exact g_iret (pc := 28) C R.rt (⟨_, rfl, Or.inr ⟨_, G', hp, hf, rfl⟩⟩) (Nat.le_of_ble_eq_true rfl) (Nat.le_of_ble_eq_true rfl) (by decide +kernel)
  · obtain ⟨G', ⟨v, rfl, hp⟩, hf⟩ := h9
    show PG κ 7 (0 + kX4_cue.cells) (0 + kX4_cue.slots) G2 [(0, .ref x), (1, .int p0), (2, .int p1), (3, .int p2), (4, .int p3), (5, .ref o)] 12 [.int v, .int 0, .ref o]
    refine g_seg [(12, .i2l, 1)] 13 [(0, .ref x), (1, .int p0), (2, .int p1), (3, .int p2), (4, .int p3), (5, .ref o)] [.long v.toInt64, .int 0, .ref o] C (by decide +kernel) rfl ?_
    refine g_lastM (pc := 13) C (hf.2.1 o _ ho ho1) rfl (by decide +kernel) ?_
    refine g_seg [(14, .goto 15, 3), (29, .iconst 0, 1)] 30 [(0, .ref x), (1, .int p0), (2, .int p1), (3, .int p2), (4, .int p3), (5, .ref o)] [.int 0] C (by decide +kernel) rfl ?_
    exact g_iret (pc := 30) C R.rt (⟨_, rfl, Or.inl ⟨rfl, v, G', hp, fr_out ho ho1 hf⟩⟩) (Nat.le_of_ble_eq_true rfl) (Nat.le_of_ble_eq_true rfl) (by decide +kernel)
set_option maxHeartbeats 4000000 in
set_option maxRecDepth 100000 in
theorem c_L_trapeze (l : Launch) (D : va_G) (cy : Nat → ClassId) {G G1 : GG} {x o : Nat} {fs : List Value} {f : Nat → Int64} {P : Int32 → GG → Prop} {px : String → GG → Prop} (p0 p1 : Int32) (hM : CtrX l D cy yX4_trapeze prog_1_method_9_code 4 (some .int) kX4_trapeze [.ref x, .int p0, .int p1] G1 (pI P) px) (hs : ∀ a e, G1 a = some e → G a = some e) (hx : G1 x = some (.inr (4, fs))) (ho : G o = some (.inl (cy 6, 1, .inr (.inl f)))) (ho1 : G1 o = none) (hpx : ∀ E G', px E G' → E = "java/lang/IndexOutOfBoundsException") : CtrW l D cy yL_trapeze method_10_code 5 (some .int) [(0, 10, 13, 21)] kL_trapeze [.ref x, .int p0, .int p1, .ref o] G (pI (fun v G3 => (v = 0 ∧ ∃ z G', P z G' ∧ fo cy o z.toInt64 G1 G G' G3) ∨ ∃ E G', px E G' ∧ fr G1 G G' G3 ∧ v = (if E = "java/lang/IndexOutOfBoundsException" then 1 else 0))) := by
  refine CtrW.mk (by decide +kernel) (Nat.le_of_ble_eq_true rfl) ?_
  intro κ C R
  refine g_pc (pc' := 0) rfl ?_
  refine g_seg [(0, .aload_n 3, 1), (1, .iconst 0, 1), (2, .aload_n 0, 1), (3, .iload_n 1, 1), (4, .iload_n 2, 1)] 5 [(0, .ref x), (1, .int p0), (2, .int p1), (3, .ref o)] [.int p1, .int p0, .ref x, .int 0, .ref o] C (by decide +kernel) rfl ?_
  refine g_callVC (pc := 5) C R mV_X4_trapeze q500 (hs _ _ hx) rfl rfl (CtrX.frame hM hs) rfl ⟨⟨(Nat.le_of_ble_eq_true rfl), (Nat.le_of_ble_eq_true rfl)⟩, (Nat.le_of_ble_eq_true rfl), (Nat.le_of_ble_eq_true rfl)⟩ rfl (Nat.le_of_ble_eq_true rfl) (by decide +kernel) (fun E G2 h9 => ?_) (fun r G2 h9 => ?_)
  · obtain ⟨G', hp, hf⟩ := h9
    have hE := hpx E G' hp
    subst hE
    refine ⟨13, ⟨[], ⟨0, 10, 13, 21⟩, [], rfl, rfl, rfl, by decide, q323, by decide, fun z hz => by cases hz⟩, fun q => ?_⟩
    refine g_seg [(13, .astore 4, 2), (15, .iconst 1, 1)] 16 [(4, .ref q), (0, .ref x), (1, .int p0), (2, .int p1), (3, .ref o)] [.int 1] C (by decide +kernel) rfl ?_
    exact g_iret (pc := 16) C R.rt (⟨_, rfl, Or.inr ⟨_, G', hp, hf, rfl⟩⟩) (Nat.le_of_ble_eq_true rfl) (Nat.le_of_ble_eq_true rfl) (by decide +kernel)
  · obtain ⟨G', ⟨v, rfl, hp⟩, hf⟩ := h9
    show PG κ 5 (0 + kX4_trapeze.cells) (0 + kX4_trapeze.slots) G2 [(0, .ref x), (1, .int p0), (2, .int p1), (3, .ref o)] 8 [.int v, .int 0, .ref o]
    refine g_seg [(8, .i2l, 1)] 9 [(0, .ref x), (1, .int p0), (2, .int p1), (3, .ref o)] [.long v.toInt64, .int 0, .ref o] C (by decide +kernel) rfl ?_
    refine g_lastM (pc := 9) C (hf.2.1 o _ ho ho1) rfl (by decide +kernel) ?_
    refine g_seg [(10, .goto 7, 3), (17, .iconst 0, 1)] 18 [(0, .ref x), (1, .int p0), (2, .int p1), (3, .ref o)] [.int 0] C (by decide +kernel) rfl ?_
    exact g_iret (pc := 18) C R.rt (⟨_, rfl, Or.inl ⟨rfl, v, G', hp, fr_out ho ho1 hf⟩⟩) (Nat.le_of_ble_eq_true rfl) (Nat.le_of_ble_eq_true rfl) (by decide +kernel)
set_option maxHeartbeats 4000000 in
set_option maxRecDepth 100000 in
theorem c_L_flyer (l : Launch) (D : va_G) (cy : Nat → ClassId) {G G1 : GG} {x o : Nat} {fs : List Value} {f : Nat → Int64} {P : Int32 → GG → Prop} {px : String → GG → Prop} (p0 p1 : Int32) (hM : CtrX l D cy yX4_flyer prog_1_method_10_code 4 (some .int) kX4_flyer [.ref x, .int p0, .int p1] G1 (pI P) px) (hs : ∀ a e, G1 a = some e → G a = some e) (hx : G1 x = some (.inr (4, fs))) (ho : G o = some (.inl (cy 6, 1, .inr (.inl f)))) (ho1 : G1 o = none) (hpx : ∀ E G', px E G' → E = "java/lang/IndexOutOfBoundsException") : CtrW l D cy yL_flyer method_11_code 5 (some .int) [(0, 10, 13, 21)] kL_flyer [.ref x, .int p0, .int p1, .ref o] G (pI (fun v G3 => (v = 0 ∧ ∃ z G', P z G' ∧ fo cy o z.toInt64 G1 G G' G3) ∨ ∃ E G', px E G' ∧ fr G1 G G' G3 ∧ v = (if E = "java/lang/IndexOutOfBoundsException" then 1 else 0))) := by
  refine CtrW.mk (by decide +kernel) (Nat.le_of_ble_eq_true rfl) ?_
  intro κ C R
  refine g_pc (pc' := 0) rfl ?_
  refine g_seg [(0, .aload_n 3, 1), (1, .iconst 0, 1), (2, .aload_n 0, 1), (3, .iload_n 1, 1), (4, .iload_n 2, 1)] 5 [(0, .ref x), (1, .int p0), (2, .int p1), (3, .ref o)] [.int p1, .int p0, .ref x, .int 0, .ref o] C (by decide +kernel) rfl ?_
  refine g_callVC (pc := 5) C R mV_X4_flyer q508 (hs _ _ hx) rfl rfl (CtrX.frame hM hs) rfl ⟨⟨(Nat.le_of_ble_eq_true rfl), (Nat.le_of_ble_eq_true rfl)⟩, (Nat.le_of_ble_eq_true rfl), (Nat.le_of_ble_eq_true rfl)⟩ rfl (Nat.le_of_ble_eq_true rfl) (by decide +kernel) (fun E G2 h9 => ?_) (fun r G2 h9 => ?_)
  · obtain ⟨G', hp, hf⟩ := h9
    have hE := hpx E G' hp
    subst hE
    refine ⟨13, ⟨[], ⟨0, 10, 13, 21⟩, [], rfl, rfl, rfl, by decide, q323, by decide, fun z hz => by cases hz⟩, fun q => ?_⟩
    refine g_seg [(13, .astore 4, 2), (15, .iconst 1, 1)] 16 [(4, .ref q), (0, .ref x), (1, .int p0), (2, .int p1), (3, .ref o)] [.int 1] C (by decide +kernel) rfl ?_
    exact g_iret (pc := 16) C R.rt (⟨_, rfl, Or.inr ⟨_, G', hp, hf, rfl⟩⟩) (Nat.le_of_ble_eq_true rfl) (Nat.le_of_ble_eq_true rfl) (by decide +kernel)
  · obtain ⟨G', ⟨v, rfl, hp⟩, hf⟩ := h9
    show PG κ 5 (0 + kX4_flyer.cells) (0 + kX4_flyer.slots) G2 [(0, .ref x), (1, .int p0), (2, .int p1), (3, .ref o)] 8 [.int v, .int 0, .ref o]
    refine g_seg [(8, .i2l, 1)] 9 [(0, .ref x), (1, .int p0), (2, .int p1), (3, .ref o)] [.long v.toInt64, .int 0, .ref o] C (by decide +kernel) rfl ?_
    refine g_lastM (pc := 9) C (hf.2.1 o _ ho ho1) rfl (by decide +kernel) ?_
    refine g_seg [(10, .goto 7, 3), (17, .iconst 0, 1)] 18 [(0, .ref x), (1, .int p0), (2, .int p1), (3, .ref o)] [.int 0] C (by decide +kernel) rfl ?_
    exact g_iret (pc := 18) C R.rt (⟨_, rfl, Or.inl ⟨rfl, v, G', hp, fr_out ho ho1 hf⟩⟩) (Nat.le_of_ble_eq_true rfl) (Nat.le_of_ble_eq_true rfl) (by decide +kernel)
set_option maxHeartbeats 4000000 in
set_option maxRecDepth 100000 in
theorem c_L_called (l : Launch) (D : va_G) (cy : Nat → ClassId) {G G1 : GG} {x o : Nat} {fs : List Value} {f : Nat → Int64} {P : Int32 → GG → Prop} {px : String → GG → Prop} (p0 p1 : Int32) (hM : CtrX l D cy yX4_called prog_1_method_11_code 4 (some .int) kX4_called [.ref x, .int p0, .int p1] G1 (pI P) px) (hs : ∀ a e, G1 a = some e → G a = some e) (hx : G1 x = some (.inr (4, fs))) (ho : G o = some (.inl (cy 6, 1, .inr (.inl f)))) (ho1 : G1 o = none) (hpx : ∀ E G', px E G' → E = "java/lang/IndexOutOfBoundsException") : CtrW l D cy yL_called method_12_code 5 (some .int) [(0, 10, 13, 21)] kL_called [.ref x, .int p0, .int p1, .ref o] G (pI (fun v G3 => (v = 0 ∧ ∃ z G', P z G' ∧ fo cy o z.toInt64 G1 G G' G3) ∨ ∃ E G', px E G' ∧ fr G1 G G' G3 ∧ v = (if E = "java/lang/IndexOutOfBoundsException" then 1 else 0))) := by
  refine CtrW.mk (by decide +kernel) (Nat.le_of_ble_eq_true rfl) ?_
  intro κ C R
  refine g_pc (pc' := 0) rfl ?_
  refine g_seg [(0, .aload_n 3, 1), (1, .iconst 0, 1), (2, .aload_n 0, 1), (3, .iload_n 1, 1), (4, .iload_n 2, 1)] 5 [(0, .ref x), (1, .int p0), (2, .int p1), (3, .ref o)] [.int p1, .int p0, .ref x, .int 0, .ref o] C (by decide +kernel) rfl ?_
  refine g_callVC (pc := 5) C R mV_X4_called q516 (hs _ _ hx) rfl rfl (CtrX.frame hM hs) rfl ⟨⟨(Nat.le_of_ble_eq_true rfl), (Nat.le_of_ble_eq_true rfl)⟩, (Nat.le_of_ble_eq_true rfl), (Nat.le_of_ble_eq_true rfl)⟩ rfl (Nat.le_of_ble_eq_true rfl) (by decide +kernel) (fun E G2 h9 => ?_) (fun r G2 h9 => ?_)
  · obtain ⟨G', hp, hf⟩ := h9
    have hE := hpx E G' hp
    subst hE
    refine ⟨13, ⟨[], ⟨0, 10, 13, 21⟩, [], rfl, rfl, rfl, by decide, q323, by decide, fun z hz => by cases hz⟩, fun q => ?_⟩
    refine g_seg [(13, .astore 4, 2), (15, .iconst 1, 1)] 16 [(4, .ref q), (0, .ref x), (1, .int p0), (2, .int p1), (3, .ref o)] [.int 1] C (by decide +kernel) rfl ?_
    exact g_iret (pc := 16) C R.rt (⟨_, rfl, Or.inr ⟨_, G', hp, hf, rfl⟩⟩) (Nat.le_of_ble_eq_true rfl) (Nat.le_of_ble_eq_true rfl) (by decide +kernel)
  · obtain ⟨G', ⟨v, rfl, hp⟩, hf⟩ := h9
    show PG κ 5 (0 + kX4_called.cells) (0 + kX4_called.slots) G2 [(0, .ref x), (1, .int p0), (2, .int p1), (3, .ref o)] 8 [.int v, .int 0, .ref o]
    refine g_seg [(8, .i2l, 1)] 9 [(0, .ref x), (1, .int p0), (2, .int p1), (3, .ref o)] [.long v.toInt64, .int 0, .ref o] C (by decide +kernel) rfl ?_
    refine g_lastM (pc := 9) C (hf.2.1 o _ ho ho1) rfl (by decide +kernel) ?_
    refine g_seg [(10, .goto 7, 3), (17, .iconst 0, 1)] 18 [(0, .ref x), (1, .int p0), (2, .int p1), (3, .ref o)] [.int 0] C (by decide +kernel) rfl ?_
    exact g_iret (pc := 18) C R.rt (⟨_, rfl, Or.inl ⟨rfl, v, G', hp, fr_out ho ho1 hf⟩⟩) (Nat.le_of_ble_eq_true rfl) (Nat.le_of_ble_eq_true rfl) (by decide +kernel)
set_option maxHeartbeats 4000000 in
set_option maxRecDepth 100000 in
theorem c_L_count (l : Launch) (D : va_G) (cy : Nat → ClassId) {G G1 : GG} {x o : Nat} {fs : List Value} {f : Nat → Int64} {P : Int32 → GG → Prop} {px : String → GG → Prop} (p0 : Int32) (hM : CtrX l D cy yX4_count prog_1_method_12_code 2 (some .int) kX4_count [.ref x, .int p0] G1 (pI P) px) (hs : ∀ a e, G1 a = some e → G a = some e) (hx : G1 x = some (.inr (4, fs))) (ho : G o = some (.inl (cy 6, 1, .inr (.inl f)))) (ho1 : G1 o = none) (hpx : ∀ E G', px E G' → E = "java/lang/IndexOutOfBoundsException") : CtrW l D cy yL_count method_13_code 4 (some .int) [(0, 9, 12, 21)] kL_count [.ref x, .int p0, .ref o] G (pI (fun v G3 => (v = 0 ∧ ∃ z G', P z G' ∧ fo cy o z.toInt64 G1 G G' G3) ∨ ∃ E G', px E G' ∧ fr G1 G G' G3 ∧ v = (if E = "java/lang/IndexOutOfBoundsException" then 1 else 0))) := by
  refine CtrW.mk (by decide +kernel) (Nat.le_of_ble_eq_true rfl) ?_
  intro κ C R
  refine g_pc (pc' := 0) rfl ?_
  refine g_seg [(0, .aload_n 2, 1), (1, .iconst 0, 1), (2, .aload_n 0, 1), (3, .iload_n 1, 1)] 4 [(0, .ref x), (1, .int p0), (2, .ref o)] [.int p0, .ref x, .int 0, .ref o] C (by decide +kernel) rfl ?_
  refine g_callVC (pc := 4) C R mV_X4_count q524 (hs _ _ hx) rfl rfl (CtrX.frame hM hs) rfl ⟨⟨(Nat.le_of_ble_eq_true rfl), (Nat.le_of_ble_eq_true rfl)⟩, (Nat.le_of_ble_eq_true rfl), (Nat.le_of_ble_eq_true rfl)⟩ rfl (Nat.le_of_ble_eq_true rfl) (by decide +kernel) (fun E G2 h9 => ?_) (fun r G2 h9 => ?_)
  · obtain ⟨G', hp, hf⟩ := h9
    have hE := hpx E G' hp
    subst hE
    refine ⟨12, ⟨[], ⟨0, 9, 12, 21⟩, [], rfl, rfl, rfl, by decide, q323, by decide, fun z hz => by cases hz⟩, fun q => ?_⟩
    refine g_seg [(12, .astore_n 3, 1), (13, .iconst 1, 1)] 14 [(3, .ref q), (0, .ref x), (1, .int p0), (2, .ref o)] [.int 1] C (by decide +kernel) rfl ?_
    exact g_iret (pc := 14) C R.rt (⟨_, rfl, Or.inr ⟨_, G', hp, hf, rfl⟩⟩) (Nat.le_of_ble_eq_true rfl) (Nat.le_of_ble_eq_true rfl) (by decide +kernel)
  · obtain ⟨G', ⟨v, rfl, hp⟩, hf⟩ := h9
    show PG κ 4 (0 + kX4_count.cells) (0 + kX4_count.slots) G2 [(0, .ref x), (1, .int p0), (2, .ref o)] 7 [.int v, .int 0, .ref o]
    refine g_seg [(7, .i2l, 1)] 8 [(0, .ref x), (1, .int p0), (2, .ref o)] [.long v.toInt64, .int 0, .ref o] C (by decide +kernel) rfl ?_
    refine g_lastM (pc := 8) C (hf.2.1 o _ ho ho1) rfl (by decide +kernel) ?_
    refine g_seg [(9, .goto 6, 3), (15, .iconst 0, 1)] 16 [(0, .ref x), (1, .int p0), (2, .ref o)] [.int 0] C (by decide +kernel) rfl ?_
    exact g_iret (pc := 16) C R.rt (⟨_, rfl, Or.inl ⟨rfl, v, G', hp, fr_out ho ho1 hf⟩⟩) (Nat.le_of_ble_eq_true rfl) (Nat.le_of_ble_eq_true rfl) (by decide +kernel)
set_option maxHeartbeats 4000000 in
set_option maxRecDepth 100000 in
theorem c_L_place (l : Launch) (D : va_G) (cy : Nat → ClassId) {G G1 : GG} {x o : Nat} {fs : List Value} {f : Nat → Int64} {P : Int32 → GG → Prop} {px : String → GG → Prop} (p0 p1 : Int32) (hM : CtrX l D cy yX4_place prog_1_method_13_code 4 (some .int) kX4_place [.ref x, .int p0, .int p1] G1 (pI P) px) (hs : ∀ a e, G1 a = some e → G a = some e) (hx : G1 x = some (.inr (4, fs))) (ho : G o = some (.inl (cy 6, 1, .inr (.inl f)))) (ho1 : G1 o = none) (hpx : ∀ E G', px E G' → E = "java/lang/IndexOutOfBoundsException" ∨ E = "java/lang/IllegalArgumentException") : CtrW l D cy yL_place method_14_code 5 (some .int) [(0, 10, 13, 21), (0, 10, 17, 13)] kL_place [.ref x, .int p0, .int p1, .ref o] G (pI (fun v G3 => (v = 0 ∧ ∃ z G', P z G' ∧ fo cy o z.toInt64 G1 G G' G3) ∨ ∃ E G', px E G' ∧ fr G1 G G' G3 ∧ v = (if E = "java/lang/IndexOutOfBoundsException" then 1 else (if E = "java/lang/IllegalArgumentException" then 2 else 0)))) := by
  refine CtrW.mk (by decide +kernel) (Nat.le_of_ble_eq_true rfl) ?_
  intro κ C R
  refine g_pc (pc' := 0) rfl ?_
  refine g_seg [(0, .aload_n 3, 1), (1, .iconst 0, 1), (2, .aload_n 0, 1), (3, .iload_n 1, 1), (4, .iload_n 2, 1)] 5 [(0, .ref x), (1, .int p0), (2, .int p1), (3, .ref o)] [.int p1, .int p0, .ref x, .int 0, .ref o] C (by decide +kernel) rfl ?_
  refine g_callVC (pc := 5) C R mV_X4_place q532 (hs _ _ hx) rfl rfl (CtrX.frame hM hs) rfl ⟨⟨(Nat.le_of_ble_eq_true rfl), (Nat.le_of_ble_eq_true rfl)⟩, (Nat.le_of_ble_eq_true rfl), (Nat.le_of_ble_eq_true rfl)⟩ rfl (Nat.le_of_ble_eq_true rfl) (by decide +kernel) (fun E G2 h9 => ?_) (fun r G2 h9 => ?_)
  · obtain ⟨G', hp, hf⟩ := h9
    rcases hpx E G' hp with rfl | rfl
    · refine ⟨13, ⟨[], ⟨0, 10, 13, 21⟩, [⟨0, 10, 17, 13⟩], rfl, rfl, rfl, by decide, q323, by decide, fun z hz => by cases hz⟩, fun q => ?_⟩
      refine g_seg [(13, .astore 4, 2), (15, .iconst 1, 1)] 16 [(4, .ref q), (0, .ref x), (1, .int p0), (2, .int p1), (3, .ref o)] [.int 1] C (by decide +kernel) rfl ?_
      exact g_iret (pc := 16) C R.rt (⟨_, rfl, Or.inr ⟨_, G', hp, hf, rfl⟩⟩) (Nat.le_of_ble_eq_true rfl) (Nat.le_of_ble_eq_true rfl) (by decide +kernel)
    · refine ⟨17, ⟨[⟨0, 10, 13, 21⟩], ⟨0, 10, 17, 13⟩, [], rfl, rfl, rfl, by decide, q191, by decide, fun z hz => by simp only [List.mem_cons, List.mem_nil_iff, or_false] at hz; rcases hz with rfl; exact ⟨by decide, "java/lang/IndexOutOfBoundsException", by decide, by decide, q323⟩⟩, fun q => ?_⟩
      refine g_seg [(17, .astore 4, 2), (19, .iconst 2, 1)] 20 [(4, .ref q), (0, .ref x), (1, .int p0), (2, .int p1), (3, .ref o)] [.int 2] C (by decide +kernel) rfl ?_
      exact g_iret (pc := 20) C R.rt (⟨_, rfl, Or.inr ⟨_, G', hp, hf, rfl⟩⟩) (Nat.le_of_ble_eq_true rfl) (Nat.le_of_ble_eq_true rfl) (by decide +kernel)
  · obtain ⟨G', ⟨v, rfl, hp⟩, hf⟩ := h9
    show PG κ 5 (0 + kX4_place.cells) (0 + kX4_place.slots) G2 [(0, .ref x), (1, .int p0), (2, .int p1), (3, .ref o)] 8 [.int v, .int 0, .ref o]
    refine g_seg [(8, .i2l, 1)] 9 [(0, .ref x), (1, .int p0), (2, .int p1), (3, .ref o)] [.long v.toInt64, .int 0, .ref o] C (by decide +kernel) rfl ?_
    refine g_lastM (pc := 9) C (hf.2.1 o _ ho ho1) rfl (by decide +kernel) ?_
    refine g_seg [(10, .goto 11, 3), (21, .iconst 0, 1)] 22 [(0, .ref x), (1, .int p0), (2, .int p1), (3, .ref o)] [.int 0] C (by decide +kernel) rfl ?_
    exact g_iret (pc := 22) C R.rt (⟨_, rfl, Or.inl ⟨rfl, v, G', hp, fr_out ho ho1 hf⟩⟩) (Nat.le_of_ble_eq_true rfl) (Nat.le_of_ble_eq_true rfl) (by decide +kernel)
set_option maxHeartbeats 4000000 in
set_option maxRecDepth 100000 in
theorem c_L_go (l : Launch) (D : va_G) (cy : Nat → ClassId) {G G1 : GG} {x o : Nat} {fs : List Value} {f : Nat → Int64} {P : Int32 → GG → Prop} {px : String → GG → Prop} (p0 : Int32) (hM : CtrX l D cy yX4_go prog_1_method_15_code 2 (some .int) kX4_go [.ref x, .int p0] G1 (pI P) px) (hs : ∀ a e, G1 a = some e → G a = some e) (hx : G1 x = some (.inr (4, fs))) (ho : G o = some (.inl (cy 6, 1, .inr (.inl f)))) (ho1 : G1 o = none) (hpx : ∀ E G', px E G' → E = "java/lang/IllegalArgumentException") : CtrW l D cy yL_go method_15_code 4 (some .int) [(0, 9, 12, 13)] kL_go [.ref x, .int p0, .ref o] G (pI (fun v G3 => (v = 0 ∧ ∃ z G', P z G' ∧ fo cy o z.toInt64 G1 G G' G3) ∨ ∃ E G', px E G' ∧ fr G1 G G' G3 ∧ v = (if E = "java/lang/IllegalArgumentException" then 1 else 0))) := by
  refine CtrW.mk (by decide +kernel) (Nat.le_of_ble_eq_true rfl) ?_
  intro κ C R
  refine g_pc (pc' := 0) rfl ?_
  refine g_seg [(0, .aload_n 2, 1), (1, .iconst 0, 1), (2, .aload_n 0, 1), (3, .iload_n 1, 1)] 4 [(0, .ref x), (1, .int p0), (2, .ref o)] [.int p0, .ref x, .int 0, .ref o] C (by decide +kernel) rfl ?_
  refine g_callVC (pc := 4) C R mV_X4_go q540 (hs _ _ hx) rfl rfl (CtrX.frame hM hs) rfl ⟨⟨(Nat.le_of_ble_eq_true rfl), (Nat.le_of_ble_eq_true rfl)⟩, (Nat.le_of_ble_eq_true rfl), (Nat.le_of_ble_eq_true rfl)⟩ rfl (Nat.le_of_ble_eq_true rfl) (by decide +kernel) (fun E G2 h9 => ?_) (fun r G2 h9 => ?_)
  · obtain ⟨G', hp, hf⟩ := h9
    have hE := hpx E G' hp
    subst hE
    refine ⟨12, ⟨[], ⟨0, 9, 12, 13⟩, [], rfl, rfl, rfl, by decide, q191, by decide, fun z hz => by cases hz⟩, fun q => ?_⟩
    refine g_seg [(12, .astore_n 3, 1), (13, .iconst 1, 1)] 14 [(3, .ref q), (0, .ref x), (1, .int p0), (2, .ref o)] [.int 1] C (by decide +kernel) rfl ?_
    exact g_iret (pc := 14) C R.rt (⟨_, rfl, Or.inr ⟨_, G', hp, hf, rfl⟩⟩) (Nat.le_of_ble_eq_true rfl) (Nat.le_of_ble_eq_true rfl) (by decide +kernel)
  · obtain ⟨G', ⟨v, rfl, hp⟩, hf⟩ := h9
    show PG κ 4 (0 + kX4_go.cells) (0 + kX4_go.slots) G2 [(0, .ref x), (1, .int p0), (2, .ref o)] 7 [.int v, .int 0, .ref o]
    refine g_seg [(7, .i2l, 1)] 8 [(0, .ref x), (1, .int p0), (2, .ref o)] [.long v.toInt64, .int 0, .ref o] C (by decide +kernel) rfl ?_
    refine g_lastM (pc := 8) C (hf.2.1 o _ ho ho1) rfl (by decide +kernel) ?_
    refine g_seg [(9, .goto 6, 3), (15, .iconst 0, 1)] 16 [(0, .ref x), (1, .int p0), (2, .ref o)] [.int 0] C (by decide +kernel) rfl ?_
    exact g_iret (pc := 16) C R.rt (⟨_, rfl, Or.inl ⟨rfl, v, G', hp, fr_out ho ho1 hf⟩⟩) (Nat.le_of_ble_eq_true rfl) (Nat.le_of_ble_eq_true rfl) (by decide +kernel)
set_option maxHeartbeats 4000000 in
set_option maxRecDepth 100000 in
theorem c_L_meets (l : Launch) (D : va_G) (cy : Nat → ClassId) {G G1 : GG} {x o : Nat} {fs : List Value} {f : Nat → Int64} {P : Int32 → GG → Prop} {px : String → GG → Prop} (p0 p1 : Int32) (hM : CtrX l D cy yX4_meets prog_1_method_16_code 6 (some .int) kX4_meets [.ref x, .int p0, .int p1] G1 (pI P) px) (hs : ∀ a e, G1 a = some e → G a = some e) (hx : G1 x = some (.inr (4, fs))) (ho : G o = some (.inl (cy 6, 1, .inr (.inl f)))) (ho1 : G1 o = none) (hpx : ∀ E G', px E G' → E = "java/lang/IndexOutOfBoundsException") : CtrW l D cy yL_meets method_16_code 5 (some .int) [(0, 10, 13, 21)] kL_meets [.ref x, .int p0, .int p1, .ref o] G (pI (fun v G3 => (v = 0 ∧ ∃ z G', P z G' ∧ fo cy o z.toInt64 G1 G G' G3) ∨ ∃ E G', px E G' ∧ fr G1 G G' G3 ∧ v = (if E = "java/lang/IndexOutOfBoundsException" then 1 else 0))) := by
  refine CtrW.mk (by decide +kernel) (Nat.le_of_ble_eq_true rfl) ?_
  intro κ C R
  refine g_pc (pc' := 0) rfl ?_
  refine g_seg [(0, .aload_n 3, 1), (1, .iconst 0, 1), (2, .aload_n 0, 1), (3, .iload_n 1, 1), (4, .iload_n 2, 1)] 5 [(0, .ref x), (1, .int p0), (2, .int p1), (3, .ref o)] [.int p1, .int p0, .ref x, .int 0, .ref o] C (by decide +kernel) rfl ?_
  refine g_callVC (pc := 5) C R mV_X4_meets q599 (hs _ _ hx) rfl rfl (CtrX.frame hM hs) rfl ⟨⟨(Nat.le_of_ble_eq_true rfl), (Nat.le_of_ble_eq_true rfl)⟩, (Nat.le_of_ble_eq_true rfl), (Nat.le_of_ble_eq_true rfl)⟩ rfl (Nat.le_of_ble_eq_true rfl) (by decide +kernel) (fun E G2 h9 => ?_) (fun r G2 h9 => ?_)
  · obtain ⟨G', hp, hf⟩ := h9
    have hE := hpx E G' hp
    subst hE
    refine ⟨13, ⟨[], ⟨0, 10, 13, 21⟩, [], rfl, rfl, rfl, by decide, q323, by decide, fun z hz => by cases hz⟩, fun q => ?_⟩
    refine g_seg [(13, .astore 4, 2), (15, .iconst 1, 1)] 16 [(4, .ref q), (0, .ref x), (1, .int p0), (2, .int p1), (3, .ref o)] [.int 1] C (by decide +kernel) rfl ?_
    exact g_iret (pc := 16) C R.rt (⟨_, rfl, Or.inr ⟨_, G', hp, hf, rfl⟩⟩) (Nat.le_of_ble_eq_true rfl) (Nat.le_of_ble_eq_true rfl) (by decide +kernel)
  · obtain ⟨G', ⟨v, rfl, hp⟩, hf⟩ := h9
    show PG κ 5 (0 + kX4_meets.cells) (0 + kX4_meets.slots) G2 [(0, .ref x), (1, .int p0), (2, .int p1), (3, .ref o)] 8 [.int v, .int 0, .ref o]
    refine g_seg [(8, .i2l, 1)] 9 [(0, .ref x), (1, .int p0), (2, .int p1), (3, .ref o)] [.long v.toInt64, .int 0, .ref o] C (by decide +kernel) rfl ?_
    refine g_lastM (pc := 9) C (hf.2.1 o _ ho ho1) rfl (by decide +kernel) ?_
    refine g_seg [(10, .goto 7, 3), (17, .iconst 0, 1)] 18 [(0, .ref x), (1, .int p0), (2, .int p1), (3, .ref o)] [.int 0] C (by decide +kernel) rfl ?_
    exact g_iret (pc := 18) C R.rt (⟨_, rfl, Or.inl ⟨rfl, v, G', hp, fr_out ho ho1 hf⟩⟩) (Nat.le_of_ble_eq_true rfl) (Nat.le_of_ble_eq_true rfl) (by decide +kernel)
set_option maxHeartbeats 4000000 in
set_option maxRecDepth 100000 in
theorem c_L_flight (l : Launch) (D : va_G) (cy : Nat → ClassId) {G G1 : GG} {x o : Nat} {fs : List Value} {f : Nat → Int64} {P : Int32 → GG → Prop} {px : String → GG → Prop} (p0 p1 : Int32) (hM : CtrX l D cy yX4_flight prog_1_method_17_code 10 (some .int) kX4_flight [.ref x, .int p0, .int p1] G1 (pI P) px) (hs : ∀ a e, G1 a = some e → G a = some e) (hx : G1 x = some (.inr (4, fs))) (ho : G o = some (.inl (cy 6, 1, .inr (.inl f)))) (ho1 : G1 o = none) (hpx : ∀ E G', px E G' → E = "java/lang/IndexOutOfBoundsException") : CtrW l D cy yL_flight method_17_code 5 (some .int) [(0, 10, 13, 21)] kL_flight [.ref x, .int p0, .int p1, .ref o] G (pI (fun v G3 => (v = 0 ∧ ∃ z G', P z G' ∧ fo cy o z.toInt64 G1 G G' G3) ∨ ∃ E G', px E G' ∧ fr G1 G G' G3 ∧ v = (if E = "java/lang/IndexOutOfBoundsException" then 1 else 0))) := by
  refine CtrW.mk (by decide +kernel) (Nat.le_of_ble_eq_true rfl) ?_
  intro κ C R
  refine g_pc (pc' := 0) rfl ?_
  refine g_seg [(0, .aload_n 3, 1), (1, .iconst 0, 1), (2, .aload_n 0, 1), (3, .iload_n 1, 1), (4, .iload_n 2, 1)] 5 [(0, .ref x), (1, .int p0), (2, .int p1), (3, .ref o)] [.int p1, .int p0, .ref x, .int 0, .ref o] C (by decide +kernel) rfl ?_
  refine g_callVC (pc := 5) C R mV_X4_flight q606 (hs _ _ hx) rfl rfl (CtrX.frame hM hs) rfl ⟨⟨(Nat.le_of_ble_eq_true rfl), (Nat.le_of_ble_eq_true rfl)⟩, (Nat.le_of_ble_eq_true rfl), (Nat.le_of_ble_eq_true rfl)⟩ rfl (Nat.le_of_ble_eq_true rfl) (by decide +kernel) (fun E G2 h9 => ?_) (fun r G2 h9 => ?_)
  · obtain ⟨G', hp, hf⟩ := h9
    have hE := hpx E G' hp
    subst hE
    refine ⟨13, ⟨[], ⟨0, 10, 13, 21⟩, [], rfl, rfl, rfl, by decide, q323, by decide, fun z hz => by cases hz⟩, fun q => ?_⟩
    refine g_seg [(13, .astore 4, 2), (15, .iconst 1, 1)] 16 [(4, .ref q), (0, .ref x), (1, .int p0), (2, .int p1), (3, .ref o)] [.int 1] C (by decide +kernel) rfl ?_
    exact g_iret (pc := 16) C R.rt (⟨_, rfl, Or.inr ⟨_, G', hp, hf, rfl⟩⟩) (Nat.le_of_ble_eq_true rfl) (Nat.le_of_ble_eq_true rfl) (by decide +kernel)
  · obtain ⟨G', ⟨v, rfl, hp⟩, hf⟩ := h9
    show PG κ 5 (0 + kX4_flight.cells) (0 + kX4_flight.slots) G2 [(0, .ref x), (1, .int p0), (2, .int p1), (3, .ref o)] 8 [.int v, .int 0, .ref o]
    refine g_seg [(8, .i2l, 1)] 9 [(0, .ref x), (1, .int p0), (2, .int p1), (3, .ref o)] [.long v.toInt64, .int 0, .ref o] C (by decide +kernel) rfl ?_
    refine g_lastM (pc := 9) C (hf.2.1 o _ ho ho1) rfl (by decide +kernel) ?_
    refine g_seg [(10, .goto 7, 3), (17, .iconst 0, 1)] 18 [(0, .ref x), (1, .int p0), (2, .int p1), (3, .ref o)] [.int 0] C (by decide +kernel) rfl ?_
    exact g_iret (pc := 18) C R.rt (⟨_, rfl, Or.inl ⟨rfl, v, G', hp, fr_out ho ho1 hf⟩⟩) (Nat.le_of_ble_eq_true rfl) (Nat.le_of_ble_eq_true rfl) (by decide +kernel)
set_option maxHeartbeats 4000000 in
set_option maxRecDepth 100000 in
theorem c_L_advise (l : Launch) (D : va_G) (cy : Nat → ClassId) {G G1 : GG} {x o : Nat} {fs : List Value} {f : Nat → Int64} {P : Int32 → GG → Prop} {px : String → GG → Prop} (p0 p1 : Int32) (hM : CtrX l D cy yX4_advise prog_1_method_18_code 8 (some .int) kX4_advise [.ref x, .int p0, .int p1] G1 (pI P) px) (hs : ∀ a e, G1 a = some e → G a = some e) (hx : G1 x = some (.inr (4, fs))) (ho : G o = some (.inl (cy 6, 1, .inr (.inl f)))) (ho1 : G1 o = none) (hpx : ∀ E G', px E G' → E = "java/lang/IndexOutOfBoundsException" ∨ E = "java/lang/IllegalArgumentException") : CtrW l D cy yL_advise method_18_code 5 (some .int) [(0, 10, 13, 21), (0, 10, 17, 13)] kL_advise [.ref x, .int p0, .int p1, .ref o] G (pI (fun v G3 => (v = 0 ∧ ∃ z G', P z G' ∧ fo cy o z.toInt64 G1 G G' G3) ∨ ∃ E G', px E G' ∧ fr G1 G G' G3 ∧ v = (if E = "java/lang/IndexOutOfBoundsException" then 1 else (if E = "java/lang/IllegalArgumentException" then 2 else 0)))) := by
  refine CtrW.mk (by decide +kernel) (Nat.le_of_ble_eq_true rfl) ?_
  intro κ C R
  refine g_pc (pc' := 0) rfl ?_
  refine g_seg [(0, .aload_n 3, 1), (1, .iconst 0, 1), (2, .aload_n 0, 1), (3, .iload_n 1, 1), (4, .iload_n 2, 1)] 5 [(0, .ref x), (1, .int p0), (2, .int p1), (3, .ref o)] [.int p1, .int p0, .ref x, .int 0, .ref o] C (by decide +kernel) rfl ?_
  refine g_callVC (pc := 5) C R mV_X4_advise q613 (hs _ _ hx) rfl rfl (CtrX.frame hM hs) rfl ⟨⟨(Nat.le_of_ble_eq_true rfl), (Nat.le_of_ble_eq_true rfl)⟩, (Nat.le_of_ble_eq_true rfl), (Nat.le_of_ble_eq_true rfl)⟩ rfl (Nat.le_of_ble_eq_true rfl) (by decide +kernel) (fun E G2 h9 => ?_) (fun r G2 h9 => ?_)
  · obtain ⟨G', hp, hf⟩ := h9
    rcases hpx E G' hp with rfl | rfl
    · refine ⟨13, ⟨[], ⟨0, 10, 13, 21⟩, [⟨0, 10, 17, 13⟩], rfl, rfl, rfl, by decide, q323, by decide, fun z hz => by cases hz⟩, fun q => ?_⟩
      refine g_seg [(13, .astore 4, 2), (15, .iconst 1, 1)] 16 [(4, .ref q), (0, .ref x), (1, .int p0), (2, .int p1), (3, .ref o)] [.int 1] C (by decide +kernel) rfl ?_
      exact g_iret (pc := 16) C R.rt (⟨_, rfl, Or.inr ⟨_, G', hp, hf, rfl⟩⟩) (Nat.le_of_ble_eq_true rfl) (Nat.le_of_ble_eq_true rfl) (by decide +kernel)
    · refine ⟨17, ⟨[⟨0, 10, 13, 21⟩], ⟨0, 10, 17, 13⟩, [], rfl, rfl, rfl, by decide, q191, by decide, fun z hz => by simp only [List.mem_cons, List.mem_nil_iff, or_false] at hz; rcases hz with rfl; exact ⟨by decide, "java/lang/IndexOutOfBoundsException", by decide, by decide, q323⟩⟩, fun q => ?_⟩
      refine g_seg [(17, .astore 4, 2), (19, .iconst 2, 1)] 20 [(4, .ref q), (0, .ref x), (1, .int p0), (2, .int p1), (3, .ref o)] [.int 2] C (by decide +kernel) rfl ?_
      exact g_iret (pc := 20) C R.rt (⟨_, rfl, Or.inr ⟨_, G', hp, hf, rfl⟩⟩) (Nat.le_of_ble_eq_true rfl) (Nat.le_of_ble_eq_true rfl) (by decide +kernel)
  · obtain ⟨G', ⟨v, rfl, hp⟩, hf⟩ := h9
    show PG κ 5 (0 + kX4_advise.cells) (0 + kX4_advise.slots) G2 [(0, .ref x), (1, .int p0), (2, .int p1), (3, .ref o)] 8 [.int v, .int 0, .ref o]
    refine g_seg [(8, .i2l, 1)] 9 [(0, .ref x), (1, .int p0), (2, .int p1), (3, .ref o)] [.long v.toInt64, .int 0, .ref o] C (by decide +kernel) rfl ?_
    refine g_lastM (pc := 9) C (hf.2.1 o _ ho ho1) rfl (by decide +kernel) ?_
    refine g_seg [(10, .goto 11, 3), (21, .iconst 0, 1)] 22 [(0, .ref x), (1, .int p0), (2, .int p1), (3, .ref o)] [.int 0] C (by decide +kernel) rfl ?_
    exact g_iret (pc := 22) C R.rt (⟨_, rfl, Or.inl ⟨rfl, v, G', hp, fr_out ho ho1 hf⟩⟩) (Nat.le_of_ble_eq_true rfl) (Nat.le_of_ble_eq_true rfl) (by decide +kernel)
set_option maxHeartbeats 4000000 in
set_option maxRecDepth 100000 in
theorem c_L_foresee (l : Launch) (D : va_G) (cy : Nat → ClassId) {G G1 : GG} {x o : Nat} {fs : List Value} {f : Nat → Int64} {P : Int32 → GG → Prop} {px : String → GG → Prop} (p0 p1 : Int32) (hM : CtrX l D cy yX4_foresee prog_1_method_19_code 5 (some .int) kX4_foresee [.ref x, .int p0, .int p1] G1 (pI P) px) (hs : ∀ a e, G1 a = some e → G a = some e) (hx : G1 x = some (.inr (4, fs))) (ho : G o = some (.inl (cy 6, 1, .inr (.inl f)))) (ho1 : G1 o = none) (hpx : ∀ E G', px E G' → E = "java/lang/IllegalArgumentException" ∨ E = "java/lang/IndexOutOfBoundsException") : CtrW l D cy yL_foresee method_19_code 5 (some .int) [(0, 10, 13, 13), (0, 10, 17, 21)] kL_foresee [.ref x, .int p0, .int p1, .ref o] G (pI (fun v G3 => (v = 0 ∧ ∃ z G', P z G' ∧ fo cy o z.toInt64 G1 G G' G3) ∨ ∃ E G', px E G' ∧ fr G1 G G' G3 ∧ v = (if E = "java/lang/IllegalArgumentException" then 1 else (if E = "java/lang/IndexOutOfBoundsException" then 2 else 0)))) := by
  refine CtrW.mk (by decide +kernel) (Nat.le_of_ble_eq_true rfl) ?_
  intro κ C R
  refine g_pc (pc' := 0) rfl ?_
  refine g_seg [(0, .aload_n 3, 1), (1, .iconst 0, 1), (2, .aload_n 0, 1), (3, .iload_n 1, 1), (4, .iload_n 2, 1)] 5 [(0, .ref x), (1, .int p0), (2, .int p1), (3, .ref o)] [.int p1, .int p0, .ref x, .int 0, .ref o] C (by decide +kernel) rfl ?_
  refine g_callVC (pc := 5) C R mV_X4_foresee q622 (hs _ _ hx) rfl rfl (CtrX.frame hM hs) rfl ⟨⟨(Nat.le_of_ble_eq_true rfl), (Nat.le_of_ble_eq_true rfl)⟩, (Nat.le_of_ble_eq_true rfl), (Nat.le_of_ble_eq_true rfl)⟩ rfl (Nat.le_of_ble_eq_true rfl) (by decide +kernel) (fun E G2 h9 => ?_) (fun r G2 h9 => ?_)
  · obtain ⟨G', hp, hf⟩ := h9
    rcases hpx E G' hp with rfl | rfl
    · refine ⟨13, ⟨[], ⟨0, 10, 13, 13⟩, [⟨0, 10, 17, 21⟩], rfl, rfl, rfl, by decide, q191, by decide, fun z hz => by cases hz⟩, fun q => ?_⟩
      refine g_seg [(13, .astore 4, 2), (15, .iconst 1, 1)] 16 [(4, .ref q), (0, .ref x), (1, .int p0), (2, .int p1), (3, .ref o)] [.int 1] C (by decide +kernel) rfl ?_
      exact g_iret (pc := 16) C R.rt (⟨_, rfl, Or.inr ⟨_, G', hp, hf, rfl⟩⟩) (Nat.le_of_ble_eq_true rfl) (Nat.le_of_ble_eq_true rfl) (by decide +kernel)
    · refine ⟨17, ⟨[⟨0, 10, 13, 13⟩], ⟨0, 10, 17, 21⟩, [], rfl, rfl, rfl, by decide, q323, by decide, fun z hz => by simp only [List.mem_cons, List.mem_nil_iff, or_false] at hz; rcases hz with rfl; exact ⟨by decide, "java/lang/IllegalArgumentException", by decide, by decide, q191⟩⟩, fun q => ?_⟩
      refine g_seg [(17, .astore 4, 2), (19, .iconst 2, 1)] 20 [(4, .ref q), (0, .ref x), (1, .int p0), (2, .int p1), (3, .ref o)] [.int 2] C (by decide +kernel) rfl ?_
      exact g_iret (pc := 20) C R.rt (⟨_, rfl, Or.inr ⟨_, G', hp, hf, rfl⟩⟩) (Nat.le_of_ble_eq_true rfl) (Nat.le_of_ble_eq_true rfl) (by decide +kernel)
  · obtain ⟨G', ⟨v, rfl, hp⟩, hf⟩ := h9
    show PG κ 5 (0 + kX4_foresee.cells) (0 + kX4_foresee.slots) G2 [(0, .ref x), (1, .int p0), (2, .int p1), (3, .ref o)] 8 [.int v, .int 0, .ref o]
    refine g_seg [(8, .i2l, 1)] 9 [(0, .ref x), (1, .int p0), (2, .int p1), (3, .ref o)] [.long v.toInt64, .int 0, .ref o] C (by decide +kernel) rfl ?_
    refine g_lastM (pc := 9) C (hf.2.1 o _ ho ho1) rfl (by decide +kernel) ?_
    refine g_seg [(10, .goto 11, 3), (21, .iconst 0, 1)] 22 [(0, .ref x), (1, .int p0), (2, .int p1), (3, .ref o)] [.int 0] C (by decide +kernel) rfl ?_
    exact g_iret (pc := 22) C R.rt (⟨_, rfl, Or.inl ⟨rfl, v, G', hp, fr_out ho ho1 hf⟩⟩) (Nat.le_of_ble_eq_true rfl) (Nat.le_of_ble_eq_true rfl) (by decide +kernel)
