/-! a turn of the law: the worlds put together again -/
theorem LW_mk {cy : Nat → ClassId} {x m o bn : Nat} {Ga Gb G : GG} {th : Int32} {z : Nat → Int64} (h : LB cy x m Ga Gb bn th) (sa : ∀ a e, Ga a = some e → G a = some e) (sb : ∀ a e, Gb a = some e → G a = some e) (dj : ∀ a e, Ga a = some e → Gb a = none) (ho : G o = some (.inl (cy 6, 1, .inr (.inl z)))) (hoa : Ga o = none) (hob : Gb o = none) : LW cy x m o G bn := by
  obtain ⟨ad, am, nt, nf, nc, nn, T, E, Cu, N, KT, KF, KC, F, h1, h2, h3, h4, h5⟩ := h
  exact ⟨Ga, Gb, ad, am, th, nt, nf, nc, nn, T, E, Cu, N, KT, KF, KC, F, z, h1, h2, ⟨sa, sb, dj⟩, ⟨ho, hoa, hob⟩, h3, h4, h5⟩
theorem dj_sym {Ga Gb : GG} (h : ∀ a e, Ga a = some e → Gb a = none) : ∀ a e, Gb a = some e → Ga a = none := by
  intro a e hb
  cases h1 : Ga a with
  | none => rfl
  | some e1 => have := h a e1 h1; rw [this] at hb; cases hb
theorem wS_of {nt nf nc : Nat} {b : Int32} {T F C : Rw} {E : Rw} (hT : nvT nt T) (hS : SF nt nf E F) (hC : nvC nf nc C b) : m_wS nt nf nc (b, T, F, C) := ⟨hT.1, fun f hf => (hS.2 f hf).1, fun k hk => (hC k hk).1⟩
