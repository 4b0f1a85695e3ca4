section
-- ===== PART A: goes FIRST, ahead of the names: the tables' words, and 'selects' of the private methods out of them =====
/-- a private method of a class that the tables say can be made, by its rows of tables_1 -/
def lw_okq (q : MethodName × Nat) : Prop := (q.1.cls ≠ "java/lang/invoke/MethodHandle" ∧ q.1.cls ≠ "java/lang/invoke/VarHandle") ∧ Cond.instantiable q.1.cls q.2 ∈ tables_1 ∧ Cond.privateMethod q.1 ∈ tables_1 ∧ Cond.instanceMethod q.1 ∈ tables_1
theorem lw_p0 : lw_okq (⟨"CircusLines", "trapezeNumbered", "(I)LCircusLines$Trapeze;"⟩, 9) := ⟨⟨by decide +kernel, by decide +kernel⟩, List.mem_of_getElem? (i := 15) (by decide +kernel), List.mem_of_getElem? (i := 63) (by decide +kernel), List.mem_of_getElem? (i := 64) (by decide +kernel)⟩
theorem lw_p1 : lw_okq (⟨"java/lang/Throwable", "fillInStackTrace", "(I)Ljava/lang/Throwable;"⟩, 6) := ⟨⟨by decide +kernel, by decide +kernel⟩, List.mem_of_getElem? (i := 108) (by decide +kernel), List.mem_of_getElem? (i := 106) (by decide +kernel), List.mem_of_getElem? (i := 107) (by decide +kernel)⟩
theorem lw_p2 : lw_okq (⟨"CircusLines", "ofTrapeze", "(LCircusLines$Trapeze;II)I"⟩, 9) := ⟨⟨by decide +kernel, by decide +kernel⟩, List.mem_of_getElem? (i := 15) (by decide +kernel), List.mem_of_getElem? (i := 138) (by decide +kernel), List.mem_of_getElem? (i := 139) (by decide +kernel)⟩
theorem lw_p3 : lw_okq (⟨"CircusLines", "hangersOf", "(I)I"⟩, 9) := ⟨⟨by decide +kernel, by decide +kernel⟩, List.mem_of_getElem? (i := 15) (by decide +kernel), List.mem_of_getElem? (i := 156) (by decide +kernel), List.mem_of_getElem? (i := 157) (by decide +kernel)⟩
theorem lw_p4 : lw_okq (⟨"CircusLines", "flyerNumbered", "(I)LCircusLines$Flyer;"⟩, 9) := ⟨⟨by decide +kernel, by decide +kernel⟩, List.mem_of_getElem? (i := 15) (by decide +kernel), List.mem_of_getElem? (i := 168) (by decide +kernel), List.mem_of_getElem? (i := 169) (by decide +kernel)⟩
theorem lw_p5 : lw_okq (⟨"CircusLines", "ofFlyer", "(LCircusLines$Flyer;I)I"⟩, 9) := ⟨⟨by decide +kernel, by decide +kernel⟩, List.mem_of_getElem? (i := 15) (by decide +kernel), List.mem_of_getElem? (i := 173) (by decide +kernel), List.mem_of_getElem? (i := 174) (by decide +kernel)⟩
theorem lw_p6 : lw_okq (⟨"CircusLines", "tally", "(I)I"⟩, 9) := ⟨⟨by decide +kernel, by decide +kernel⟩, List.mem_of_getElem? (i := 15) (by decide +kernel), List.mem_of_getElem? (i := 190) (by decide +kernel), List.mem_of_getElem? (i := 191) (by decide +kernel)⟩
theorem lw_p7 : lw_okq (⟨"CircusLines", "wholeTrapezes", "()I"⟩, 9) := ⟨⟨by decide +kernel, by decide +kernel⟩, List.mem_of_getElem? (i := 15) (by decide +kernel), List.mem_of_getElem? (i := 194) (by decide +kernel), List.mem_of_getElem? (i := 195) (by decide +kernel)⟩
theorem lw_p8 : lw_okq (⟨"CircusLines", "flyersWhoAre", "(I)I"⟩, 9) := ⟨⟨by decide +kernel, by decide +kernel⟩, List.mem_of_getElem? (i := 15) (by decide +kernel), List.mem_of_getElem? (i := 198) (by decide +kernel), List.mem_of_getElem? (i := 199) (by decide +kernel)⟩
theorem lw_p9 : lw_okq (⟨"CircusLines", "openCues", "()I"⟩, 9) := ⟨⟨by decide +kernel, by decide +kernel⟩, List.mem_of_getElem? (i := 15) (by decide +kernel), List.mem_of_getElem? (i := 202) (by decide +kernel), List.mem_of_getElem? (i := 203) (by decide +kernel)⟩
theorem lw_p10 : lw_okq (⟨"CircusLines", "passBeats", "(I)I"⟩, 9) := ⟨⟨by decide +kernel, by decide +kernel⟩, List.mem_of_getElem? (i := 15) (by decide +kernel), List.mem_of_getElem? (i := 232) (by decide +kernel), List.mem_of_getElem? (i := 233) (by decide +kernel)⟩
theorem lw_p11 : lw_okq (⟨"CircusLines", "callCues", "()V"⟩, 9) := ⟨⟨by decide +kernel, by decide +kernel⟩, List.mem_of_getElem? (i := 15) (by decide +kernel), List.mem_of_getElem? (i := 236) (by decide +kernel), List.mem_of_getElem? (i := 237) (by decide +kernel)⟩
theorem lw_p12 : lw_okq (⟨"CircusLines", "letGo", "(LCircusLines$Cue;)Z"⟩, 9) := ⟨⟨by decide +kernel, by decide +kernel⟩, List.mem_of_getElem? (i := 15) (by decide +kernel), List.mem_of_getElem? (i := 240) (by decide +kernel), List.mem_of_getElem? (i := 241) (by decide +kernel)⟩
theorem lw_p13 : lw_okq (⟨"CircusLines", "endFlights", "()I"⟩, 9) := ⟨⟨by decide +kernel, by decide +kernel⟩, List.mem_of_getElem? (i := 15) (by decide +kernel), List.mem_of_getElem? (i := 248) (by decide +kernel), List.mem_of_getElem? (i := 249) (by decide +kernel)⟩
theorem lw_p14 : lw_okq (⟨"CircusLines", "catcherAt", "(I)I"⟩, 9) := ⟨⟨by decide +kernel, by decide +kernel⟩, List.mem_of_getElem? (i := 15) (by decide +kernel), List.mem_of_getElem? (i := 256) (by decide +kernel), List.mem_of_getElem? (i := 257) (by decide +kernel)⟩
theorem lw_p15 : lw_okq (⟨"CircusLines", "isNetSpreadAt", "(I)Z"⟩, 9) := ⟨⟨by decide +kernel, by decide +kernel⟩, List.mem_of_getElem? (i := 15) (by decide +kernel), List.mem_of_getElem? (i := 263) (by decide +kernel), List.mem_of_getElem? (i := 264) (by decide +kernel)⟩
def lw_privs_1 : List (MethodName × Nat) := [(⟨"CircusLines", "trapezeNumbered", "(I)LCircusLines$Trapeze;"⟩, 9), (⟨"java/lang/Throwable", "fillInStackTrace", "(I)Ljava/lang/Throwable;"⟩, 6), (⟨"CircusLines", "ofTrapeze", "(LCircusLines$Trapeze;II)I"⟩, 9), (⟨"CircusLines", "hangersOf", "(I)I"⟩, 9), (⟨"CircusLines", "flyerNumbered", "(I)LCircusLines$Flyer;"⟩, 9), (⟨"CircusLines", "ofFlyer", "(LCircusLines$Flyer;I)I"⟩, 9), (⟨"CircusLines", "tally", "(I)I"⟩, 9), (⟨"CircusLines", "wholeTrapezes", "()I"⟩, 9), (⟨"CircusLines", "flyersWhoAre", "(I)I"⟩, 9), (⟨"CircusLines", "openCues", "()I"⟩, 9), (⟨"CircusLines", "passBeats", "(I)I"⟩, 9), (⟨"CircusLines", "callCues", "()V"⟩, 9), (⟨"CircusLines", "letGo", "(LCircusLines$Cue;)Z"⟩, 9), (⟨"CircusLines", "endFlights", "()I"⟩, 9), (⟨"CircusLines", "catcherAt", "(I)I"⟩, 9), (⟨"CircusLines", "isNetSpreadAt", "(I)Z"⟩, 9)]
theorem lw_r1 : ∀ q ∈ lw_privs_1, lw_okq q := List.forall_mem_cons.mpr ⟨lw_p0, List.forall_mem_cons.mpr ⟨lw_p1, List.forall_mem_cons.mpr ⟨lw_p2, List.forall_mem_cons.mpr ⟨lw_p3, List.forall_mem_cons.mpr ⟨lw_p4, List.forall_mem_cons.mpr ⟨lw_p5, List.forall_mem_cons.mpr ⟨lw_p6, List.forall_mem_cons.mpr ⟨lw_p7, List.forall_mem_cons.mpr ⟨lw_p8, List.forall_mem_cons.mpr ⟨lw_p9, List.forall_mem_cons.mpr ⟨lw_p10, List.forall_mem_cons.mpr ⟨lw_p11, List.forall_mem_cons.mpr ⟨lw_p12, List.forall_mem_cons.mpr ⟨lw_p13, List.forall_mem_cons.mpr ⟨lw_p14, List.forall_mem_cons.mpr ⟨lw_p15, fun _ h => absurd h List.not_mem_nil⟩⟩⟩⟩⟩⟩⟩⟩⟩⟩⟩⟩⟩⟩⟩⟩
theorem lw_p16 : lw_okq (⟨"CircusLines", "wearRopes", "()V"⟩, 9) := ⟨⟨by decide +kernel, by decide +kernel⟩, List.mem_of_getElem? (i := 15) (by decide +kernel), List.mem_of_getElem? (i := 275) (by decide +kernel), List.mem_of_getElem? (i := 276) (by decide +kernel)⟩
theorem lw_p17 : lw_okq (⟨"CircusLines", "dropFrom", "(II)V"⟩, 9) := ⟨⟨by decide +kernel, by decide +kernel⟩, List.mem_of_getElem? (i := 15) (by decide +kernel), List.mem_of_getElem? (i := 287) (by decide +kernel), List.mem_of_getElem? (i := 288) (by decide +kernel)⟩
theorem lw_p18 : lw_okq (⟨"CircusLines", "keepAct", "()V"⟩, 9) := ⟨⟨by decide +kernel, by decide +kernel⟩, List.mem_of_getElem? (i := 15) (by decide +kernel), List.mem_of_getElem? (i := 300) (by decide +kernel), List.mem_of_getElem? (i := 301) (by decide +kernel)⟩
theorem lw_p19 : lw_okq (⟨"CircusLines", "takeActBack", "()V"⟩, 9) := ⟨⟨by decide +kernel, by decide +kernel⟩, List.mem_of_getElem? (i := 15) (by decide +kernel), List.mem_of_getElem? (i := 316) (by decide +kernel), List.mem_of_getElem? (i := 317) (by decide +kernel)⟩
def lw_privs_2 : List (MethodName × Nat) := [(⟨"CircusLines", "wearRopes", "()V"⟩, 9), (⟨"CircusLines", "dropFrom", "(II)V"⟩, 9), (⟨"CircusLines", "keepAct", "()V"⟩, 9), (⟨"CircusLines", "takeActBack", "()V"⟩, 9)]
theorem lw_r2 : ∀ q ∈ lw_privs_2, lw_okq q := List.forall_mem_cons.mpr ⟨lw_p16, List.forall_mem_cons.mpr ⟨lw_p17, List.forall_mem_cons.mpr ⟨lw_p18, List.forall_mem_cons.mpr ⟨lw_p19, fun _ h => absurd h List.not_mem_nil⟩⟩⟩⟩
def lw_privs : List (MethodName × Nat) := lw_privs_1 ++ (lw_privs_2)
def lw_tbl : List Cond := k2_sels lw_privs ++ tables_1
theorem lw_privs_ok : ∀ q ∈ lw_privs, lw_okq q := by
  show ∀ q ∈ lw_privs_1 ++ (lw_privs_2), lw_okq q
  exact List.forall_mem_append.mpr ⟨lw_r1, lw_r2⟩
/-- the streams that the claim lets the run draw from -/
abbrev lw_cs : List Choice := [Jvm.Choice.named "NaN.bits"]
theorem lw_bits : nanBits ∈ lw_cs := by first | decide | exact List.mem_cons_self | simp [lw_cs, nanBits]

def RX0 : String := "CircusLines$Cue"
def TX0 : u_T := fun k => match k with
  | 0 => ("CircusLines$Cue", "beat", "I", true)
  | 1 => ("CircusLines$Cue", "flyerNumber", "I", true)
  | 2 => ("CircusLines$Cue", "reach", "I", true)
  | 3 => ("CircusLines$Cue", "time", "I", true)
  | 4 => ("CircusLines$Cue", "state", "I", false)
  | _ => ("CircusLines$Cue", "keptState", "I", false)
def tyX0 : Nat → FieldType := fun k => match k with
  | 0 => .int
  | 1 => .int
  | 2 => .int
  | 3 => .int
  | 4 => .int
  | _ => .int
abbrev wsX00 : List Cond := u_ws RX0 TX0 6
theorem nmX0 : ∀ a, a < 6 → ∀ b, b < 6 → a ≠ b → (TX0 a).2.1 ≠ (TX0 b).2.1 := by decide +kernel
theorem tyX0_ok : ∀ k, k < 6 → parseFieldDescriptor (TX0 k).2.2.1 = some (tyX0 k) := by decide +kernel
def RX1 : String := "CircusLines$Flyer"
def TX1 : u_T := fun k => match k with
  | 0 => ("CircusLines$Flyer", "state", "I", false)
  | 1 => ("CircusLines$Flyer", "trapezeNumber", "I", false)
  | 2 => ("CircusLines$Flyer", "goal", "I", false)
  | 3 => ("CircusLines$Flyer", "landingBeat", "I", false)
  | 4 => ("CircusLines$Flyer", "caught", "I", false)
  | 5 => ("CircusLines$Flyer", "keptState", "I", false)
  | 6 => ("CircusLines$Flyer", "keptTrapezeNumber", "I", false)
  | 7 => ("CircusLines$Flyer", "keptGoal", "I", false)
  | 8 => ("CircusLines$Flyer", "keptLandingBeat", "I", false)
  | _ => ("CircusLines$Flyer", "keptCaught", "I", false)
def tyX1 : Nat → FieldType := fun k => match k with
  | 0 => .int
  | 1 => .int
  | 2 => .int
  | 3 => .int
  | 4 => .int
  | 5 => .int
  | 6 => .int
  | 7 => .int
  | 8 => .int
  | _ => .int
abbrev wsX10 : List Cond := u_ws RX1 TX1 10
theorem nmX1 : ∀ a, a < 10 → ∀ b, b < 10 → a ≠ b → (TX1 a).2.1 ≠ (TX1 b).2.1 := by decide +kernel
theorem tyX1_ok : ∀ k, k < 10 → parseFieldDescriptor (TX1 k).2.2.1 = some (tyX1 k) := by decide +kernel
def RX2 : String := "CircusLines$Net"
def TX2 : u_T := fun k => match k with
  | 0 => ("CircusLines$Net", "from", "I", true)
  | _ => ("CircusLines$Net", "to", "I", true)
def tyX2 : Nat → FieldType := fun k => match k with
  | 0 => .int
  | _ => .int
abbrev wsX20 : List Cond := u_ws RX2 TX2 2
theorem nmX2 : ∀ a, a < 2 → ∀ b, b < 2 → a ≠ b → (TX2 a).2.1 ≠ (TX2 b).2.1 := by decide +kernel
theorem tyX2_ok : ∀ k, k < 2 → parseFieldDescriptor (TX2 k).2.2.1 = some (tyX2 k) := by decide +kernel
def RX3 : String := "CircusLines$Trapeze"
def TX3 : u_T := fun k => match k with
  | 0 => ("CircusLines$Trapeze", "middle", "I", true)
  | 1 => ("CircusLines$Trapeze", "width", "I", true)
  | 2 => ("CircusLines$Trapeze", "strength", "I", true)
  | 3 => ("CircusLines$Trapeze", "weight", "I", false)
  | 4 => ("CircusLines$Trapeze", "leftEndBeat", "I", false)
  | 5 => ("CircusLines$Trapeze", "worn", "I", false)
  | 6 => ("CircusLines$Trapeze", "whole", "Z", false)
  | 7 => ("CircusLines$Trapeze", "keptWorn", "I", false)
  | _ => ("CircusLines$Trapeze", "keptWhole", "Z", false)
def tyX3 : Nat → FieldType := fun k => match k with
  | 0 => .int
  | 1 => .int
  | 2 => .int
  | 3 => .int
  | 4 => .int
  | 5 => .int
  | 6 => .boolean
  | 7 => .int
  | _ => .boolean
abbrev wsX30 : List Cond := u_ws RX3 TX3 9
theorem nmX3 : ∀ a, a < 9 → ∀ b, b < 9 → a ≠ b → (TX3 a).2.1 ≠ (TX3 b).2.1 := by decide +kernel
theorem tyX3_ok : ∀ k, k < 9 → parseFieldDescriptor (TX3 k).2.2.1 = some (tyX3 k) := by decide +kernel
def RX4 : String := "CircusLines"
def TX4 : u_T := fun k => match k with
  | 0 => ("CircusLines", "trapezes", "[LCircusLines$Trapeze;", true)
  | 1 => ("CircusLines", "flyers", "[LCircusLines$Flyer;", true)
  | 2 => ("CircusLines", "cues", "[LCircusLines$Cue;", true)
  | 3 => ("CircusLines", "nets", "[LCircusLines$Net;", true)
  | 4 => ("CircusLines", "trapezeCount", "I", false)
  | 5 => ("CircusLines", "flyerCount", "I", false)
  | 6 => ("CircusLines", "cueCount", "I", false)
  | 7 => ("CircusLines", "netCount", "I", false)
  | _ => ("CircusLines", "beat", "I", false)
def tyX4 : Nat → FieldType := fun k => match k with
  | 0 => .array (.object "CircusLines$Trapeze")
  | 1 => .array (.object "CircusLines$Flyer")
  | 2 => .array (.object "CircusLines$Cue")
  | 3 => .array (.object "CircusLines$Net")
  | 4 => .int
  | 5 => .int
  | 6 => .int
  | 7 => .int
  | _ => .int
abbrev wsX40 : List Cond := u_ws RX4 TX4 9
theorem nmX4 : ∀ a, a < 9 → ∀ b, b < 9 → a ≠ b → (TX4 a).2.1 ≠ (TX4 b).2.1 := by decide +kernel
theorem tyX4_ok : ∀ k, k < 9 → parseFieldDescriptor (TX4 k).2.2.1 = some (tyX4 k) := by decide +kernel
def RX5 : String := "CircusLinesLaw$Sim"
def TX5 : u_T := fun k => match k with
  | 0 => ("CircusLinesLaw$Sim", "rig", "[[I", false)
  | 1 => ("CircusLinesLaw$Sim", "flyers", "[[I", false)
  | 2 => ("CircusLinesLaw$Sim", "cues", "[[I", false)
  | 3 => ("CircusLinesLaw$Sim", "nets", "[[I", false)
  | _ => ("CircusLinesLaw$Sim", "beat", "I", false)
def tyX5 : Nat → FieldType := fun k => match k with
  | 0 => .array (.array .int)
  | 1 => .array (.array .int)
  | 2 => .array (.array .int)
  | 3 => .array (.array .int)
  | _ => .int
abbrev wsX50 : List Cond := u_ws RX5 TX5 5
theorem nmX5 : ∀ a, a < 5 → ∀ b, b < 5 → a ≠ b → (TX5 a).2.1 ≠ (TX5 b).2.1 := by decide +kernel
theorem tyX5_ok : ∀ k, k < 5 → parseFieldDescriptor (TX5 k).2.2.1 = some (tyX5 k) := by decide +kernel
def RX6 : String := "CircusLinesModel"
def TX6 : u_T := fun k => match k with
  | _ => ("", "", "", false)
def tyX6 : Nat → FieldType := fun k => match k with
  | _ => .int
abbrev wsX60 : List Cond := u_ws RX6 TX6 0
theorem nmX6 : ∀ a, a < 0 → ∀ b, b < 0 → a ≠ b → (TX6 a).2.1 ≠ (TX6 b).2.1 := by decide +kernel
theorem tyX6_ok : ∀ k, k < 0 → parseFieldDescriptor (TX6 k).2.2.1 = some (tyX6 k) := by decide +kernel
abbrev vwCl : List vw_C := [(RX0, TX0, 6), (RX1, TX1, 10), (RX2, TX2, 2), (RX3, TX3, 9), (RX4, TX4, 9), (RX5, TX5, 5)]

/-- every good word of the tables: all methods' words are their own code and these -/
def lw_T : List Cond := lw_tbl.filter goodWord
theorem lw_T_in {i : Nat} {w : Cond} (h : lw_tbl[i]? = some w) (hg : goodWord w = true) : w ∈ lw_T := List.mem_filter.mpr ⟨List.mem_of_getElem? h, hg⟩
theorem lw_T_good : ∀ w ∈ lw_T, w ∈ lw_T ∧ ((w.onTables && w.keeps) = true ∨ ∃ ty, w = .arrayClass ty) := fun w h => ⟨h, good_of_word (List.mem_filter.mp h).2⟩
theorem lw_T_tbl : ∀ w ∈ lw_T, w ∈ lw_tbl := fun _ h => (List.mem_filter.mp h).1
def wsU (y : MethodName) (b : ByteArray) (n : Nat) (r : Option FieldType) : List Cond := .code y b n r :: lw_T

theorem inX0 : ∀ w ∈ u_ws RX0 TX0 6, w ∈ lw_T := by
  have h : (u_ws RX0 TX0 6).all (fun w => decide (w ∈ lw_tbl) && goodWord w) = true := by decide +kernel
  intro w hw
  have h1 := List.all_eq_true.mp h w hw
  simp only [Bool.and_eq_true, decide_eq_true_eq] at h1
  exact List.mem_filter.mpr h1
theorem inX1 : ∀ w ∈ u_ws RX1 TX1 10, w ∈ lw_T := by
  have h : (u_ws RX1 TX1 10).all (fun w => decide (w ∈ lw_tbl) && goodWord w) = true := by decide +kernel
  intro w hw
  have h1 := List.all_eq_true.mp h w hw
  simp only [Bool.and_eq_true, decide_eq_true_eq] at h1
  exact List.mem_filter.mpr h1
theorem inX2 : ∀ w ∈ u_ws RX2 TX2 2, w ∈ lw_T := by
  have h : (u_ws RX2 TX2 2).all (fun w => decide (w ∈ lw_tbl) && goodWord w) = true := by decide +kernel
  intro w hw
  have h1 := List.all_eq_true.mp h w hw
  simp only [Bool.and_eq_true, decide_eq_true_eq] at h1
  exact List.mem_filter.mpr h1
theorem inX3 : ∀ w ∈ u_ws RX3 TX3 9, w ∈ lw_T := by
  have h : (u_ws RX3 TX3 9).all (fun w => decide (w ∈ lw_tbl) && goodWord w) = true := by decide +kernel
  intro w hw
  have h1 := List.all_eq_true.mp h w hw
  simp only [Bool.and_eq_true, decide_eq_true_eq] at h1
  exact List.mem_filter.mpr h1
theorem inX4 : ∀ w ∈ u_ws RX4 TX4 9, w ∈ lw_T := by
  have h : (u_ws RX4 TX4 9).all (fun w => decide (w ∈ lw_tbl) && goodWord w) = true := by decide +kernel
  intro w hw
  have h1 := List.all_eq_true.mp h w hw
  simp only [Bool.and_eq_true, decide_eq_true_eq] at h1
  exact List.mem_filter.mpr h1
theorem inX5 : ∀ w ∈ u_ws RX5 TX5 5, w ∈ lw_T := by
  have h : (u_ws RX5 TX5 5).all (fun w => decide (w ∈ lw_tbl) && goodWord w) = true := by decide +kernel
  intro w hw
  have h1 := List.all_eq_true.mp h w hw
  simp only [Bool.and_eq_true, decide_eq_true_eq] at h1
  exact List.mem_filter.mpr h1
end
section
/-! ===== BEGIN exceptions that leave a method, and their catching by the caller (launches without stack traces) ===== -/
section VXA
/-! The laws vx_back, vx_callV, vx_callS, vx_callSW, vx_throw0, vx_throwS follow proofs of the library, with one case more: JvmDerived/Free/Laws.lean (Back.of_free), Shelf42/LK1.lean (callV, callS), Shelf/KitTraced.lean (throwNew0V, throwNewS). -/
/-- where a method has thrown q: the class by its name, the cell, what was written, the world -/
def vx_T (XC : String → State → State → Prop) (st : State) (q : Addr) (t : State) (mc ms : Nat) (free : Addr → Prop) : Prop :=
  ∃ (E : String) (ce : Cell) (L : List Loc), XC E st t ∧ t.heap[q]? = some ce ∧ ce.vm = .none ∧ st.vm.findClass E = some ce.cls ∧ st.WarmedH t.vm ∧ st.sameButNew ({ t with vm := st.vm } : State) L mc ms ∧ ∀ z ∈ L, free z.base
def vx_Q (Qc : Array Value → State → Outcome → State → Prop) (XC : String → State → State → Prop) (mc ms : Nat) (free : Addr → Prop) : Array Value → State → Outcome → State → Prop := fun a st o t =>
  (Qc a st o t ∧ ∃ L, FrameEnd st o t L mc ms ∧ ∀ q ∈ L, free q.base) ∨ ∃ q, o = .threw q ∧ vx_T XC st q t mc ms free
/-- a callee that returns or throws -/
def vx_Met (l : Launch) (y : MethodName) (ws : List Cond) (rm : Room) (Pc : Array Value → State → Prop) (Qc : Array Value → State → Outcome → State → Prop) (XC : String → State → State → Prop) (mc ms : Nat) (free : Addr → Prop) : Prop :=
  MetFree l y (headSpec ws rm) Pc (fun _ _ _ _ _ => True) (vx_Q Qc XC mc ms free)
def vx_Post (XC : String → State → State → Prop) (mc ms : Nat) (free : Addr → Prop) : Pt → Array Value → Addr → Pt → Prop := fun A a q B =>
  ∃ (g : JFrame) (mk : MethodId) (t : State) (L : List Loc) (E : String) (ce : Cell), B.U.heap = t.heap ∧ B.U.vm = t.vm ∧ XC E (A.U.calling g mk a) t ∧ t.heap[q]? = some ce ∧ ce.vm = .none ∧ A.U.vm.findClass E = some ce.cls ∧ B.locs = A.locs ++ L ∧ (∀ z ∈ L, free z.base) ∧ B.cells = A.cells + mc ∧ B.slots = A.slots + ms
def vx_Back (l : Launch) (R : Room) (p : Program) (e : Env) (below : List Frame) (s : State) (sargs : Array Value) (y : MethodName) (len W9 : Nat)
    (Pre : Pt → Array Value → Prop) (Post : Pt → Array Value → Option Value → Pt → Prop) (PostX : Pt → Array Value → Addr → Pt → Prop) : Prop :=
  ∀ (m : MethodId) (meth : Method) (c : Code) (A : Pt) (g : JFrame) (ig : Instr) (mk : MethodId) (a : Array Value),
    Stand p l e R s m sargs below meth c A.U A.locs A.cells A.slots → g.method = m → g.locals.size = c.maxLocals → decode c.code g.pc = .ok (ig, len) →
    2 * g.monitorRoom + (g.stack.map fun v => v.category).sum ≤ W9 → A.U.methodNamed? y = some mk → Pre A a →
    (∃ (v : Option Value) (B : Pt), Stand p l e R s m sargs below meth c B.U B.locs B.cells B.slots ∧ Post A a v B ∧
      Steps p.tables e below (doInvoke e (A.U.setTop g) [] mk a).1 (B.U.setTop { g with pc := g.pc + len, stack := v.toList ++ g.stack })) ∨
    (∃ (q : Addr) (B : Pt), Stand p l e R s m sargs below meth c B.U B.locs B.cells B.slots ∧ PostX A a q B ∧
      Steps p.tables e below (doInvoke e (A.U.setTop g) [] mk a).1 ((B.U.setTop g).pushFrame (.throwing q)))
section Payer
variable {l : Launch} {R : Room} {p : Program} {e : Env} {below : List Frame} {s : State} {sargs : Array Value} {y : MethodName} {len W9 : Nat}
theorem vx_back {ws : List Cond} {rm : Room} {Pc : Array Value → State → Prop} {Qc : Array Value → State → Outcome → State → Prop} {XC : String → State → State → Prop} {mc ms : Nat} {free : Addr → Prop} {bytes : ByteArray} {maxL : Nat} {ret : Option FieldType}
    (hM : vx_Met l y ws rm Pc Qc XC mc ms free) (hblind : FrameBlind Pc) (hrc : rm.cells = mc) (hrs : rm.slots = ms)
    (hframes : rm.frames + 1 ≤ R.frames) (hlocals : W9 + (maxL + 11) + rm.locals ≤ R.locals)
    (hws : ∀ w ∈ ws, ∀ a' U, s.WarmedH U.vm → w.before a' U = true) (hcode : Cond.code y bytes maxL ret ∈ ws) (hinit : ∀ a' U, s.WarmedH U.vm → (Cond.initialized y.cls).before a' U = true) :
    vx_Back l R p e below s sargs y len W9 (PreOf R mc ms Pc) (PostOf Qc mc ms free) (vx_Post XC mc ms free) := by
  intro m meth c A g ig mk a X hg hsize hdg hW hn hp
  have h1 : (headSpec ws rm).pre.before a A.U = true := atoms_intro fun w hw => hws w hw _ _ X.warmed
  have h2 : (Cond.code y bytes maxL ret).before a A.U = true := hws _ hcode _ _ X.warmed
  have h3 : (Cond.initialized y.cls).before a A.U = true := hinit _ _ X.warmed
  have h4 : A.cells + (headSpec ws rm).room.cells ≤ R.cells := by rw [show (headSpec ws rm).room.cells = mc from hrc]; exact hp.1
  have h5 : A.slots + (headSpec ws rm).room.slots ≤ R.slots := by rw [show (headSpec ws rm).room.slots = ms from hrs]; exact hp.2.1
  have hPc : Pc a (A.U.calling g mk a) := hblind _ _ _ _ hp.2.2
  obtain ⟨U, Ls, c0, s0⟩ := A
  dsimp only [Pt.U, Pt.locs, Pt.cells, Pt.slots] at h1 h2 h3 h4 h5 X hn hPc ⊢
  obtain ⟨methY, cY, hmY, hcY, -, hlY, -, -, -, -⟩ := Cond.code_spec hn h2
  obtain ⟨kY, hkY, -⟩ := className_of_methodNamed hn
  have hinitY : kY.init = .initialized := Cond.initialized_spec (findClass_of_methodNamed hn) hkY h3
  have h : At U g.method c below := by rw [hg]; exact X.here
  have hlocals9 : W9 + (maxL + 11) + (headSpec ws rm).room.locals ≤ R.locals := hlocals
  have happ : (headSpec ws rm).appliesLoose y e.platform (U.calling g mk a) = true :=
    Spec.appliesLoose_calling (g := g) h hdg hn hkY hinitY
      (X.room_calling (g := g) (R' := (headSpec ws rm).room) hsize hmY hcY hframes (by rw [hlY]; omega) h4 h5) h1
  obtain ⟨mid, hmid⟩ := h.above
  have hfr : (U.setTop g).frames = (.java g :: mid) ++ below := by rw [State.frames_setTop' g h.top, hmid]; rfl
  obtain ⟨o, s₂, hsteps, -, hend, hq⟩ := Steps.callFree hM p X.admits X.cas X.clock (acts := []) hfr happ hPc trivial
  have hq' : vx_Q Qc XC mc ms free a (U.calling g mk a) o s₂ := hq
  rw [State.frames_setTop' g h.top] at hend
  obtain ⟨g₀, hg0⟩ := Option.isSome_iff_exists.mp h.top
  obtain ⟨r, hr⟩ := State.topJava?_eq_some.mp hg0
  have hr' : (({ U with heap := s₂.heap, slotsUsed := s₂.slotsUsed } : State).setVm s₂.vm).frames = .java g₀ :: r := hr
  rcases hq' with ⟨hqc, L, hfe, hL⟩ | ⟨q, rfl, E, ce, L, hx, hce, hcv, hcl, hW₂, hsm, hL⟩
  · obtain ⟨⟨v, rfl⟩, hW₂, e2, q2, q3, q4, q5, q6⟩ := id hfe
    have e3 : s₂ = ({ (U.calling g mk a).setFrames s₂.frames with heap := s₂.heap, slotsUsed := s₂.slotsUsed } : State).setVm s₂.vm := by
      have : s₂ = ({ s₂ with vm := (U.calling g mk a).vm } : State).setVm s₂.vm := rfl
      rw [e2] at this
      exact this
    obtain ⟨c₂, i₂, len₂, hc₂, hd₂, hf₂⟩ := hend
    have hW' : U.WarmedH s₂.vm := hW₂
    have hcc : c₂ = c := by
      have h1 : s₂.code? g.method = U.code? g.method := by
        rw [State.code?_eq, State.code?_eq, hW'.alike.method?]
      exact Option.some.inj (hc₂.symm.trans (h1.trans h.code))
    subst hcc
    have hlen : len₂ = len := by rw [hdg] at hd₂; cases hd₂; rfl
    subst hlen
    have hs₂ : s₂ = (({ U with heap := s₂.heap, slotsUsed := s₂.slotsUsed } : State).setVm s₂.vm).setTop { g with pc := g.pc + len₂, stack := v.toList ++ g.stack } := by
      refine e3.trans ?_
      rw [hf₂, State.calling_eq h.top, State.setFrames_setFrames, State.setTop_of_frames _ hr', hr]
      rfl
    have hsame : U.sameButNew ({ U with heap := s₂.heap, slotsUsed := s₂.slotsUsed } : State) L mc ms := by
      refine ⟨?_, q2, q3, q4, q5, q6⟩
      obtain ⟨t, ht, -⟩ := State.frames_cons hr
      show ({ U with heap := s₂.heap, slotsUsed := s₂.slotsUsed } : State) = { U.setFrames U.frames with heap := s₂.heap, slotsUsed := s₂.slotsUsed }
      rw [State.setFrames_self ht]
    subst hg
    refine Or.inl ⟨v, ⟨(({ U with heap := s₂.heap, slotsUsed := s₂.slotsUsed } : State).setVm s₂.vm), Ls ++ L, c0 + mc, s0 + ms⟩,
      ⟨X.admits, X.cas, X.clock, X.frames, X.room, X.hears, X.method, X.code, (X.here.setHeapUsed s₂.heap s₂.slotsUsed).setVm hW'.alike, X.tail, State.WarmedH.trans X.warmed hW', X.limits, X.bytes, X.same.trans (hsame.setVm s.vm)⟩,
      ⟨g, mk, s₂, L, rfl, rfl, hqc, rfl, hL, rfl, rfl⟩, ?_⟩
    show Steps p.tables e below _ ((({ U with heap := s₂.heap, slotsUsed := s₂.slotsUsed } : State).setVm s₂.vm).setTop { g with pc := g.pc + len₂, stack := v.toList ++ g.stack })
    rw [← hs₂]
    exact hsteps
  · obtain ⟨e2, q2, q3, q4, q5, q6⟩ := id hsm
    have e3 : s₂ = ({ (U.calling g mk a).setFrames s₂.frames with heap := s₂.heap, slotsUsed := s₂.slotsUsed } : State).setVm s₂.vm := by
      have : s₂ = ({ s₂ with vm := (U.calling g mk a).vm } : State).setVm s₂.vm := rfl
      rw [e2] at this
      exact this
    have hf₂ : s₂.frames = .throwing q :: .java g :: U.frames.tail := hend
    have hW' : U.WarmedH s₂.vm := hW₂
    have hs₂ : s₂ = ((({ U with heap := s₂.heap, slotsUsed := s₂.slotsUsed } : State).setVm s₂.vm).setTop g).pushFrame (.throwing q) := by
      refine e3.trans ?_
      rw [hf₂, State.calling_eq h.top, State.setFrames_setFrames, State.pushFrame, State.frames_setTop _ hr', State.setTop_of_frames _ hr', State.setFrames_setFrames, hr]
      rfl
    have hsame : U.sameButNew ({ U with heap := s₂.heap, slotsUsed := s₂.slotsUsed } : State) L mc ms := by
      refine ⟨?_, q2, q3, q4, q5, q6⟩
      obtain ⟨t, ht, -⟩ := State.frames_cons hr
      show ({ U with heap := s₂.heap, slotsUsed := s₂.slotsUsed } : State) = { U.setFrames U.frames with heap := s₂.heap, slotsUsed := s₂.slotsUsed }
      rw [State.setFrames_self ht]
    subst hg
    refine Or.inr ⟨q, ⟨(({ U with heap := s₂.heap, slotsUsed := s₂.slotsUsed } : State).setVm s₂.vm), Ls ++ L, c0 + mc, s0 + ms⟩,
      ⟨X.admits, X.cas, X.clock, X.frames, X.room, X.hears, X.method, X.code, (X.here.setHeapUsed s₂.heap s₂.slotsUsed).setVm hW'.alike, X.tail, State.WarmedH.trans X.warmed hW', X.limits, X.bytes, X.same.trans (hsame.setVm s.vm)⟩,
      ⟨g, mk, s₂, L, E, ce, rfl, rfl, hx, hce, hcv, hcl, rfl, hL, rfl, rfl⟩, ?_⟩
    show Steps p.tables e below _ (((({ U with heap := s₂.heap, slotsUsed := s₂.slotsUsed } : State).setVm s₂.vm).setTop g).pushFrame (.throwing q))
    rw [← hs₂]
    exact hsteps
end Payer
section Calls
variable {p : Program} {l : Launch} {e : Env} {R : Room} {s : State} {m : MethodId} {args : Array Value} {below : List Frame} {meth : Method} {c : Code} {T : State} {locs : List Loc} {cells slots : Nat}
theorem vx_callV (X : Stand p l e R s m args below meth c T locs cells slots) (hexec : p.tables.exec = Jvm.exec) {own C : String} {index : Nat} {y : MethodName} {bytes : ByteArray} {maxL : Nat} {ret : Option FieldType}
    (hown : s.vm.findClass own = some m.cls) (hlink : (Cond.methodLink own index y).before args s = true) (hinst : (Cond.instanceMethod y).before args s = true) (hsel : (Cond.selects C y y).before args s = true)
    (hcode : (Cond.code y bytes maxL ret).before args s = true) (hy : y.cls ≠ "java/lang/invoke/MethodHandle" ∧ y.cls ≠ "java/lang/invoke/VarHandle")
    {W9 : Nat} {Pre : Pt → Array Value → Prop} {Post : Pt → Array Value → Option Value → Pt → Prop} {PostX : Pt → Array Value → Addr → Pt → Prop} (hK : vx_Back l R p e below s args y 3 W9 Pre Post PostX)
    {b : Addr} {cellB : Cell} (hcell : T.heap[b]? = some cellB) (hobj : cellB.vm.isStatics = false) (hcls : s.vm.findClass C = some cellB.cls)
    {g : JFrame} (hg : g.method = m) (hsize : g.locals.size = c.maxLocals) {argsL rest : List Value} (hlen : ∀ sig, parseMethodDescriptor y.desc = some sig → argsL.length = sig.parameters.length)
    (hstack : g.stack = argsL.reverse ++ .ref b :: rest) (hW : 2 * g.monitorRoom + (rest.map fun v => v.category).sum ≤ W9) (hdg : decode c.code g.pc = .ok (.invokevirtual index, 3))
    (hpre : ∀ vm₁, s.WarmedH vm₁ → Pre ⟨T.setVm vm₁, locs, cells, slots⟩ (Value.ref b :: argsL).toArray) :
    (∃ (v : Option Value) (vm₁ : Vm) (B : Pt), s.WarmedH vm₁ ∧ Stand p l e R s m args below meth c B.U B.locs B.cells B.slots ∧ Post ⟨T.setVm vm₁, locs, cells, slots⟩ (Value.ref b :: argsL).toArray v B ∧
      ∀ target, Steps p.tables e below (B.U.setTop { g with pc := g.pc + 3, stack := v.toList ++ rest }) target → Steps p.tables e below (T.setTop g) target) ∨
    (∃ (q : Addr) (vm₁ : Vm) (B : Pt), s.WarmedH vm₁ ∧ Stand p l e R s m args below meth c B.U B.locs B.cells B.slots ∧ PostX ⟨T.setVm vm₁, locs, cells, slots⟩ (Value.ref b :: argsL).toArray q B ∧
      Steps p.tables e below (T.setTop g) ((B.U.setTop { g with stack := rest }).pushFrame (.throwing q))) := by
  obtain ⟨mk, methM, hnamed, hmethM, hstM, habM⟩ := Cond.instanceMethod_spec hinst
  obtain ⟨methM', cM, hmethM', -, -, -, -, -, -, hsigM⟩ := Cond.code_spec hnamed hcode
  cases hmethM.symm.trans hmethM'
  obtain ⟨c2, r2, m2, q1, q2, q3, q4, kP, hkP, hkPi⟩ := Cond.selects_spec hsel
  cases hcls.symm.trans q1
  cases (State.methodFound?_of_named hnamed hy).symm.trans q2
  cases hnamed.symm.trans q3
  have hselP : selectMethod e.platform s.vm cellB.cls mk = .method mk := by rw [Launch.admits_selectMethod X.admits]; exact q4
  obtain ⟨vm₁, X₁, hstep₁⟩ := X.invokevirtual hexec hown hlink hnamed hmethM hstM hkP hkPi hy (a := b) (cell := cellB) hcell
    (fun z h => by rw [h] at hobj; cases hobj) hselP hmethM habM hkP hkPi (g := g) hg (argsL := argsL) (rest := rest) (hlen _ hsigM) hstack hdg
  rcases hK m meth c ⟨T.setVm vm₁, locs, cells, slots⟩ { g with stack := rest } (.invokevirtual index) mk (Value.ref b :: argsL).toArray X₁ hg hsize hdg hW (X₁.named hnamed) (hpre vm₁ X₁.warmed) with ⟨v, B, X', hpost, hsteps⟩ | ⟨q, B, X', hpost, hsteps⟩
  · exact Or.inl ⟨v, vm₁, B, X₁.warmed, X', hpost, fun target h => hstep₁ _ fun acts => by rw [doInvoke_state]; exact hsteps.trans h⟩
  · exact Or.inr ⟨q, vm₁, B, X₁.warmed, X', hpost, hstep₁ _ fun acts => by rw [doInvoke_state]; exact hsteps⟩
theorem vx_callS (X : Stand p l e R s m args below meth c T locs cells slots) (hexec : p.tables.exec = Jvm.exec) {own : String} {index : Nat} {y : MethodName} {bytes : ByteArray} {maxL : Nat} {ret : Option FieldType}
    (hown : s.vm.findClass own = some m.cls) (hlink : (Cond.methodLink own index y).before args s = true) (hstat : (Cond.static y).before args s = true) (hinit : (Cond.initialized y.cls).before args s = true)
    (hcode : (Cond.code y bytes maxL ret).before args s = true) (hy : y.cls ≠ "java/lang/invoke/MethodHandle" ∧ y.cls ≠ "java/lang/invoke/VarHandle")
    {W9 : Nat} {Pre : Pt → Array Value → Prop} {Post : Pt → Array Value → Option Value → Pt → Prop} {PostX : Pt → Array Value → Addr → Pt → Prop} (hK : vx_Back l R p e below s args y 3 W9 Pre Post PostX)
    {g : JFrame} (hg : g.method = m) (hsize : g.locals.size = c.maxLocals) {argsL rest : List Value} (hlen : ∀ sig, parseMethodDescriptor y.desc = some sig → argsL.length = sig.parameters.length)
    (hstack : g.stack = argsL.reverse ++ rest) (hW : 2 * g.monitorRoom + (rest.map fun v => v.category).sum ≤ W9) (hdg : decode c.code g.pc = .ok (.invokestatic index, 3))
    (hpre : ∀ vm₁, s.WarmedH vm₁ → Pre ⟨T.setVm vm₁, locs, cells, slots⟩ argsL.toArray) :
    (∃ (v : Option Value) (vm₁ : Vm) (B : Pt), s.WarmedH vm₁ ∧ Stand p l e R s m args below meth c B.U B.locs B.cells B.slots ∧ Post ⟨T.setVm vm₁, locs, cells, slots⟩ argsL.toArray v B ∧
      ∀ target, Steps p.tables e below (B.U.setTop { g with pc := g.pc + 3, stack := v.toList ++ rest }) target → Steps p.tables e below (T.setTop g) target) ∨
    (∃ (q : Addr) (vm₁ : Vm) (B : Pt), s.WarmedH vm₁ ∧ Stand p l e R s m args below meth c B.U B.locs B.cells B.slots ∧ PostX ⟨T.setVm vm₁, locs, cells, slots⟩ argsL.toArray q B ∧
      Steps p.tables e below (T.setTop g) ((B.U.setTop { g with stack := rest }).pushFrame (.throwing q))) := by
  obtain ⟨mk, hnamed⟩ := Cond.code_named hcode
  obtain ⟨methM, cM, hmethM, -, -, -, -, -, -, hsigM⟩ := Cond.code_spec hnamed hcode
  have hstatic : methM.isStatic = true := Cond.static_spec hnamed hmethM hstat
  obtain ⟨kP, hkP, -⟩ := className_of_methodNamed hnamed
  have hinitP : kP.init = .initialized := Cond.initialized_spec (findClass_of_methodNamed hnamed) hkP hinit
  obtain ⟨vm₁, X₁, hstep₁⟩ := X.invokestatic hexec hown hlink hnamed hmethM hstatic hkP hinitP hy (g := g) hg (argsL := argsL) (rest := rest) (hlen _ hsigM) hstack hdg
  rcases hK m meth c ⟨T.setVm vm₁, locs, cells, slots⟩ { g with stack := rest } (.invokestatic index) mk argsL.toArray X₁ hg hsize hdg hW (X₁.named hnamed) (hpre vm₁ X₁.warmed) with ⟨v, B, X', hpost, hsteps⟩ | ⟨q, B, X', hpost, hsteps⟩
  · exact Or.inl ⟨v, vm₁, B, X₁.warmed, X', hpost, fun target h => hstep₁ _ fun acts => by rw [doInvoke_state]; exact hsteps.trans h⟩
  · exact Or.inr ⟨q, vm₁, B, X₁.warmed, X', hpost, hstep₁ _ fun acts => by rw [doInvoke_state]; exact hsteps⟩
end Calls
theorem vx_cls {s : State} {T : State} {vm₁ : Vm} {E : String} {k : ClassId} (hW : s.WarmedH vm₁) (h : (T.setVm vm₁).vm.findClass E = some k) : s.vm.findClass E = some k := by
  have h1 : vm₁.findClass E = some k := h
  rw [hW.alike.findClass] at h1
  exact h1
/-- the method's frame g, with q thrown over it -/
def vx_W (p : Program) (l : Launch) (e : Env) (R : Room) (s : State) (m : MethodId) (args : Array Value) (below : List Frame) (meth : Method) (c : Code) (H : Heap) (locs : List Loc) (cells slots : Nat) (Q : State → Prop) (g : JFrame) (q : Addr) : Prop :=
  ∀ T : State, T.heap = H → Stand p l e R s m args below meth c T locs cells slots → ∃ t, Steps p.tables e below ((T.setTop g).pushFrame (.throwing q)) t ∧ Q t
def vx_Run (p : Program) (l : Launch) (e : Env) (R : Room) (s : State) (m : MethodId) (args : Array Value) (below : List Frame) (meth : Method) (c : Code) (H : Heap) (locs : List Loc) (cells slots mc ms : Nat) (g : JFrame) (rest : List Value) (Qa : State → Outcome → State → Prop) (XC : String → State → State → Prop) (free : Addr → Prop) : Prop :=
  ∀ T : State, T.heap = H → Stand p l e R s m args below meth c T locs cells slots →
    (∃ (v : Option Value) (st₀ t T' : State) (L : List Loc), st₀.heap = H ∧ Stand p l e R s m args below meth c T' (locs ++ L) (cells + mc) (slots + ms) ∧ (∀ q ∈ L, free q.base) ∧ T'.heap = t.heap ∧ T'.vm = t.vm ∧ Qa st₀ (.returned v) t ∧
      Goes p e below T g T' { g with pc := g.pc + 3, stack := v.toList ++ rest }) ∨
    (∃ (q : Addr) (st₀ t T' : State) (L : List Loc) (E : String) (ce : Cell), st₀.heap = H ∧ Stand p l e R s m args below meth c T' (locs ++ L) (cells + mc) (slots + ms) ∧ (∀ z ∈ L, free z.base) ∧ T'.heap = t.heap ∧ T'.vm = t.vm ∧ XC E st₀ t ∧ t.heap[q]? = some ce ∧ ce.vm = .none ∧ s.vm.findClass E = some ce.cls ∧
      Steps p.tables e below (T.setTop g) ((T'.setTop { g with stack := rest }).pushFrame (.throwing q)))
def vx_X {S : Type} (px : S → Prop) (B : String → S → State → Prop) (A : Nat → Prop) : String → State → State → Prop := fun E st t => ∃ u : S, px u ∧ B E u t ∧ va_F A st t
section Runs
variable {p : Program} {l : Launch} {e : Env} {R : Room} {s : State} {m : MethodId} {args : Array Value} {below : List Frame} {meth : Method} {c : Code} {H : Heap} {locs : List Loc} {cells slots : Nat}
variable {y : MethodName} {bytes cc : ByteArray} {maxL nL mc ms n index : Nat} {ret : Option FieldType} {ws : List Cond} {rm : Room} {Pc : Array Value → State → Prop} {Qc : Array Value → State → Outcome → State → Prop} {XC : String → State → State → Prop} {free : Addr → Prop} {Ts : List Cond} {own C : String} {b : Addr} {As rest : List Value} {g : JFrame}
theorem vx_callBack (cb : CallB R s args own index y bytes maxL ret ws rm mc ms n) (hM : vx_Met l y ws rm Pc Qc XC mc ms free) (hbl : FrameBlind Pc) : vx_Back l R p e below s args y 3 8 (PreOf R mc ms Pc) (PostOf Qc mc ms free) (vx_Post XC mc ms free) := by
  obtain ⟨hrc, hrs, hfr, hlo, hws, hcw, -, hini, -⟩ := cb
  exact vx_back (bytes := bytes) (maxL := maxL) (ret := ret) hM hbl hrc hrs hfr hlo hws hcw (fun a' U hW => word_at hW (Or.inl (by first | rfl | simp [Cond.onTables, Cond.keeps, Cond.steady])) hini)
theorem vx_runV (S : CallFix p m c cc nL s args Ts own) (hM : vx_Met l y ws rm Pc Qc XC mc ms free) (cw : CallW R s args own C index y bytes maxL ret ws rm mc ms n) (hp : PreV s H C b Pc As)
    (hg : g.method = m) (hn : As.length = n) (hsize : g.locals.size = nL) (hstack : g.stack = As.reverse ++ .ref b :: rest) (hW : 2 * g.monitorRoom + (rest.map fun v => v.category).sum ≤ 8) (hdg : decode cc g.pc = .ok (.invokevirtual index, 3)) (hf : cells + mc ≤ R.cells ∧ slots + ms ≤ R.slots) :
    vx_Run p l e R s m args below meth c H locs cells slots mc ms g rest (Qc (Value.ref b :: As).toArray) XC free := by
  have hK : vx_Back l R p e below s args y 3 8 (PreOf R mc ms Pc) (PostOf Qc mc ms free) (vx_Post XC mc ms free) := vx_callBack cw.1 hM hp.1
  obtain ⟨⟨-, -, -, -, -, -, hcode, -, hy, hlen, hl⟩, hin, hse⟩ := cw
  obtain ⟨hx, hb, hml, ho, -⟩ := S
  obtain ⟨-, ⟨cellB, hcB, hoB, hclB⟩, hPc⟩ := hp
  intro T hT X
  rcases vx_callV X hx (C := C) (bytes := bytes) (maxL := maxL) (ret := ret) ho hl hin hse hcode hy hK (by rw [hT]; exact hcB) hoB hclB hg (hsize.trans hml.symm) (argsL := As) (rest := rest) (fun sig h => hn.trans (hlen sig h)) hstack hW (by rw [hb]; exact hdg)
    (fun vm₁ hW₁ => ⟨hf.1, hf.2, hPc (T.setVm vm₁) hT hW₁⟩) with ⟨v, vm₁, ⟨U', l2, c2, s2⟩, hW₁, X', ⟨g', mk, t, L, e1, e2, hq, h1, hL, h2, h3⟩, st⟩ | ⟨q, vm₁, ⟨U', l2, c2, s2⟩, hW₁, X', ⟨g', mk, t, L, E, ce, e1, e2, hq, hce, hcv, hcl, h1, hL, h2, h3⟩, st⟩
  · dsimp only [Pt.U, Pt.locs, Pt.cells, Pt.slots] at X' e1 e2 h1 h2 h3 st
    subst h1; subst h2; subst h3
    exact Or.inl ⟨v, (T.setVm vm₁).calling g' mk (Value.ref b :: As).toArray, t, U', L, hT, X', hL, e1, e2, hq, st⟩
  · dsimp only [Pt.U, Pt.locs, Pt.cells, Pt.slots] at X' e1 e2 h1 h2 h3 st hcl
    subst h1; subst h2; subst h3
    exact Or.inr ⟨q, (T.setVm vm₁).calling g' mk (Value.ref b :: As).toArray, t, U', L, E, ce, hT, X', hL, e1, e2, hq, hce, hcv, vx_cls hW₁ hcl, st⟩
theorem vx_runS (S : CallFix p m c cc nL s args Ts own) (hM : vx_Met l y ws rm Pc Qc XC mc ms free) (cw : CallB R s args own index y bytes maxL ret ws rm mc ms n ∧ (Cond.static y).before args s = true) (hp : PreS s H Pc As)
    (hg : g.method = m) (hn : As.length = n) (hsize : g.locals.size = nL) (hstack : g.stack = As.reverse ++ rest) (hW : 2 * g.monitorRoom + (rest.map fun v => v.category).sum ≤ 8) (hdg : decode cc g.pc = .ok (.invokestatic index, 3)) (hf : cells + mc ≤ R.cells ∧ slots + ms ≤ R.slots) :
    vx_Run p l e R s m args below meth c H locs cells slots mc ms g rest (Qc As.toArray) XC free := by
  have hK : vx_Back l R p e below s args y 3 8 (PreOf R mc ms Pc) (PostOf Qc mc ms free) (vx_Post XC mc ms free) := vx_callBack cw.1 hM hp.1
  obtain ⟨⟨-, -, -, -, -, -, hcode, hini, hy, hlen, hl⟩, hstt⟩ := cw
  obtain ⟨hx, hb, hml, ho, -⟩ := S
  intro T hT X
  rcases vx_callS X hx (bytes := bytes) (maxL := maxL) (ret := ret) ho hl hstt hini hcode hy hK hg (hsize.trans hml.symm) (argsL := As) (rest := rest) (fun sig h => hn.trans (hlen sig h)) hstack hW (by rw [hb]; exact hdg)
    (fun vm₁ hW₁ => ⟨hf.1, hf.2, hp.2 (T.setVm vm₁) hT hW₁⟩) with ⟨v, vm₁, ⟨U', l2, c2, s2⟩, hW₁, X', ⟨g', mk, t, L, e1, e2, hq, h1, hL, h2, h3⟩, st⟩ | ⟨q, vm₁, ⟨U', l2, c2, s2⟩, hW₁, X', ⟨g', mk, t, L, E, ce, e1, e2, hq, hce, hcv, hcl, h1, hL, h2, h3⟩, st⟩
  · dsimp only [Pt.U, Pt.locs, Pt.cells, Pt.slots] at X' e1 e2 h1 h2 h3 st
    subst h1; subst h2; subst h3
    exact Or.inl ⟨v, (T.setVm vm₁).calling g' mk As.toArray, t, U', L, hT, X', hL, e1, e2, hq, st⟩
  · dsimp only [Pt.U, Pt.locs, Pt.cells, Pt.slots] at X' e1 e2 h1 h2 h3 st hcl
    subst h1; subst h2; subst h3
    exact Or.inr ⟨q, (T.setVm vm₁).calling g' mk As.toArray, t, U', L, E, ce, hT, X', hL, e1, e2, hq, hce, hcv, vx_cls hW₁ hcl, st⟩
end Runs
section Rows
variable {p : Program} {l : Launch} {e : Env} {R : Room} {s : State} {m : MethodId} {args : Array Value} {below : List Frame} {meth : Method} {c : Code} {H : Heap} {locs : List Loc} {cells slots : Nat} {Q : State → Prop}
variable {mc ms : Nat} {free : Addr → Prop} {A0 A1 : Nat → Prop} {H0 : Heap} {a : Array Value} {pc : Nat} {ls : Array Slot} {st0 rest : List Value}
theorem vx_keep {st₀ t T' : State} {L : List Loc} (h0 : st₀.heap = H) (e1 : T'.heap = t.heap) (hS : va_S A0 H0 H locs) (hA : ∀ q, q < H.size → A1 q → A0 q) (hf : ∀ q, free q → A0 q) (hL : ∀ q ∈ L, free q.base) (hF : va_F A1 st₀ t) :
    H.size ≤ T'.heap.size ∧ (∀ q : Nat, q < H.size → ¬ A1 q → T'.heap[q]? = H[q]?) ∧ va_S A0 H0 T'.heap (locs ++ L) := by
  obtain ⟨hz, hk⟩ := hF
  rw [h0] at hz hk
  exact ⟨by rw [e1]; exact hz, fun q h1 h2 => by rw [e1]; exact hk q h1 h2,
    ⟨Nat.le_trans hS.1 (by rw [e1]; exact hz), fun q h1 h2 => by rw [e1, hk q (Nat.lt_of_lt_of_le h1 hS.1) (fun z => h2 (hA q (Nat.lt_of_lt_of_le h1 hS.1) z))]; exact hS.2.1 q h1 h2, fun q hq => by
      rcases List.mem_append.mp hq with h | h
      · exact hS.2.2 q h
      · exact hf _ (hL q h)⟩⟩
theorem vx_calli {S SX : Type} {post : Int32 → S → Prop} {px : SX → Prop} {B : S → State → Prop} {BX : String → SX → State → Prop} {AX : Nat → Prop} (hr : vx_Run p l e R s m args below meth c H locs cells slots mc ms (F0 m pc ls st0) rest (va_Qi post B A1 a) (vx_X px BX AX) free) (hS : va_S A0 H0 H locs) (hA : ∀ q, q < H.size → A1 q → A0 q) (hf : ∀ q, free q → A0 q) (hAX : ∀ q, q < H.size → AX q → A0 q)
    (kx : ∀ (E : String) (ce : Cell) (q9 : Addr) (u : SX) (t : State) (H1 : Heap) (locs1 : List Loc), t.heap = H1 → s.vm.Alike t.vm → px u → BX E u t → H.size ≤ H1.size → (∀ q : Nat, q < H.size → ¬ AX q → H1[q]? = H[q]?) → va_S A0 H0 H1 locs1 → H1[q9]? = some ce → ce.vm = .none → s.vm.findClass E = some ce.cls → vx_W p l e R s m args below meth c H1 locs1 (cells + mc) (slots + ms) Q (F0 m pc ls rest) q9)
    (kk : ∀ (r : Int32) (u : S) (t : State) (H1 : Heap) (locs1 : List Loc), t.heap = H1 → s.vm.Alike t.vm → post r u → B u t → H.size ≤ H1.size → (∀ q : Nat, q < H.size → ¬ A1 q → H1[q]? = H[q]?) → va_S A0 H0 H1 locs1 → W p l e R s m args below meth c H1 locs1 (cells + mc) (slots + ms) Q (F0 m (pc + 3) ls (.int r :: rest))) : W p l e R s m args below meth c H locs cells slots Q (F0 m pc ls st0) := by
  intro T hT X
  rcases hr T hT X with ⟨v, st₀, t, T', L, h0, X', hL, e1, e2, ⟨⟨r, u, hv, hp, hb⟩, hF⟩, st⟩ | ⟨q, st₀, t, T', L, E, ce, h0, X', hL, e1, e2, ⟨u, hp, hb, hF⟩, hce, hcv, hcl, st⟩
  · cases hv
    obtain ⟨k1, k2, k3⟩ := vx_keep h0 e1 hS hA hf hL hF
    obtain ⟨t2, a1, b1⟩ := kk r u t T'.heap (locs ++ L) e1.symm (by rw [← e2]; exact X'.warmed.alike) hp hb k1 k2 k3 T' rfl X'
    exact ⟨t2, st t2 a1, b1⟩
  · obtain ⟨k1, k2, k3⟩ := vx_keep h0 e1 hS hAX hf hL hF
    obtain ⟨t2, a1, b1⟩ := kx E ce q u t T'.heap (locs ++ L) e1.symm (by rw [← e2]; exact X'.warmed.alike) hp hb k1 k2 k3 (by rw [e1]; exact hce) hcv hcl T' rfl X'
    exact ⟨t2, st.trans a1, b1⟩
theorem vx_calll {S SX : Type} {post : Int64 → S → Prop} {px : SX → Prop} {B : S → State → Prop} {BX : String → SX → State → Prop} {AX : Nat → Prop} (hr : vx_Run p l e R s m args below meth c H locs cells slots mc ms (F0 m pc ls st0) rest (va_Ql post B A1 a) (vx_X px BX AX) free) (hS : va_S A0 H0 H locs) (hA : ∀ q, q < H.size → A1 q → A0 q) (hf : ∀ q, free q → A0 q) (hAX : ∀ q, q < H.size → AX q → A0 q)
    (kx : ∀ (E : String) (ce : Cell) (q9 : Addr) (u : SX) (t : State) (H1 : Heap) (locs1 : List Loc), t.heap = H1 → s.vm.Alike t.vm → px u → BX E u t → H.size ≤ H1.size → (∀ q : Nat, q < H.size → ¬ AX q → H1[q]? = H[q]?) → va_S A0 H0 H1 locs1 → H1[q9]? = some ce → ce.vm = .none → s.vm.findClass E = some ce.cls → vx_W p l e R s m args below meth c H1 locs1 (cells + mc) (slots + ms) Q (F0 m pc ls rest) q9)
    (kk : ∀ (r : Int64) (u : S) (t : State) (H1 : Heap) (locs1 : List Loc), t.heap = H1 → s.vm.Alike t.vm → post r u → B u t → H.size ≤ H1.size → (∀ q : Nat, q < H.size → ¬ A1 q → H1[q]? = H[q]?) → va_S A0 H0 H1 locs1 → W p l e R s m args below meth c H1 locs1 (cells + mc) (slots + ms) Q (F0 m (pc + 3) ls (.long r :: rest))) : W p l e R s m args below meth c H locs cells slots Q (F0 m pc ls st0) := by
  intro T hT X
  rcases hr T hT X with ⟨v, st₀, t, T', L, h0, X', hL, e1, e2, ⟨⟨r, u, hv, hp, hb⟩, hF⟩, st⟩ | ⟨q, st₀, t, T', L, E, ce, h0, X', hL, e1, e2, ⟨u, hp, hb, hF⟩, hce, hcv, hcl, st⟩
  · cases hv
    obtain ⟨k1, k2, k3⟩ := vx_keep h0 e1 hS hA hf hL hF
    obtain ⟨t2, a1, b1⟩ := kk r u t T'.heap (locs ++ L) e1.symm (by rw [← e2]; exact X'.warmed.alike) hp hb k1 k2 k3 T' rfl X'
    exact ⟨t2, st t2 a1, b1⟩
  · obtain ⟨k1, k2, k3⟩ := vx_keep h0 e1 hS hAX hf hL hF
    obtain ⟨t2, a1, b1⟩ := kx E ce q u t T'.heap (locs ++ L) e1.symm (by rw [← e2]; exact X'.warmed.alike) hp hb k1 k2 k3 (by rw [e1]; exact hce) hcv hcl T' rfl X'
    exact ⟨t2, st.trans a1, b1⟩
theorem vx_callf {S SX : Type} {post : UInt32 → S → Prop} {px : SX → Prop} {B : S → State → Prop} {BX : String → SX → State → Prop} {AX : Nat → Prop} (hr : vx_Run p l e R s m args below meth c H locs cells slots mc ms (F0 m pc ls st0) rest (va_Qf post B A1 a) (vx_X px BX AX) free) (hS : va_S A0 H0 H locs) (hA : ∀ q, q < H.size → A1 q → A0 q) (hf : ∀ q, free q → A0 q) (hAX : ∀ q, q < H.size → AX q → A0 q)
    (kx : ∀ (E : String) (ce : Cell) (q9 : Addr) (u : SX) (t : State) (H1 : Heap) (locs1 : List Loc), t.heap = H1 → s.vm.Alike t.vm → px u → BX E u t → H.size ≤ H1.size → (∀ q : Nat, q < H.size → ¬ AX q → H1[q]? = H[q]?) → va_S A0 H0 H1 locs1 → H1[q9]? = some ce → ce.vm = .none → s.vm.findClass E = some ce.cls → vx_W p l e R s m args below meth c H1 locs1 (cells + mc) (slots + ms) Q (F0 m pc ls rest) q9)
    (kk : ∀ (r : UInt32) (u : S) (t : State) (H1 : Heap) (locs1 : List Loc), t.heap = H1 → s.vm.Alike t.vm → post r u → B u t → H.size ≤ H1.size → (∀ q : Nat, q < H.size → ¬ A1 q → H1[q]? = H[q]?) → va_S A0 H0 H1 locs1 → W p l e R s m args below meth c H1 locs1 (cells + mc) (slots + ms) Q (F0 m (pc + 3) ls (.float r :: rest))) : W p l e R s m args below meth c H locs cells slots Q (F0 m pc ls st0) := by
  intro T hT X
  rcases hr T hT X with ⟨v, st₀, t, T', L, h0, X', hL, e1, e2, ⟨⟨r, u, hv, hp, hb⟩, hF⟩, st⟩ | ⟨q, st₀, t, T', L, E, ce, h0, X', hL, e1, e2, ⟨u, hp, hb, hF⟩, hce, hcv, hcl, st⟩
  · cases hv
    obtain ⟨k1, k2, k3⟩ := vx_keep h0 e1 hS hA hf hL hF
    obtain ⟨t2, a1, b1⟩ := kk r u t T'.heap (locs ++ L) e1.symm (by rw [← e2]; exact X'.warmed.alike) hp hb k1 k2 k3 T' rfl X'
    exact ⟨t2, st t2 a1, b1⟩
  · obtain ⟨k1, k2, k3⟩ := vx_keep h0 e1 hS hAX hf hL hF
    obtain ⟨t2, a1, b1⟩ := kx E ce q u t T'.heap (locs ++ L) e1.symm (by rw [← e2]; exact X'.warmed.alike) hp hb k1 k2 k3 (by rw [e1]; exact hce) hcv hcl T' rfl X'
    exact ⟨t2, st.trans a1, b1⟩
theorem vx_calld {S SX : Type} {post : UInt64 → S → Prop} {px : SX → Prop} {B : S → State → Prop} {BX : String → SX → State → Prop} {AX : Nat → Prop} (hr : vx_Run p l e R s m args below meth c H locs cells slots mc ms (F0 m pc ls st0) rest (va_Qd post B A1 a) (vx_X px BX AX) free) (hS : va_S A0 H0 H locs) (hA : ∀ q, q < H.size → A1 q → A0 q) (hf : ∀ q, free q → A0 q) (hAX : ∀ q, q < H.size → AX q → A0 q)
    (kx : ∀ (E : String) (ce : Cell) (q9 : Addr) (u : SX) (t : State) (H1 : Heap) (locs1 : List Loc), t.heap = H1 → s.vm.Alike t.vm → px u → BX E u t → H.size ≤ H1.size → (∀ q : Nat, q < H.size → ¬ AX q → H1[q]? = H[q]?) → va_S A0 H0 H1 locs1 → H1[q9]? = some ce → ce.vm = .none → s.vm.findClass E = some ce.cls → vx_W p l e R s m args below meth c H1 locs1 (cells + mc) (slots + ms) Q (F0 m pc ls rest) q9)
    (kk : ∀ (r : UInt64) (u : S) (t : State) (H1 : Heap) (locs1 : List Loc), t.heap = H1 → s.vm.Alike t.vm → post r u → B u t → H.size ≤ H1.size → (∀ q : Nat, q < H.size → ¬ A1 q → H1[q]? = H[q]?) → va_S A0 H0 H1 locs1 → W p l e R s m args below meth c H1 locs1 (cells + mc) (slots + ms) Q (F0 m (pc + 3) ls (.double r :: rest))) : W p l e R s m args below meth c H locs cells slots Q (F0 m pc ls st0) := by
  intro T hT X
  rcases hr T hT X with ⟨v, st₀, t, T', L, h0, X', hL, e1, e2, ⟨⟨r, u, hv, hp, hb⟩, hF⟩, st⟩ | ⟨q, st₀, t, T', L, E, ce, h0, X', hL, e1, e2, ⟨u, hp, hb, hF⟩, hce, hcv, hcl, st⟩
  · cases hv
    obtain ⟨k1, k2, k3⟩ := vx_keep h0 e1 hS hA hf hL hF
    obtain ⟨t2, a1, b1⟩ := kk r u t T'.heap (locs ++ L) e1.symm (by rw [← e2]; exact X'.warmed.alike) hp hb k1 k2 k3 T' rfl X'
    exact ⟨t2, st t2 a1, b1⟩
  · obtain ⟨k1, k2, k3⟩ := vx_keep h0 e1 hS hAX hf hL hF
    obtain ⟨t2, a1, b1⟩ := kx E ce q u t T'.heap (locs ++ L) e1.symm (by rw [← e2]; exact X'.warmed.alike) hp hb k1 k2 k3 (by rw [e1]; exact hce) hcv hcl T' rfl X'
    exact ⟨t2, st.trans a1, b1⟩
theorem vx_callv {S SX : Type} {post : S → Prop} {px : SX → Prop} {B : S → State → Prop} {BX : String → SX → State → Prop} {AX : Nat → Prop} (hr : vx_Run p l e R s m args below meth c H locs cells slots mc ms (F0 m pc ls st0) rest (va_Qv post B A1 a) (vx_X px BX AX) free) (hS : va_S A0 H0 H locs) (hA : ∀ q, q < H.size → A1 q → A0 q) (hf : ∀ q, free q → A0 q) (hAX : ∀ q, q < H.size → AX q → A0 q)
    (kx : ∀ (E : String) (ce : Cell) (q9 : Addr) (u : SX) (t : State) (H1 : Heap) (locs1 : List Loc), t.heap = H1 → s.vm.Alike t.vm → px u → BX E u t → H.size ≤ H1.size → (∀ q : Nat, q < H.size → ¬ AX q → H1[q]? = H[q]?) → va_S A0 H0 H1 locs1 → H1[q9]? = some ce → ce.vm = .none → s.vm.findClass E = some ce.cls → vx_W p l e R s m args below meth c H1 locs1 (cells + mc) (slots + ms) Q (F0 m pc ls rest) q9)
    (kk : ∀ (u : S) (t : State) (H1 : Heap) (locs1 : List Loc), t.heap = H1 → s.vm.Alike t.vm → post u → B u t → H.size ≤ H1.size → (∀ q : Nat, q < H.size → ¬ A1 q → H1[q]? = H[q]?) → va_S A0 H0 H1 locs1 → W p l e R s m args below meth c H1 locs1 (cells + mc) (slots + ms) Q (F0 m (pc + 3) ls (rest))) : W p l e R s m args below meth c H locs cells slots Q (F0 m pc ls st0) := by
  intro T hT X
  rcases hr T hT X with ⟨v, st₀, t, T', L, h0, X', hL, e1, e2, ⟨⟨u, hv, hp, hb⟩, hF⟩, st⟩ | ⟨q, st₀, t, T', L, E, ce, h0, X', hL, e1, e2, ⟨u, hp, hb, hF⟩, hce, hcv, hcl, st⟩
  · cases hv
    obtain ⟨k1, k2, k3⟩ := vx_keep h0 e1 hS hA hf hL hF
    obtain ⟨t2, a1, b1⟩ := kk u t T'.heap (locs ++ L) e1.symm (by rw [← e2]; exact X'.warmed.alike) hp hb k1 k2 k3 T' rfl X'
    exact ⟨t2, st t2 a1, b1⟩
  · obtain ⟨k1, k2, k3⟩ := vx_keep h0 e1 hS hAX hf hL hF
    obtain ⟨t2, a1, b1⟩ := kx E ce q u t T'.heap (locs ++ L) e1.symm (by rw [← e2]; exact X'.warmed.alike) hp hb k1 k2 k3 (by rw [e1]; exact hce) hcv hcl T' rfl X'
    exact ⟨t2, st.trans a1, b1⟩
/-- caught by the row x of this method's table; the rows ahead don't take it -/
theorem vx_catch {own name : String} {E : String} {ce : Cell} {q : Addr} (hown : s.vm.findClass own = some m.cls) (pre : List ExceptionTableEntry) (x : ExceptionTableEntry) (suf : List ExceptionTableEntry) (hsplit : c.exceptionTable.toList = pre ++ x :: suf)
    (hpass : ∀ z ∈ pre, covers z pc = false ∨ (z.catchType ≠ 0 ∧ ∃ nm : String, (Cond.classLink own z.catchType nm).before args s = true ∧ va_Nc E nm s)) (hx : covers x pc = true) (h0 : x.catchType ≠ 0)
    (hlink : (Cond.classLink own x.catchType name).before args s = true) (hcast : (Cond.castable E name).before args s = true) (hcell : H[q]? = some ce) (hv : ce.vm = .none) (hcl : s.vm.findClass E = some ce.cls)
    (kk : W p l e R s m args below meth c H locs cells slots Q (F0 m x.handlerPc ls [.ref q])) : vx_W p l e R s m args below meth c H locs cells slots Q (F0 m pc ls rest) q := by
  intro T hT X
  have hpl : e.platform.magicAccessors = ({} : Platform).magicAccessors := by rw [X.admits.platform]
  obtain ⟨c3, c4, hc3, hc4, hasg⟩ := Cond.castable_spec hcast
  cases Option.some.inj (hc3.symm.trans hcl)
  obtain ⟨c5, hc5, hcl5⟩ := Cond.classLink_spec hown hlink e.platform hpl
  cases Option.some.inj (hc4.symm.trans hc5)
  obtain ⟨vm', X', st⟩ := X.thenCaughtThrough q (g := F0 m pc ls rest) rfl (Steps.refl _) (by rw [hT]; exact hcell) (by rw [hv]; rfl) (by obtain ⟨k9, h9, -⟩ := Vm.findClass_spec hcl; exact ⟨k9, h9⟩) pre x suf hsplit
    (fun z hz => by
      rcases hpass z hz with h | ⟨hz0, nm, hl1, hn1⟩
      · exact Or.inl h
      · obtain ⟨c6, hc6, hcl6⟩ := Cond.classLink_spec hown hl1 e.platform hpl
        obtain ⟨a8, b8, h1, h2, h3⟩ := hn1
        cases Option.some.inj (h1.symm.trans hcl)
        cases Option.some.inj (h2.symm.trans hc6)
        exact Or.inr ⟨hz0, _, hcl6, h3⟩) hx (Or.inr ⟨h0, c4, hcl5, hasg⟩)
  obtain ⟨t, a1, b1⟩ := kk (T.setVm vm') hT X'
  exact ⟨t, st.trans a1, b1⟩
end Rows
section Ends
variable {p : Program} {l : Launch} {e : Env} {R : Room} {s : State} {m : MethodId} {args : Array Value} {below : List Frame} {meth : Method} {c : Code} {H : Heap} {locs : List Loc} {cells slots : Nat} {Q : State → Prop}
variable {mc ms : Nat} {free : Addr → Prop} {A0 A1 : Nat → Prop} {H0 : Heap} {a : Array Value} {ls : Array Slot} {st0 rest : List Value}
variable {Qc : Array Value → State → Outcome → State → Prop} {XC : String → State → State → Prop}
/-- what a body that may throw owes at its end -/
def vx_MQ (below : List Frame) (Qc : Array Value → State → Outcome → State → Prop) (XC : String → State → State → Prop) (a : Array Value) (s : State) (mc ms : Nat) (free : Addr → Prop) : State → Prop := fun t =>
  ∃ o, t.status = .running ∧ Ended t below o ∧ vx_Q Qc XC mc ms free a s o t
theorem vx_ret {g : JFrame} {mc ms : Nat} (k : W p l e R s m args below meth c H locs cells slots (MQ below Qc args s mc ms free) g) : W p l e R s m args below meth c H locs cells slots (vx_MQ below Qc XC args s mc ms free) g := by
  intro T hT X
  obtain ⟨t, a1, o, b1, b2, b3, b4⟩ := k T hT X
  exact ⟨t, a1, o, b1, b2, Or.inl ⟨b3, b4⟩⟩
/-- not caught here: it goes on to the caller -/
theorem vx_widen {g : JFrame} {q : Addr} {k n : Nat} (h1 : cells ≤ k) (h2 : slots ≤ n) (kk : vx_W p l e R s m args below meth c H locs k n Q g q) : vx_W p l e R s m args below meth c H locs cells slots Q g q := fun T hT X => kk T hT (stand_widen X h1 h2)
theorem vx_out {pc : Nat} {E : String} {ce : Cell} {q : Addr} {mc ms : Nat} (hout : ∀ x ∈ c.exceptionTable.toList, covers x pc = false) (hlocks : meth.locks = false) (hcell : H[q]? = some ce) (hv : ce.vm = .none) (hcl : s.vm.findClass E = some ce.cls)
    (hx : ∀ t : State, t.heap = H → s.vm.Alike t.vm → XC E s t) (hf : ∀ z ∈ locs, free z.base) (hc : cells ≤ mc) (hs : slots ≤ ms) :
    vx_W p l e R s m args below meth c H locs cells slots (vx_MQ below Qc XC args s mc ms free) (F0 m pc ls rest) q := by
  intro T hT X
  obtain ⟨st1, hrun, hend, hW, hsm⟩ := X.leaveThrown q (g := F0 m pc ls rest) rfl rfl rfl hout hlocks
  have hcell9 : (T.setFrames (.throwing q :: below)).heap[q]? = some ce := by
    show T.heap[q]? = some ce
    rw [hT]; exact hcell
  exact ⟨_, st1, .threw q, hrun, hend, Or.inr ⟨q, rfl, E, ce, locs, hx _ hT hW.alike, hcell9, hv, hcl, hW, hsm.mono hc hs, hf⟩⟩
theorem vx_frame {U : State} {k n : Nat} (h : s.sameButNew ({ U with vm := s.vm } : State) locs k n) : s.heap.size ≤ U.heap.size ∧ ∀ q : Nat, q < s.heap.size → (∀ z ∈ locs, z.base ≠ q) → U.heap[q]? = s.heap[q]? := by
  obtain ⟨-, h2, -, -, -, h6⟩ := h
  refine ⟨h2, fun q hq hz => ?_⟩
  obtain ⟨c9, e1, e2, e3, e4⟩ := h6 q _ (Array.getElem?_eq_getElem hq)
  have hs : c9.slots = (s.heap[q]).slots := Array.ext_getElem? fun i => e4 i fun hm => hz _ hm rfl
  have h9 : c9 = s.heap[q] := by
    rw [hs] at e2
    exact e2
  have e5 : U.heap[q]? = some c9 := e1
  rw [e5, h9, Array.getElem?_eq_getElem hq]
/-- the words of a throw but the four that speak of the heap -/
def vx_no (w : Cond) : Bool := decide (w ≠ .isRef (.static Bundle.tN "UNASSIGNED_STACK" Bundle.steD)) && decide (w ≠ .isRef (.static Bundle.tN "SUPPRESSED_SENTINEL" Bundle.listD)) && decide (w ≠ .laysStatic Bundle.tN "UNASSIGNED_STACK" Bundle.steD) && decide (w ≠ .laysStatic Bundle.tN "SUPPRESSED_SENTINEL" Bundle.listD)
def vx_at0 (own : String) (ic : Nat) (X : String) (names : List String) : List Cond := (Bundle.ownAtoms0 own ic X names).filter vx_no
def vx_atS (own : String) (ic : Nat) (X : String) (names : List String) : List Cond := (Bundle.ownAtoms own ic X names).filter vx_no
/-- a word that the tables alone decide, or a good one -/
def vx_ot (w : Cond) : Bool := w.onTables || goodWord w
theorem vx_ot_at {args a' : Array Value} {s U : State} {w : Cond} (hW : s.WarmedH U.vm) (hvm : s.vm = U.vm) (hg : vx_ot w = true) (h : w.before args s = true) : w.before a' U = true := by
  simp only [vx_ot, Bool.or_eq_true] at hg
  rcases hg with hg | hg
  · exact va_tabs hg hvm h
  · exact word_at hW (good_of_word hg) h
/-- a list's words: the good ones out of the method's own list, the others by premises of their own -/
theorem vx_hat {args : Array Value} {s : State} {L B : List Cond} (h1 : ∀ w ∈ L.filter goodWord, w.before args s = true) (h2 : ∀ w ∈ L.filter (fun w => !goodWord w), w ∈ B) (h3 : ∀ w ∈ B, w.before args s = true) : ∀ w ∈ L, w.before args s = true := by
  intro w hw
  by_cases g : goodWord w = true
  · exact h1 w (List.mem_filter.mpr ⟨hw, g⟩)
  · refine h3 w (h2 w (List.mem_filter.mpr ⟨hw, ?_⟩))
    show (!goodWord w) = true
    cases hgw : goodWord w
    · rfl
    · exact absurd hgw g
theorem vx_c {args : Array Value} {s : State} {w : Cond} {B : List Cond} (h : w.before args s = true) (t : ∀ w ∈ B, w.before args s = true) : ∀ w' ∈ w :: B, w'.before args s = true := fun w' h' => (List.mem_cons.mp h').elim (fun e => by rw [e]; exact h) (t w')
theorem vx_n {args : Array Value} {s : State} : ∀ w ∈ ([] : List Cond), w.before args s = true := fun _ h => nomatch h
theorem vx_own {args : Array Value} {s : State} {L : List Cond} (h1 : ∀ w ∈ L.filter vx_no, w.before args s = true)
    (hU : (Cond.isRef (.static Bundle.tN "UNASSIGNED_STACK" Bundle.steD)).before args s = true) (hN : (Cond.isRef (.static Bundle.tN "SUPPRESSED_SENTINEL" Bundle.listD)).before args s = true)
    (lU : (Cond.laysStatic Bundle.tN "UNASSIGNED_STACK" Bundle.steD).before args s = true) (lN : (Cond.laysStatic Bundle.tN "SUPPRESSED_SENTINEL" Bundle.listD).before args s = true) : ∀ w ∈ L, w.before args s = true := by
  intro w hw
  by_cases e1 : w = .isRef (.static Bundle.tN "UNASSIGNED_STACK" Bundle.steD)
  · rw [e1]; exact hU
  · by_cases e2 : w = .isRef (.static Bundle.tN "SUPPRESSED_SENTINEL" Bundle.listD)
    · rw [e2]; exact hN
    · by_cases e3 : w = .laysStatic Bundle.tN "UNASSIGNED_STACK" Bundle.steD
      · rw [e3]; exact lU
      · by_cases e4 : w = .laysStatic Bundle.tN "SUPPRESSED_SENTINEL" Bundle.listD
        · rw [e4]; exact lN
        · exact h1 w (List.mem_filter.mpr ⟨hw, by unfold vx_no; rw [decide_eq_true e1, decide_eq_true e2, decide_eq_true e3, decide_eq_true e4]; rfl⟩)
/-- where a static field lies, its class's statics cell in H -/
def vx_L (C n d : String) (A : Nat → Prop) (U : State) (H : Heap) : Prop := ∃ (c : ClassId) (k : Class) (i : Nat) (f : Field) (a : Nat) (cell : Cell), U.vm.findClass C = some c ∧ U.fieldFound? C n d = some (c, k, i, f) ∧ f.isStatic = true ∧ k.statics = some a ∧ H[a]? = some cell ∧ cell.vm.isStatics = true ∧ cell.cls = c ∧ f.slot < cell.slots.size ∧ k.staticTypes[f.slot]? = some f.type ∧ ¬ A a
theorem vx_L.moved {C n d : String} {A : Nat → Prop} {u U : State} {H : Heap} (hvm : u.vm.Alike U.vm) (h : vx_L C n d A u H) : vx_L C n d A U H := by
  obtain ⟨c, k, i, f, a, cell, h1, h2, h3, h4, h5, h6, h7, h8, h9, h10⟩ := h
  obtain ⟨k', hi', he⟩ := State.fieldFound?_setVm hvm h2
  exact ⟨c, k', i, f, a, cell, by rw [hvm.findClass]; exact h1, hi', h3, by rw [he]; exact h4, h5, h6, h7, h8, by rw [he]; exact h9, h10⟩
theorem vx_L.kept {C n d : String} {A : Nat → Prop} {U : State} {H H1 : Heap} (h : vx_L C n d A U H) (hq : ∀ a : Nat, a < H.size → ¬ A a → H1[a]? = H[a]?) : vx_L C n d A U H1 := by
  obtain ⟨c, k, i, f, a, cell, h1, h2, h3, h4, h5, h6, h7, h8, h9, h10⟩ := h
  exact ⟨c, k, i, f, a, cell, h1, h2, h3, h4, by rw [hq a (Array.getElem?_eq_some_iff.mp h5).1 h10]; exact h5, h6, h7, h8, h9, h10⟩
theorem vx_L.narrow {C n d : String} {A B : Nat → Prop} {U : State} {H : Heap} (h : vx_L C n d A U H) (hAB : ∀ q, B q → A q) : vx_L C n d B U H := by
  obtain ⟨c, k, i, f, a, cell, h1, h2, h3, h4, h5, h6, h7, h8, h9, h10⟩ := h
  exact ⟨c, k, i, f, a, cell, h1, h2, h3, h4, h5, h6, h7, h8, h9, fun z => h10 (hAB _ z)⟩
theorem vx_L.word {C n d : String} {A : Nat → Prop} {s : State} {args : Array Value} (h : vx_L C n d A s s.heap) : (Cond.laysStatic C n d).before args s = true := by
  obtain ⟨c, k, i, f, a, cell, h1, h2, h3, h4, h5, h6, h7, h8, h9, -⟩ := h
  show (Cond.laysStatic C n d).holds args s none s [] = true
  exact Cond.laysStatic_of h1 h2 h3 h4 h5 h6 h7 h8 h9
/-- .. and what it holds: null or some reference -/
def vx_Zq (C n d : String) (A : Nat → Prop) (U : State) (H : Heap) : Prop := va_Zq C n d A U H ∧ vx_L C n d A U H
theorem vx_Zq.moved {C n d : String} {A : Nat → Prop} {u U : State} {H : Heap} (hvm : u.vm.Alike U.vm) (h : vx_Zq C n d A u H) : vx_Zq C n d A U H := ⟨va_Zq.moved hvm h.1, vx_L.moved hvm h.2⟩
theorem vx_Zq.kept {C n d : String} {A : Nat → Prop} {U : State} {H H1 : Heap} (h : vx_Zq C n d A U H) (hq : ∀ a : Nat, a < H.size → ¬ A a → H1[a]? = H[a]?) : vx_Zq C n d A U H1 := ⟨va_Zq.kept h.1 hq, vx_L.kept h.2 hq⟩
theorem vx_Zq.narrow {C n d : String} {A B : Nat → Prop} {U : State} {H : Heap} (h : vx_Zq C n d A U H) (hAB : ∀ q, B q → A q) : vx_Zq C n d B U H := ⟨va_Zq.narrow h.1 hAB, vx_L.narrow h.2 hAB⟩
theorem vx_Zqof {args : Array Value} {s : State} {C n d : String} {A : Nat → Prop} (hl : (Cond.laysStatic C n d).before args s = true) (hini : (Cond.initialized C).before args s = true) (h : (Cond.isRef (.static C n d)).before args s = true) (hA : ∀ a : Nat, a < s.heap.size → ¬ A a) : vx_Zq C n d A s s.heap := by
  refine ⟨va_Zqof hl hini h hA, ?_⟩
  obtain ⟨c, k, i, f, a, cell, h1, h2, h3, h4, h5, h6, h7, h8, h9⟩ := Cond.laysStatic_spec hl
  exact ⟨c, k, i, f, a, cell, h1, h2, h3, h4, h5, h6, h7, h8, h9, hA a (Array.getElem?_eq_some_iff.mp h5).1⟩
theorem vx_isRef {C n d : String} {v : Value} {A : Nat → Prop} {s : State} {args : Array Value} (h : va_Z C n d v A s s.heap) (hv : v.isRef = true) : (Cond.isRef (.static C n d)).before args s = true := by
  obtain ⟨cf, kf, fi, f, a, cell, h1, h2, h3, h4, h5, h6, h7, -⟩ := h
  have he : (Term.static C n d).eval args s none [] s = some v := by
    simp [Term.eval, State.fieldNamed?, h1, h2, h4, h5, h6, h7]
  simp only [Cond.before, Cond.holds, Cond.value, he]
  cases v <;> simp_all [Value.isRef]
theorem vx_isRefq {C n d : String} {A : Nat → Prop} {s : State} {args : Array Value} (h : va_Zq C n d A s s.heap) : (Cond.isRef (.static C n d)).before args s = true := by
  rcases h with h | ⟨t, h⟩
  · exact vx_isRef h rfl
  · exact vx_isRef h rfl
/-- the same frame, seen from here: as if the method were called anew in this heap -/
theorem vx_rebase {T : State} (X : Stand p l e R s m args below meth c T locs cells slots) {R' : Room} (hf : R'.frames ≤ R.frames) (hl : R'.locals ≤ R.locals) (hc : cells + R'.cells ≤ R.cells) (hs : slots + R'.slots ≤ R.slots) :
    Stand p l e R' ((T.setVm s.vm).setFrames (.invoking m args :: below)) m args below meth c T [] 0 0 := by
  have htop : (T.setVm s.vm).topJava?.isSome := X.here.top
  have hF : ((T.setVm s.vm).setFrames (.invoking m args :: below)).frames = .invoking m args :: below := State.frames_setFrames _ (State.cur_lt_of_top htop)
  obtain ⟨g₀, hg0⟩ := Option.isSome_iff_exists.mp htop
  obtain ⟨r, hr⟩ := State.topJava?_eq_some.mp hg0
  have hl9 : e.platform.stackLimits (T.setVm s.vm).me = e.platform.stackLimits s.me := X.limits
  have hb9 : (T.setVm s.vm).me.stackBytes = s.me.stackBytes := X.bytes
  refine ⟨X.admits, X.cas, X.clock, hF, ?_, X.hears, X.method, X.code, X.here, X.tail, X.warmed, ?_, ?_, ?_⟩
  · have h := X.room
    have hU : ((T.setVm s.vm).setFrames (.invoking m args :: below)).localsInUse = s.localsInUse := by
      rw [State.localsInUse_invoking hF (meth := meth) (c := c) X.method X.code, State.localsInUse_invoking X.frames X.method X.code]
    simp only [State.hasRoom, Bool.and_eq_true, decide_eq_true_eq] at h ⊢
    obtain ⟨⟨⟨⟨h1, h2, h3, h4, h5, h6⟩, h7⟩, h8⟩, h9⟩ := h
    rw [X.frames, List.length_cons] at h2 h3
    have q1 := X.heapSize
    have q2 := X.used
    simp only [hF, hU, List.length_cons, State.stackLimits_setFrames, State.stackBytes_setFrames, hl9, hb9]
    refine ⟨⟨⟨⟨by omega, by omega, by omega, by omega, by omega, h6⟩, ?_⟩, ?_⟩, X.book⟩
    · show T.heap.size + R'.cells ≤ e.platform.maxCells
      omega
    · show T.slotsUsed + R'.slots ≤ e.platform.maxSlots
      omega
  · rw [State.stackLimits_setFrames]; rfl
  · rw [State.stackBytes_setFrames]; rfl
  · refine ⟨?_, Nat.le_refl _, Nat.le_refl _, ?_, ?_, fun a c9 h9 => ⟨c9, h9, rfl, rfl, fun _ _ => rfl⟩⟩
    · obtain ⟨t, ht, -⟩ := State.frames_cons hr
      show T.setVm s.vm = { ((T.setVm s.vm).setFrames (.invoking m args :: below)).setFrames (T.setVm s.vm).frames with heap := T.heap, slotsUsed := T.slotsUsed }
      rw [State.setFrames_setFrames, State.setFrames_self ht]
      rfl
    · show T.slotsUsed = T.slotsUsed + ((T.heap.toList.drop T.heap.size).map (·.slots.size)).sum
      rw [List.drop_eq_nil_of_le (Nat.le_of_eq Array.length_toList)]
      rfl
    · show ((T.heap.toList.drop T.heap.size).map (·.slots.size)).sum ≤ 0
      rw [List.drop_eq_nil_of_le (Nat.le_of_eq Array.length_toList)]
      exact Nat.le_refl _
/-- 'throw new E()': new; dup; invokespecial; athrow -/
theorem vx_throw0 {cc : ByteArray} {pc : Nat} (hexec : p.tables.exec = Jvm.exec) (hb : c.code = cc) (hl : l.stackTraces = false) {own cls : String} {names : List String} {ik ic mc ms : Nat} {A : Nat → Prop}
    (hown : s.vm.findClass own = some m.cls) (hcls : Bundle.fit cls = true) (hnames : ∀ n ∈ names, Bundle.fit n = true)
    (hk : (Cond.classLink own ik cls).before args s = true) (hini : (Cond.initialized cls).before args s = true) (hat : ∀ w ∈ vx_at0 own ic cls names, w.before args s = true)
    (hgood : ∀ w ∈ Cond.classLink own ik cls :: Cond.initialized cls :: vx_at0 own ic cls names, vx_ot w = true)
    (hU : vx_Zq Bundle.tN "UNASSIGNED_STACK" Bundle.steD A s s.heap) (hN : vx_Zq Bundle.tN "SUPPRESSED_SENTINEL" Bundle.listD A s s.heap) (hS : va_S A s.heap H locs) (hsize : ls.size = c.maxLocals)
    (d0 : decode cc pc = .ok (.new ik, 3)) (d3 : decode cc (pc + 3) = .ok (.dup, 1)) (d4 : decode cc (pc + 4) = .ok (.invokespecial ic, 3)) (d7 : decode cc (pc + 7) = .ok (.athrow, 1))
    (hout : ∀ x ∈ c.exceptionTable.toList, covers x (pc + 7) = false)
    (hRframes : names.length + 3 < R.frames) (hRlocals : (rest.map fun v => v.category).sum + (13 * (names.length + 1) + 42) ≤ R.locals) (hRcells : cells + 1 ≤ R.cells) (hRslots : slots + 6 ≤ R.slots) (hlocks : meth.locks = false)
    (hx : ∀ t : State, s.vm.Alike t.vm → H.size ≤ t.heap.size → (∀ q : Nat, q < H.size → t.heap[q]? = H[q]?) → XC cls s t)
    (hf : ∀ z ∈ locs, free z.base) (hc : cells + 1 ≤ mc) (hs : slots + 6 ≤ ms) :
    W p l e R s m args below meth c H locs cells slots (vx_MQ below Qc XC args s mc ms free) (F0 m pc ls rest) := by
  intro T hT X
  have htr : e.platform.stackTraces = false := (show e.platform.stackTraces = l.stackTraces by rw [X.admits.platform]).trans hl
  have Y := vx_rebase X (R' := { frames := R.frames, locals := R.locals, cells := 1, slots := 6 }) (Nat.le_refl _) (Nat.le_refl _) hRcells hRslots
  obtain ⟨s', hA⟩ : ∃ z, z = (T.setVm s.vm).setFrames (.invoking m args :: below) := ⟨_, rfl⟩
  rw [← hA] at Y
  have hvm : s'.vm = s.vm := by rw [hA]; rfl
  have hhp : s'.heap = H := by rw [hA]; exact hT
  have hW0 : s.WarmedH s'.vm := by rw [hvm]; exact State.WarmedH.refl s
  have hat' : ∀ w ∈ vx_at0 own ic cls names, w.before args s' = true := fun w hw => vx_ot_at hW0 hvm.symm (hgood w (List.mem_cons_of_mem _ (List.mem_cons_of_mem _ hw))) (hat w hw)
  have hk' : (Cond.classLink own ik cls).before args s' = true := vx_ot_at hW0 hvm.symm (hgood _ List.mem_cons_self) hk
  have hini' : (Cond.initialized cls).before args s' = true := vx_ot_at hW0 hvm.symm (hgood _ (List.mem_cons_of_mem _ List.mem_cons_self)) hini
  have hU' : vx_Zq Bundle.tN "UNASSIGNED_STACK" Bundle.steD A s' s'.heap := by rw [hhp]; exact vx_Zq.moved hW0.alike (hU.kept hS.2.1)
  have hN' : vx_Zq Bundle.tN "SUPPRESSED_SENTINEL" Bundle.listD A s' s'.heap := by rw [hhp]; exact vx_Zq.moved hW0.alike (hN.kept hS.2.1)
  have h : ∀ w ∈ Bundle.ownAtoms0 own ic cls names, w.before args s' = true := vx_own hat' (vx_isRefq hU'.1) (vx_isRefq hN'.1) hU'.2.word hN'.2.word
  have hown' : s'.vm.findClass own = some m.cls := by rw [hvm]; exact hown
  have hins : (Cond.instantiable cls 6).before args s' = true := h _ (by simp [Bundle.ownAtoms0])
  obtain ⟨vm₁, cX, kX, hfX, hkX, -, -, X₁, st1⟩ := Y.newCold hexec (own := own) (C := cls) (index := ik) (n := 6) hown' hk' hins hini'
    (g := F0 m pc ls rest) rfl (by rw [hb]; exact d0) (Nat.le_refl _) (Nat.le_refl _)
  generalize hT1 : (T.setVm vm₁).pushCell { cls := cX, slots := kX.instanceTypes.map defaultValue, vm := .none } = T1 at X₁ st1
  have hcat : (Value.ref T.heap.size).category = 1 := rfl
  have hcellA : T1.heap[T.heap.size]? = some (freshCell cX kX) := by rw [← hT1]; exact State.heap_pushCell_size _ _
  have d3' : decode c.code (pc + 3) = .ok (.dup, 1) := by rw [hb]; exact d3
  obtain ⟨U, hsteps, hrun, hend, hW, hsame, ce, hce, hO⟩ := X₁.ctorThrow0 hexec htr (own := own) (cls := cls) (names := names) (ic := ic) hown' hcls hnames h (fun x hx => nomatch hx) hfX hkX hcellA (by rw [hhp, hT]; exact Nat.le_refl _)
    (g := { method := m, pc := pc + 4, locals := ls, stack := .ref T.heap.size :: .ref T.heap.size :: rest, locked := none }) rfl hsize rfl rfl (rest := rest) rfl
    (by rw [hb]; exact d4) (by rw [hb]; exact d7) hout hRframes (by simp only [List.map_cons, List.sum_cons, hcat]; omega) hlocks
  obtain ⟨f1, f2⟩ := vx_frame hsame
  rw [hhp] at f1 f2
  have hWs : s.WarmedH U.vm := State.WarmedH.trans hW0 hW
  have hcl : s.vm.findClass cls = some ce.cls := by
    have h9 := hO.cls
    rw [hvm] at h9
    exact h9
  have hall : s.sameButNew ({ U with vm := s.vm } : State) locs mc ms := by
    subst hA
    obtain ⟨e1, e2⟩ := hsame
    rw [State.setFrames_setFrames] at e1
    have h2 : (T.setVm s.vm).sameButNew ({ U with vm := s.vm } : State) [] (0 + 1) (0 + 6) := ⟨e1, e2⟩
    have h3 := X.same.trans h2
    rw [List.append_nil] at h3
    exact h3.mono hc hs
  refine ⟨U, ?_, .threw T.heap.size, hrun, hend, Or.inr ⟨T.heap.size, rfl, cls, ce, locs, hx U hWs.alike f1 (fun q hq => f2 q hq (fun z hz => nomatch hz)), hce, hO.vm, hcl, hWs, hall, hf⟩⟩
  refine st1 _ ?_
  show Steps p.tables e below (T1.setTop { method := m, pc := pc + 3, locals := ls, stack := .ref T.heap.size :: rest, locked := none }) _
  jvm_step X₁.here [X₁.here.top, hexec, d3', Value.category]
  exact hsteps
/-- 'throw new E("text")': new; dup; ldc; invokespecial; athrow -/
theorem vx_throwS {cc : ByteArray} {pc : Nat} (hexec : p.tables.exec = Jvm.exec) (hb : c.code = cc) (hl : l.stackTraces = false) {own cls text : String} {names : List String} {ik is ic mc ms sa : Nat} {A : Nat → Prop}
    (hown : s.vm.findClass own = some m.cls) (hcls : Bundle.fit cls = true) (hnames : ∀ n ∈ names, Bundle.fit n = true)
    (hk : (Cond.classLink own ik cls).before args s = true) (hini : (Cond.initialized cls).before args s = true) (hstr : vk_R own is text sa s) (hat : ∀ w ∈ vx_atS own ic cls names, w.before args s = true)
    (hgood : ∀ w ∈ Cond.classLink own ik cls :: Cond.initialized cls :: vx_atS own ic cls names, vx_ot w = true)
    (hU : vx_Zq Bundle.tN "UNASSIGNED_STACK" Bundle.steD A s s.heap) (hN : vx_Zq Bundle.tN "SUPPRESSED_SENTINEL" Bundle.listD A s s.heap) (hS : va_S A s.heap H locs) (hsize : ls.size = c.maxLocals)
    (d0 : decode cc pc = .ok (.new ik, 3)) (d3 : decode cc (pc + 3) = .ok (.dup, 1)) (d4 : decode cc (pc + 4) = .ok (.ldc is, 2)) (d6 : decode cc (pc + 6) = .ok (.invokespecial ic, 3)) (d9 : decode cc (pc + 9) = .ok (.athrow, 1))
    (hout : ∀ x ∈ c.exceptionTable.toList, covers x (pc + 9) = false)
    (hRframes : names.length + 3 < R.frames) (hRlocals : (rest.map fun v => v.category).sum + (13 * (names.length + 1) + 43) ≤ R.locals) (hRcells : cells + 1 ≤ R.cells) (hRslots : slots + 6 ≤ R.slots) (hlocks : meth.locks = false)
    (hx : ∀ t : State, s.vm.Alike t.vm → H.size ≤ t.heap.size → (∀ q : Nat, q < H.size → t.heap[q]? = H[q]?) → XC cls s t)
    (hf : ∀ z ∈ locs, free z.base) (hc : cells + 1 ≤ mc) (hs : slots + 6 ≤ ms) :
    W p l e R s m args below meth c H locs cells slots (vx_MQ below Qc XC args s mc ms free) (F0 m pc ls rest) := by
  intro T hT X
  have htr : e.platform.stackTraces = false := (show e.platform.stackTraces = l.stackTraces by rw [X.admits.platform]).trans hl
  have Y := vx_rebase X (R' := { frames := R.frames, locals := R.locals, cells := 1, slots := 6 }) (Nat.le_refl _) (Nat.le_refl _) hRcells hRslots
  obtain ⟨s', hA⟩ : ∃ z, z = (T.setVm s.vm).setFrames (.invoking m args :: below) := ⟨_, rfl⟩
  rw [← hA] at Y
  have hvm : s'.vm = s.vm := by rw [hA]; rfl
  have hhp : s'.heap = H := by rw [hA]; exact hT
  have hW0 : s.WarmedH s'.vm := by rw [hvm]; exact State.WarmedH.refl s
  have hat' : ∀ w ∈ vx_atS own ic cls names, w.before args s' = true := fun w hw => vx_ot_at hW0 hvm.symm (hgood w (List.mem_cons_of_mem _ (List.mem_cons_of_mem _ hw))) (hat w hw)
  have hk' : (Cond.classLink own ik cls).before args s' = true := vx_ot_at hW0 hvm.symm (hgood _ List.mem_cons_self) hk
  have hini' : (Cond.initialized cls).before args s' = true := vx_ot_at hW0 hvm.symm (hgood _ (List.mem_cons_of_mem _ List.mem_cons_self)) hini
  have hU' : vx_Zq Bundle.tN "UNASSIGNED_STACK" Bundle.steD A s' s'.heap := by rw [hhp]; exact vx_Zq.moved hW0.alike (hU.kept hS.2.1)
  have hN' : vx_Zq Bundle.tN "SUPPRESSED_SENTINEL" Bundle.listD A s' s'.heap := by rw [hhp]; exact vx_Zq.moved hW0.alike (hN.kept hS.2.1)
  have h : ∀ w ∈ Bundle.ownAtoms own ic cls names, w.before args s' = true := vx_own hat' (vx_isRefq hU'.1) (vx_isRefq hN'.1) hU'.2.word hN'.2.word
  have hown' : s'.vm.findClass own = some m.cls := by rw [hvm]; exact hown
  have hins : (Cond.instantiable cls 6).before args s' = true := h _ (by simp [Bundle.ownAtoms])
  obtain ⟨vm₁, cX, kX, hfX, hkX, -, -, X₁, st1⟩ := Y.newCold hexec (own := own) (C := cls) (index := ik) (n := 6) hown' hk' hins hini'
    (g := F0 m pc ls rest) rfl (by rw [hb]; exact d0) (Nat.le_refl _) (Nat.le_refl _)
  generalize hT1 : (T.setVm vm₁).pushCell { cls := cX, slots := kX.instanceTypes.map defaultValue, vm := .none } = T1 at X₁ st1
  have hcat : (Value.ref T.heap.size).category = 1 := rfl
  have hcellA : T1.heap[T.heap.size]? = some (freshCell cX kX) := by rw [← hT1]; exact State.heap_pushCell_size _ _
  have d3' : decode c.code (pc + 3) = .ok (.dup, 1) := by rw [hb]; exact d3
  have d4' : decode c.code (pc + 4) = .ok (.ldc is, 2) := by rw [hb]; exact d4
  have hstr' : vk_R own is text sa s' := vk_R.warm hW0 hstr
  obtain ⟨U, hsteps, hrun, hend, hW, hsame, ce, hce, hO⟩ := X₁.ctorThrowS hexec htr (own := own) (cls := cls) (names := names) (ic := ic) hown' hcls hnames h (fun x hx => nomatch hx) hfX hkX hcellA (by rw [hhp, hT]; exact Nat.le_refl _) (msg := .ref sa) rfl
    (g := { method := m, pc := pc + 6, locals := ls, stack := .ref sa :: .ref T.heap.size :: .ref T.heap.size :: rest, locked := none }) rfl hsize rfl rfl (rest := rest) rfl
    (by rw [hb]; exact d6) (by rw [hb]; exact d9) hout hRframes (by simp only [List.map_cons, List.sum_cons, hcat]; omega) hlocks
  obtain ⟨f1, f2⟩ := vx_frame hsame
  rw [hhp] at f1 f2
  have hWs : s.WarmedH U.vm := State.WarmedH.trans hW0 hW
  have hcl : s.vm.findClass cls = some ce.cls := by
    have h9 := hO.cls
    rw [hvm] at h9
    exact h9
  have hall : s.sameButNew ({ U with vm := s.vm } : State) locs mc ms := by
    subst hA
    obtain ⟨e1, e2⟩ := hsame
    rw [State.setFrames_setFrames] at e1
    have h2 : (T.setVm s.vm).sameButNew ({ U with vm := s.vm } : State) [] (0 + 1) (0 + 6) := ⟨e1, e2⟩
    have h3 := X.same.trans h2
    rw [List.append_nil] at h3
    exact h3.mono hc hs
  refine ⟨U, ?_, .threw T.heap.size, hrun, hend, Or.inr ⟨T.heap.size, rfl, cls, ce, locs, hx U hWs.alike f1 (fun q hq => f2 q hq (fun z hz => nomatch hz)), hce, hO.vm, hcl, hWs, hall, hf⟩⟩
  refine st1 _ ?_
  show Steps p.tables e below (T1.setTop { method := m, pc := pc + 3, locals := ls, stack := .ref T.heap.size :: rest, locked := none }) _
  jvm_step X₁.here [X₁.here.top, hexec, d3', Value.category]
  exact X₁.ldcString hexec (own := own) (text := text) (index := is) (a := sa) hown' hstr'.1 hstr'.2
    (g := { method := m, pc := pc + 4, locals := ls, stack := .ref T.heap.size :: .ref T.heap.size :: rest, locked := none }) rfl d4' _ hsteps
/-- 'throw new E("text")', the text by a wide index -/
theorem vx_throwSW {cc : ByteArray} {pc : Nat} (hexec : p.tables.exec = Jvm.exec) (hb : c.code = cc) (hl : l.stackTraces = false) {own cls text : String} {names : List String} {ik is ic mc ms sa : Nat} {A : Nat → Prop}
    (hown : s.vm.findClass own = some m.cls) (hcls : Bundle.fit cls = true) (hnames : ∀ n ∈ names, Bundle.fit n = true)
    (hk : (Cond.classLink own ik cls).before args s = true) (hini : (Cond.initialized cls).before args s = true) (hstr : vk_R own is text sa s) (hat : ∀ w ∈ vx_atS own ic cls names, w.before args s = true)
    (hgood : ∀ w ∈ Cond.classLink own ik cls :: Cond.initialized cls :: vx_atS own ic cls names, vx_ot w = true)
    (hU : vx_Zq Bundle.tN "UNASSIGNED_STACK" Bundle.steD A s s.heap) (hN : vx_Zq Bundle.tN "SUPPRESSED_SENTINEL" Bundle.listD A s s.heap) (hS : va_S A s.heap H locs) (hsize : ls.size = c.maxLocals)
    (d0 : decode cc pc = .ok (.new ik, 3)) (d3 : decode cc (pc + 3) = .ok (.dup, 1)) (d4 : decode cc (pc + 4) = .ok (.ldc_w is, 3)) (d7 : decode cc (pc + 7) = .ok (.invokespecial ic, 3)) (d10 : decode cc (pc + 10) = .ok (.athrow, 1))
    (hout : ∀ x ∈ c.exceptionTable.toList, covers x (pc + 10) = false)
    (hRframes : names.length + 3 < R.frames) (hRlocals : (rest.map fun v => v.category).sum + (13 * (names.length + 1) + 43) ≤ R.locals) (hRcells : cells + 1 ≤ R.cells) (hRslots : slots + 6 ≤ R.slots) (hlocks : meth.locks = false)
    (hx : ∀ t : State, s.vm.Alike t.vm → H.size ≤ t.heap.size → (∀ q : Nat, q < H.size → t.heap[q]? = H[q]?) → XC cls s t)
    (hf : ∀ z ∈ locs, free z.base) (hc : cells + 1 ≤ mc) (hs : slots + 6 ≤ ms) :
    W p l e R s m args below meth c H locs cells slots (vx_MQ below Qc XC args s mc ms free) (F0 m pc ls rest) := by
  intro T hT X
  have htr : e.platform.stackTraces = false := (show e.platform.stackTraces = l.stackTraces by rw [X.admits.platform]).trans hl
  have Y := vx_rebase X (R' := { frames := R.frames, locals := R.locals, cells := 1, slots := 6 }) (Nat.le_refl _) (Nat.le_refl _) hRcells hRslots
  obtain ⟨s', hA⟩ : ∃ z, z = (T.setVm s.vm).setFrames (.invoking m args :: below) := ⟨_, rfl⟩
  rw [← hA] at Y
  have hvm : s'.vm = s.vm := by rw [hA]; rfl
  have hhp : s'.heap = H := by rw [hA]; exact hT
  have hW0 : s.WarmedH s'.vm := by rw [hvm]; exact State.WarmedH.refl s
  have hat' : ∀ w ∈ vx_atS own ic cls names, w.before args s' = true := fun w hw => vx_ot_at hW0 hvm.symm (hgood w (List.mem_cons_of_mem _ (List.mem_cons_of_mem _ hw))) (hat w hw)
  have hk' : (Cond.classLink own ik cls).before args s' = true := vx_ot_at hW0 hvm.symm (hgood _ List.mem_cons_self) hk
  have hini' : (Cond.initialized cls).before args s' = true := vx_ot_at hW0 hvm.symm (hgood _ (List.mem_cons_of_mem _ List.mem_cons_self)) hini
  have hU' : vx_Zq Bundle.tN "UNASSIGNED_STACK" Bundle.steD A s' s'.heap := by rw [hhp]; exact vx_Zq.moved hW0.alike (hU.kept hS.2.1)
  have hN' : vx_Zq Bundle.tN "SUPPRESSED_SENTINEL" Bundle.listD A s' s'.heap := by rw [hhp]; exact vx_Zq.moved hW0.alike (hN.kept hS.2.1)
  have h : ∀ w ∈ Bundle.ownAtoms own ic cls names, w.before args s' = true := vx_own hat' (vx_isRefq hU'.1) (vx_isRefq hN'.1) hU'.2.word hN'.2.word
  have hown' : s'.vm.findClass own = some m.cls := by rw [hvm]; exact hown
  have hins : (Cond.instantiable cls 6).before args s' = true := h _ (by simp [Bundle.ownAtoms])
  obtain ⟨vm₁, cX, kX, hfX, hkX, -, -, X₁, st1⟩ := Y.newCold hexec (own := own) (C := cls) (index := ik) (n := 6) hown' hk' hins hini'
    (g := F0 m pc ls rest) rfl (by rw [hb]; exact d0) (Nat.le_refl _) (Nat.le_refl _)
  generalize hT1 : (T.setVm vm₁).pushCell { cls := cX, slots := kX.instanceTypes.map defaultValue, vm := .none } = T1 at X₁ st1
  have hcat : (Value.ref T.heap.size).category = 1 := rfl
  have hcellA : T1.heap[T.heap.size]? = some (freshCell cX kX) := by rw [← hT1]; exact State.heap_pushCell_size _ _
  have d3' : decode c.code (pc + 3) = .ok (.dup, 1) := by rw [hb]; exact d3
  have d4' : decode c.code (pc + 4) = .ok (.ldc_w is, 3) := by rw [hb]; exact d4
  have hstr' : vk_R own is text sa s' := vk_R.warm hW0 hstr
  obtain ⟨U, hsteps, hrun, hend, hW, hsame, ce, hce, hO⟩ := X₁.ctorThrowS hexec htr (own := own) (cls := cls) (names := names) (ic := ic) hown' hcls hnames h (fun x hx => nomatch hx) hfX hkX hcellA (by rw [hhp, hT]; exact Nat.le_refl _) (msg := .ref sa) rfl
    (g := { method := m, pc := pc + 7, locals := ls, stack := .ref sa :: .ref T.heap.size :: .ref T.heap.size :: rest, locked := none }) rfl hsize rfl rfl (rest := rest) rfl
    (by rw [hb]; exact d7) (by rw [hb]; exact d10) hout hRframes (by simp only [List.map_cons, List.sum_cons, hcat]; omega) hlocks
  obtain ⟨f1, f2⟩ := vx_frame hsame
  rw [hhp] at f1 f2
  have hWs : s.WarmedH U.vm := State.WarmedH.trans hW0 hW
  have hcl : s.vm.findClass cls = some ce.cls := by
    have h9 := hO.cls
    rw [hvm] at h9
    exact h9
  have hall : s.sameButNew ({ U with vm := s.vm } : State) locs mc ms := by
    subst hA
    obtain ⟨e1, e2⟩ := hsame
    rw [State.setFrames_setFrames] at e1
    have h2 : (T.setVm s.vm).sameButNew ({ U with vm := s.vm } : State) [] (0 + 1) (0 + 6) := ⟨e1, e2⟩
    have h3 := X.same.trans h2
    rw [List.append_nil] at h3
    exact h3.mono hc hs
  refine ⟨U, ?_, .threw T.heap.size, hrun, hend, Or.inr ⟨T.heap.size, rfl, cls, ce, locs, hx U hWs.alike f1 (fun q hq => f2 q hq (fun z hz => nomatch hz)), hce, hO.vm, hcl, hWs, hall, hf⟩⟩
  refine st1 _ ?_
  show Steps p.tables e below (T1.setTop { method := m, pc := pc + 3, locals := ls, stack := .ref T.heap.size :: rest, locked := none }) _
  jvm_step X₁.here [X₁.here.top, hexec, d3', Value.category]
  exact X₁.ldcStringW hexec (own := own) (text := text) (index := is) (a := sa) hown' hstr'.1 hstr'.2
    (g := { method := m, pc := pc + 4, locals := ls, stack := .ref T.heap.size :: .ref T.heap.size :: rest, locked := none }) rfl d4' _ hsteps
end Ends
section Bodies
variable {l : Launch}
theorem vx_ofW {y : MethodName} {ws ws' : List Cond} {rm : Room} {Pc : Array Value → State → Prop} {Qc : Array Value → State → Outcome → State → Prop} {XC : String → State → State → Prop} {mc ms : Nat} {free : Addr → Prop} {cc : ByteArray} {maxL : Nat} {ret : Option FieldType}
    (hy : plainName y.cls = true) (hw : ws = Cond.code y cc maxL ret :: ws')
    (body : ∀ p e s m args below meth c s₁, BodyLoose p l y (headSpec ws rm) cc maxL ret e s m args below meth c s₁ → c.maxLocals = maxL → (∀ x ∈ c.exceptionTable.toList, False) → Pc args s →
      W p l e (headSpec ws rm).room s m args below meth c s.heap [] 0 0 (vx_MQ below Qc XC args s mc ms free) (entryFrame m args maxL)) : vx_Met l y ws rm Pc Qc XC mc ms free := by
  refine MetFree.of_bodyS (code := cc) (maxLocals := maxL) (ret := ret) hy ?_ ?_
  · intro args s m h hn
    obtain ⟨meth, c, h1, h2, h3, h4, h5, h6, -, -⟩ := Cond.code_spec hn (atoms_spec (ws := ws) h _ (by rw [hw]; exact List.mem_cons_self))
    exact ⟨meth, c, h1, h2, h3, h4, h5, h6⟩
  · intro p e s m args below meth c s₁ B hml hP _
    have hh0 : s₁.heap = s.heap := by rw [B.state]; rfl
    have ht : ∀ x ∈ c.exceptionTable.toList, False := by
      obtain ⟨meth9, c9, h1, h2, -, -, -, -, h7, -⟩ := Cond.code_spec B.named (atoms_spec (ws := ws) B.pre _ (by rw [hw]; exact List.mem_cons_self))
      cases Option.some.inj (h1.symm.trans B.method)
      cases Option.some.inj (h2.symm.trans (Stand.of_body B).code)
      intro x hx
      rw [Array.isEmpty_iff.mp h7] at hx
      cases hx
    obtain ⟨t, a1, o, b1, b2, b3⟩ := body p e s m args below meth c s₁ B hml ht hP s₁ hh0 (Stand.of_body B)
    exact ⟨t, o, a1, b1, b2, b3⟩
/-- the table of a body with handlers -/
theorem vx_table {p : Program} {x y : MethodName} {S : Spec} {cc bytes : ByteArray} {maxL maxL' : Nat} {ret ret' : Option FieldType} {e : Env} {s s₁ : State} {m : MethodId} {args : Array Value} {below : List Frame} {meth : Method} {c : Code} {hh : List (Nat × Nat × Nat × Nat)}
    (B : BodyLoose p l y S cc maxL ret e s m args below meth c s₁) (h : (Cond.codeWith y bytes maxL' ret' hh).before args s = true) : c.exceptionTable.toList = tableOf hh := by
  obtain ⟨m9, meth9, c9, hn9, h1, h2, -, -, h6, -⟩ := Cond.codeWith_spec h
  cases Option.some.inj (hn9.symm.trans B.named)
  cases Option.some.inj (h1.symm.trans B.method)
  cases Option.some.inj (h2.symm.trans (Stand.of_body B).code)
  rw [← h6, table_eq]
end Bodies
end VXA
/-! ===== END ===== -/
/-! ===== BEGIN a static call of a method with an exception table ===== -/
section VXS
variable {p : Program} {l : Launch} {e : Env} {R : Room} {s : State} {m : MethodId} {args : Array Value} {below : List Frame} {meth : Method} {c : Code} {T : State} {H : Heap} {locs : List Loc} {cells slots : Nat}
abbrev vx_CSW (R : Room) (s : State) (args : Array Value) (own : String) (index : Nat) (y : MethodName) (bytes : ByteArray) (maxL : Nat) (ret : Option FieldType) (hh : List (Nat × Nat × Nat × Nat)) (ws : List Cond) (rm : Room) (mc ms n : Nat) : Prop :=
  (rm.cells = mc ∧ rm.slots = ms ∧ rm.frames + 1 ≤ R.frames ∧ 8 + (maxL + 11) + rm.locals ≤ R.locals ∧ (∀ w ∈ ws, ∀ (a' : Array Value) (U : State), s.WarmedH U.vm → w.before a' U = true) ∧ Cond.codeWith y bytes maxL ret hh ∈ ws) ∧
  (Cond.codeWith y bytes maxL ret hh).before args s = true ∧ (Cond.initialized y.cls).before args s = true ∧ (y.cls ≠ "java/lang/invoke/MethodHandle" ∧ y.cls ≠ "java/lang/invoke/VarHandle") ∧
  (∀ sig, parseMethodDescriptor y.desc = some sig → n = sig.parameters.length) ∧ (Cond.methodLink own index y).before args s = true ∧ (Cond.static y).before args s = true
theorem vx_cwSW {own : String} {index maxL mc ms : Nat} {y : MethodName} {bytes : ByteArray} {ret : Option FieldType} {hh : List (Nat × Nat × Nat × Nat)} {Ts ws ws' : List Cond} {rm : Room} (n : Nat) (ht : ∀ w ∈ Ts, w.before args s = true) (hT : GoodIn Ts (va_wsS own index y ws)) (hw : ws = Cond.codeWith y bytes maxL ret hh :: ws') (hrc : rm.cells = mc) (hrs : rm.slots = ms)
    (hd : y.cls ≠ "java/lang/invoke/MethodHandle" ∧ y.cls ≠ "java/lang/invoke/VarHandle" ∧ (parseMethodDescriptor y.desc).map (fun d => d.parameters.length) = some n) (hR : rm.frames + 1 ≤ R.frames ∧ 8 + (maxL + 11) + rm.locals ≤ R.locals) :
    vx_CSW R s args own index y bytes maxL ret hh ws rm mc ms n := by
  have ok : ∀ w ∈ va_wsS own index y ws, w.before args s = true := fun w h => ht w (hT w h).1
  have hG : GoodIn Ts ws := fun w h => hT w (by unfold va_wsS; exact List.mem_append_right _ h)
  have hc : Cond.codeWith y bytes maxL ret hh ∈ ws := by rw [hw]; exact List.mem_cons_self
  refine ⟨⟨hrc, hrs, hR.1, hR.2, pay_in ht hG, hc⟩, ht _ (hG _ hc).1, ok _ (by simp [va_wsS]), ⟨hd.1, hd.2.1⟩, fun sig h => ?_, ok _ (by simp [va_wsS]), ok _ (by simp [va_wsS])⟩
  have h2 := hd.2.2
  rw [h] at h2
  exact (Option.some.inj h2).symm
theorem vx_callSW (X : Stand p l e R s m args below meth c T locs cells slots) (hexec : p.tables.exec = Jvm.exec) {own : String} {index : Nat} {y : MethodName} {bytes : ByteArray} {maxL : Nat} {ret : Option FieldType} {hh : List (Nat × Nat × Nat × Nat)}
    (hown : s.vm.findClass own = some m.cls) (hlink : (Cond.methodLink own index y).before args s = true) (hstat : (Cond.static y).before args s = true) (hinit : (Cond.initialized y.cls).before args s = true)
    (hcode : (Cond.codeWith y bytes maxL ret hh).before args s = true) (hy : y.cls ≠ "java/lang/invoke/MethodHandle" ∧ y.cls ≠ "java/lang/invoke/VarHandle")
    {W9 : Nat} {Pre : Pt → Array Value → Prop} {Post : Pt → Array Value → Option Value → Pt → Prop} (hK : Back l R p e below s args y 3 W9 Pre Post)
    {g : JFrame} (hg : g.method = m) (hsize : g.locals.size = c.maxLocals) {argsL rest : List Value} (hlen : ∀ sig, parseMethodDescriptor y.desc = some sig → argsL.length = sig.parameters.length)
    (hstack : g.stack = argsL.reverse ++ rest) (hW : 2 * g.monitorRoom + (rest.map fun v => v.category).sum ≤ W9) (hdg : decode c.code g.pc = .ok (.invokestatic index, 3))
    (hpre : ∀ vm₁, s.WarmedH vm₁ → Pre ⟨T.setVm vm₁, locs, cells, slots⟩ argsL.toArray) :
    ∃ (v : Option Value) (vm₁ : Vm) (B : Pt), s.WarmedH vm₁ ∧ Stand p l e R s m args below meth c B.U B.locs B.cells B.slots ∧ Post ⟨T.setVm vm₁, locs, cells, slots⟩ argsL.toArray v B ∧
      ∀ target, Steps p.tables e below (B.U.setTop { g with pc := g.pc + 3, stack := v.toList ++ rest }) target → Steps p.tables e below (T.setTop g) target := by
  obtain ⟨mk, methM, cM, hnamed, hmethM, -, -, -, -, -, -, hsigM⟩ := Cond.codeWith_spec hcode
  have hstatic : methM.isStatic = true := Cond.static_spec hnamed hmethM hstat
  obtain ⟨kP, hkP, -⟩ := className_of_methodNamed hnamed
  have hinitP : kP.init = .initialized := Cond.initialized_spec (findClass_of_methodNamed hnamed) hkP hinit
  obtain ⟨vm₁, X₁, hstep₁⟩ := X.invokestatic hexec hown hlink hnamed hmethM hstatic hkP hinitP hy (g := g) hg (argsL := argsL) (rest := rest) (hlen _ hsigM) hstack hdg
  obtain ⟨v, B, X', hpost, hsteps⟩ := hK m meth c ⟨T.setVm vm₁, locs, cells, slots⟩ { g with stack := rest } (.invokestatic index) mk argsL.toArray X₁ hg hsize hdg hW (X₁.named hnamed) (hpre vm₁ X₁.warmed)
  exact ⟨v, vm₁, B, X₁.warmed, X', hpost, fun target h => hstep₁ _ fun acts => by rw [doInvoke_state]; exact hsteps.trans h⟩
theorem vx_runSW {y : MethodName} {bytes cc : ByteArray} {maxL nL mc ms n index : Nat} {ret : Option FieldType} {hh : List (Nat × Nat × Nat × Nat)} {ws : List Cond} {rm : Room} {Pc : Array Value → State → Prop} {Qc : Array Value → State → Outcome → State → Prop} {free : Addr → Prop} {Ts : List Cond} {own : String} {As rest : List Value} {g : JFrame}
    (S : CallFix p m c cc nL s args Ts own) (hM : Met l y ws rm Pc Qc mc ms free) (cw : vx_CSW R s args own index y bytes maxL ret hh ws rm mc ms n) (hp : PreS s H Pc As)
    (hg : g.method = m) (hn : As.length = n) (hsize : g.locals.size = nL) (hstack : g.stack = As.reverse ++ rest) (hW : 2 * g.monitorRoom + (rest.map fun v => v.category).sum ≤ 8) (hdg : decode cc g.pc = .ok (.invokestatic index, 3)) (hf : cells + mc ≤ R.cells ∧ slots + ms ≤ R.slots) :
    va_Run p l e R s m args below meth c H locs cells slots mc ms g rest (Qc As.toArray) (free) := by
  obtain ⟨⟨hrc, hrs, hfr, hlo, hws, hcw⟩, hcode, hini, hy, hlen, hl, hstt⟩ := cw
  have hK : Back l R p e below s args y 3 8 (PreOf R mc ms Pc) (PostOf Qc mc ms free) := va_backW (hh := hh) (bytes := bytes) (maxL := maxL) (ret := ret) hM hp.1 hrc hrs hfr hlo hws hcw (fun a' U hW => word_at hW (Or.inl (by first | rfl | simp [Cond.onTables, Cond.keeps, Cond.steady])) hini)
  obtain ⟨hx, hb, hml, ho, -⟩ := S
  intro T hT X
  obtain ⟨v, vm₁, ⟨U', l2, c2, s2⟩, hW₁, X', ⟨g', mk, t, L, e1, e2, hq, h1, hL, h2, h3⟩, st⟩ := vx_callSW X hx (hh := hh) (bytes := bytes) (maxL := maxL) (ret := ret) ho hl hstt hini hcode hy hK hg (hsize.trans hml.symm) (argsL := As) (rest := rest) (fun sig h => hn.trans (hlen sig h)) hstack hW (by rw [hb]; exact hdg)
    (fun vm₁ hW₁ => ⟨hf.1, hf.2, hp.2 (T.setVm vm₁) hT hW₁⟩)
  dsimp only [Pt.U, Pt.locs, Pt.cells, Pt.slots] at X' e1 e2 h1 h2 h3 st
  subst h1; subst h2; subst h3
  exact ⟨v, (T.setVm vm₁).calling g' mk As.toArray, t, U', L, hT, X', hL, e1, e2, hq, st⟩
/-- not caught here, past rows that name other classes: it goes on to the caller -/
theorem vx_outP {p : Program} {l : Launch} {e : Env} {R : Room} {s : State} {m : MethodId} {args : Array Value} {below : List Frame} {meth : Method} {c : Code} {H : Heap} {locs : List Loc} {cells slots : Nat} {free : Addr → Prop} {ls : Array Slot} {rest : List Value} {Qc : Array Value → State → Outcome → State → Prop} {XC : String → State → State → Prop}
    {pc : Nat} {own E : String} {ce : Cell} {q : Addr} {mc ms : Nat} (hown : s.vm.findClass own = some m.cls) (hlocks : meth.locks = false)
    (hpass : ∀ z ∈ c.exceptionTable.toList, covers z pc = false ∨ (z.catchType ≠ 0 ∧ ∃ nm : String, (Cond.classLink own z.catchType nm).before args s = true ∧ va_Nc E nm s)) (hcell : H[q]? = some ce) (hv : ce.vm = .none) (hcl : s.vm.findClass E = some ce.cls)
    (hx : ∀ t : State, t.heap = H → s.vm.Alike t.vm → XC E s t) (hf : ∀ z ∈ locs, free z.base) (hc : cells ≤ mc) (hs : slots ≤ ms) :
    vx_W p l e R s m args below meth c H locs cells slots (vx_MQ below Qc XC args s mc ms free) (F0 m pc ls rest) q := by
  intro T hT X
  have hpl : e.platform.magicAccessors = ({} : Platform).magicAccessors := by rw [X.admits.platform]
  obtain ⟨vm', hW', X', st⟩ := X.outThrough hlocks q (g := F0 m pc ls rest) rfl rfl rfl (cell := ce) (by rw [hT]; exact hcell) (by rw [hv]; rfl)
    (by obtain ⟨k9, h9, -⟩ := Vm.findClass_spec hcl; exact ⟨k9, h9⟩) (fun z hz => by
      rcases hpass z hz with h | ⟨hz0, nm, hl1, hn1⟩
      · exact Or.inl h
      · obtain ⟨c6, hc6, hcl6⟩ := Cond.classLink_spec hown hl1 e.platform hpl
        obtain ⟨a8, b8, h1, h2, h3⟩ := hn1
        cases Option.some.inj (h1.symm.trans hcl)
        cases Option.some.inj (h2.symm.trans hc6)
        exact Or.inr ⟨hz0, _, hcl6, h3⟩)
  obtain ⟨g₀, hfr⟩ := X'.frames_eq
  have hcell9 : ((T.setVm vm').setFrames (.throwing q :: below)).heap[q]? = some ce := by
    show T.heap[q]? = some ce
    rw [hT]; exact hcell
  have hend : Ended ((T.setVm vm').setFrames (.throwing q :: below)) below (.threw q) := State.frames_setFrames _ (State.cur_lt_of_frames hfr)
  refine ⟨(T.setVm vm').setFrames (.throwing q :: below), ?_, .threw q, X'.here.running, hend, Or.inr ⟨q, rfl, E, ce, locs, hx _ hT (X'.ends _).1.alike, hcell9, hv, hcl, (X'.ends _).1, (X'.ends _).2.mono hc hs, hf⟩⟩
  rw [X.pushThrowing_eq]
  exact st
/-- a thing of a world lies in the heap -/
theorem vx_lt {D : va_G} {cl : List vw_C} {ws : va_W} {H1 : Heap} (h : va_P D cl ws H1) {k : Nat} {q : Nat × va_E} (hk : ws[k]? = some q) : q.1 < H1.size := (h k q hk).lt
end VXS
/-! ===== END ===== -/
/-! ===== BEGIN methods with a table of their own: called by a name, returning or throwing ===== -/
section VXH
/-! vx_backW, vx_callVX, vx_callSX, vx_callVW, vx_runVW, vx_runVX, vx_runSX, vx_ofWH follow the same proofs as their sisters above (Free/Laws.lean, Shelf42/LK1.lean); vx_outP calls Shelf42/NT130.lean (outThrough). -/
section
variable {l : Launch} {R : Room} {p : Program} {e : Env} {below : List Frame} {s : State} {sargs : Array Value} {y : MethodName} {len W9 : Nat}
theorem vx_backW {ws : List Cond} {rm : Room} {Pc : Array Value → State → Prop} {Qc : Array Value → State → Outcome → State → Prop} {XC : String → State → State → Prop} {mc ms : Nat} {free : Addr → Prop} {bytes : ByteArray} {maxL : Nat} {ret : Option FieldType} {hh : List (Nat × Nat × Nat × Nat)}
    (hM : vx_Met l y ws rm Pc Qc XC mc ms free) (hblind : FrameBlind Pc) (hrc : rm.cells = mc) (hrs : rm.slots = ms)
    (hframes : rm.frames + 1 ≤ R.frames) (hlocals : W9 + (maxL + 11) + rm.locals ≤ R.locals)
    (hws : ∀ w ∈ ws, ∀ a' U, s.WarmedH U.vm → w.before a' U = true) (hcode : Cond.codeWith y bytes maxL ret hh ∈ ws) (hinit : ∀ a' U, s.WarmedH U.vm → (Cond.initialized y.cls).before a' U = true) :
    vx_Back l R p e below s sargs y len W9 (PreOf R mc ms Pc) (PostOf Qc mc ms free) (vx_Post XC mc ms free) := by
  intro m meth c A g ig mk a X hg hsize hdg hW hn hp
  have h1 : (headSpec ws rm).pre.before a A.U = true := atoms_intro fun w hw => hws w hw _ _ X.warmed
  have h2 : (Cond.codeWith y bytes maxL ret hh).before a A.U = true := hws _ hcode _ _ X.warmed
  have h3 : (Cond.initialized y.cls).before a A.U = true := hinit _ _ X.warmed
  have h4 : A.cells + (headSpec ws rm).room.cells ≤ R.cells := by rw [show (headSpec ws rm).room.cells = mc from hrc]; exact hp.1
  have h5 : A.slots + (headSpec ws rm).room.slots ≤ R.slots := by rw [show (headSpec ws rm).room.slots = ms from hrs]; exact hp.2.1
  have hPc : Pc a (A.U.calling g mk a) := hblind _ _ _ _ hp.2.2
  obtain ⟨U, Ls, c0, s0⟩ := A
  dsimp only [Pt.U, Pt.locs, Pt.cells, Pt.slots] at h1 h2 h3 h4 h5 X hn hPc ⊢
  obtain ⟨m9, methY, cY, hn9, hmY, hcY, -, hlY, -⟩ := Cond.codeWith_spec h2
  cases Option.some.inj (hn9.symm.trans hn)
  obtain ⟨kY, hkY, -⟩ := className_of_methodNamed hn
  have hinitY : kY.init = .initialized := Cond.initialized_spec (findClass_of_methodNamed hn) hkY h3
  have h : At U g.method c below := by rw [hg]; exact X.here
  have hlocals9 : W9 + (maxL + 11) + (headSpec ws rm).room.locals ≤ R.locals := hlocals
  have happ : (headSpec ws rm).appliesLoose y e.platform (U.calling g mk a) = true :=
    Spec.appliesLoose_calling (g := g) h hdg hn hkY hinitY
      (X.room_calling (g := g) (R' := (headSpec ws rm).room) hsize hmY hcY hframes (by rw [hlY]; omega) h4 h5) h1
  obtain ⟨mid, hmid⟩ := h.above
  have hfr : (U.setTop g).frames = (.java g :: mid) ++ below := by rw [State.frames_setTop' g h.top, hmid]; rfl
  obtain ⟨o, s₂, hsteps, -, hend, hq⟩ := Steps.callFree hM p X.admits X.cas X.clock (acts := []) hfr happ hPc trivial
  have hq' : vx_Q Qc XC mc ms free a (U.calling g mk a) o s₂ := hq
  rw [State.frames_setTop' g h.top] at hend
  obtain ⟨g₀, hg0⟩ := Option.isSome_iff_exists.mp h.top
  obtain ⟨r, hr⟩ := State.topJava?_eq_some.mp hg0
  have hr' : (({ U with heap := s₂.heap, slotsUsed := s₂.slotsUsed } : State).setVm s₂.vm).frames = .java g₀ :: r := hr
  rcases hq' with ⟨hqc, L, hfe, hL⟩ | ⟨q, rfl, E, ce, L, hx, hce, hcv, hcl, hW₂, hsm, hL⟩
  · obtain ⟨⟨v, rfl⟩, hW₂, e2, q2, q3, q4, q5, q6⟩ := id hfe
    have e3 : s₂ = ({ (U.calling g mk a).setFrames s₂.frames with heap := s₂.heap, slotsUsed := s₂.slotsUsed } : State).setVm s₂.vm := by
      have : s₂ = ({ s₂ with vm := (U.calling g mk a).vm } : State).setVm s₂.vm := rfl
      rw [e2] at this
      exact this
    obtain ⟨c₂, i₂, len₂, hc₂, hd₂, hf₂⟩ := hend
    have hW' : U.WarmedH s₂.vm := hW₂
    have hcc : c₂ = c := by
      have h1 : s₂.code? g.method = U.code? g.method := by
        rw [State.code?_eq, State.code?_eq, hW'.alike.method?]
      exact Option.some.inj (hc₂.symm.trans (h1.trans h.code))
    subst hcc
    have hlen : len₂ = len := by rw [hdg] at hd₂; cases hd₂; rfl
    subst hlen
    have hs₂ : s₂ = (({ U with heap := s₂.heap, slotsUsed := s₂.slotsUsed } : State).setVm s₂.vm).setTop { g with pc := g.pc + len₂, stack := v.toList ++ g.stack } := by
      refine e3.trans ?_
      rw [hf₂, State.calling_eq h.top, State.setFrames_setFrames, State.setTop_of_frames _ hr', hr]
      rfl
    have hsame : U.sameButNew ({ U with heap := s₂.heap, slotsUsed := s₂.slotsUsed } : State) L mc ms := by
      refine ⟨?_, q2, q3, q4, q5, q6⟩
      obtain ⟨t, ht, -⟩ := State.frames_cons hr
      show ({ U with heap := s₂.heap, slotsUsed := s₂.slotsUsed } : State) = { U.setFrames U.frames with heap := s₂.heap, slotsUsed := s₂.slotsUsed }
      rw [State.setFrames_self ht]
    subst hg
    refine Or.inl ⟨v, ⟨(({ U with heap := s₂.heap, slotsUsed := s₂.slotsUsed } : State).setVm s₂.vm), Ls ++ L, c0 + mc, s0 + ms⟩,
      ⟨X.admits, X.cas, X.clock, X.frames, X.room, X.hears, X.method, X.code, (X.here.setHeapUsed s₂.heap s₂.slotsUsed).setVm hW'.alike, X.tail, State.WarmedH.trans X.warmed hW', X.limits, X.bytes, X.same.trans (hsame.setVm s.vm)⟩,
      ⟨g, mk, s₂, L, rfl, rfl, hqc, rfl, hL, rfl, rfl⟩, ?_⟩
    show Steps p.tables e below _ ((({ U with heap := s₂.heap, slotsUsed := s₂.slotsUsed } : State).setVm s₂.vm).setTop { g with pc := g.pc + len₂, stack := v.toList ++ g.stack })
    rw [← hs₂]
    exact hsteps
  · obtain ⟨e2, q2, q3, q4, q5, q6⟩ := id hsm
    have e3 : s₂ = ({ (U.calling g mk a).setFrames s₂.frames with heap := s₂.heap, slotsUsed := s₂.slotsUsed } : State).setVm s₂.vm := by
      have : s₂ = ({ s₂ with vm := (U.calling g mk a).vm } : State).setVm s₂.vm := rfl
      rw [e2] at this
      exact this
    have hf₂ : s₂.frames = .throwing q :: .java g :: U.frames.tail := hend
    have hW' : U.WarmedH s₂.vm := hW₂
    have hs₂ : s₂ = ((({ U with heap := s₂.heap, slotsUsed := s₂.slotsUsed } : State).setVm s₂.vm).setTop g).pushFrame (.throwing q) := by
      refine e3.trans ?_
      rw [hf₂, State.calling_eq h.top, State.setFrames_setFrames, State.pushFrame, State.frames_setTop _ hr', State.setTop_of_frames _ hr', State.setFrames_setFrames, hr]
      rfl
    have hsame : U.sameButNew ({ U with heap := s₂.heap, slotsUsed := s₂.slotsUsed } : State) L mc ms := by
      refine ⟨?_, q2, q3, q4, q5, q6⟩
      obtain ⟨t, ht, -⟩ := State.frames_cons hr
      show ({ U with heap := s₂.heap, slotsUsed := s₂.slotsUsed } : State) = { U.setFrames U.frames with heap := s₂.heap, slotsUsed := s₂.slotsUsed }
      rw [State.setFrames_self ht]
    subst hg
    refine Or.inr ⟨q, ⟨(({ U with heap := s₂.heap, slotsUsed := s₂.slotsUsed } : State).setVm s₂.vm), Ls ++ L, c0 + mc, s0 + ms⟩,
      ⟨X.admits, X.cas, X.clock, X.frames, X.room, X.hears, X.method, X.code, (X.here.setHeapUsed s₂.heap s₂.slotsUsed).setVm hW'.alike, X.tail, State.WarmedH.trans X.warmed hW', X.limits, X.bytes, X.same.trans (hsame.setVm s.vm)⟩,
      ⟨g, mk, s₂, L, E, ce, rfl, rfl, hx, hce, hcv, hcl, rfl, hL, rfl, rfl⟩, ?_⟩
    show Steps p.tables e below _ (((({ U with heap := s₂.heap, slotsUsed := s₂.slotsUsed } : State).setVm s₂.vm).setTop g).pushFrame (.throwing q))
    rw [← hs₂]
    exact hsteps
end
variable {p : Program} {l : Launch} {e : Env} {R : Room} {s : State} {m : MethodId} {args : Array Value} {below : List Frame} {meth : Method} {c : Code} {T : State} {H : Heap} {locs : List Loc} {cells slots : Nat}
theorem vx_callVX (X : Stand p l e R s m args below meth c T locs cells slots) (hexec : p.tables.exec = Jvm.exec) {own C : String} {index : Nat} {y : MethodName} {bytes : ByteArray} {maxL : Nat} {ret : Option FieldType} {hh : List (Nat × Nat × Nat × Nat)}
    (hown : s.vm.findClass own = some m.cls) (hlink : (Cond.methodLink own index y).before args s = true) (hinst : (Cond.instanceMethod y).before args s = true) (hsel : (Cond.selects C y y).before args s = true)
    (hcode : (Cond.codeWith y bytes maxL ret hh).before args s = true) (hy : y.cls ≠ "java/lang/invoke/MethodHandle" ∧ y.cls ≠ "java/lang/invoke/VarHandle")
    {W9 : Nat} {Pre : Pt → Array Value → Prop} {Post : Pt → Array Value → Option Value → Pt → Prop} {PostX : Pt → Array Value → Addr → Pt → Prop} (hK : vx_Back l R p e below s args y 3 W9 Pre Post PostX)
    {b : Addr} {cellB : Cell} (hcell : T.heap[b]? = some cellB) (hobj : cellB.vm.isStatics = false) (hcls : s.vm.findClass C = some cellB.cls)
    {g : JFrame} (hg : g.method = m) (hsize : g.locals.size = c.maxLocals) {argsL rest : List Value} (hlen : ∀ sig, parseMethodDescriptor y.desc = some sig → argsL.length = sig.parameters.length)
    (hstack : g.stack = argsL.reverse ++ .ref b :: rest) (hW : 2 * g.monitorRoom + (rest.map fun v => v.category).sum ≤ W9) (hdg : decode c.code g.pc = .ok (.invokevirtual index, 3))
    (hpre : ∀ vm₁, s.WarmedH vm₁ → Pre ⟨T.setVm vm₁, locs, cells, slots⟩ (Value.ref b :: argsL).toArray) :
    (∃ (v : Option Value) (vm₁ : Vm) (B : Pt), s.WarmedH vm₁ ∧ Stand p l e R s m args below meth c B.U B.locs B.cells B.slots ∧ Post ⟨T.setVm vm₁, locs, cells, slots⟩ (Value.ref b :: argsL).toArray v B ∧
      ∀ target, Steps p.tables e below (B.U.setTop { g with pc := g.pc + 3, stack := v.toList ++ rest }) target → Steps p.tables e below (T.setTop g) target) ∨
    (∃ (q : Addr) (vm₁ : Vm) (B : Pt), s.WarmedH vm₁ ∧ Stand p l e R s m args below meth c B.U B.locs B.cells B.slots ∧ PostX ⟨T.setVm vm₁, locs, cells, slots⟩ (Value.ref b :: argsL).toArray q B ∧
      Steps p.tables e below (T.setTop g) ((B.U.setTop { g with stack := rest }).pushFrame (.throwing q))) := by
  obtain ⟨mk, methM, hnamed, hmethM, hstM, habM⟩ := Cond.instanceMethod_spec hinst
  obtain ⟨m8, methM', cM, hn8, hmethM', -, -, -, -, -, -, hsigM⟩ := Cond.codeWith_spec hcode
  cases Option.some.inj (hn8.symm.trans hnamed)
  cases hmethM.symm.trans hmethM'
  obtain ⟨c2, r2, m2, q1, q2, q3, q4, kP, hkP, hkPi⟩ := Cond.selects_spec hsel
  cases hcls.symm.trans q1
  cases (State.methodFound?_of_named hnamed hy).symm.trans q2
  cases hnamed.symm.trans q3
  have hselP : selectMethod e.platform s.vm cellB.cls mk = .method mk := by rw [Launch.admits_selectMethod X.admits]; exact q4
  obtain ⟨vm₁, X₁, hstep₁⟩ := X.invokevirtual hexec hown hlink hnamed hmethM hstM hkP hkPi hy (a := b) (cell := cellB) hcell
    (fun z h => by rw [h] at hobj; cases hobj) hselP hmethM habM hkP hkPi (g := g) hg (argsL := argsL) (rest := rest) (hlen _ hsigM) hstack hdg
  rcases hK m meth c ⟨T.setVm vm₁, locs, cells, slots⟩ { g with stack := rest } (.invokevirtual index) mk (Value.ref b :: argsL).toArray X₁ hg hsize hdg hW (X₁.named hnamed) (hpre vm₁ X₁.warmed) with ⟨v, B, X', hpost, hsteps⟩ | ⟨q, B, X', hpost, hsteps⟩
  · exact Or.inl ⟨v, vm₁, B, X₁.warmed, X', hpost, fun target h => hstep₁ _ fun acts => by rw [doInvoke_state]; exact hsteps.trans h⟩
  · exact Or.inr ⟨q, vm₁, B, X₁.warmed, X', hpost, hstep₁ _ fun acts => by rw [doInvoke_state]; exact hsteps⟩
theorem vx_callSX (X : Stand p l e R s m args below meth c T locs cells slots) (hexec : p.tables.exec = Jvm.exec) {own : String} {index : Nat} {y : MethodName} {bytes : ByteArray} {maxL : Nat} {ret : Option FieldType} {hh : List (Nat × Nat × Nat × Nat)}
    (hown : s.vm.findClass own = some m.cls) (hlink : (Cond.methodLink own index y).before args s = true) (hstat : (Cond.static y).before args s = true) (hinit : (Cond.initialized y.cls).before args s = true)
    (hcode : (Cond.codeWith y bytes maxL ret hh).before args s = true) (hy : y.cls ≠ "java/lang/invoke/MethodHandle" ∧ y.cls ≠ "java/lang/invoke/VarHandle")
    {W9 : Nat} {Pre : Pt → Array Value → Prop} {Post : Pt → Array Value → Option Value → Pt → Prop} {PostX : Pt → Array Value → Addr → Pt → Prop} (hK : vx_Back l R p e below s args y 3 W9 Pre Post PostX)
    {g : JFrame} (hg : g.method = m) (hsize : g.locals.size = c.maxLocals) {argsL rest : List Value} (hlen : ∀ sig, parseMethodDescriptor y.desc = some sig → argsL.length = sig.parameters.length)
    (hstack : g.stack = argsL.reverse ++ rest) (hW : 2 * g.monitorRoom + (rest.map fun v => v.category).sum ≤ W9) (hdg : decode c.code g.pc = .ok (.invokestatic index, 3))
    (hpre : ∀ vm₁, s.WarmedH vm₁ → Pre ⟨T.setVm vm₁, locs, cells, slots⟩ argsL.toArray) :
    (∃ (v : Option Value) (vm₁ : Vm) (B : Pt), s.WarmedH vm₁ ∧ Stand p l e R s m args below meth c B.U B.locs B.cells B.slots ∧ Post ⟨T.setVm vm₁, locs, cells, slots⟩ argsL.toArray v B ∧
      ∀ target, Steps p.tables e below (B.U.setTop { g with pc := g.pc + 3, stack := v.toList ++ rest }) target → Steps p.tables e below (T.setTop g) target) ∨
    (∃ (q : Addr) (vm₁ : Vm) (B : Pt), s.WarmedH vm₁ ∧ Stand p l e R s m args below meth c B.U B.locs B.cells B.slots ∧ PostX ⟨T.setVm vm₁, locs, cells, slots⟩ argsL.toArray q B ∧
      Steps p.tables e below (T.setTop g) ((B.U.setTop { g with stack := rest }).pushFrame (.throwing q))) := by
  obtain ⟨mk, methM, cM, hnamed, hmethM, -, -, -, -, -, -, hsigM⟩ := Cond.codeWith_spec hcode
  have hstatic : methM.isStatic = true := Cond.static_spec hnamed hmethM hstat
  obtain ⟨kP, hkP, -⟩ := className_of_methodNamed hnamed
  have hinitP : kP.init = .initialized := Cond.initialized_spec (findClass_of_methodNamed hnamed) hkP hinit
  obtain ⟨vm₁, X₁, hstep₁⟩ := X.invokestatic hexec hown hlink hnamed hmethM hstatic hkP hinitP hy (g := g) hg (argsL := argsL) (rest := rest) (hlen _ hsigM) hstack hdg
  rcases hK m meth c ⟨T.setVm vm₁, locs, cells, slots⟩ { g with stack := rest } (.invokestatic index) mk argsL.toArray X₁ hg hsize hdg hW (X₁.named hnamed) (hpre vm₁ X₁.warmed) with ⟨v, B, X', hpost, hsteps⟩ | ⟨q, B, X', hpost, hsteps⟩
  · exact Or.inl ⟨v, vm₁, B, X₁.warmed, X', hpost, fun target h => hstep₁ _ fun acts => by rw [doInvoke_state]; exact hsteps.trans h⟩
  · exact Or.inr ⟨q, vm₁, B, X₁.warmed, X', hpost, hstep₁ _ fun acts => by rw [doInvoke_state]; exact hsteps⟩
theorem vx_callVW (X : Stand p l e R s m args below meth c T locs cells slots) (hexec : p.tables.exec = Jvm.exec) {own C : String} {index : Nat} {y : MethodName} {bytes : ByteArray} {maxL : Nat} {ret : Option FieldType} {hh : List (Nat × Nat × Nat × Nat)}
    (hown : s.vm.findClass own = some m.cls) (hlink : (Cond.methodLink own index y).before args s = true) (hinst : (Cond.instanceMethod y).before args s = true) (hsel : (Cond.selects C y y).before args s = true)
    (hcode : (Cond.codeWith y bytes maxL ret hh).before args s = true) (hy : y.cls ≠ "java/lang/invoke/MethodHandle" ∧ y.cls ≠ "java/lang/invoke/VarHandle")
    {W9 : Nat} {Pre : Pt → Array Value → Prop} {Post : Pt → Array Value → Option Value → Pt → Prop} (hK : Back l R p e below s args y 3 W9 Pre Post)
    {b : Addr} {cellB : Cell} (hcell : T.heap[b]? = some cellB) (hobj : cellB.vm.isStatics = false) (hcls : s.vm.findClass C = some cellB.cls)
    {g : JFrame} (hg : g.method = m) (hsize : g.locals.size = c.maxLocals) {argsL rest : List Value} (hlen : ∀ sig, parseMethodDescriptor y.desc = some sig → argsL.length = sig.parameters.length)
    (hstack : g.stack = argsL.reverse ++ .ref b :: rest) (hW : 2 * g.monitorRoom + (rest.map fun v => v.category).sum ≤ W9) (hdg : decode c.code g.pc = .ok (.invokevirtual index, 3))
    (hpre : ∀ vm₁, s.WarmedH vm₁ → Pre ⟨T.setVm vm₁, locs, cells, slots⟩ (Value.ref b :: argsL).toArray) :
    ∃ (v : Option Value) (vm₁ : Vm) (B : Pt), s.WarmedH vm₁ ∧ Stand p l e R s m args below meth c B.U B.locs B.cells B.slots ∧ Post ⟨T.setVm vm₁, locs, cells, slots⟩ (Value.ref b :: argsL).toArray v B ∧
      ∀ target, Steps p.tables e below (B.U.setTop { g with pc := g.pc + 3, stack := v.toList ++ rest }) target → Steps p.tables e below (T.setTop g) target := by
  obtain ⟨mk, methM, hnamed, hmethM, hstM, habM⟩ := Cond.instanceMethod_spec hinst
  obtain ⟨m8, methM', cM, hn8, hmethM', -, -, -, -, -, -, hsigM⟩ := Cond.codeWith_spec hcode
  cases Option.some.inj (hn8.symm.trans hnamed)
  cases hmethM.symm.trans hmethM'
  obtain ⟨c2, r2, m2, q1, q2, q3, q4, kP, hkP, hkPi⟩ := Cond.selects_spec hsel
  cases hcls.symm.trans q1
  cases (State.methodFound?_of_named hnamed hy).symm.trans q2
  cases hnamed.symm.trans q3
  have hselP : selectMethod e.platform s.vm cellB.cls mk = .method mk := by rw [Launch.admits_selectMethod X.admits]; exact q4
  obtain ⟨vm₁, X₁, hstep₁⟩ := X.invokevirtual hexec hown hlink hnamed hmethM hstM hkP hkPi hy (a := b) (cell := cellB) hcell
    (fun z h => by rw [h] at hobj; cases hobj) hselP hmethM habM hkP hkPi (g := g) hg (argsL := argsL) (rest := rest) (hlen _ hsigM) hstack hdg
  obtain ⟨v, B, X', hpost, hsteps⟩ := hK m meth c ⟨T.setVm vm₁, locs, cells, slots⟩ { g with stack := rest } (.invokevirtual index) mk (Value.ref b :: argsL).toArray X₁ hg hsize hdg hW (X₁.named hnamed) (hpre vm₁ X₁.warmed)
  exact ⟨v, vm₁, B, X₁.warmed, X', hpost, fun target h => hstep₁ _ fun acts => by rw [doInvoke_state]; exact hsteps.trans h⟩
abbrev vx_CVW (R : Room) (s : State) (args : Array Value) (own C : String) (index : Nat) (y : MethodName) (bytes : ByteArray) (maxL : Nat) (ret : Option FieldType) (hh : List (Nat × Nat × Nat × Nat)) (ws : List Cond) (rm : Room) (mc ms n : Nat) : Prop :=
  (rm.cells = mc ∧ rm.slots = ms ∧ rm.frames + 1 ≤ R.frames ∧ 8 + (maxL + 11) + rm.locals ≤ R.locals ∧ (∀ w ∈ ws, ∀ (a' : Array Value) (U : State), s.WarmedH U.vm → w.before a' U = true) ∧ Cond.codeWith y bytes maxL ret hh ∈ ws) ∧
  (Cond.codeWith y bytes maxL ret hh).before args s = true ∧ (Cond.initialized y.cls).before args s = true ∧ (y.cls ≠ "java/lang/invoke/MethodHandle" ∧ y.cls ≠ "java/lang/invoke/VarHandle") ∧
  (∀ sig, parseMethodDescriptor y.desc = some sig → n = sig.parameters.length) ∧ (Cond.methodLink own index y).before args s = true ∧ (Cond.instanceMethod y).before args s = true ∧ (Cond.selects C y y).before args s = true
theorem vx_cwVW {own C : String} {index maxL mc ms : Nat} {y : MethodName} {bytes : ByteArray} {ret : Option FieldType} {hh : List (Nat × Nat × Nat × Nat)} {Ts ws ws' : List Cond} {rm : Room} (n : Nat) (ht : ∀ w ∈ Ts, w.before args s = true) (hT : GoodIn Ts (wsV own index C y ws)) (hw : ws = Cond.codeWith y bytes maxL ret hh :: ws') (hrc : rm.cells = mc) (hrs : rm.slots = ms)
    (hd : y.cls = C ∧ y.cls ≠ "java/lang/invoke/MethodHandle" ∧ y.cls ≠ "java/lang/invoke/VarHandle" ∧ (parseMethodDescriptor y.desc).map (fun d => d.parameters.length) = some n) (hR : rm.frames + 1 ≤ R.frames ∧ 8 + (maxL + 11) + rm.locals ≤ R.locals) :
    vx_CVW R s args own C index y bytes maxL ret hh ws rm mc ms n := by
  obtain ⟨hC, hd⟩ := hd
  subst hC
  have ok : ∀ w ∈ wsV own index y.cls y ws, w.before args s = true := fun w h => ht w (hT w h).1
  have hG : GoodIn Ts ws := fun w h => hT w (by unfold wsV; exact List.mem_append_right _ h)
  have hc : Cond.codeWith y bytes maxL ret hh ∈ ws := by rw [hw]; exact List.mem_cons_self
  refine ⟨⟨hrc, hrs, hR.1, hR.2, pay_in ht hG, hc⟩, ht _ (hG _ hc).1, ok _ (by simp [wsV]), ⟨hd.1, hd.2.1⟩, fun sig h => ?_, ok _ (by simp [wsV]), ok _ (by simp [wsV]), ok _ (by simp [wsV])⟩
  have h2 := hd.2.2
  rw [h] at h2
  exact (Option.some.inj h2).symm
theorem vx_runVW {y : MethodName} {bytes cc : ByteArray} {maxL nL mc ms n index : Nat} {ret : Option FieldType} {hh : List (Nat × Nat × Nat × Nat)} {ws : List Cond} {rm : Room} {Pc : Array Value → State → Prop} {Qc : Array Value → State → Outcome → State → Prop} {free : Addr → Prop} {Ts : List Cond} {own C : String} {b : Addr} {As rest : List Value} {g : JFrame}
    (S : CallFix p m c cc nL s args Ts own) (hM : Met l y ws rm Pc Qc mc ms free) (cw : vx_CVW R s args own C index y bytes maxL ret hh ws rm mc ms n) (hp : PreV s H C b Pc As)
    (hg : g.method = m) (hn : As.length = n) (hsize : g.locals.size = nL) (hstack : g.stack = As.reverse ++ .ref b :: rest) (hW : 2 * g.monitorRoom + (rest.map fun v => v.category).sum ≤ 8) (hdg : decode cc g.pc = .ok (.invokevirtual index, 3)) (hf : cells + mc ≤ R.cells ∧ slots + ms ≤ R.slots) :
    va_Run p l e R s m args below meth c H locs cells slots mc ms g rest (Qc (Value.ref b :: As).toArray) free := by
  obtain ⟨⟨hrc, hrs, hfr, hlo, hws, hcw⟩, hcode, hini, hy, hlen, hl, hin, hse⟩ := cw
  have hK : Back l R p e below s args y 3 8 (PreOf R mc ms Pc) (PostOf Qc mc ms free) := va_backW (hh := hh) (bytes := bytes) (maxL := maxL) (ret := ret) hM hp.1 hrc hrs hfr hlo hws hcw (fun a' U hW => word_at hW (Or.inl (by first | rfl | simp [Cond.onTables, Cond.keeps, Cond.steady])) hini)
  obtain ⟨hx, hb, hml, ho, -⟩ := S
  obtain ⟨-, ⟨cellB, hcB, hoB, hclB⟩, hPc⟩ := hp
  intro T hT X
  obtain ⟨v, vm₁, ⟨U', l2, c2, s2⟩, hW₁, X', ⟨g', mk, t, L, e1, e2, hq, h1, hL, h2, h3⟩, st⟩ := vx_callVW X hx (C := C) (hh := hh) (bytes := bytes) (maxL := maxL) (ret := ret) ho hl hin hse hcode hy hK (by rw [hT]; exact hcB) hoB hclB hg (hsize.trans hml.symm) (argsL := As) (rest := rest) (fun sig h => hn.trans (hlen sig h)) hstack hW (by rw [hb]; exact hdg)
    (fun vm₁ hW₁ => ⟨hf.1, hf.2, hPc (T.setVm vm₁) hT hW₁⟩)
  dsimp only [Pt.U, Pt.locs, Pt.cells, Pt.slots] at X' e1 e2 h1 h2 h3 st
  subst h1; subst h2; subst h3
  exact ⟨v, (T.setVm vm₁).calling g' mk (Value.ref b :: As).toArray, t, U', L, hT, X', hL, e1, e2, hq, st⟩
section
variable {y : MethodName} {bytes cc : ByteArray} {maxL nL mc ms n index : Nat} {ret : Option FieldType} {ws : List Cond} {rm : Room} {Pc : Array Value → State → Prop} {Qc : Array Value → State → Outcome → State → Prop} {XC : String → State → State → Prop} {free : Addr → Prop} {Ts : List Cond} {own C : String} {b : Addr} {As rest : List Value} {g : JFrame}
theorem vx_runVX {hh : List (Nat × Nat × Nat × Nat)} (S : CallFix p m c cc nL s args Ts own) (hM : vx_Met l y ws rm Pc Qc XC mc ms free) (cw : vx_CVW R s args own C index y bytes maxL ret hh ws rm mc ms n) (hp : PreV s H C b Pc As)
    (hg : g.method = m) (hn : As.length = n) (hsize : g.locals.size = nL) (hstack : g.stack = As.reverse ++ .ref b :: rest) (hW : 2 * g.monitorRoom + (rest.map fun v => v.category).sum ≤ 8) (hdg : decode cc g.pc = .ok (.invokevirtual index, 3)) (hf : cells + mc ≤ R.cells ∧ slots + ms ≤ R.slots) :
    vx_Run p l e R s m args below meth c H locs cells slots mc ms g rest (Qc (Value.ref b :: As).toArray) XC free := by
  obtain ⟨⟨hrc, hrs, hfr, hlo, hws, hcw⟩, hcode, hini, hy, hlen, hl, hin, hse⟩ := cw
  have hK : vx_Back l R p e below s args y 3 8 (PreOf R mc ms Pc) (PostOf Qc mc ms free) (vx_Post XC mc ms free) := vx_backW (hh := hh) (bytes := bytes) (maxL := maxL) (ret := ret) hM hp.1 hrc hrs hfr hlo hws hcw (fun a' U hW => word_at hW (Or.inl (by first | rfl | simp [Cond.onTables, Cond.keeps, Cond.steady])) hini)
  obtain ⟨hx, hb, hml, ho, -⟩ := S
  obtain ⟨-, ⟨cellB, hcB, hoB, hclB⟩, hPc⟩ := hp
  intro T hT X
  rcases vx_callVX X hx (C := C) (hh := hh) (bytes := bytes) (maxL := maxL) (ret := ret) ho hl hin hse hcode hy hK (by rw [hT]; exact hcB) hoB hclB hg (hsize.trans hml.symm) (argsL := As) (rest := rest) (fun sig h => hn.trans (hlen sig h)) hstack hW (by rw [hb]; exact hdg)
    (fun vm₁ hW₁ => ⟨hf.1, hf.2, hPc (T.setVm vm₁) hT hW₁⟩) with ⟨v, vm₁, ⟨U', l2, c2, s2⟩, hW₁, X', ⟨g', mk, t, L, e1, e2, hq, h1, hL, h2, h3⟩, st⟩ | ⟨q, vm₁, ⟨U', l2, c2, s2⟩, hW₁, X', ⟨g', mk, t, L, E, ce, e1, e2, hq, hce, hcv, hcl, h1, hL, h2, h3⟩, st⟩
  · dsimp only [Pt.U, Pt.locs, Pt.cells, Pt.slots] at X' e1 e2 h1 h2 h3 st
    subst h1; subst h2; subst h3
    exact Or.inl ⟨v, (T.setVm vm₁).calling g' mk (Value.ref b :: As).toArray, t, U', L, hT, X', hL, e1, e2, hq, st⟩
  · dsimp only [Pt.U, Pt.locs, Pt.cells, Pt.slots] at X' e1 e2 h1 h2 h3 st hcl
    subst h1; subst h2; subst h3
    exact Or.inr ⟨q, (T.setVm vm₁).calling g' mk (Value.ref b :: As).toArray, t, U', L, E, ce, hT, X', hL, e1, e2, hq, hce, hcv, vx_cls hW₁ hcl, st⟩
theorem vx_runSX {hh : List (Nat × Nat × Nat × Nat)} (S : CallFix p m c cc nL s args Ts own) (hM : vx_Met l y ws rm Pc Qc XC mc ms free) (cw : vx_CSW R s args own index y bytes maxL ret hh ws rm mc ms n) (hp : PreS s H Pc As)
    (hg : g.method = m) (hn : As.length = n) (hsize : g.locals.size = nL) (hstack : g.stack = As.reverse ++ rest) (hW : 2 * g.monitorRoom + (rest.map fun v => v.category).sum ≤ 8) (hdg : decode cc g.pc = .ok (.invokestatic index, 3)) (hf : cells + mc ≤ R.cells ∧ slots + ms ≤ R.slots) :
    vx_Run p l e R s m args below meth c H locs cells slots mc ms g rest (Qc As.toArray) XC free := by
  obtain ⟨⟨hrc, hrs, hfr, hlo, hws, hcw⟩, hcode, hini, hy, hlen, hl, hstt⟩ := cw
  have hK : vx_Back l R p e below s args y 3 8 (PreOf R mc ms Pc) (PostOf Qc mc ms free) (vx_Post XC mc ms free) := vx_backW (hh := hh) (bytes := bytes) (maxL := maxL) (ret := ret) hM hp.1 hrc hrs hfr hlo hws hcw (fun a' U hW => word_at hW (Or.inl (by first | rfl | simp [Cond.onTables, Cond.keeps, Cond.steady])) hini)
  obtain ⟨hx, hb, hml, ho, -⟩ := S
  intro T hT X
  rcases vx_callSX X hx (hh := hh) (bytes := bytes) (maxL := maxL) (ret := ret) ho hl hstt hini hcode hy hK hg (hsize.trans hml.symm) (argsL := As) (rest := rest) (fun sig h => hn.trans (hlen sig h)) hstack hW (by rw [hb]; exact hdg)
    (fun vm₁ hW₁ => ⟨hf.1, hf.2, hp.2 (T.setVm vm₁) hT hW₁⟩) with ⟨v, vm₁, ⟨U', l2, c2, s2⟩, hW₁, X', ⟨g', mk, t, L, e1, e2, hq, h1, hL, h2, h3⟩, st⟩ | ⟨q, vm₁, ⟨U', l2, c2, s2⟩, hW₁, X', ⟨g', mk, t, L, E, ce, e1, e2, hq, hce, hcv, hcl, h1, hL, h2, h3⟩, st⟩
  · dsimp only [Pt.U, Pt.locs, Pt.cells, Pt.slots] at X' e1 e2 h1 h2 h3 st
    subst h1; subst h2; subst h3
    exact Or.inl ⟨v, (T.setVm vm₁).calling g' mk As.toArray, t, U', L, hT, X', hL, e1, e2, hq, st⟩
  · dsimp only [Pt.U, Pt.locs, Pt.cells, Pt.slots] at X' e1 e2 h1 h2 h3 st hcl
    subst h1; subst h2; subst h3
    exact Or.inr ⟨q, (T.setVm vm₁).calling g' mk As.toArray, t, U', L, E, ce, hT, X', hL, e1, e2, hq, hce, hcv, vx_cls hW₁ hcl, st⟩
end
end VXH
theorem vx_ofWH {l : Launch} {y : MethodName} {ws ws' : List Cond} {rm : Room} {Pc : Array Value → State → Prop} {Qc : Array Value → State → Outcome → State → Prop} {XC : String → State → State → Prop} {mc ms : Nat} {free : Addr → Prop} {cc : ByteArray} {maxL : Nat} {ret : Option FieldType} {hh : List (Nat × Nat × Nat × Nat)}
    (hy : plainName y.cls = true) (hw : ws = Cond.codeWith y cc maxL ret hh :: ws')
    (body : ∀ p e s m args below meth c s₁, BodyLoose p l y (headSpec ws rm) cc maxL ret e s m args below meth c s₁ → c.maxLocals = maxL → Pc args s →
      W p l e (headSpec ws rm).room s m args below meth c s.heap [] 0 0 (vx_MQ below Qc XC args s mc ms free) (entryFrame m args maxL)) : vx_Met l y ws rm Pc Qc XC mc ms free := by
  refine MetFree.of_bodyS (code := cc) (maxLocals := maxL) (ret := ret) hy ?_ ?_
  · intro args s m h hn
    obtain ⟨m9, meth, c, hn9, h1, h2, h3, h4, -, h5, h6, -⟩ := Cond.codeWith_spec (atoms_spec (ws := ws) h _ (by rw [hw]; exact List.mem_cons_self))
    cases hn.symm.trans hn9
    exact ⟨meth, c, h1, h2, h3, h4, h5, h6⟩
  · intro p e s m args below meth c s₁ B hml hP _
    have hh0 : s₁.heap = s.heap := by rw [B.state]; rfl
    obtain ⟨t, a1, o, b1, b2, b3⟩ := body p e s m args below meth c s₁ B hml hP s₁ hh0 (Stand.of_body B)
    exact ⟨t, o, a1, b1, b2, b3⟩
/-! ===== END ===== -/
end
section
/-! THE POOL WORLD: what lies where, as a function of addresses; a walk's state is one goal PG -/
abbrev GG : Type := Nat → Option va_E
def g_up (G : GG) (a : Nat) (e : va_E) : GG := fun q => if q = a then some e else G q
theorem g_up_self (G : GG) (a : Nat) (e : va_E) : g_up G a e a = some e := by simp [g_up]
theorem g_up_ne {G : GG} {a q : Nat} {e : va_E} (h : q ≠ a) : g_up G a e q = G q := by simp [g_up, h]
theorem g_up_up (G : GG) (a : Nat) (e e' : va_E) : g_up (g_up G a e) a e' = g_up G a e' := by
  funext q; by_cases h : q = a <;> simp [g_up, h]
theorem g_up_id {G : GG} {a : Nat} {e : va_E} (h : G a = some e) : g_up G a e = G := by
  funext q; by_cases hq : q = a <;> simp [g_up, hq, h]
def g_A (G : GG) (sz : Nat) : Nat → Prop := fun q => (∃ e, G q = some e) ∨ sz ≤ q
/-- the array classes, by number -/
def g_tys (cy : Nat → ClassId) : List (ClassId × FieldType) := [(cy 0, .int), (cy 1, .object "CircusLines$Trapeze"), (cy 2, .object "CircusLines$Flyer"), (cy 3, .object "CircusLines$Cue"), (cy 4, .object "CircusLines$Net"), (cy 5, .array .int)]
def g_KA (U : State) : Prop := va_Nw (.arrayOver (.object "CircusLines$Trapeze")) U ∧ va_Nw (.arrayOver (.object "CircusLines$Flyer")) U ∧ va_Nw (.arrayOver (.object "CircusLines$Cue")) U ∧ va_Nw (.arrayOver (.object "CircusLines$Net")) U ∧ va_Nw (.arrayOver (.array .int)) U ∧ True
theorem g_aom {ty : FieldType} {u U : State} (h : u.vm.Alike U.vm) (hZ : va_Nw (.arrayOver ty) u) : va_Nw (.arrayOver ty) U := by
  have h1 : (Cond.arrayOver ty).before #[] (u.setVm U.vm) = true := by rw [Cond.arrayOver_setVmC h]; exact hZ
  unfold va_Nw
  unfold Cond.before Cond.holds at h1 ⊢
  simp only [Cond.value] at h1 ⊢
  exact h1
theorem g_cam {A B : String} {u U : State} (h : u.vm.Alike U.vm) (hZ : va_Nw (.castable A B) u) : va_Nw (.castable A B) U := va_tabs rfl (rfl : (u.setVm U.vm).vm = U.vm) (by rw [Cond.castable_setVm h]; exact hZ)
theorem g_KA.moved {u U : State} (h : u.vm.Alike U.vm) (k : g_KA u) : g_KA U := ⟨g_aom h k.1, g_aom h k.2.1, g_aom h k.2.2.1, g_aom h k.2.2.2.1, g_aom h k.2.2.2.2.1, trivial⟩
def g_K (D : va_G) (cy : Nat → ClassId) (U : State) : Prop := va_K D vwCl (g_tys cy) U ∧ g_KA U
theorem g_K.moved {D : va_G} {cy : Nat → ClassId} {u U : State} (hvm : u.vm.Alike U.vm) (h : g_K D cy u) : g_K D cy U := ⟨va_K.moved hvm h.1, g_KA.moved hvm h.2⟩
abbrev Kx : Type := Program × Launch × Env × Room × State × MethodId × Array Value × List Frame × Method × Code × va_G × (Nat → ClassId) × (Nat → Prop) × Heap × (State → Prop)
abbrev LV : Type := List (Nat × Value)
def g_wd (D : va_G) (A : Nat → Prop) (H0 : Heap) (G : GG) (H : Heap) (locs : List Loc) : Prop := (∀ a e, G a = some e → va_at D vwCl (a, e) H ∧ A a) ∧ va_S A H0 H locs
def PG (κ : Kx) (nL ce sl : Nat) (G : GG) (lv : LV) (pc : Nat) (st : List Value) : Prop :=
  match κ with
  | (p, l, e, R, s, m, args, below, meth, c, D, _, A, H0, Q) => ∀ (H : Heap) (locs : List Loc) (ls : Array Slot), g_wd D A H0 G H locs → lv_has ls nL lv → W p l e R s m args below meth c H locs ce sl Q (F0 m pc ls st)
def g_OK (κ : Kx) (l0 : Launch) (D0 : va_G) (cy0 : Nat → ClassId) (y : MethodName) (nL : Nat) (cc : ByteArray) (rm : Room) (ret : Option FieldType) : Prop :=
  match κ with
  | (p, l, _, R, s, m, args, _, meth, c, D, cy, A, H0, _) => (l = l0 ∧ D = D0 ∧ cy = cy0) ∧ p.tables.exec = Jvm.exec ∧ c.code = cc ∧ c.maxLocals = nL ∧ s.vm.findClass y.cls = some m.cls ∧ (∀ w ∈ lw_T, w.before args s = true) ∧ g_K D cy s ∧ (∀ q, H0.size ≤ q → A q) ∧ R = rm ∧ meth.sig.returnType = ret ∧ meth.locks = false ∧ meth.name = y.name
/-! contracts -/
def g_Pc (D : va_G) (cy : Nat → ClassId) (G : GG) (sz : Nat) (av : List Value) : Array Value → State → Prop := va_Pc av (fun U => U.heap.size = sz ∧ (∀ a e, G a = some e → va_at D vwCl (a, e) U.heap) ∧ g_K D cy U)
def g_Qc (D : va_G) (A : Nat → Prop) (post : Option Value → GG → Prop) : Array Value → State → Outcome → State → Prop := fun _ st oc t => (∃ r G', oc = .returned r ∧ post r G' ∧ ∀ a e, G' a = some e → va_at D vwCl (a, e) t.heap ∧ A a) ∧ va_F A st t
def Ctr (l : Launch) (D : va_G) (cy : Nat → ClassId) (y : MethodName) (b : ByteArray) (n : Nat) (ret : Option FieldType) (rm : Room) (av : List Value) (G : GG) (post : Option Value → GG → Prop) : Prop :=
  ∀ sz, Met l y (wsU y b n ret) rm (g_Pc D cy G sz av) (g_Qc D (g_A G sz) post) rm.cells rm.slots (g_A G sz)
def g_RT (κ : Kx) (post : Option Value → GG → Prop) (rm : Room) : Prop :=
  match κ with
  | (_, _, _, _, s, _, args, below, _, _, D, _, A, _, Q) => Q = MQ below (g_Qc D A post) args s rm.cells rm.slots A ∧ κ.2.2.2.2.2.2.2.2.2.2.2.2.2.1 = s.heap
theorem g_blind (D : va_G) (cy : Nat → ClassId) (G : GG) (sz : Nat) (av : List Value) : FrameBlind (g_Pc D cy G sz av) := by
  intro a U g mk h
  obtain ⟨h0, h1, h2, h3⟩ := h
  exact ⟨h0, h1, h2, g_K.moved (u := U) (U := U.calling g mk a) (Vm.Alike.refl U.vm) h3⟩
theorem Ctr.mk {l : Launch} {D : va_G} {cy : Nat → ClassId} {y : MethodName} {b : ByteArray} {n : Nat} {ret : Option FieldType} {rm : Room} {av : List Value} {G : GG} {post : Option Value → GG → Prop}
    (hy : plainName y.cls = true) (hn : (lg_sl av).length ≤ n)
    (body : ∀ κ : Kx, g_OK κ l D cy y n b rm ret → g_RT κ post rm → PG κ n 0 0 G (lv_args 0 av) 0 []) : Ctr l D cy y b n ret rm av G post := by
  intro sz
  refine Met.ofW (cc := b) (maxL := n) (ret := ret) hy rfl ?_
  intro p e s m args below meth c s₁ B hml hv
  obtain ⟨rfl, hsz, hP, hK⟩ := hv
  have hts := atoms_spec (ws := wsU y b n ret) B.pre
  subst hsz
  have hb := body (p, l, e, rm, s, m, av.toArray, below, meth, c, D, cy, g_A G s.heap.size, s.heap, MQ below (g_Qc D (g_A G s.heap.size) post) av.toArray s rm.cells rm.slots (g_A G s.heap.size))
    ⟨⟨rfl, rfl, rfl⟩, B.exec, B.bytes, hml, findClass_of_methodNamed B.named, fun w hw => hts w (List.mem_cons_of_mem _ hw), hK, fun q h => Or.inr h, rfl, B.returns, B.notSynchronized, (name_of_methodNamed B.named B.method).1⟩ ⟨rfl, rfl⟩
  have hl := lv_entry av hn
  rw [lg_entry_eq]
  exact hb s.heap [] _ ⟨fun a e h => ⟨hP a e h, Or.inl ⟨e, h⟩⟩, va_S.rf⟩ hl
/-! straight runs: what simple instructions do to locals and stack, by a function -/
def g_get : LV → Nat → Option Value
  | [], _ => none
  | q :: r, i => if q.1 = i then some q.2 else g_get r i
theorem g_get_in {lv : LV} {i : Nat} {v : Value} (h : g_get lv i = some v) : (i, v) ∈ lv := by
  induction lv with
  | nil => cases h
  | cons q r ih =>
    obtain ⟨a, b⟩ := q
    simp only [g_get] at h
    split at h
    · rename_i h1
      cases h
      subst h1
      exact List.mem_cons_self
    · exact List.mem_cons_of_mem _ (ih h)
def g_set1 (lv : LV) (i : Nat) (v : Value) : LV := (i, v) :: lv.filter (fun q => !(q.1 == i) && !(q.1 + 1 == i && q.2.category == 2))
def g_set2 (lv : LV) (i : Nat) (v : Value) : LV := (i, v) :: lv.filter (fun q => !(q.1 == i) && (!(q.1 == i + 1) && !(q.1 + 1 == i && q.2.category == 2)))
def g_lit : Int → Option Int32
  | -1 => some (-1)
  | 0 => some 0
  | 1 => some 1
  | 2 => some 2
  | 3 => some 3
  | 4 => some 4
  | 5 => some 5
  | _ => none
def g_lit8 : Int → Option Int32
  | -50 => some (-50)
  | -2 => some (-2)
  | -20 => some (-20)
  | 6 => some 6
  | 7 => some 7
  | 8 => some 8
  | 9 => some 9
  | 10 => some 10
  | 11 => some 11
  | 12 => some 12
  | 15 => some 15
  | 16 => some 16
  | 20 => some 20
  | 30 => some 30
  | 31 => some 31
  | 40 => some 40
  | 41 => some 41
  | 42 => some 42
  | 50 => some 50
  | 60 => some 60
  | 99 => some 99
  | 100 => some 100
  | _ => none
def g_lit16 : Int → Option Int32
  | 150 => some 150
  | 157 => some 157
  | 200 => some 200
  | 500 => some 500
  | 512 => some 512
  | 9999 => some 9999
  | _ => none
theorem g_lit_ok {n : Int} {v : Int32} (h : g_lit n = some v) : Int32.ofInt n = v := by
  unfold g_lit at h; split at h <;> first | (cases h; decide) | cases h
theorem g_lit8_ok {n : Int} {v : Int32} (h : g_lit8 n = some v) : (Int8.ofInt n).toInt32 = v := by
  unfold g_lit8 at h; split at h <;> first | (cases h; decide) | cases h
theorem g_lit16_ok {n : Int} {v : Int32} (h : g_lit16 n = some v) : (Int16.ofInt n).toInt32 = v := by
  unfold g_lit16 at h; split at h <;> first | (cases h; decide) | cases h
/-- one simple instruction: the next place, the locals, the stack -/
def g_xs (nL : Nat) (i : Instr) (len pc : Nat) (lv : LV) (st : List Value) : Option (Nat × LV × List Value) :=
  match i, len, st with
  | .iconst n, 1, st => (g_lit n).map fun v => (pc + 1, lv, .int v :: st)
  | .bipush n, 2, st => (g_lit8 n).map fun v => (pc + 2, lv, .int v :: st)
  | .sipush n, 3, st => (g_lit16 n).map fun v => (pc + 3, lv, .int v :: st)
  | .iload_n k, 1, st => match g_get lv k with | some (.int x) => some (pc + 1, lv, .int x :: st) | _ => none
  | .iload k, 2, st => match g_get lv k with | some (.int x) => some (pc + 2, lv, .int x :: st) | _ => none
  | .lload_n k, 1, st => match g_get lv k with | some (.long x) => some (pc + 1, lv, .long x :: st) | _ => none
  | .lload k, 2, st => match g_get lv k with | some (.long x) => some (pc + 2, lv, .long x :: st) | _ => none
  | .dload k, 2, st => match g_get lv k with | some (.double x) => some (pc + 2, lv, .double x :: st) | _ => none
  | .aload_n k, 1, st => match g_get lv k with | some (.ref x) => some (pc + 1, lv, .ref x :: st) | some .null => some (pc + 1, lv, .null :: st) | _ => none
  | .aload k, 2, st => match g_get lv k with | some (.ref x) => some (pc + 2, lv, .ref x :: st) | some .null => some (pc + 2, lv, .null :: st) | _ => none
  | .istore_n k, 1, .int x :: st => if (k : Nat) < nL then some (pc + 1, g_set1 lv k (.int x), st) else none
  | .istore k, 2, .int x :: st => if k < nL then some (pc + 2, g_set1 lv k (.int x), st) else none
  | .astore_n k, 1, .ref x :: st => if (k : Nat) < nL then some (pc + 1, g_set1 lv k (.ref x), st) else none
  | .astore k, 2, .ref x :: st => if k < nL then some (pc + 2, g_set1 lv k (.ref x), st) else none
  | .astore_n k, 1, .null :: st => if (k : Nat) < nL then some (pc + 1, g_set1 lv k .null, st) else none
  | .astore k, 2, .null :: st => if k < nL then some (pc + 2, g_set1 lv k .null, st) else none
  | .lstore_n k, 1, .long x :: st => if (k : Nat) + 1 < nL then some (pc + 1, g_set2 lv k (.long x), st) else none
  | .lstore k, 2, .long x :: st => if k + 1 < nL then some (pc + 2, g_set2 lv k (.long x), st) else none
  | .dstore k, 2, .double x :: st => if k + 1 < nL then some (pc + 2, g_set2 lv k (.double x), st) else none
  | .iinc k n, 3, st => match g_get lv k, g_lit n with | some (.int x), some v => if k < nL then some (pc + 3, g_set1 lv k (.int (x + v)), st) else none | _, _ => none
  | .iadd, 1, .int y :: .int x :: st => some (pc + 1, lv, .int (x + y) :: st)
  | .isub, 1, .int y :: .int x :: st => some (pc + 1, lv, .int (x - y) :: st)
  | .imul, 1, .int y :: .int x :: st => some (pc + 1, lv, .int (x * y) :: st)
  | .iand, 1, .int y :: .int x :: st => some (pc + 1, lv, .int (x &&& y) :: st)
  | .ladd, 1, .long y :: .long x :: st => some (pc + 1, lv, .long (x + y) :: st)
  | .lmul, 1, .long y :: .long x :: st => some (pc + 1, lv, .long (x * y) :: st)
  | .lcmp, 1, .long y :: .long x :: st => some (pc + 1, lv, .int (lg_cmp x y) :: st)
  | .i2l, 1, .int x :: st => some (pc + 1, lv, .long x.toInt64 :: st)
  | .i2d, 1, .int x :: st => some (pc + 1, lv, .double (FP.i2d x) :: st)
  | .dcmp op, 1, .double y :: .double x :: st => some (pc + 1, lv, .int (Op.cmpValue (FP.dcmp x y) op) :: st)
  | .dconst 0, 1, st => some (pc + 1, lv, .double FP.dconst0 :: st)
  | .aconst_null, 1, st => some (pc + 1, lv, .null :: st)
  | .ishr, 1, .int y :: .int x :: st => some (pc + 1, lv, .int (x >>> (y &&& 31)) :: st)
  | .dup, 1, .ref x :: st => some (pc + 1, lv, .ref x :: .ref x :: st)
  | .dup, 1, .int x :: st => some (pc + 1, lv, .int x :: .int x :: st)
  | .pop, 1, .int _ :: st => some (pc + 1, lv, st)
  | .dup2, 1, .int y :: .ref x :: st => some (pc + 1, lv, .int y :: .ref x :: .int y :: .ref x :: st)
  | .goto off, 3, st => if 0 ≤ (pc : Int) + off then some (((pc : Int) + off).toNat, lv, st) else none
  | _, _, _ => none

section PGR
variable {κ : Kx} {l0 : Launch} {D0 : va_G} {cy0 : Nat → ClassId} {y : MethodName} {nL ce sl : Nat} {cc : ByteArray} {rm : Room} {ret : Option FieldType} {G : GG} {lv lv' : LV} {pc pc' : Nat} {st st' rest : List Value}
set_option maxHeartbeats 4000000 in
theorem g_xs_ok {i : Instr} {len : Nat} (C : g_OK κ l0 D0 cy0 y nL cc rm ret) (hd : decode cc pc = .ok (i, len)) (hx : g_xs nL i len pc lv st = some (pc', lv', st')) (k : PG κ nL ce sl G lv' pc' st') : PG κ nL ce sl G lv pc st := by
  obtain ⟨p, l, e, R, s, m, args, below, meth, c, D, cy, A, H0, Q⟩ := κ
  obtain ⟨-, h0, hb, hml, -⟩ := C
  intro H locs ls hw hl
  unfold g_xs at hx
  split at hx
  · obtain ⟨v, hv, e9⟩ := Option.map_eq_some_iff.mp hx; cases e9; exact lv_iconst h0 hb hd (g_lit_ok hv) (k H locs ls hw hl)
  · obtain ⟨v, hv, e9⟩ := Option.map_eq_some_iff.mp hx; cases e9; exact lv_bipush h0 hb hd (g_lit8_ok hv) (k H locs ls hw hl)
  · obtain ⟨v, hv, e9⟩ := Option.map_eq_some_iff.mp hx; cases e9; exact lv_sipush h0 hb hd (g_lit16_ok hv) (k H locs ls hw hl)
  · split at hx <;> first | (cases hx; done) | (rename_i hg; cases hx; exact lv_iload_n h0 hb hd rfl (hl.2.2 _ (g_get_in hg)) (k H locs ls hw hl))
  · split at hx <;> first | (cases hx; done) | (rename_i hg; cases hx; exact lv_iload h0 hb hd (hl.2.2 _ (g_get_in hg)) (k H locs ls hw hl))
  · split at hx <;> first | (cases hx; done) | (rename_i hg; cases hx; exact lv_lload_n h0 hb hd rfl (hl.2.2 _ (g_get_in hg)) (k H locs ls hw hl))
  · split at hx <;> first | (cases hx; done) | (rename_i hg; cases hx; exact lv_lload h0 hb hd (hl.2.2 _ (g_get_in hg)) (k H locs ls hw hl))
  · split at hx <;> first | (cases hx; done) | (rename_i hg; cases hx; exact lv_dload h0 hb hd (hl.2.2 _ (g_get_in hg)) (k H locs ls hw hl))
  · split at hx <;> first | (cases hx; done) | (rename_i hg; cases hx; exact lv_aload_n h0 hb hd rfl (hl.2.2 _ (g_get_in hg)) (k H locs ls hw hl)) | (rename_i hg; cases hx; exact lv_aload_nN h0 hb hd rfl (hl.2.2 _ (g_get_in hg)) (k H locs ls hw hl))
  · split at hx <;> first | (cases hx; done) | (rename_i hg; cases hx; exact lv_aload h0 hb hd (hl.2.2 _ (g_get_in hg)) (k H locs ls hw hl)) | (rename_i hg; cases hx; exact lv_aloadN h0 hb hd (hl.2.2 _ (g_get_in hg)) (k H locs ls hw hl))
  · split at hx <;> first | (cases hx; done) | (rename_i hg; cases hx; exact lv_istore_n h0 hb hd rfl hl hg rfl (fun ls' hl' => k H locs ls' hw hl'))
  · split at hx <;> first | (cases hx; done) | (rename_i hg; cases hx; exact lv_istore h0 hb hd hl hg rfl (fun ls' hl' => k H locs ls' hw hl'))
  · split at hx <;> first | (cases hx; done) | (rename_i hg; cases hx; exact lv_astore_n h0 hb hd rfl hl hg rfl (fun ls' hl' => k H locs ls' hw hl'))
  · split at hx <;> first | (cases hx; done) | (rename_i hg; cases hx; exact lv_astore h0 hb hd hl hg rfl (fun ls' hl' => k H locs ls' hw hl'))
  · split at hx <;> first | (cases hx; done) | (rename_i hg; cases hx; exact lv_astore_nN h0 hb hd rfl hl hg rfl (fun ls' hl' => k H locs ls' hw hl'))
  · split at hx <;> first | (cases hx; done) | (rename_i hg; cases hx; exact lv_astoreN h0 hb hd hl hg rfl (fun ls' hl' => k H locs ls' hw hl'))
  · split at hx <;> first | (cases hx; done) | (rename_i hg; cases hx; exact lv_lstore_n h0 hb hd rfl hl hg rfl (fun ls' hl' => k H locs ls' hw hl'))
  · split at hx <;> first | (cases hx; done) | (rename_i hg; cases hx; exact lv_lstore h0 hb hd hl hg rfl (fun ls' hl' => k H locs ls' hw hl'))
  · split at hx <;> first | (cases hx; done) | (rename_i hg; cases hx; exact lv_dstore h0 hb hd hl hg rfl (fun ls' hl' => k H locs ls' hw hl'))
  · split at hx
    · rename_i hg hv
      split at hx
      · rename_i hn
        cases hx
        obtain ⟨j, hj⟩ := List.getElem?_of_mem (g_get_in hg)
        exact lv_iinc h0 hb hd hl hj (by rw [g_lit_ok hv]) hn rfl (fun ls' hl' => k H locs ls' hw hl')
      · cases hx
    · cases hx
  · cases hx; exact lv_iadd h0 hb hd (k H locs ls hw hl)
  · cases hx; exact lv_isub h0 hb hd (k H locs ls hw hl)
  · cases hx; exact lv_imul h0 hb hd (k H locs ls hw hl)
  · cases hx; exact lv_iand h0 hb hd (k H locs ls hw hl)
  · cases hx; exact lv_ladd h0 hb hd (k H locs ls hw hl)
  · cases hx; exact lv_lmul h0 hb hd (k H locs ls hw hl)
  · cases hx; exact W.lcmp h0 hb hd (k H locs ls hw hl)
  · cases hx; exact lv_i2l h0 hb hd rfl (k H locs ls hw hl)
  · cases hx; exact lv_i2d h0 hb hd (k H locs ls hw hl)
  · cases hx; exact lv_dcmp h0 hb hd (k H locs ls hw hl)
  · cases hx; exact lv_dconst0 h0 hb hd (k H locs ls hw hl)
  · cases hx; exact lv_null h0 hb hd (k H locs ls hw hl)
  · cases hx; exact lv_ishr h0 hb hd (k H locs ls hw hl)
  · cases hx; exact lv_dup h0 hb hd rfl (k H locs ls hw hl)
  · cases hx; exact lv_dup h0 hb hd rfl (k H locs ls hw hl)
  · cases hx; exact lv_pop h0 hb hd rfl (k H locs ls hw hl)
  · cases hx; exact lv_dup2_11 h0 hb hd rfl rfl (k H locs ls hw hl)
  · split at hx
    · rename_i hg
      cases hx
      exact lv_goto h0 hb hd (by omega) (k H locs ls hw hl)
    · cases hx
  · cases hx
/-- a straight run of simple instructions, listed with their places and lengths -/
def g_run (nL : Nat) : List (Nat × Instr × Nat) → Nat → LV → List Value → Option (Nat × LV × List Value)
  | [], pc, lv, st => some (pc, lv, st)
  | q :: r, pc, lv, st => if q.1 = pc then (match g_xs nL q.2.1 q.2.2 pc lv st with | some z => g_run nL r z.1 z.2.1 z.2.2 | none => none) else none
theorem g_seg (is : List (Nat × Instr × Nat)) (pc' : Nat) (lv' : LV) (st' : List Value) (C : g_OK κ l0 D0 cy0 y nL cc rm ret) (hd : is.all (fun q => decide (decode cc q.1 = .ok (q.2.1, q.2.2))) = true) (hx : g_run nL is pc lv st = some (pc', lv', st')) (k : PG κ nL ce sl G lv' pc' st') : PG κ nL ce sl G lv pc st := by
  induction is generalizing pc lv st with
  | nil => cases hx; exact k
  | cons q r ih =>
    simp only [List.all_cons, Bool.and_eq_true, decide_eq_true_eq] at hd
    simp only [g_run] at hx
    split at hx
    · rename_i hq
      split at hx
      · rename_i z hz
        rw [hq] at hd
        obtain ⟨pc1, lv1, st1⟩ := z
        exact g_xs_ok C hd.1 hz (ih hd.2 hx)
      · cases hx
    · cases hx
/-- fewer listed locals, in another order -/
theorem g_sub (lv' : LV) (h : ∀ q ∈ lv', q ∈ lv) (k : PG κ nL ce sl G lv' pc st) : PG κ nL ce sl G lv pc st := by
  obtain ⟨p, l, e, R, s, m, args, below, meth, c, D, cy, A, H0, Q⟩ := κ
  exact fun H locs ls hw hl => k H locs ls hw ⟨hl.1, hl.2.1, fun q hq => hl.2.2 q (h q hq)⟩
theorem g_widen {k n : Nat} (h1 : ce ≤ k) (h2 : sl ≤ n) (kk : PG κ nL k n G lv pc st) : PG κ nL ce sl G lv pc st := by
  obtain ⟨p, l, e, R, s, m, args, below, meth, c, D, cy, A, H0, Q⟩ := κ
  exact fun H locs ls hw hl => W.widen h1 h2 (kk H locs ls hw hl)
theorem g_pc (h : pc = pc') (k : PG κ nL ce sl G lv pc' st) : PG κ nL ce sl G lv pc st := h ▸ k
theorem g_if_eq {x : Int32} {off : Int} (tgt : Nat) (C : g_OK κ l0 D0 cy0 y nL cc rm ret) (hd : decode cc pc = .ok (.ifCond .eq off, 3)) (ht : (pc : Int) + off = (tgt : Int)) (kt : x = 0 → PG κ nL ce sl G lv tgt rest) (kf : ¬ x = 0 → PG κ nL ce sl G lv (pc + 3) rest) : PG κ nL ce sl G lv pc (.int x :: rest) := by
  obtain ⟨p, l, e, R, s, m, args, below, meth, c, D, cy, A, H0, Q⟩ := κ
  obtain ⟨-, h0, hb, hml, -⟩ := C
  exact fun H locs ls hw hl => lv_if_eq h0 hb hd ht (fun h => kt h H locs ls hw hl) (fun h => kf h H locs ls hw hl)
theorem g_icmp_eq {x y1 : Int32} {off : Int} (tgt : Nat) (C : g_OK κ l0 D0 cy0 y nL cc rm ret) (hd : decode cc pc = .ok (.if_icmp .eq off, 3)) (ht : (pc : Int) + off = (tgt : Int)) (kt : x = y1 → PG κ nL ce sl G lv tgt rest) (kf : ¬ x = y1 → PG κ nL ce sl G lv (pc + 3) rest) : PG κ nL ce sl G lv pc (.int y1 :: .int x :: rest) := by
  obtain ⟨p, l, e, R, s, m, args, below, meth, c, D, cy, A, H0, Q⟩ := κ
  obtain ⟨-, h0, hb, hml, -⟩ := C
  exact fun H locs ls hw hl => lv_icmp_eq h0 hb hd ht (fun h => kt h H locs ls hw hl) (fun h => kf h H locs ls hw hl)
theorem g_if_ne {x : Int32} {off : Int} (tgt : Nat) (C : g_OK κ l0 D0 cy0 y nL cc rm ret) (hd : decode cc pc = .ok (.ifCond .ne off, 3)) (ht : (pc : Int) + off = (tgt : Int)) (kt : ¬ x = 0 → PG κ nL ce sl G lv tgt rest) (kf : x = 0 → PG κ nL ce sl G lv (pc + 3) rest) : PG κ nL ce sl G lv pc (.int x :: rest) := by
  obtain ⟨p, l, e, R, s, m, args, below, meth, c, D, cy, A, H0, Q⟩ := κ
  obtain ⟨-, h0, hb, hml, -⟩ := C
  exact fun H locs ls hw hl => lv_if_ne h0 hb hd ht (fun h => kt h H locs ls hw hl) (fun h => kf h H locs ls hw hl)
theorem g_icmp_ne {x y1 : Int32} {off : Int} (tgt : Nat) (C : g_OK κ l0 D0 cy0 y nL cc rm ret) (hd : decode cc pc = .ok (.if_icmp .ne off, 3)) (ht : (pc : Int) + off = (tgt : Int)) (kt : ¬ x = y1 → PG κ nL ce sl G lv tgt rest) (kf : x = y1 → PG κ nL ce sl G lv (pc + 3) rest) : PG κ nL ce sl G lv pc (.int y1 :: .int x :: rest) := by
  obtain ⟨p, l, e, R, s, m, args, below, meth, c, D, cy, A, H0, Q⟩ := κ
  obtain ⟨-, h0, hb, hml, -⟩ := C
  exact fun H locs ls hw hl => lv_icmp_ne h0 hb hd ht (fun h => kt h H locs ls hw hl) (fun h => kf h H locs ls hw hl)
theorem g_if_lt {x : Int32} {off : Int} (tgt : Nat) (C : g_OK κ l0 D0 cy0 y nL cc rm ret) (hd : decode cc pc = .ok (.ifCond .lt off, 3)) (ht : (pc : Int) + off = (tgt : Int)) (kt : x < 0 → PG κ nL ce sl G lv tgt rest) (kf : ¬ x < 0 → PG κ nL ce sl G lv (pc + 3) rest) : PG κ nL ce sl G lv pc (.int x :: rest) := by
  obtain ⟨p, l, e, R, s, m, args, below, meth, c, D, cy, A, H0, Q⟩ := κ
  obtain ⟨-, h0, hb, hml, -⟩ := C
  exact fun H locs ls hw hl => lv_if_lt h0 hb hd ht (fun h => kt h H locs ls hw hl) (fun h => kf h H locs ls hw hl)
theorem g_icmp_lt {x y1 : Int32} {off : Int} (tgt : Nat) (C : g_OK κ l0 D0 cy0 y nL cc rm ret) (hd : decode cc pc = .ok (.if_icmp .lt off, 3)) (ht : (pc : Int) + off = (tgt : Int)) (kt : x < y1 → PG κ nL ce sl G lv tgt rest) (kf : ¬ x < y1 → PG κ nL ce sl G lv (pc + 3) rest) : PG κ nL ce sl G lv pc (.int y1 :: .int x :: rest) := by
  obtain ⟨p, l, e, R, s, m, args, below, meth, c, D, cy, A, H0, Q⟩ := κ
  obtain ⟨-, h0, hb, hml, -⟩ := C
  exact fun H locs ls hw hl => lv_icmp_lt h0 hb hd ht (fun h => kt h H locs ls hw hl) (fun h => kf h H locs ls hw hl)
theorem g_if_ge {x : Int32} {off : Int} (tgt : Nat) (C : g_OK κ l0 D0 cy0 y nL cc rm ret) (hd : decode cc pc = .ok (.ifCond .ge off, 3)) (ht : (pc : Int) + off = (tgt : Int)) (kt : 0 ≤ x → PG κ nL ce sl G lv tgt rest) (kf : ¬ 0 ≤ x → PG κ nL ce sl G lv (pc + 3) rest) : PG κ nL ce sl G lv pc (.int x :: rest) := by
  obtain ⟨p, l, e, R, s, m, args, below, meth, c, D, cy, A, H0, Q⟩ := κ
  obtain ⟨-, h0, hb, hml, -⟩ := C
  exact fun H locs ls hw hl => lv_if_ge h0 hb hd ht (fun h => kt h H locs ls hw hl) (fun h => kf h H locs ls hw hl)
theorem g_icmp_ge {x y1 : Int32} {off : Int} (tgt : Nat) (C : g_OK κ l0 D0 cy0 y nL cc rm ret) (hd : decode cc pc = .ok (.if_icmp .ge off, 3)) (ht : (pc : Int) + off = (tgt : Int)) (kt : y1 ≤ x → PG κ nL ce sl G lv tgt rest) (kf : ¬ y1 ≤ x → PG κ nL ce sl G lv (pc + 3) rest) : PG κ nL ce sl G lv pc (.int y1 :: .int x :: rest) := by
  obtain ⟨p, l, e, R, s, m, args, below, meth, c, D, cy, A, H0, Q⟩ := κ
  obtain ⟨-, h0, hb, hml, -⟩ := C
  exact fun H locs ls hw hl => lv_icmp_ge h0 hb hd ht (fun h => kt h H locs ls hw hl) (fun h => kf h H locs ls hw hl)
theorem g_if_gt {x : Int32} {off : Int} (tgt : Nat) (C : g_OK κ l0 D0 cy0 y nL cc rm ret) (hd : decode cc pc = .ok (.ifCond .gt off, 3)) (ht : (pc : Int) + off = (tgt : Int)) (kt : 0 < x → PG κ nL ce sl G lv tgt rest) (kf : ¬ 0 < x → PG κ nL ce sl G lv (pc + 3) rest) : PG κ nL ce sl G lv pc (.int x :: rest) := by
  obtain ⟨p, l, e, R, s, m, args, below, meth, c, D, cy, A, H0, Q⟩ := κ
  obtain ⟨-, h0, hb, hml, -⟩ := C
  exact fun H locs ls hw hl => lv_if_gt h0 hb hd ht (fun h => kt h H locs ls hw hl) (fun h => kf h H locs ls hw hl)
theorem g_icmp_gt {x y1 : Int32} {off : Int} (tgt : Nat) (C : g_OK κ l0 D0 cy0 y nL cc rm ret) (hd : decode cc pc = .ok (.if_icmp .gt off, 3)) (ht : (pc : Int) + off = (tgt : Int)) (kt : y1 < x → PG κ nL ce sl G lv tgt rest) (kf : ¬ y1 < x → PG κ nL ce sl G lv (pc + 3) rest) : PG κ nL ce sl G lv pc (.int y1 :: .int x :: rest) := by
  obtain ⟨p, l, e, R, s, m, args, below, meth, c, D, cy, A, H0, Q⟩ := κ
  obtain ⟨-, h0, hb, hml, -⟩ := C
  exact fun H locs ls hw hl => lv_icmp_gt h0 hb hd ht (fun h => kt h H locs ls hw hl) (fun h => kf h H locs ls hw hl)
theorem g_if_le {x : Int32} {off : Int} (tgt : Nat) (C : g_OK κ l0 D0 cy0 y nL cc rm ret) (hd : decode cc pc = .ok (.ifCond .le off, 3)) (ht : (pc : Int) + off = (tgt : Int)) (kt : x ≤ 0 → PG κ nL ce sl G lv tgt rest) (kf : ¬ x ≤ 0 → PG κ nL ce sl G lv (pc + 3) rest) : PG κ nL ce sl G lv pc (.int x :: rest) := by
  obtain ⟨p, l, e, R, s, m, args, below, meth, c, D, cy, A, H0, Q⟩ := κ
  obtain ⟨-, h0, hb, hml, -⟩ := C
  exact fun H locs ls hw hl => lv_if_le h0 hb hd ht (fun h => kt h H locs ls hw hl) (fun h => kf h H locs ls hw hl)
theorem g_icmp_le {x y1 : Int32} {off : Int} (tgt : Nat) (C : g_OK κ l0 D0 cy0 y nL cc rm ret) (hd : decode cc pc = .ok (.if_icmp .le off, 3)) (ht : (pc : Int) + off = (tgt : Int)) (kt : x ≤ y1 → PG κ nL ce sl G lv tgt rest) (kf : ¬ x ≤ y1 → PG κ nL ce sl G lv (pc + 3) rest) : PG κ nL ce sl G lv pc (.int y1 :: .int x :: rest) := by
  obtain ⟨p, l, e, R, s, m, args, below, meth, c, D, cy, A, H0, Q⟩ := κ
  obtain ⟨-, h0, hb, hml, -⟩ := C
  exact fun H locs ls hw hl => lv_icmp_le h0 hb hd ht (fun h => kt h H locs ls hw hl) (fun h => kf h H locs ls hw hl)
theorem g_ifnull {a : Nat} {off : Int} (C : g_OK κ l0 D0 cy0 y nL cc rm ret) (hd : decode cc pc = .ok (.ifnull off, 3)) (k : PG κ nL ce sl G lv (pc + 3) rest) : PG κ nL ce sl G lv pc (.ref a :: rest) := by
  obtain ⟨p, l, e, R, s, m, args, below, meth, c, D, cy, A, H0, Q⟩ := κ
  obtain ⟨-, h0, hb, hml, -⟩ := C
  exact fun H locs ls hw hl => lv_ifnull h0 hb hd (k H locs ls hw hl)
theorem g_ifnonnull {a : Nat} {off : Int} (tgt : Nat) (C : g_OK κ l0 D0 cy0 y nL cc rm ret) (hd : decode cc pc = .ok (.ifnonnull off, 3)) (ht : (pc : Int) + off = (tgt : Int)) (k : PG κ nL ce sl G lv tgt rest) : PG κ nL ce sl G lv pc (.ref a :: rest) := by
  obtain ⟨p, l, e, R, s, m, args, below, meth, c, D, cy, A, H0, Q⟩ := κ
  obtain ⟨-, h0, hb, hml, -⟩ := C
  exact fun H locs ls hw hl => lv_ifnonnull h0 hb hd ht (k H locs ls hw hl)
theorem g_ifnullN {off : Int} (tgt : Nat) (C : g_OK κ l0 D0 cy0 y nL cc rm ret) (hd : decode cc pc = .ok (.ifnull off, 3)) (ht : (pc : Int) + off = (tgt : Int)) (k : PG κ nL ce sl G lv tgt rest) : PG κ nL ce sl G lv pc (.null :: rest) := by
  obtain ⟨p, l, e, R, s, m, args, below, meth, c, D, cy, A, H0, Q⟩ := κ
  obtain ⟨-, h0, hb, hml, -⟩ := C
  exact fun H locs ls hw hl => lv_ifnullN h0 hb hd ht (k H locs ls hw hl)
theorem g_ifnonnullN {off : Int} (C : g_OK κ l0 D0 cy0 y nL cc rm ret) (hd : decode cc pc = .ok (.ifnonnull off, 3)) (k : PG κ nL ce sl G lv (pc + 3) rest) : PG κ nL ce sl G lv pc (.null :: rest) := by
  obtain ⟨p, l, e, R, s, m, args, below, meth, c, D, cy, A, H0, Q⟩ := κ
  obtain ⟨-, h0, hb, hml, -⟩ := C
  exact fun H locs ls hw hl => lv_ifnonnullN h0 hb hd (k H locs ls hw hl)
theorem g_idiv {x y1 : Int32} (C : g_OK κ l0 D0 cy0 y nL cc rm ret) (hd : decode cc pc = .ok (.idiv, 1)) (hne : ¬ y1 = 0) (k : PG κ nL ce sl G lv (pc + 1) (.int (x / y1) :: rest)) : PG κ nL ce sl G lv pc (.int y1 :: .int x :: rest) := by
  obtain ⟨p, l, e, R, s, m, args, below, meth, c, D, cy, A, H0, Q⟩ := κ
  obtain ⟨-, h0, hb, hml, -⟩ := C
  exact fun H locs ls hw hl => lv_idiv h0 hb hd hne (k H locs ls hw hl)
theorem g_irem {x y1 : Int32} (C : g_OK κ l0 D0 cy0 y nL cc rm ret) (hd : decode cc pc = .ok (.irem, 1)) (hne : ¬ y1 = 0) (k : PG κ nL ce sl G lv (pc + 1) (.int (x - x / y1 * y1) :: rest)) : PG κ nL ce sl G lv pc (.int y1 :: .int x :: rest) := by
  obtain ⟨p, l, e, R, s, m, args, below, meth, c, D, cy, A, H0, Q⟩ := κ
  obtain ⟨-, h0, hb, hml, -⟩ := C
  exact fun H locs ls hw hl => lv_irem h0 hb hd hne (k H locs ls hw hl)
theorem g_ddiv {x y1 : UInt64} (C : g_OK κ l0 D0 cy0 y nL cc rm ret) (hd : decode cc pc = .ok (.ddiv, 1)) (hne : vf_n64 (FP.ddiv x y1)) (k : PG κ nL ce sl G lv (pc + 1) (.double (FP.ddiv x y1) :: rest)) : PG κ nL ce sl G lv pc (.double y1 :: .double x :: rest) := by
  obtain ⟨p, l, e, R, s, m, args, below, meth, c, D, cy, A, H0, Q⟩ := κ
  obtain ⟨-, h0, hb, hml, -⟩ := C
  exact fun H locs ls hw hl => lv_ddiv h0 hb hd hne (k H locs ls hw hl)
theorem g_ldc2 {index : Nat} {v : Int64} (C : g_OK κ l0 D0 cy0 y nL cc rm ret) (hw0 : Cond.constantLong y.cls index v ∈ lw_T) (hd : decode cc pc = .ok (.ldc2_w index, 3)) (k : PG κ nL ce sl G lv (pc + 3) (.long v :: rest)) : PG κ nL ce sl G lv pc rest := by
  obtain ⟨p, l, e, R, s, m, args, below, meth, c, D, cy, A, H0, Q⟩ := κ
  obtain ⟨-, h0, hb, hml, hown, hT, -⟩ := C
  exact fun H locs ls hw hl => lv_ldc2 h0 hb hown (hT _ hw0) hd (k H locs ls hw hl)
theorem g_tableOut {dflt lo hi : Int} {offs : Array Int} {len : Nat} {x : Int32} (tgt : Nat) (C : g_OK κ l0 D0 cy0 y nL cc rm ret) (hd : decode cc pc = .ok (.tableswitch dflt lo hi offs, len)) (h : x.toInt < lo ∨ hi < x.toInt) (ht : (pc : Int) + dflt = (tgt : Int)) (k : PG κ nL ce sl G lv tgt rest) : PG κ nL ce sl G lv pc (.int x :: rest) := by
  obtain ⟨p, l, e, R, s, m, args, below, meth, c, D, cy, A, H0, Q⟩ := κ
  obtain ⟨-, h0, hb, hml, -⟩ := C
  exact fun H locs ls hw hl => lv_tableOut h0 hb hd h ht (k H locs ls hw hl)
theorem g_tableIn {dflt lo hi : Int} {offs : Array Int} {len : Nat} {x : Int32} {off : Int} (tgt : Nat) (C : g_OK κ l0 D0 cy0 y nL cc rm ret) (hd : decode cc pc = .ok (.tableswitch dflt lo hi offs, len)) (h1 : ¬ x.toInt < lo) (h2 : ¬ hi < x.toInt) (ho : offs[(x.toInt - lo).toNat]? = some off) (ht : (pc : Int) + off = (tgt : Int)) (k : PG κ nL ce sl G lv tgt rest) : PG κ nL ce sl G lv pc (.int x :: rest) := by
  obtain ⟨p, l, e, R, s, m, args, below, meth, c, D, cy, A, H0, Q⟩ := κ
  obtain ⟨-, h0, hb, hml, -⟩ := C
  exact fun H locs ls hw hl => lv_tableIn h0 hb hd h1 h2 ho ht (k H locs ls hw hl)
end PGR
end
section
/-! rows over the heap -/
theorem g_sP {D : va_G} {G : GG} {H : Heap} {A : Nat → Prop} {H0 : Heap} {locs : List Loc} (hw : g_wd D A H0 G H locs) {a : Nat} {e : va_E} (ha : G a = some e) : va_P D vwCl [(a, e)] H := by
  intro k q hk
  have hz : k < 1 := (List.getElem?_eq_some_iff.mp hk).1
  rw [show k = 0 by omega] at hk
  cases hk
  exact (hw.1 a e ha).1
theorem g_wput {D : va_G} {G : GG} {H H1 : Heap} {A : Nat → Prop} {H0 : Heap} {locs : List Loc} {a k : Nat} {e0 e : va_E} (hw : g_wd D A H0 G H locs) (ha : G a = some e0) (he : va_at D vwCl (a, e) H1) (z : H1.size = H.size) (oq : ∀ q : Nat, q ≠ a → H1[q]? = H[q]?) : g_wd D A H0 (g_up G a e) H1 (locs ++ [⟨a, k⟩]) := by
  refine ⟨fun b e' hb => ?_, hw.2.put z oq (hw.1 a e0 ha).2⟩
  by_cases hq : b = a
  · subst hq
    rw [g_up_self] at hb
    cases hb
    exact ⟨he, (hw.1 b e0 ha).2⟩
  · rw [g_up_ne hq] at hb
    exact ⟨(hw.1 b e' hb).1.kept (oq b hq), (hw.1 b e' hb).2⟩
theorem g_wnew {D : va_G} {G : GG} {H H1 : Heap} {A : Nat → Prop} {H0 : Heap} {locs : List Loc} {e : va_E} (hA : ∀ q, H0.size ≤ q → A q) (hw : g_wd D A H0 G H locs) (he : va_at D vwCl (H.size, e) H1) (z : H1.size = H.size + 1) (oq : ∀ q : Nat, q < H.size → H1[q]? = H[q]?) : G H.size = none ∧ g_wd D A H0 (g_up G H.size e) H1 locs := by
  have hn : G H.size = none := by
    cases h : G H.size with
    | none => rfl
    | some e' => exact absurd (hw.1 _ e' h).1.lt (Nat.lt_irrefl _)
  refine ⟨hn, fun b e' hb => ?_, Nat.le_trans hw.2.1 (by omega), fun x h1 h2 => (oq x (Nat.lt_of_lt_of_le h1 hw.2.1)).trans (hw.2.2.1 x h1 h2), hw.2.2.2⟩
  by_cases hq : b = H.size
  · subst hq
    rw [g_up_self] at hb
    cases hb
    exact ⟨he, hA _ hw.2.1⟩
  · rw [g_up_ne hq] at hb
    have h1 := hw.1 b e' hb
    exact ⟨h1.1.kept (oq b h1.1.lt), h1.2⟩
/-- a field's link from a class: what getfield needs -/
def g_fl (own : String) (index ci k : Nat) : Prop := ∃ (C : String) (T : u_T) (N : Nat), vwCl[ci]? = some (C, T, N) ∧ k < N ∧ (∀ w ∈ u_ws C T N, w ∈ lw_T) ∧ Cond.fieldLink own index C (T k).2.1 (T k).2.2.1 ∈ lw_T ∧ (T k).1 = C
/-- what putfield needs of the class -/
def g_fp (ci k : Nat) (ty : FieldType) (fin : Bool) : Prop := ∃ (C : String) (T : u_T) (N : Nat) (ty0 : Nat → FieldType), vwCl[ci]? = some (C, T, N) ∧ (∀ k, k < N → parseFieldDescriptor (T k).2.2.1 = some (ty0 k)) ∧ (∀ a, a < N → ∀ b, b < N → a ≠ b → (T a).2.1 ≠ (T b).2.1) ∧ (T k).2.2.2 = fin ∧ parseFieldDescriptor (T k).2.2.1 = some ty
section PGH
variable {κ : Kx} {l0 : Launch} {D0 : va_G} {cy0 : Nat → ClassId} {y : MethodName} {nL ce sl : Nat} {cc : ByteArray} {rm : Room} {ret : Option FieldType} {G : GG} {lv : LV} {pc : Nat} {st rest : List Value} {a : Nat}
theorem g_getf {ci k index : Nat} {fs : List Value} {v : Value} (C : g_OK κ l0 D0 cy0 y nL cc rm ret) (hf : g_fl y.cls index ci k) (ha : G a = some (.inr (ci, fs))) (hv : fs[k]? = some v) (hd : decode cc pc = .ok (.getfield index, 3)) (kk : PG κ nL ce sl G lv (pc + 3) (v :: rest)) : PG κ nL ce sl G lv pc (.ref a :: rest) := by
  obtain ⟨p, l, e, R, s, m, args, below, meth, c, D, cy, A, H0, Q⟩ := κ
  obtain ⟨⟨-, rfl, rfl⟩, h0, hb, hml, hown, hT, hK, -⟩ := C
  obtain ⟨C1, T, N, hc, hk, hin, hlink, h1⟩ := hf
  intro H locs ls hw hl
  exact va_get h0 hb hT hin hown hK.1 (g_sP hw ha) 0 rfl hc k hk (hT _ hlink) (fun x hx => by rw [← h1]; rw [h1]; rw [h1] at hx; exact hx) hv hd (kk H locs ls hw hl)
theorem g_putf {ci k index : Nat} {fs : List Value} {v : Value} {ty : FieldType} (C : g_OK κ l0 D0 cy0 y nL cc rm ret) (hf : g_fl y.cls index ci k) (hp : g_fp ci k ty false) (ha : G a = some (.inr (ci, fs))) (hn : narrow ty v = v) (hfit : fits ty v = true) (hl0 : k < fs.length) (hd : decode cc pc = .ok (.putfield index, 3)) (kk : PG κ nL ce sl (g_up G a (.inr (ci, fs.set k v))) lv (pc + 3) rest) : PG κ nL ce sl G lv pc (v :: .ref a :: rest) := by
  obtain ⟨p, l, e, R, s, m, args, below, meth, c, D, cy, A, H0, Q⟩ := κ
  obtain ⟨⟨-, rfl, rfl⟩, h0, hb, hml, hown, hT, hK, -⟩ := C
  obtain ⟨C1, T, N, hc, hk, hin, hlink, h1⟩ := hf
  obtain ⟨C2, T2, N2, ty0, hc2, hty, hnm, hfin, hdd⟩ := hp
  cases hc.symm.trans hc2
  intro H locs ls hw hl
  have hap := va_apart (own := C1) hT hin ty0 hty hnm hK.1 hc
  obtain ⟨r, g1, cell, q1, q2, q3, q4⟩ := (hw.1 a _ ha).1
  have hr : r = (C1, T, N) := Option.some.inj (g1.symm.trans hc)
  subst hr
  obtain ⟨hS, hfc, kC, hkC, hkind⟩ := hK.1.1 ci _ hc
  obtain ⟨cf, kf, fi, f, hi, hsl⟩ := hS k hk
  have hlay := hT _ (hin _ (u_in_lay hk))
  unfold u_lay at hlay
  rw [if_neg (by rw [hfin]; decide)] at hlay
  have hst := (u_facts hfc hkC (u_lays hT hin hk) hi).1
  have h6 := u_store hfc hkC hkind hlay hi hdd hn hfit
  have hi' := hi
  rw [h1] at hi'
  refine W.putK h0 hb (f := f) ⟨hown, hT _ hlink, ⟨_, _, _, hi'⟩, hst⟩ (by rw [q2]; exact h6) q1 q3 (by rw [hsl]; exact k2_hasslot (q4 k hk)) rfl rfl hd fun H' e1 e2 e3 => ?_
  rw [hsl] at e1 ⊢
  exact kk H' _ ls (g_wput hw ha ⟨_, hc, t_OB.to (V := updV (vp_V fs) k v) ⟨_, e1, q2, q3, t_set q4 hap hk v⟩ (fun j _ => vp_updV_set hl0 v j)⟩ e2 e3) hl
theorem g_putF {ci k index : Nat} {fs : List Value} {v : Value} {ty : FieldType} (C : g_OK κ l0 D0 cy0 y nL cc rm ret) (hf : g_fl y.cls index ci k) (hp : g_fp ci k ty true) (hy : y.name = "<init>") (hdecl : ∀ q, vwCl[ci]? = some q → q.1 = y.cls) (ha : G a = some (.inr (ci, fs))) (hn : narrow ty v = v) (hfit : fits ty v = true) (hl0 : k < fs.length) (hd : decode cc pc = .ok (.putfield index, 3)) (kk : PG κ nL ce sl (g_up G a (.inr (ci, fs.set k v))) lv (pc + 3) rest) : PG κ nL ce sl G lv pc (v :: .ref a :: rest) := by
  obtain ⟨p, l, e, R, s, m, args, below, meth, c, D, cy, A, H0, Q⟩ := κ
  obtain ⟨⟨-, rfl, rfl⟩, h0, hb, hml, hown, hT, hK, -, -, -, -, hmn⟩ := C
  obtain ⟨C1, T, N, hc, hk, hin, hlink, h1⟩ := hf
  obtain ⟨C2, T2, N2, ty0, hc2, hty, hnm, hfin, hdd⟩ := hp
  cases hc.symm.trans hc2
  intro H locs ls hw hl
  have hap := va_apart (own := C1) hT hin ty0 hty hnm hK.1 hc
  obtain ⟨r, g1, cell, q1, q2, q3, q4⟩ := (hw.1 a _ ha).1
  have hr : r = (C1, T, N) := Option.some.inj (g1.symm.trans hc)
  subst hr
  have hd1 : C1 = y.cls := hdecl _ hc
  obtain ⟨hS, hfc, kC, hkC, hkind⟩ := hK.1.1 ci _ hc
  obtain ⟨cf, kf, fi, f, hi, hsl⟩ := hS k hk
  have hlay := hT _ (hin _ (u_in_lay hk))
  unfold u_lay at hlay
  rw [if_pos hfin] at hlay
  have hst := (u_facts hfc hkC (u_lays hT hin hk) hi).1
  have hcf : m.cls = cf := by
    obtain ⟨_, _, c', _, _, _, -, -, hf', -, -, -, hown2, -⟩ := Cond.laysFinal_spec hlay
    have e1 : c' = cf := by have := hi.symm.trans hf'; simp at this; exact this.1.symm
    rw [h1, hd1] at hown2
    rw [← e1]; exact Option.some.inj (hown.symm.trans hown2)
  have h6 := u_fits hfc hkC hkind (Or.inr hlay) hi hdd hn hfit
  have hi' := hi
  rw [h1] at hi'
  refine W.putFinK h0 hb hown (hT _ hlink) hi' hst hcf (hmn.trans hy) (by rw [q2]; exact h6) q1 q3 (by rw [hsl]; exact k2_hasslot (q4 k hk)) rfl rfl hd fun H' e1 e2 e3 => ?_
  rw [hsl] at e1 ⊢
  exact kk H' _ ls (g_wput hw ha ⟨_, hc, t_OB.to (V := updV (vp_V fs) k v) ⟨_, e1, q2, q3, t_set q4 hap hk v⟩ (fun j _ => vp_updV_set hl0 v j)⟩ e2 e3) hl
/-- new: a fresh address -/
theorem g_new {ci index : Nat} {C1 : String} {T : u_T} {N : Nat} {ty : Nat → FieldType} {fs : List Value} (C : g_OK κ l0 D0 cy0 y nL cc rm ret) (hc : vwCl[ci]? = some (C1, T, N)) (hin : ∀ w ∈ u_ws C1 T N, w ∈ lw_T) (hty : ∀ k, k < N → parseFieldDescriptor (T k).2.2.1 = some (ty k)) (hcl : Cond.classLink y.cls index C1 ∈ lw_T) (hinst : Cond.instantiable C1 N ∈ lw_T) (hini : Cond.initialized C1 ∈ lw_T) (hfs : ∀ j, j < N → defaultValue (ty j) = vp_V fs j) (hcells : ce + 1 ≤ rm.cells) (hslots : sl + N ≤ rm.slots) (hd : decode cc pc = .ok (.new index, 3))
    (kk : ∀ q, G q = none → PG κ nL (ce + 1) (sl + N) (g_up G q (.inr (ci, fs))) lv (pc + 3) (.ref q :: rest)) : PG κ nL ce sl G lv pc rest := by
  obtain ⟨p, l, e, R, s, m, args, below, meth, c, D, cy, A, H0, Q⟩ := κ
  obtain ⟨⟨-, rfl, rfl⟩, h0, hb, hml, hown, hT, hK, hA, rfl, -⟩ := C
  intro H locs ls hw hl
  have hKn := hK.1.1 ci _ hc
  refine W.newcK h0 hb hown (hT _ hcl) (hT _ hinst) (hT _ hini) rfl hd hcells hslots hKn.2.1 rfl fun H1 kC hkC e1 z1 o1 => ?_
  have he : va_at D vwCl (H.size, .inr (ci, fs)) H1 := ⟨_, hc, (u_born ty hT hin hKn hkC e1 hty).to hfs⟩
  obtain ⟨hn, hw1⟩ := g_wnew hA hw he z1 o1
  exact kk H.size hn H1 locs ls hw1 hl
/-- int arrays -/
theorem g_iald {n : Nat} {f : Nat → Int32} {i : Int32} (C : g_OK κ l0 D0 cy0 y nL cc rm ret) (ha : G a = some (.inl (cy0 0, n, .inl f))) (hin : vp_in i n) (hd : decode cc pc = .ok (.iaload, 1)) (kk : PG κ nL ce sl G lv (pc + 1) (.int (f i.toNatClampNeg) :: rest)) : PG κ nL ce sl G lv pc (.int i :: .ref a :: rest) := by
  obtain ⟨p, l, e, R, s, m, args, below, meth, c, D, cy, A, H0, Q⟩ := κ
  obtain ⟨⟨-, rfl, rfl⟩, h0, hb, hml, hown, hT, hK, hA, rfl, -⟩ := C
  intro H locs ls hw hl
  exact va_iald h0 hb hK.1 (g_sP hw ha) 0 0 rfl rfl hin hd (kk H locs ls hw hl)
theorem g_iast {n : Nat} {f : Nat → Int32} {i x : Int32} (C : g_OK κ l0 D0 cy0 y nL cc rm ret) (ha : G a = some (.inl (cy0 0, n, .inl f))) (hin : vp_in i n) (hd : decode cc pc = .ok (.iastore, 1)) (kk : PG κ nL ce sl (g_up G a (.inl (cy0 0, n, .inl (upd f i.toNatClampNeg x)))) lv (pc + 1) rest) : PG κ nL ce sl G lv pc (.int x :: .int i :: .ref a :: rest) := by
  obtain ⟨p, l, e, R, s, m, args, below, meth, c, D, cy, A, H0, Q⟩ := κ
  obtain ⟨⟨-, rfl, rfl⟩, h0, hb, hml, hown, hT, hK, hA, rfl, -⟩ := C
  intro H locs ls hw hl
  have hlt : i.toNatClampNeg < n := Nat.not_le.mp fun q => hin (Or.inr q)
  have hat : H[a]? = some (arrV (cy 0) n (fun j => .int (f j))) := (hw.1 a _ ha).1
  refine W.iast h0 hb hat ((hK.1.2 0 _ rfl).1 n (fun j => .int (f j))) (fun q => by cases q) (by rw [arrV_size]; exact hin) rfl rfl hd fun H1 e1 z o => ?_
  refine kk H1 _ ls (g_wput hw ha ?_ z o) hl
  show H1[a]? = some (arrV (cy 0) n (fun j => .int (upd f i.toNatClampNeg x j)))
  rw [e1, arrV_store]
  congr 2
  funext q
  by_cases hq : q = i.toNatClampNeg <;> simp [updV, upd, hq]
theorem g_alen {n : Nat} {x : vp_A} {ty : FieldType} {t0 : Nat} {cA : ClassId} {F : Nat → Value} (C : g_OK κ l0 D0 cy0 y nL cc rm ret) (ha : G a = some (.inl (cA, x))) (ht : (g_tys cy0)[t0]? = some (cA, ty)) (hx : vp_cell cA x = arrV cA n F) (hd : decode cc pc = .ok (.arraylength, 1)) (kk : PG κ nL ce sl G lv (pc + 1) (.int (nI n) :: rest)) : PG κ nL ce sl G lv pc (.ref a :: rest) := by
  obtain ⟨p, l, e, R, s, m, args, below, meth, c, D, cy, A, H0, Q⟩ := κ
  obtain ⟨⟨-, rfl, rfl⟩, h0, hb, hml, hown, hT, hK, hA, rfl, -⟩ := C
  intro H locs ls hw hl
  have hat : H[a]? = some (vp_cell cA x) := (hw.1 a _ ha).1
  rw [hx] at hat
  exact W.alen h0 hb hat ((hK.1.2 t0 _ ht).1 n F) (by rw [arrV_size]; rfl) rfl rfl hd (kk H locs ls hw hl)
/-- reference arrays -/
theorem g_aald {n t0 : Nat} {C1 : String} {cA : ClassId} {f : Nat → Option Nat} {i : Int32} (C : g_OK κ l0 D0 cy0 y nL cc rm ret) (ha : G a = some (.inl (cA, n, .inr (.inr (.inr (.inr f)))))) (ht : (g_tys cy0)[t0]? = some (cA, .object C1)) (hin : vp_in i n) (hd : decode cc pc = .ok (.aaload, 1)) (kk : PG κ nL ce sl G lv (pc + 1) (va_rf (f i.toNatClampNeg) :: rest)) : PG κ nL ce sl G lv pc (.int i :: .ref a :: rest) := by
  obtain ⟨p, l, e, R, s, m, args, below, meth, c, D, cy, A, H0, Q⟩ := κ
  obtain ⟨⟨-, rfl, rfl⟩, h0, hb, hml, hown, hT, hK, hA, rfl, -⟩ := C
  intro H locs ls hw hl
  exact va_aldq h0 hb hK.1 (g_sP hw ha) 0 t0 rfl ht hin hd (kk H locs ls hw hl)
theorem g_aast {n t0 ci v : Nat} {r : vw_C} {cA : ClassId} {f : Nat → Option Nat} {i : Int32} {vs : List Value} (C : g_OK κ l0 D0 cy0 y nL cc rm ret) (ha : G a = some (.inl (cA, n, .inr (.inr (.inr (.inr f)))))) (ht : (g_tys cy0)[t0]? = some (cA, .object r.1)) (hv : G v = some (.inr (ci, vs))) (hc : vwCl[ci]? = some r) (hin : vp_in i n) (hd : decode cc pc = .ok (.aastore, 1)) (kk : PG κ nL ce sl (g_up G a (.inl (cA, n, .inr (.inr (.inr (.inr (va_up f i.toNatClampNeg (some v)))))))) lv (pc + 1) rest) : PG κ nL ce sl G lv pc (.ref v :: .int i :: .ref a :: rest) := by
  obtain ⟨p, l, e, R, s, m, args, below, meth, c, D, cy, A, H0, Q⟩ := κ
  obtain ⟨⟨-, rfl, rfl⟩, h0, hb, hml, hown, hT, hK, hA, rfl, -⟩ := C
  intro H locs ls hw hl
  have hlt : i.toNatClampNeg < n := Nat.not_le.mp fun q => hin (Or.inr q)
  have h1 : ¬ i < 0 := fun q => hin (Or.inl q)
  obtain ⟨r', hr', cellV, g1, g2, g3, -⟩ := (hw.1 v _ hv).1
  have hcls := (hK.1.1 ci r hc).2
  obtain ⟨kA, comp, k1, k2, k3, -⟩ := (hK.1.2 t0 _ ht).2
  have hcomp : comp = D.1 ci := Option.some.inj (k3.symm.trans hcls.1)
  subst hcomp
  obtain ⟨kC, hkC, -⟩ := hcls.2
  have hat : H[a]? = some (arrV cA n (fun j => va_rf (f j))) := (hw.1 a _ ha).1
  refine W.aast h0 hb hat (fun q h => by cases h) (fun h => by cases h) k1 k2 rfl hkC ⟨h1, by rw [arrV_size]; exact hlt⟩ g1 (fun q h => by rw [g3] at h; cases h) (by rw [g2]; exact hkC) (by rw [g2]; exact va_assign hcls) rfl rfl hd fun H1 e1 z o => ?_
  refine kk H1 _ ls (g_wput hw ha ?_ z o) hl
  show H1[a]? = some (arrV cA n (fun j => va_rf (va_up f i.toNatClampNeg (some v) j)))
  rw [e1, arrV_store]
  congr 2
  funext q
  by_cases hq : q = i.toNatClampNeg
  · subst hq; simp [updV, va_up, va_rf]
  · simp [updV, va_up, hq]
end PGH
end
section
/-! calls and returns -/
def g_mV (y : MethodName) (b : ByteArray) (n : Nat) (ret : Option FieldType) (k : Nat) : Prop := Cond.code y b n ret ∈ lw_T ∧ Cond.initialized y.cls ∈ lw_T ∧ (y.cls ≠ "java/lang/invoke/MethodHandle" ∧ y.cls ≠ "java/lang/invoke/VarHandle") ∧ (parseMethodDescriptor y.desc).map (fun d => d.parameters.length) = some k ∧ Cond.instanceMethod y ∈ lw_T ∧ Cond.selects y.cls y y ∈ lw_T
def g_mS (y : MethodName) (b : ByteArray) (n : Nat) (ret : Option FieldType) (k : Nat) : Prop := Cond.code y b n ret ∈ lw_T ∧ Cond.initialized y.cls ∈ lw_T ∧ (y.cls ≠ "java/lang/invoke/MethodHandle" ∧ y.cls ≠ "java/lang/invoke/VarHandle") ∧ (parseMethodDescriptor y.desc).map (fun d => d.parameters.length) = some k ∧ Cond.static y ∈ lw_T
def g_mI (y : MethodName) (b : ByteArray) (n : Nat) (k : Nat) : Prop := Cond.code y b n none ∈ lw_T ∧ Cond.initialized y.cls ∈ lw_T ∧ (y.cls ≠ "java/lang/invoke/MethodHandle" ∧ y.cls ≠ "java/lang/invoke/VarHandle") ∧ (parseMethodDescriptor y.desc).map (fun d => d.parameters.length) = some k ∧ Cond.instanceMethod y ∈ lw_T ∧ y.name = "<init>"
def g_room (rm rm' : Room) (n' ce sl : Nat) : Prop := (rm'.frames + 1 ≤ rm.frames ∧ 8 + (n' + 11) + rm'.locals ≤ rm.locals) ∧ ce + rm'.cells ≤ rm.cells ∧ sl + rm'.slots ≤ rm.slots
theorem g_wsU {y : MethodName} {b : ByteArray} {n : Nat} {ret : Option FieldType} (h : Cond.code y b n ret ∈ lw_T) : ∀ w ∈ wsU y b n ret, w ∈ lw_T ∧ ((w.onTables && w.keeps) = true ∨ ∃ ty, w = .arrayClass ty) := by
  intro w hw
  rcases List.mem_cons.mp hw with rfl | h1
  · exact lw_T_good _ h
  · exact lw_T_good w h1
theorem g_callB {R rm' : Room} {s : State} {args : Array Value} {own : String} {index : Nat} {y : MethodName} {b : ByteArray} {n : Nat} {ret : Option FieldType} {k : Nat} (hT : ∀ w ∈ lw_T, w.before args s = true) (h1 : Cond.code y b n ret ∈ lw_T) (h2 : Cond.initialized y.cls ∈ lw_T) (h3 : y.cls ≠ "java/lang/invoke/MethodHandle" ∧ y.cls ≠ "java/lang/invoke/VarHandle") (h4 : (parseMethodDescriptor y.desc).map (fun d => d.parameters.length) = some k) (hlink : Cond.methodLink own index y ∈ lw_T) (hr : rm'.frames + 1 ≤ R.frames ∧ 8 + (n + 11) + rm'.locals ≤ R.locals) : CallB R s args own index y b n ret (wsU y b n ret) rm' rm'.cells rm'.slots k :=
  ⟨rfl, rfl, hr.1, hr.2, pay_in hT (g_wsU h1), List.mem_cons_self, hT _ h1, hT _ h2, h3, fun sig h => by rw [h] at h4; exact (Option.some.inj h4).symm, hT _ hlink⟩
theorem g_back {D : va_G} {A : Nat → Prop} {H0 H : Heap} {G G' : GG} {locs L : List Loc} {st₀ t T' : State} (hA : ∀ q, H0.size ≤ q → A q) (hw : g_wd D A H0 G H locs) (h0 : st₀.heap = H) (e1 : T'.heap = t.heap) (hL : ∀ q ∈ L, g_A G H.size q.base) (hG : ∀ a e, G' a = some e → va_at D vwCl (a, e) t.heap ∧ g_A G H.size a) (hF : va_F (g_A G H.size) st₀ t) : g_wd D A H0 G' T'.heap (locs ++ L) := by
  have hf : ∀ q, g_A G H.size q → A q := fun q hq => by
    rcases hq with ⟨e, he⟩ | hq
    · exact (hw.1 q e he).2
    · exact hA q (Nat.le_trans hw.2.1 hq)
  refine ⟨fun a e h => ⟨by rw [e1]; exact (hG a e h).1, hf a (hG a e h).2⟩, ?_⟩
  obtain ⟨hz, hk⟩ := hF
  rw [h0] at hz hk
  refine ⟨Nat.le_trans hw.2.1 (by rw [e1]; exact hz), fun q h1 h2 => ?_, fun q hq => ?_⟩
  · rw [e1, hk q (Nat.lt_of_lt_of_le h1 hw.2.1) (fun z => h2 (hf q z))]
    exact hw.2.2.1 q h1 h2
  · rcases List.mem_append.mp hq with h | h
    · exact hw.2.2.2 q h
    · exact hf _ (hL q h)
section PGC
variable {κ : Kx} {l0 : Launch} {D0 : va_G} {cy0 : Nat → ClassId} {y y' : MethodName} {nL ce sl n' index k : Nat} {cc b' : ByteArray} {rm rm' : Room} {ret ret' : Option FieldType} {G : GG} {lv : LV} {pc : Nat} {st rest As : List Value} {a : Nat} {post : Option Value → GG → Prop}
theorem g_fin {p : Program} {l : Launch} {e : Env} {R : Room} {s : State} {m : MethodId} {args : Array Value} {below : List Frame} {meth : Method} {c : Code} {H : Heap} {locs : List Loc} {Q : State → Prop} {D : va_G} {A : Nat → Prop} {H0 : Heap} {ls : Array Slot} {mc ms : Nat} {av : Array Value} (hA : ∀ q, H0.size ≤ q → A q) (hw : g_wd D A H0 G H locs)
    (hr : va_Run p l e R s m args below meth c H locs ce sl mc ms (F0 m pc ls st) rest (g_Qc D (g_A G H.size) post av) (g_A G H.size))
    (kk : ∀ r G', post r G' → ∀ (H1 : Heap) (locs1 : List Loc), g_wd D A H0 G' H1 locs1 → W p l e R s m args below meth c H1 locs1 (ce + mc) (sl + ms) Q (F0 m (pc + 3) ls (r.toList ++ rest))) : W p l e R s m args below meth c H locs ce sl Q (F0 m pc ls st) := by
  intro T hT X
  obtain ⟨v, st₀, t, T', L, h0, X', hL, e1, e2, ⟨⟨r, G', hv, hp, hG⟩, hF⟩, st9⟩ := hr T hT X
  cases hv
  obtain ⟨t2, a1, b1⟩ := kk v G' hp T'.heap (locs ++ L) (g_back hA hw h0 e1 hL hG hF) T' rfl X'
  exact ⟨t2, st9 t2 a1, b1⟩
theorem g_callV {ci : Nat} {fs : List Value} {q : vw_C} (C : g_OK κ l0 D0 cy0 y nL cc rm ret) (hm : g_mV y' b' n' ret' k) (hlink : Cond.methodLink y.cls index y' ∈ lw_T) (ha : G a = some (.inr (ci, fs))) (hc : vwCl[ci]? = some q) (hq : q.1 = y'.cls) (hM : Ctr l0 D0 cy0 y' b' n' ret' rm' (.ref a :: As) G post) (hn : As.length = k) (hr : g_room rm rm' n' ce sl) (hst : st = As.reverse ++ .ref a :: rest) (hcat : (rest.map fun v => v.category).sum ≤ 8) (hd : decode cc pc = .ok (.invokevirtual index, 3))
    (kk : ∀ r G', post r G' → PG κ nL (ce + rm'.cells) (sl + rm'.slots) G' lv (pc + 3) (r.toList ++ rest)) : PG κ nL ce sl G lv pc st := by
  obtain ⟨p, l, e, R, s, m, args, below, meth, c, D, cy, A, H0, Q⟩ := κ
  obtain ⟨⟨rfl, rfl, rfl⟩, h0, hb, hml, hown, hT, hK, hA, rfl, -⟩ := C
  obtain ⟨m1, m2, m3, m4, m5, m6⟩ := hm
  intro H locs ls hw hl
  refine g_fin hA hw (va_runV (C := y'.cls) (As := As) (b := a) ⟨h0, hb, hml, hown, hT⟩ (hM H.size) ⟨g_callB hT m1 m2 m3 m4 hlink hr.1, hT _ m5, hT _ m6⟩ ⟨g_blind D cy G H.size _, ?_, fun U hU hW => ⟨rfl, by rw [hU], fun a e h => by rw [hU]; exact (hw.1 a e h).1, g_K.moved hW.alike hK⟩⟩ rfl hn hl.1 hst (lv_room hcat) hd hr.2) (fun r G' hp H1 locs1 hw1 => kk r G' hp H1 locs1 ls hw1 hl)
  have h9 := va_recv hK.1 (g_sP hw ha) hc (q0 := 0) rfl
  rw [hq] at h9
  exact h9
theorem g_callS (C : g_OK κ l0 D0 cy0 y nL cc rm ret) (hm : g_mS y' b' n' ret' k) (hlink : Cond.methodLink y.cls index y' ∈ lw_T) (hM : Ctr l0 D0 cy0 y' b' n' ret' rm' As G post) (hn : As.length = k) (hr : g_room rm rm' n' ce sl) (hst : st = As.reverse ++ rest) (hcat : (rest.map fun v => v.category).sum ≤ 8) (hd : decode cc pc = .ok (.invokestatic index, 3))
    (kk : ∀ r G', post r G' → PG κ nL (ce + rm'.cells) (sl + rm'.slots) G' lv (pc + 3) (r.toList ++ rest)) : PG κ nL ce sl G lv pc st := by
  obtain ⟨p, l, e, R, s, m, args, below, meth, c, D, cy, A, H0, Q⟩ := κ
  obtain ⟨⟨rfl, rfl, rfl⟩, h0, hb, hml, hown, hT, hK, hA, rfl, -⟩ := C
  obtain ⟨m1, m2, m3, m4, m5⟩ := hm
  intro H locs ls hw hl
  exact g_fin hA hw (va_runS (As := As) ⟨h0, hb, hml, hown, hT⟩ (hM H.size) ⟨g_callB hT m1 m2 m3 m4 hlink hr.1, hT _ m5⟩ ⟨g_blind D cy G H.size _, fun U hU hW => ⟨rfl, by rw [hU], fun a e h => by rw [hU]; exact (hw.1 a e h).1, g_K.moved hW.alike hK⟩⟩ rfl hn hl.1 hst (lv_room hcat) hd hr.2) (fun r G' hp H1 locs1 hw1 => kk r G' hp H1 locs1 ls hw1 hl)
theorem g_callI (C : g_OK κ l0 D0 cy0 y nL cc rm ret) (hm : g_mI y' b' n' k) (hlink : Cond.methodLink y.cls index y' ∈ lw_T) (hM : Ctr l0 D0 cy0 y' b' n' none rm' (.ref a :: As) G post) (hn : As.length = k) (hr : g_room rm rm' n' ce sl) (hst : st = As.reverse ++ .ref a :: rest) (hcat : (rest.map fun v => v.category).sum ≤ 8) (hd : decode cc pc = .ok (.invokespecial index, 3))
    (kk : ∀ r G', post r G' → PG κ nL (ce + rm'.cells) (sl + rm'.slots) G' lv (pc + 3) (r.toList ++ rest)) : PG κ nL ce sl G lv pc st := by
  obtain ⟨p, l, e, R, s, m, args, below, meth, c, D, cy, A, H0, Q⟩ := κ
  obtain ⟨⟨rfl, rfl, rfl⟩, h0, hb, hml, hown, hT, hK, hA, rfl, -⟩ := C
  obtain ⟨m1, m2, m3, m4, m5, m6⟩ := hm
  intro H locs ls hw hl
  exact g_fin hA hw (va_runI (As := As) (b := a) ⟨h0, hb, hml, hown, hT⟩ (hM H.size) ⟨g_callB hT m1 m2 m3 m4 hlink hr.1, m6, hT _ m5⟩ ⟨g_blind D cy G H.size _, fun U hU hW => ⟨rfl, by rw [hU], fun a e h => by rw [hU]; exact (hw.1 a e h).1, g_K.moved hW.alike hK⟩⟩ rfl hn hl.1 hst (lv_room hcat) hd hr.2) (fun r G' hp H1 locs1 hw1 => kk r G' hp H1 locs1 ls hw1 hl)
/-- Object.<init> -/
theorem g_obj (C : g_OK κ l0 D0 cy0 y nL cc rm ret) (h1 : Cond.methodLink y.cls index Lib.objectInit ∈ lw_T) (h2 : Cond.instanceMethod Lib.objectInit ∈ lw_T) (h3 : Cond.code Lib.objectInit ⟨#[0xb1]⟩ 1 none ∈ lw_T) (hf : 1 ≤ rm.frames) (hlo : (rest.map fun v => v.category).sum + 12 ≤ rm.locals) (hd : decode cc pc = .ok (.invokespecial index, 3)) (kk : PG κ nL ce sl G lv (pc + 3) rest) : PG κ nL ce sl G lv pc (.ref a :: rest) := by
  obtain ⟨p, l, e, R, s, m, args, below, meth, c, D, cy, A, H0, Q⟩ := κ
  obtain ⟨⟨rfl, rfl, rfl⟩, h0, hb, hml, hown, hT, hK, hA, rfl, -⟩ := C
  intro H locs ls hw hl
  exact W.objInit h0 hb hown (hT _ h1) (hT _ h2) (hT _ h3) rfl (by rw [hml]; exact hl.1) rfl hd hf (show 2 * 0 + _ + 12 ≤ _ by omega) (kk H locs ls hw hl)
/-- returns -/
theorem g_ret {v : Option Value} (hC : g_OK κ l0 D0 cy0 y nL cc rm ret) (hR : g_RT κ post rm) (hp : post v G) (hc : ce ≤ rm.cells) (hs : sl ≤ rm.slots)
    (row : ∀ p l e R s m args below meth c D cy A H0 Q, κ = (p, l, e, R, s, m, args, below, meth, c, D, cy, A, H0, Q) → ∀ (H : Heap) (locs : List Loc) (ls : Array Slot), p.tables.exec = Jvm.exec → c.code = cc → meth.sig.returnType = ret → meth.locks = false → (∀ t : State, t.heap = H → s.WarmedH t.vm → g_Qc D A post args s (.returned v) t) → (∀ q ∈ locs, A q.base) → W p l e R s m args below meth c H locs rm.cells rm.slots (MQ below (g_Qc D A post) args s rm.cells rm.slots A) (F0 m pc ls st)) : PG κ nL ce sl G lv pc st := by
  obtain ⟨p, l, e, R, s, m, args, below, meth, c, D, cy, A, H0, Q⟩ := κ
  obtain ⟨rfl, hH⟩ := hR
  dsimp only at hH
  subst hH
  obtain ⟨-, h0, hb, hml, hown, hT, hK, hA, -, hr, hlocks, -⟩ := hC
  intro H locs ls hw hl
  refine W.widen hc hs (row p l e R s m args below meth c D cy A s.heap _ rfl H locs ls h0 hb hr hlocks ?_ hw.2.2.2)
  intro t ht hW
  exact ⟨⟨v, G, rfl, hp, fun a e h => by rw [ht]; exact hw.1 a e h⟩, hw.2.F ht⟩
theorem g_iret {v : Int32} (C : g_OK κ l0 D0 cy0 y nL cc rm (some .int)) (hR : g_RT κ post rm) (hp : post (some (.int v)) G) (hc : ce ≤ rm.cells) (hs : sl ≤ rm.slots) (hd : decode cc pc = .ok (.ireturn, 1)) : PG κ nL ce sl G lv pc [.int v] :=
  g_ret C hR hp hc hs (fun p l e R s m args below meth c D cy A H0 Q h9 H locs ls h0 hb hr hlocks hq hf => W.iret h0 hb hr hq hf hd hlocks)
theorem g_zret {v : Int32} (C : g_OK κ l0 D0 cy0 y nL cc rm (some .boolean)) (hR : g_RT κ post rm) (hv : narrow .boolean (.int v) = .int v) (hp : post (some (.int v)) G) (hc : ce ≤ rm.cells) (hs : sl ≤ rm.slots) (hd : decode cc pc = .ok (.ireturn, 1)) : PG κ nL ce sl G lv pc [.int v] :=
  g_ret C hR hp hc hs (fun p l e R s m args below meth c D cy A H0 Q h9 H locs ls h0 hb hr hlocks hq hf => W.zret h0 hb hr hv hq hf hd hlocks)
theorem g_lret {v : Int64} (C : g_OK κ l0 D0 cy0 y nL cc rm (some .long)) (hR : g_RT κ post rm) (hp : post (some (.long v)) G) (hc : ce ≤ rm.cells) (hs : sl ≤ rm.slots) (hd : decode cc pc = .ok (.lreturn, 1)) : PG κ nL ce sl G lv pc [.long v] :=
  g_ret C hR hp hc hs (fun p l e R s m args below meth c D cy A H0 Q h9 H locs ls h0 hb hr hlocks hq hf => W.lret h0 hb hr hq hf hd hlocks)
theorem g_dret {v : UInt64} (C : g_OK κ l0 D0 cy0 y nL cc rm (some .double)) (hR : g_RT κ post rm) (hp : post (some (.double v)) G) (hc : ce ≤ rm.cells) (hs : sl ≤ rm.slots) (hd : decode cc pc = .ok (.dreturn, 1)) : PG κ nL ce sl G lv pc [.double v] :=
  g_ret C hR hp hc hs (fun p l e R s m args below meth c D cy A H0 Q h9 H locs ls h0 hb hr hlocks hq hf => W.dret h0 hb hr hq hf hd hlocks)
theorem g_vret (C : g_OK κ l0 D0 cy0 y nL cc rm none) (hR : g_RT κ post rm) (hp : post none G) (hc : ce ≤ rm.cells) (hs : sl ≤ rm.slots) (hd : decode cc pc = .ok (.return_, 1)) : PG κ nL ce sl G lv pc [] :=
  g_ret C hR hp hc hs (fun p l e R s m args below meth c D cy A H0 Q h9 H locs ls h0 hb hr hlocks hq hf => W.vret h0 hb hr hq hf hd hlocks)
theorem g_aret {rt : FieldType} {v : Value} (C : g_OK κ l0 D0 cy0 y nL cc rm (some rt)) (hR : g_RT κ post rm) (hrt : (∃ n, rt = .object n) ∨ ∃ t, rt = .array t) (hv : v = .null ∨ ∃ a, v = .ref a) (hp : post (some v) G) (hc : ce ≤ rm.cells) (hs : sl ≤ rm.slots) (hd : decode cc pc = .ok (.areturn, 1)) : PG κ nL ce sl G lv pc [v] :=
  g_ret C hR hp hc hs (fun p l e R s m args below meth c D cy A H0 Q h9 H locs ls h0 hb hr hlocks hq hf => W.aret h0 hb hr hrt hv hq hf hd hlocks)
end PGC
/-! answers by their kinds -/
def pI (f : Int32 → GG → Prop) : Option Value → GG → Prop := fun r G' => ∃ v, r = some (.int v) ∧ f v G'
def pL (f : Int64 → GG → Prop) : Option Value → GG → Prop := fun r G' => ∃ v, r = some (.long v) ∧ f v G'
def pD (f : UInt64 → GG → Prop) : Option Value → GG → Prop := fun r G' => ∃ v, r = some (.double v) ∧ f v G'
def pA (f : Value → GG → Prop) : Option Value → GG → Prop := fun r G' => ∃ v, r = some v ∧ f v G'
def pV (f : GG → Prop) : Option Value → GG → Prop := fun r G' => r = none ∧ f G'
section PGK
variable {κ : Kx} {l0 : Launch} {D0 : va_G} {cy0 : Nat → ClassId} {y : MethodName} {nL ce sl index : Nat} {cc : ByteArray} {rm : Room} {ret : Option FieldType} {G : GG} {lv lv' : LV} {pc : Nat} {st rest : List Value}
theorem g_kI {f : Int32 → GG → Prop} (k : ∀ v G', f v G' → PG κ nL ce sl G' lv pc (.int v :: rest)) : ∀ r G', pI f r G' → PG κ nL ce sl G' lv pc (r.toList ++ rest) := fun _ G' ⟨v, h, hf⟩ => by rw [h]; exact k v G' hf
theorem g_kL {f : Int64 → GG → Prop} (k : ∀ v G', f v G' → PG κ nL ce sl G' lv pc (.long v :: rest)) : ∀ r G', pL f r G' → PG κ nL ce sl G' lv pc (r.toList ++ rest) := fun _ G' ⟨v, h, hf⟩ => by rw [h]; exact k v G' hf
theorem g_kD {f : UInt64 → GG → Prop} (k : ∀ v G', f v G' → PG κ nL ce sl G' lv pc (.double v :: rest)) : ∀ r G', pD f r G' → PG κ nL ce sl G' lv pc (r.toList ++ rest) := fun _ G' ⟨v, h, hf⟩ => by rw [h]; exact k v G' hf
theorem g_kA {f : Value → GG → Prop} (k : ∀ v G', f v G' → PG κ nL ce sl G' lv pc (v :: rest)) : ∀ r G', pA f r G' → PG κ nL ce sl G' lv pc (r.toList ++ rest) := fun _ G' ⟨v, h, hf⟩ => by rw [h]; exact k v G' hf
theorem g_kV {f : GG → Prop} (k : ∀ G', f G' → PG κ nL ce sl G' lv pc rest) : ∀ r G', pV f r G' → PG κ nL ce sl G' lv pc (r.toList ++ rest) := fun _ G' ⟨h, hf⟩ => by rw [h]; exact k G' hf
theorem g_subp (ks : List Nat) (h : lv_pick lv ks = lv') (k : PG κ nL ce sl G lv' pc st) : PG κ nL ce sl G lv pc st := by
  obtain ⟨p, l, e, R, s, m, args, below, meth, c, D, cy, A, H0, Q⟩ := κ
  exact fun H locs ls hw hl => k H locs ls hw (lv_sub hl ks h)
theorem g_mmax {x y1 : Int32} (C : g_OK κ l0 D0 cy0 y nL cc rm ret) (h1 : Cond.methodLink y.cls index Lib.Math.max.name ∈ lw_T) (h2 : Cond.static Lib.Math.max.name ∈ lw_T) (h3 : Cond.initialized "java/lang/Math" ∈ lw_T) (h4 : Cond.code Lib.Math.max.name Lib.Math.max.code 2 (some .int) ∈ lw_T) (hf : 1 ≤ rm.frames) (hlo : (rest.map fun v => v.category).sum + 13 ≤ rm.locals) (hc : ce ≤ rm.cells) (hs : sl ≤ rm.slots) (hd : decode cc pc = .ok (.invokestatic index, 3)) (k : PG κ nL ce sl G lv (pc + 3) (.int (if x < y1 then y1 else x) :: rest)) : PG κ nL ce sl G lv pc (.int y1 :: .int x :: rest) := by
  obtain ⟨p, l, e, R, s, m, args, below, meth, c, D, cy, A, H0, Q⟩ := κ
  obtain ⟨⟨rfl, rfl, rfl⟩, h0, hb, hml, hown, hT, hK, hA, rfl, -⟩ := C
  exact fun H locs ls hw hl => va_mmax h0 hb (hml.trans hl.1.symm) hown (hT _ h1) (hT _ h2) (hT _ h3) (hT _ h4) hf hlo hc hs hd (k H locs ls hw hl)
theorem g_mabs {x : Int32} (C : g_OK κ l0 D0 cy0 y nL cc rm ret) (h1 : Cond.methodLink y.cls index Lib.Math.abs.name ∈ lw_T) (h2 : Cond.static Lib.Math.abs.name ∈ lw_T) (h3 : Cond.initialized "java/lang/Math" ∈ lw_T) (h4 : Cond.code Lib.Math.abs.name Lib.Math.abs.code 1 (some .int) ∈ lw_T) (hf : 1 ≤ rm.frames) (hlo : (rest.map fun v => v.category).sum + 13 ≤ rm.locals) (hc : ce ≤ rm.cells) (hs : sl ≤ rm.slots) (hd : decode cc pc = .ok (.invokestatic index, 3)) (k : PG κ nL ce sl G lv (pc + 3) (.int (if 0 ≤ x then x else 0 - x) :: rest)) : PG κ nL ce sl G lv pc (.int x :: rest) := by
  obtain ⟨p, l, e, R, s, m, args, below, meth, c, D, cy, A, H0, Q⟩ := κ
  obtain ⟨⟨rfl, rfl, rfl⟩, h0, hb, hml, hown, hT, hK, hA, rfl, -⟩ := C
  exact fun H locs ls hw hl => va_mabs h0 hb (hml.trans hl.1.symm) hown (hT _ h1) (hT _ h2) (hT _ h3) (hT _ h4) hf hlo hc hs hd (k H locs ls hw hl)
/-- reading a row of references that are given out from 0 on -/
def oA (c : ClassId) (len : Nat) (ad : Nat → Nat) (n : Nat) : va_E := .inl (c, len, .inr (.inr (.inr (.inr (fun i => if i < n then some (ad i) else none)))))
theorem g_aaldA {a len t0 n : Nat} {C1 : String} {cA : ClassId} {ad : Nat → Nat} {x : Int32} {j : Nat} (C : g_OK κ l0 D0 cy0 y nL cc rm ret) (ha : G a = some (oA cA len ad n)) (ht : (g_tys cy0)[t0]? = some (cA, .object C1)) (hx : x = nI j) (hj : j < len) (hlen : len < 2 ^ 31) (hd : decode cc pc = .ok (.aaload, 1)) (k1 : j < n → PG κ nL ce sl G lv (pc + 1) (.ref (ad j) :: rest)) (k2 : ¬ j < n → PG κ nL ce sl G lv (pc + 1) (.null :: rest)) : PG κ nL ce sl G lv pc (.int x :: .ref a :: rest) := by
  refine g_aald C ha ht (by rw [hx]; exact vp_in_nI hj hlen) hd ?_
  rw [hx, nI_clamp (by omega)]
  by_cases h : j < n
  · rw [if_pos h]; exact k1 h
  · rw [if_neg h]; exact k2 h
theorem g_alenA {a len t0 n : Nat} {C1 : String} {cA : ClassId} {ad : Nat → Nat} (C : g_OK κ l0 D0 cy0 y nL cc rm ret) (ha : G a = some (oA cA len ad n)) (ht : (g_tys cy0)[t0]? = some (cA, .object C1)) (hd : decode cc pc = .ok (.arraylength, 1)) (k : PG κ nL ce sl G lv (pc + 1) (.int (nI len) :: rest)) : PG κ nL ce sl G lv pc (.ref a :: rest) :=
  g_alen C ha ht (vp_cell_q ..) hd k
end PGK
end
section
abbrev yX4_init : MethodName := ⟨"CircusLines", "<init>", "()V"⟩
abbrev yX4_trapeze : MethodName := ⟨"CircusLines", "trapeze", "(II)I"⟩
abbrev yX4_trapezeNumbered : MethodName := ⟨"CircusLines", "trapezeNumbered", "(I)LCircusLines$Trapeze;"⟩
abbrev yX4_isWithin : MethodName := ⟨"CircusLines", "isWithin", "(III)Z"⟩
abbrev yX4_ofTrapeze : MethodName := ⟨"CircusLines", "ofTrapeze", "(LCircusLines$Trapeze;II)I"⟩
abbrev yX3_placeIn : MethodName := ⟨"CircusLines$Trapeze", "placeIn", "(I)I"⟩
abbrev yX3_placeSinceLeftEnd : MethodName := ⟨"CircusLines$Trapeze", "placeSinceLeftEnd", "(II)I"⟩
abbrev yX3_halfSwing : MethodName := ⟨"CircusLines$Trapeze", "halfSwing", "(I)I"⟩
abbrev yX4_hangersOf : MethodName := ⟨"CircusLines", "hangersOf", "(I)I"⟩
abbrev yX1_hangsFrom : MethodName := ⟨"CircusLines$Flyer", "hangsFrom", "(I)Z"⟩
abbrev yX4_flyer : MethodName := ⟨"CircusLines", "flyer", "(II)I"⟩
abbrev yX4_flyerNumbered : MethodName := ⟨"CircusLines", "flyerNumbered", "(I)LCircusLines$Flyer;"⟩
abbrev yX4_ofFlyer : MethodName := ⟨"CircusLines", "ofFlyer", "(LCircusLines$Flyer;I)I"⟩
abbrev yX4_called : MethodName := ⟨"CircusLines", "called", "(II)I"⟩
abbrev yX4_ofCue : MethodName := ⟨"CircusLines", "ofCue", "(LCircusLines$Cue;I)I"⟩
abbrev yX4_count : MethodName := ⟨"CircusLines", "count", "(I)I"⟩
abbrev yX4_tally : MethodName := ⟨"CircusLines", "tally", "(I)I"⟩
abbrev yX4_wholeTrapezes : MethodName := ⟨"CircusLines", "wholeTrapezes", "()I"⟩
abbrev yX4_flyersWhoAre : MethodName := ⟨"CircusLines", "flyersWhoAre", "(I)I"⟩
abbrev yX4_openCues : MethodName := ⟨"CircusLines", "openCues", "()I"⟩
abbrev yX4_place : MethodName := ⟨"CircusLines", "place", "(II)I"⟩
abbrev yX4_go : MethodName := ⟨"CircusLines", "go", "(I)I"⟩
abbrev yX4_passBeats : MethodName := ⟨"CircusLines", "passBeats", "(I)I"⟩
abbrev yX4_callCues : MethodName := ⟨"CircusLines", "callCues", "()V"⟩
abbrev yX4_letGo : MethodName := ⟨"CircusLines", "letGo", "(LCircusLines$Cue;)Z"⟩
abbrev yX1_flyTo : MethodName := ⟨"CircusLines$Flyer", "flyTo", "(II)V"⟩
abbrev yX4_endFlights : MethodName := ⟨"CircusLines", "endFlights", "()I"⟩
abbrev yX1_comesIn : MethodName := ⟨"CircusLines$Flyer", "comesIn", "(I)Z"⟩
abbrev yX4_catcherAt : MethodName := ⟨"CircusLines", "catcherAt", "(I)I"⟩
abbrev yX4_isNear : MethodName := ⟨"CircusLines", "isNear", "(II)Z"⟩
abbrev yX4_isNetSpreadAt : MethodName := ⟨"CircusLines", "isNetSpreadAt", "(I)Z"⟩
abbrev yX1_fall : MethodName := ⟨"CircusLines$Flyer", "fall", "(Z)V"⟩
abbrev yX1_hangFrom : MethodName := ⟨"CircusLines$Flyer", "hangFrom", "(I)V"⟩
abbrev yX4_wearRopes : MethodName := ⟨"CircusLines", "wearRopes", "()V"⟩
abbrev yX3_isAtLeftEndIn : MethodName := ⟨"CircusLines$Trapeze", "isAtLeftEndIn", "(I)Z"⟩
abbrev yX3_wear : MethodName := ⟨"CircusLines$Trapeze", "wear", "(I)V"⟩
abbrev yX4_dropFrom : MethodName := ⟨"CircusLines", "dropFrom", "(II)V"⟩
abbrev yX4_meets : MethodName := ⟨"CircusLines", "meets", "(II)I"⟩
abbrev yX4_foresee : MethodName := ⟨"CircusLines", "foresee", "(II)I"⟩
abbrev yX4_keepAct : MethodName := ⟨"CircusLines", "keepAct", "()V"⟩
abbrev yX3_keep : MethodName := ⟨"CircusLines$Trapeze", "keep", "()V"⟩
abbrev yX1_keep : MethodName := ⟨"CircusLines$Flyer", "keep", "()V"⟩
abbrev yX0_keep : MethodName := ⟨"CircusLines$Cue", "keep", "()V"⟩
abbrev yX4_takeActBack : MethodName := ⟨"CircusLines", "takeActBack", "()V"⟩
abbrev yX3_takeBack : MethodName := ⟨"CircusLines$Trapeze", "takeBack", "()V"⟩
abbrev yX1_takeBack : MethodName := ⟨"CircusLines$Flyer", "takeBack", "()V"⟩
abbrev yX0_takeBack : MethodName := ⟨"CircusLines$Cue", "takeBack", "()V"⟩
abbrev yX5_go : MethodName := ⟨"CircusLinesLaw$Sim", "go", "()I"⟩
abbrev yX5_place : MethodName := ⟨"CircusLinesLaw$Sim", "place", "([II)I"⟩
abbrev yX5_state : MethodName := ⟨"CircusLinesLaw$Sim", "state", "([IIIII)V"⟩
abbrev yX5_hang : MethodName := ⟨"CircusLinesLaw$Sim", "hang", "(I)I"⟩
abbrev yX5_falls : MethodName := ⟨"CircusLinesLaw$Sim", "falls", "([II)V"⟩
abbrev yX5_net : MethodName := ⟨"CircusLinesLaw$Sim", "net", "(I)Z"⟩
abbrev yX5_isSame : MethodName := ⟨"CircusLinesLaw$Sim", "isSame", "(LCircusLines;)Z"⟩
abbrev yX5_in : MethodName := ⟨"CircusLinesLaw$Sim", "in", "(I)I"⟩
abbrev yX5_open : MethodName := ⟨"CircusLinesLaw$Sim", "open", "()I"⟩
abbrev yX4_mean : MethodName := ⟨"CircusLines", "mean", "()D"⟩
abbrev yL_cell : MethodName := ⟨"CircusLinesLaw", "cell", "([II)I"⟩
abbrev yL_act : MethodName := ⟨"CircusLinesLaw", "act", "(LCircusLines;LCircusLinesLaw$Sim;I)Z"⟩
abbrev yL_below : MethodName := ⟨"CircusLinesLaw", "below", "(II)I"⟩
abbrev yX5_more : MethodName := ⟨"CircusLinesLaw$Sim", "more", "([[I[I)[[I"⟩
abbrev yX4_rig : MethodName := ⟨"CircusLines", "rig", "(IIII)I"⟩
abbrev yX3_init : MethodName := ⟨"CircusLines$Trapeze", "<init>", "(IIIII)V"⟩
abbrev yX4_weigh : MethodName := ⟨"CircusLines", "weigh", "(II)I"⟩
abbrev yX3_setWeight : MethodName := ⟨"CircusLines$Trapeze", "setWeight", "(II)V"⟩
abbrev yX4_mend : MethodName := ⟨"CircusLines", "mend", "(I)I"⟩
abbrev yX3_renewRope : MethodName := ⟨"CircusLines$Trapeze", "renewRope", "()V"⟩
abbrev yX4_join : MethodName := ⟨"CircusLines", "join", "()I"⟩
abbrev yX1_init : MethodName := ⟨"CircusLines$Flyer", "<init>", "()V"⟩
abbrev yX4_mount : MethodName := ⟨"CircusLines", "mount", "(II)I"⟩
abbrev yX1_canMount : MethodName := ⟨"CircusLines$Flyer", "canMount", "()Z"⟩
abbrev yX4_spread : MethodName := ⟨"CircusLines", "spread", "(II)I"⟩
abbrev yX2_init : MethodName := ⟨"CircusLines$Net", "<init>", "(II)V"⟩
abbrev yX4_cue : MethodName := ⟨"CircusLines", "cue", "(IIII)I"⟩
abbrev yX0_init : MethodName := ⟨"CircusLines$Cue", "<init>", "(IIII)V"⟩
abbrev yL_build : MethodName := ⟨"CircusLinesLaw", "build", "(LCircusLines;[I)LCircusLinesLaw$Sim;"⟩
abbrev yX5_init : MethodName := ⟨"CircusLinesLaw$Sim", "<init>", "()V"⟩
abbrev kL_act : Room := { frames := 7, cells := 3, slots := 38, locals := 121 }
abbrev kL_below : Room := { frames := 0, cells := 0, slots := 0, locals := 0 }
abbrev kL_build : Room := { frames := 8, cells := 95, slots := 1145, locals := 160 }
abbrev kL_cell : Room := { frames := 0, cells := 0, slots := 0, locals := 0 }
abbrev kX0_init : Room := { frames := 1, cells := 0, slots := 0, locals := 20 }
abbrev kX0_keep : Room := { frames := 0, cells := 0, slots := 0, locals := 0 }
abbrev kX0_takeBack : Room := { frames := 0, cells := 0, slots := 0, locals := 0 }
abbrev kX1_canMount : Room := { frames := 0, cells := 0, slots := 0, locals := 0 }
abbrev kX1_comesIn : Room := { frames := 0, cells := 0, slots := 0, locals := 0 }
abbrev kX1_fall : Room := { frames := 0, cells := 0, slots := 0, locals := 0 }
abbrev kX1_flyTo : Room := { frames := 0, cells := 0, slots := 0, locals := 0 }
abbrev kX1_hangFrom : Room := { frames := 0, cells := 0, slots := 0, locals := 0 }
abbrev kX1_hangsFrom : Room := { frames := 0, cells := 0, slots := 0, locals := 0 }
abbrev kX1_init : Room := { frames := 1, cells := 0, slots := 0, locals := 20 }
abbrev kX1_keep : Room := { frames := 0, cells := 0, slots := 0, locals := 0 }
abbrev kX1_takeBack : Room := { frames := 0, cells := 0, slots := 0, locals := 0 }
abbrev kX2_init : Room := { frames := 1, cells := 0, slots := 0, locals := 20 }
abbrev kX3_halfSwing : Room := { frames := 1, cells := 0, slots := 0, locals := 24 }
abbrev kX3_init : Room := { frames := 1, cells := 0, slots := 0, locals := 20 }
abbrev kX3_isAtLeftEndIn : Room := { frames := 2, cells := 0, slots := 0, locals := 44 }
abbrev kX3_keep : Room := { frames := 0, cells := 0, slots := 0, locals := 0 }
abbrev kX3_placeIn : Room := { frames := 3, cells := 0, slots := 0, locals := 68 }
abbrev kX3_placeSinceLeftEnd : Room := { frames := 2, cells := 0, slots := 0, locals := 44 }
abbrev kX3_renewRope : Room := { frames := 0, cells := 0, slots := 0, locals := 0 }
abbrev kX3_setWeight : Room := { frames := 0, cells := 0, slots := 0, locals := 0 }
abbrev kX3_takeBack : Room := { frames := 0, cells := 0, slots := 0, locals := 0 }
abbrev kX3_wear : Room := { frames := 0, cells := 0, slots := 0, locals := 0 }
abbrev kX4_callCues : Room := { frames := 5, cells := 0, slots := 0, locals := 112 }
abbrev kX4_called : Room := { frames := 6, cells := 1, slots := 6, locals := 96 }
abbrev kX4_catcherAt : Room := { frames := 4, cells := 0, slots := 0, locals := 89 }
abbrev kX4_count : Room := { frames := 6, cells := 1, slots := 6, locals := 96 }
abbrev kX4_cue : Room := { frames := 6, cells := 1, slots := 6, locals := 96 }
abbrev kX4_dropFrom : Room := { frames := 2, cells := 0, slots := 0, locals := 47 }
abbrev kX4_endFlights : Room := { frames := 5, cells := 0, slots := 0, locals := 112 }
abbrev kX4_flyer : Room := { frames := 6, cells := 1, slots := 6, locals := 96 }
abbrev kX4_flyerNumbered : Room := { frames := 1, cells := 0, slots := 0, locals := 22 }
abbrev kX4_flyersWhoAre : Room := { frames := 0, cells := 0, slots := 0, locals := 0 }
abbrev kX4_foresee : Room := { frames := 7, cells := 1, slots := 6, locals := 161 }
abbrev kX4_go : Room := { frames := 7, cells := 1, slots := 6, locals := 161 }
abbrev kX4_hangersOf : Room := { frames := 1, cells := 0, slots := 0, locals := 21 }
abbrev kX4_init : Room := { frames := 1, cells := 4, slots := 37, locals := 20 }
abbrev kX4_isNear : Room := { frames := 0, cells := 0, slots := 0, locals := 0 }
abbrev kX4_isNetSpreadAt : Room := { frames := 1, cells := 0, slots := 0, locals := 22 }
abbrev kX4_isWithin : Room := { frames := 0, cells := 0, slots := 0, locals := 0 }
abbrev kX4_join : Room := { frames := 6, cells := 1, slots := 10, locals := 96 }
abbrev kX4_keepAct : Room := { frames := 1, cells := 0, slots := 0, locals := 20 }
abbrev kX4_letGo : Room := { frames := 4, cells := 0, slots := 0, locals := 89 }
abbrev kX4_mean : Room := { frames := 0, cells := 0, slots := 0, locals := 0 }
abbrev kX4_meets : Room := { frames := 6, cells := 1, slots := 6, locals := 96 }
abbrev kX4_mend : Room := { frames := 6, cells := 1, slots := 6, locals := 96 }
abbrev kX4_mount : Room := { frames := 6, cells := 1, slots := 6, locals := 96 }
abbrev kX4_ofCue : Room := { frames := 0, cells := 0, slots := 0, locals := 0 }
abbrev kX4_ofFlyer : Room := { frames := 0, cells := 0, slots := 0, locals := 0 }
abbrev kX4_ofTrapeze : Room := { frames := 4, cells := 0, slots := 0, locals := 89 }
abbrev kX4_openCues : Room := { frames := 0, cells := 0, slots := 0, locals := 0 }
abbrev kX4_passBeats : Room := { frames := 6, cells := 0, slots := 0, locals := 138 }
abbrev kX4_place : Room := { frames := 6, cells := 1, slots := 6, locals := 96 }
abbrev kX4_rig : Room := { frames := 6, cells := 1, slots := 9, locals := 96 }
abbrev kX4_spread : Room := { frames := 6, cells := 1, slots := 6, locals := 96 }
abbrev kX4_takeActBack : Room := { frames := 1, cells := 0, slots := 0, locals := 20 }
abbrev kX4_tally : Room := { frames := 1, cells := 0, slots := 0, locals := 26 }
abbrev kX4_trapeze : Room := { frames := 6, cells := 1, slots := 6, locals := 112 }
abbrev kX4_trapezeNumbered : Room := { frames := 1, cells := 0, slots := 0, locals := 22 }
abbrev kX4_wearRopes : Room := { frames := 4, cells := 0, slots := 0, locals := 89 }
abbrev kX4_weigh : Room := { frames := 6, cells := 1, slots := 6, locals := 96 }
abbrev kX4_wholeTrapezes : Room := { frames := 0, cells := 0, slots := 0, locals := 0 }
abbrev kX5_falls : Room := { frames := 1, cells := 0, slots := 0, locals := 25 }
abbrev kX5_go : Room := { frames := 2, cells := 0, slots := 0, locals := 47 }
abbrev kX5_hang : Room := { frames := 0, cells := 0, slots := 0, locals := 0 }
abbrev kX5_in : Room := { frames := 0, cells := 0, slots := 0, locals := 0 }
abbrev kX5_init : Room := { frames := 1, cells := 4, slots := 0, locals := 20 }
abbrev kX5_isSame : Room := { frames := 7, cells := 204, slots := 1239, locals := 135 }
abbrev kX5_more : Room := { frames := 0, cells := 1, slots := 21, locals := 0 }
abbrev kX5_net : Room := { frames := 0, cells := 0, slots := 0, locals := 0 }
abbrev kX5_open : Room := { frames := 0, cells := 0, slots := 0, locals := 0 }
abbrev kX5_place : Room := { frames := 0, cells := 0, slots := 0, locals := 0 }
abbrev kX5_state : Room := { frames := 0, cells := 0, slots := 0, locals := 0 }
theorem q0 : (Cond.selects "CircusLines" ⟨"CircusLines", "trapezeNumbered", "(I)LCircusLines$Trapeze;"⟩ ⟨"CircusLines", "trapezeNumbered", "(I)LCircusLines$Trapeze;"⟩ : Cond) ∈ lw_T := lw_T_in (i := 0) (by decide +kernel) rfl
theorem q1 : (Cond.selects "java/lang/Throwable" ⟨"java/lang/Throwable", "fillInStackTrace", "(I)Ljava/lang/Throwable;"⟩ ⟨"java/lang/Throwable", "fillInStackTrace", "(I)Ljava/lang/Throwable;"⟩ : Cond) ∈ lw_T := lw_T_in (i := 1) (by decide +kernel) rfl
theorem q2 : (Cond.selects "CircusLines" ⟨"CircusLines", "ofTrapeze", "(LCircusLines$Trapeze;II)I"⟩ ⟨"CircusLines", "ofTrapeze", "(LCircusLines$Trapeze;II)I"⟩ : Cond) ∈ lw_T := lw_T_in (i := 2) (by decide +kernel) rfl
theorem q3 : (Cond.selects "CircusLines" ⟨"CircusLines", "hangersOf", "(I)I"⟩ ⟨"CircusLines", "hangersOf", "(I)I"⟩ : Cond) ∈ lw_T := lw_T_in (i := 3) (by decide +kernel) rfl
theorem q4 : (Cond.selects "CircusLines" ⟨"CircusLines", "flyerNumbered", "(I)LCircusLines$Flyer;"⟩ ⟨"CircusLines", "flyerNumbered", "(I)LCircusLines$Flyer;"⟩ : Cond) ∈ lw_T := lw_T_in (i := 4) (by decide +kernel) rfl
theorem q5 : (Cond.selects "CircusLines" ⟨"CircusLines", "ofFlyer", "(LCircusLines$Flyer;I)I"⟩ ⟨"CircusLines", "ofFlyer", "(LCircusLines$Flyer;I)I"⟩ : Cond) ∈ lw_T := lw_T_in (i := 5) (by decide +kernel) rfl
theorem q6 : (Cond.selects "CircusLines" ⟨"CircusLines", "tally", "(I)I"⟩ ⟨"CircusLines", "tally", "(I)I"⟩ : Cond) ∈ lw_T := lw_T_in (i := 6) (by decide +kernel) rfl
theorem q7 : (Cond.selects "CircusLines" ⟨"CircusLines", "wholeTrapezes", "()I"⟩ ⟨"CircusLines", "wholeTrapezes", "()I"⟩ : Cond) ∈ lw_T := lw_T_in (i := 7) (by decide +kernel) rfl
theorem q8 : (Cond.selects "CircusLines" ⟨"CircusLines", "flyersWhoAre", "(I)I"⟩ ⟨"CircusLines", "flyersWhoAre", "(I)I"⟩ : Cond) ∈ lw_T := lw_T_in (i := 8) (by decide +kernel) rfl
theorem q9 : (Cond.selects "CircusLines" ⟨"CircusLines", "openCues", "()I"⟩ ⟨"CircusLines", "openCues", "()I"⟩ : Cond) ∈ lw_T := lw_T_in (i := 9) (by decide +kernel) rfl
theorem q10 : (Cond.selects "CircusLines" ⟨"CircusLines", "passBeats", "(I)I"⟩ ⟨"CircusLines", "passBeats", "(I)I"⟩ : Cond) ∈ lw_T := lw_T_in (i := 10) (by decide +kernel) rfl
theorem q11 : (Cond.selects "CircusLines" ⟨"CircusLines", "callCues", "()V"⟩ ⟨"CircusLines", "callCues", "()V"⟩ : Cond) ∈ lw_T := lw_T_in (i := 11) (by decide +kernel) rfl
theorem q12 : (Cond.selects "CircusLines" ⟨"CircusLines", "letGo", "(LCircusLines$Cue;)Z"⟩ ⟨"CircusLines", "letGo", "(LCircusLines$Cue;)Z"⟩ : Cond) ∈ lw_T := lw_T_in (i := 12) (by decide +kernel) rfl
theorem q13 : (Cond.selects "CircusLines" ⟨"CircusLines", "endFlights", "()I"⟩ ⟨"CircusLines", "endFlights", "()I"⟩ : Cond) ∈ lw_T := lw_T_in (i := 13) (by decide +kernel) rfl
theorem q14 : (Cond.selects "CircusLines" ⟨"CircusLines", "catcherAt", "(I)I"⟩ ⟨"CircusLines", "catcherAt", "(I)I"⟩ : Cond) ∈ lw_T := lw_T_in (i := 14) (by decide +kernel) rfl
theorem q15 : (Cond.selects "CircusLines" ⟨"CircusLines", "isNetSpreadAt", "(I)Z"⟩ ⟨"CircusLines", "isNetSpreadAt", "(I)Z"⟩ : Cond) ∈ lw_T := lw_T_in (i := 15) (by decide +kernel) rfl
theorem q16 : (Cond.selects "CircusLines" ⟨"CircusLines", "wearRopes", "()V"⟩ ⟨"CircusLines", "wearRopes", "()V"⟩ : Cond) ∈ lw_T := lw_T_in (i := 16) (by decide +kernel) rfl
theorem q17 : (Cond.selects "CircusLines" ⟨"CircusLines", "dropFrom", "(II)V"⟩ ⟨"CircusLines", "dropFrom", "(II)V"⟩ : Cond) ∈ lw_T := lw_T_in (i := 17) (by decide +kernel) rfl
theorem q18 : (Cond.selects "CircusLines" ⟨"CircusLines", "keepAct", "()V"⟩ ⟨"CircusLines", "keepAct", "()V"⟩ : Cond) ∈ lw_T := lw_T_in (i := 18) (by decide +kernel) rfl
theorem q19 : (Cond.selects "CircusLines" ⟨"CircusLines", "takeActBack", "()V"⟩ ⟨"CircusLines", "takeActBack", "()V"⟩ : Cond) ∈ lw_T := lw_T_in (i := 19) (by decide +kernel) rfl
theorem q20 : (Cond.initialized "CircusLinesLaw" : Cond) ∈ lw_T := lw_T_in (i := 20) (by decide +kernel) rfl
theorem q21 : (Cond.initialized "CircusLines" : Cond) ∈ lw_T := lw_T_in (i := 21) (by decide +kernel) rfl
theorem q22 : (Cond.initialized "CircusLinesLaw$Sim" : Cond) ∈ lw_T := lw_T_in (i := 22) (by decide +kernel) rfl
theorem q23 : (Cond.initialized "java/lang/Throwable" : Cond) ∈ lw_T := lw_T_in (i := 23) (by decide +kernel) rfl
theorem q24 : (Cond.initialized "java/lang/Exception" : Cond) ∈ lw_T := lw_T_in (i := 24) (by decide +kernel) rfl
theorem q25 : (Cond.initialized "java/lang/RuntimeException" : Cond) ∈ lw_T := lw_T_in (i := 25) (by decide +kernel) rfl
theorem q26 : (Cond.initialized "java/lang/IllegalArgumentException" : Cond) ∈ lw_T := lw_T_in (i := 26) (by decide +kernel) rfl
theorem q27 : (Cond.initialized "java/lang/IllegalStateException" : Cond) ∈ lw_T := lw_T_in (i := 27) (by decide +kernel) rfl
theorem q28 : (Cond.initialized "CircusLines$Trapeze" : Cond) ∈ lw_T := lw_T_in (i := 28) (by decide +kernel) rfl
theorem q29 : (Cond.initialized "java/lang/IndexOutOfBoundsException" : Cond) ∈ lw_T := lw_T_in (i := 29) (by decide +kernel) rfl
theorem q30 : (Cond.initialized "CircusLines$Flyer" : Cond) ∈ lw_T := lw_T_in (i := 30) (by decide +kernel) rfl
theorem q31 : (Cond.initialized "java/lang/Math" : Cond) ∈ lw_T := lw_T_in (i := 31) (by decide +kernel) rfl
theorem q32 : (Cond.initialized "CircusLines$Net" : Cond) ∈ lw_T := lw_T_in (i := 32) (by decide +kernel) rfl
theorem q33 : (Cond.initialized "CircusLines$Cue" : Cond) ∈ lw_T := lw_T_in (i := 33) (by decide +kernel) rfl
theorem q34 : (Cond.classLink "CircusLinesLaw" 29 "CircusLines" : Cond) ∈ lw_T := lw_T_in (i := 34) (by decide +kernel) rfl
theorem q35 : (Cond.instantiable "CircusLines" 9 : Cond) ∈ lw_T := lw_T_in (i := 35) (by decide +kernel) rfl
theorem q36 : (Cond.methodLink "CircusLinesLaw" 84 ⟨"CircusLines", "<init>", "()V"⟩ : Cond) ∈ lw_T := lw_T_in (i := 36) (by decide +kernel) rfl
theorem q37 : (Cond.instanceMethod ⟨"CircusLines", "<init>", "()V"⟩ : Cond) ∈ lw_T := lw_T_in (i := 37) (by decide +kernel) rfl
theorem q38 : (Cond.code ⟨"CircusLines", "<init>", "()V"⟩ prog_1_method_1_code 1 none : Cond) ∈ lw_T := lw_T_in (i := 38) (by decide +kernel) rfl
theorem q39 : (Cond.methodLink "CircusLines" 1 ⟨"java/lang/Object", "<init>", "()V"⟩ : Cond) ∈ lw_T := lw_T_in (i := 39) (by decide +kernel) rfl
theorem q40 : (Cond.instanceMethod ⟨"java/lang/Object", "<init>", "()V"⟩ : Cond) ∈ lw_T := lw_T_in (i := 40) (by decide +kernel) rfl
theorem q41 : (Cond.code ⟨"java/lang/Object", "<init>", "()V"⟩ object_method_1_code 1 none : Cond) ∈ lw_T := lw_T_in (i := 41) (by decide +kernel) rfl
theorem q42 : (Cond.classLink "CircusLines" 9 "CircusLines$Trapeze" : Cond) ∈ lw_T := lw_T_in (i := 42) (by decide +kernel) rfl
theorem q44 : (Cond.classLink "CircusLines" 15 "CircusLines$Flyer" : Cond) ∈ lw_T := lw_T_in (i := 44) (by decide +kernel) rfl
theorem q46 : (Cond.classLink "CircusLines" 21 "CircusLines$Cue" : Cond) ∈ lw_T := lw_T_in (i := 46) (by decide +kernel) rfl
theorem q48 : (Cond.classLink "CircusLines" 27 "CircusLines$Net" : Cond) ∈ lw_T := lw_T_in (i := 48) (by decide +kernel) rfl
theorem q50 : (Cond.fieldLink "CircusLines" 11 "CircusLines" "trapezes" "[LCircusLines$Trapeze;" : Cond) ∈ lw_T := lw_T_in (i := 50) (by decide +kernel) rfl
theorem q51 : (Cond.fieldLink "CircusLines" 17 "CircusLines" "flyers" "[LCircusLines$Flyer;" : Cond) ∈ lw_T := lw_T_in (i := 51) (by decide +kernel) rfl
theorem q52 : (Cond.fieldLink "CircusLines" 23 "CircusLines" "cues" "[LCircusLines$Cue;" : Cond) ∈ lw_T := lw_T_in (i := 52) (by decide +kernel) rfl
theorem q53 : (Cond.fieldLink "CircusLines" 29 "CircusLines" "nets" "[LCircusLines$Net;" : Cond) ∈ lw_T := lw_T_in (i := 53) (by decide +kernel) rfl
theorem q54 : (Cond.fieldLink "CircusLines" 44 "CircusLines" "trapezeCount" "I" : Cond) ∈ lw_T := lw_T_in (i := 54) (by decide +kernel) rfl
theorem q55 : (Cond.fieldLink "CircusLines" 98 "CircusLines" "flyerCount" "I" : Cond) ∈ lw_T := lw_T_in (i := 55) (by decide +kernel) rfl
theorem q56 : (Cond.fieldLink "CircusLines" 128 "CircusLines" "cueCount" "I" : Cond) ∈ lw_T := lw_T_in (i := 56) (by decide +kernel) rfl
theorem q57 : (Cond.fieldLink "CircusLines" 91 "CircusLines" "netCount" "I" : Cond) ∈ lw_T := lw_T_in (i := 57) (by decide +kernel) rfl
theorem q58 : (Cond.fieldLink "CircusLines" 53 "CircusLines" "beat" "I" : Cond) ∈ lw_T := lw_T_in (i := 58) (by decide +kernel) rfl
theorem q78 : (Cond.methodLink "CircusLinesLaw" 93 ⟨"CircusLines", "trapeze", "(II)I"⟩ : Cond) ∈ lw_T := lw_T_in (i := 78) (by decide +kernel) rfl
theorem q79 : (Cond.instanceMethod ⟨"CircusLines", "trapeze", "(II)I"⟩ : Cond) ∈ lw_T := lw_T_in (i := 79) (by decide +kernel) rfl
theorem q80 : (Cond.selects "CircusLines" ⟨"CircusLines", "trapeze", "(II)I"⟩ ⟨"CircusLines", "trapeze", "(II)I"⟩ : Cond) ∈ lw_T := lw_T_in (i := 80) (by decide +kernel) rfl
theorem q81 : (Cond.code ⟨"CircusLines", "trapeze", "(II)I"⟩ prog_1_method_9_code 4 (some .int) : Cond) ∈ lw_T := lw_T_in (i := 81) (by decide +kernel) rfl
theorem q82 : (Cond.methodLink "CircusLines" 59 ⟨"CircusLines", "trapezeNumbered", "(I)LCircusLines$Trapeze;"⟩ : Cond) ∈ lw_T := lw_T_in (i := 82) (by decide +kernel) rfl
theorem q84 : (Cond.instanceMethod ⟨"CircusLines", "trapezeNumbered", "(I)LCircusLines$Trapeze;"⟩ : Cond) ∈ lw_T := lw_T_in (i := 84) (by decide +kernel) rfl
theorem q85 : (Cond.code ⟨"CircusLines", "trapezeNumbered", "(I)LCircusLines$Trapeze;"⟩ prog_1_method_24_code 2 (some (.object "CircusLines$Trapeze")) : Cond) ∈ lw_T := lw_T_in (i := 85) (by decide +kernel) rfl
theorem q86 : (Cond.methodLink "CircusLines" 33 ⟨"CircusLines", "isWithin", "(III)Z"⟩ : Cond) ∈ lw_T := lw_T_in (i := 86) (by decide +kernel) rfl
theorem q87 : (Cond.static ⟨"CircusLines", "isWithin", "(III)Z"⟩ : Cond) ∈ lw_T := lw_T_in (i := 87) (by decide +kernel) rfl
theorem q88 : (Cond.code ⟨"CircusLines", "isWithin", "(III)Z"⟩ prog_1_method_22_code 3 (some .boolean) : Cond) ∈ lw_T := lw_T_in (i := 88) (by decide +kernel) rfl
theorem q89 : (Cond.classLink "CircusLines" 63 "java/lang/IndexOutOfBoundsException" : Cond) ∈ lw_T := lw_T_in (i := 89) (by decide +kernel) rfl
theorem q90 : (Cond.instantiable "java/lang/IndexOutOfBoundsException" 6 : Cond) ∈ lw_T := lw_T_in (i := 90) (by decide +kernel) rfl
theorem q98 : (Cond.selects "java/lang/IndexOutOfBoundsException" ⟨"java/lang/Throwable", "fillInStackTrace", "(I)Ljava/lang/Throwable;"⟩ ⟨"java/lang/Throwable", "fillInStackTrace", "(I)Ljava/lang/Throwable;"⟩ : Cond) ∈ lw_T := lw_T_in (i := 98) (by decide +kernel) rfl
theorem q99 : (Cond.selects "java/lang/IndexOutOfBoundsException" ⟨"java/lang/Throwable", "fillInStackTrace", "()Ljava/lang/Throwable;"⟩ ⟨"java/lang/Throwable", "fillInStackTrace", "()Ljava/lang/Throwable;"⟩ : Cond) ∈ lw_T := lw_T_in (i := 99) (by decide +kernel) rfl
theorem q110 : (Cond.fieldLink "java/lang/Throwable" 198 "java/lang/Throwable" "backtrace" "Ljava/lang/Object;" : Cond) ∈ lw_T := lw_T_in (i := 110) (by decide +kernel) rfl
theorem q112 : (Cond.instanceMethod ⟨"java/lang/Throwable", "<init>", "()V"⟩ : Cond) ∈ lw_T := lw_T_in (i := 112) (by decide +kernel) rfl
theorem q113 : (Cond.code ⟨"java/lang/Throwable", "<init>", "()V"⟩ prog_16_method_1_code 1 none : Cond) ∈ lw_T := lw_T_in (i := 113) (by decide +kernel) rfl
theorem q114 : (Cond.methodLink "java/lang/Throwable" 1 ⟨"java/lang/Object", "<init>", "()V"⟩ : Cond) ∈ lw_T := lw_T_in (i := 114) (by decide +kernel) rfl
theorem q115 : (Cond.fieldLink "java/lang/Throwable" 13 "java/lang/Throwable" "UNASSIGNED_STACK" "[Ljava/lang/StackTraceElement;" : Cond) ∈ lw_T := lw_T_in (i := 115) (by decide +kernel) rfl
theorem q117 : (Cond.fieldLink "java/lang/Throwable" 20 "java/lang/Throwable" "SUPPRESSED_SENTINEL" "Ljava/util/List;" : Cond) ∈ lw_T := lw_T_in (i := 117) (by decide +kernel) rfl
theorem q119 : (Cond.methodLink "java/lang/Throwable" 27 ⟨"java/lang/Throwable", "fillInStackTrace", "()Ljava/lang/Throwable;"⟩ : Cond) ∈ lw_T := lw_T_in (i := 119) (by decide +kernel) rfl
theorem q120 : (Cond.instanceMethod ⟨"java/lang/Throwable", "fillInStackTrace", "()Ljava/lang/Throwable;"⟩ : Cond) ∈ lw_T := lw_T_in (i := 120) (by decide +kernel) rfl
theorem q122 : (Cond.selects "java/lang/IllegalArgumentException" ⟨"java/lang/Throwable", "fillInStackTrace", "()Ljava/lang/Throwable;"⟩ ⟨"java/lang/Throwable", "fillInStackTrace", "()Ljava/lang/Throwable;"⟩ : Cond) ∈ lw_T := lw_T_in (i := 122) (by decide +kernel) rfl
theorem q123 : (Cond.selects "java/lang/IllegalStateException" ⟨"java/lang/Throwable", "fillInStackTrace", "()Ljava/lang/Throwable;"⟩ ⟨"java/lang/Throwable", "fillInStackTrace", "()Ljava/lang/Throwable;"⟩ : Cond) ∈ lw_T := lw_T_in (i := 123) (by decide +kernel) rfl
theorem q125 : (Cond.methodLink "java/lang/Throwable" 202 ⟨"java/lang/Throwable", "fillInStackTrace", "(I)Ljava/lang/Throwable;"⟩ : Cond) ∈ lw_T := lw_T_in (i := 125) (by decide +kernel) rfl
theorem q127 : (Cond.instanceMethod ⟨"java/lang/Throwable", "fillInStackTrace", "(I)Ljava/lang/Throwable;"⟩ : Cond) ∈ lw_T := lw_T_in (i := 127) (by decide +kernel) rfl
theorem q128 : (Cond.instantiable "java/lang/Throwable" 6 : Cond) ∈ lw_T := lw_T_in (i := 128) (by decide +kernel) rfl
theorem q131 : (Cond.methodLink "CircusLines" 67 ⟨"java/lang/IndexOutOfBoundsException", "<init>", "(Ljava/lang/String;)V"⟩ : Cond) ∈ lw_T := lw_T_in (i := 131) (by decide +kernel) rfl
theorem q132 : (Cond.instanceMethod ⟨"java/lang/IndexOutOfBoundsException", "<init>", "(Ljava/lang/String;)V"⟩ : Cond) ∈ lw_T := lw_T_in (i := 132) (by decide +kernel) rfl
theorem q133 : (Cond.code ⟨"java/lang/IndexOutOfBoundsException", "<init>", "(Ljava/lang/String;)V"⟩ prog_12_method_2_code 2 none : Cond) ∈ lw_T := lw_T_in (i := 133) (by decide +kernel) rfl
theorem q134 : (Cond.methodLink "java/lang/IndexOutOfBoundsException" 7 ⟨"java/lang/RuntimeException", "<init>", "(Ljava/lang/String;)V"⟩ : Cond) ∈ lw_T := lw_T_in (i := 134) (by decide +kernel) rfl
theorem q135 : (Cond.instanceMethod ⟨"java/lang/RuntimeException", "<init>", "(Ljava/lang/String;)V"⟩ : Cond) ∈ lw_T := lw_T_in (i := 135) (by decide +kernel) rfl
theorem q136 : (Cond.code ⟨"java/lang/RuntimeException", "<init>", "(Ljava/lang/String;)V"⟩ prog_14_method_2_code 2 none : Cond) ∈ lw_T := lw_T_in (i := 136) (by decide +kernel) rfl
theorem q137 : (Cond.methodLink "java/lang/RuntimeException" 7 ⟨"java/lang/Exception", "<init>", "(Ljava/lang/String;)V"⟩ : Cond) ∈ lw_T := lw_T_in (i := 137) (by decide +kernel) rfl
theorem q138 : (Cond.instanceMethod ⟨"java/lang/Exception", "<init>", "(Ljava/lang/String;)V"⟩ : Cond) ∈ lw_T := lw_T_in (i := 138) (by decide +kernel) rfl
theorem q139 : (Cond.code ⟨"java/lang/Exception", "<init>", "(Ljava/lang/String;)V"⟩ prog_9_method_2_code 2 none : Cond) ∈ lw_T := lw_T_in (i := 139) (by decide +kernel) rfl
theorem q140 : (Cond.methodLink "java/lang/Exception" 7 ⟨"java/lang/Throwable", "<init>", "(Ljava/lang/String;)V"⟩ : Cond) ∈ lw_T := lw_T_in (i := 140) (by decide +kernel) rfl
theorem q141 : (Cond.instanceMethod ⟨"java/lang/Throwable", "<init>", "(Ljava/lang/String;)V"⟩ : Cond) ∈ lw_T := lw_T_in (i := 141) (by decide +kernel) rfl
theorem q142 : (Cond.code ⟨"java/lang/Throwable", "<init>", "(Ljava/lang/String;)V"⟩ prog_16_method_2_code 2 none : Cond) ∈ lw_T := lw_T_in (i := 142) (by decide +kernel) rfl
theorem q144 : (Cond.fieldLink "java/lang/Throwable" 31 "java/lang/Throwable" "detailMessage" "Ljava/lang/String;" : Cond) ∈ lw_T := lw_T_in (i := 144) (by decide +kernel) rfl
theorem q145 : (Cond.fieldLink "java/lang/Throwable" 7 "java/lang/Throwable" "cause" "Ljava/lang/Throwable;" : Cond) ∈ lw_T := lw_T_in (i := 145) (by decide +kernel) rfl
theorem q146 : (Cond.fieldLink "java/lang/Throwable" 17 "java/lang/Throwable" "stackTrace" "[Ljava/lang/StackTraceElement;" : Cond) ∈ lw_T := lw_T_in (i := 146) (by decide +kernel) rfl
theorem q147 : (Cond.fieldLink "java/lang/Throwable" 24 "java/lang/Throwable" "suppressedExceptions" "Ljava/util/List;" : Cond) ∈ lw_T := lw_T_in (i := 147) (by decide +kernel) rfl
theorem q156 : (Cond.arrayClass .byte : Cond) ∈ lw_T := lw_T_in (i := 156) (by decide +kernel) rfl
theorem q157 : (Cond.methodLink "CircusLines" 138 ⟨"CircusLines", "ofTrapeze", "(LCircusLines$Trapeze;II)I"⟩ : Cond) ∈ lw_T := lw_T_in (i := 157) (by decide +kernel) rfl
theorem q159 : (Cond.instanceMethod ⟨"CircusLines", "ofTrapeze", "(LCircusLines$Trapeze;II)I"⟩ : Cond) ∈ lw_T := lw_T_in (i := 159) (by decide +kernel) rfl
theorem q160 : (Cond.code ⟨"CircusLines", "ofTrapeze", "(LCircusLines$Trapeze;II)I"⟩ prog_1_method_28_code 4 (some .int) : Cond) ∈ lw_T := lw_T_in (i := 160) (by decide +kernel) rfl
theorem q161 : (Cond.methodLink "CircusLines" 161 ⟨"CircusLines$Trapeze", "placeIn", "(I)I"⟩ : Cond) ∈ lw_T := lw_T_in (i := 161) (by decide +kernel) rfl
theorem q162 : (Cond.instanceMethod ⟨"CircusLines$Trapeze", "placeIn", "(I)I"⟩ : Cond) ∈ lw_T := lw_T_in (i := 162) (by decide +kernel) rfl
theorem q163 : (Cond.selects "CircusLines$Trapeze" ⟨"CircusLines$Trapeze", "placeIn", "(I)I"⟩ ⟨"CircusLines$Trapeze", "placeIn", "(I)I"⟩ : Cond) ∈ lw_T := lw_T_in (i := 163) (by decide +kernel) rfl
theorem q164 : (Cond.code ⟨"CircusLines$Trapeze", "placeIn", "(I)I"⟩ prog_5_method_5_code 2 (some .int) : Cond) ∈ lw_T := lw_T_in (i := 164) (by decide +kernel) rfl
theorem q165 : (Cond.methodLink "CircusLines$Trapeze" 32 ⟨"CircusLines$Trapeze", "placeSinceLeftEnd", "(II)I"⟩ : Cond) ∈ lw_T := lw_T_in (i := 165) (by decide +kernel) rfl
theorem q166 : (Cond.instanceMethod ⟨"CircusLines$Trapeze", "placeSinceLeftEnd", "(II)I"⟩ : Cond) ∈ lw_T := lw_T_in (i := 166) (by decide +kernel) rfl
theorem q167 : (Cond.selects "CircusLines$Trapeze" ⟨"CircusLines$Trapeze", "placeSinceLeftEnd", "(II)I"⟩ ⟨"CircusLines$Trapeze", "placeSinceLeftEnd", "(II)I"⟩ : Cond) ∈ lw_T := lw_T_in (i := 167) (by decide +kernel) rfl
theorem q168 : (Cond.code ⟨"CircusLines$Trapeze", "placeSinceLeftEnd", "(II)I"⟩ prog_5_method_7_code 5 (some .int) : Cond) ∈ lw_T := lw_T_in (i := 168) (by decide +kernel) rfl
theorem q169 : (Cond.methodLink "CircusLines$Trapeze" 36 ⟨"CircusLines$Trapeze", "halfSwing", "(I)I"⟩ : Cond) ∈ lw_T := lw_T_in (i := 169) (by decide +kernel) rfl
theorem q170 : (Cond.static ⟨"CircusLines$Trapeze", "halfSwing", "(I)I"⟩ : Cond) ∈ lw_T := lw_T_in (i := 170) (by decide +kernel) rfl
theorem q171 : (Cond.code ⟨"CircusLines$Trapeze", "halfSwing", "(I)I"⟩ prog_5_method_8_code 1 (some .int) : Cond) ∈ lw_T := lw_T_in (i := 171) (by decide +kernel) rfl
theorem q172 : (Cond.methodLink "CircusLines$Trapeze" 40 ⟨"java/lang/Math", "max", "(II)I"⟩ : Cond) ∈ lw_T := lw_T_in (i := 172) (by decide +kernel) rfl
theorem q173 : (Cond.static ⟨"java/lang/Math", "max", "(II)I"⟩ : Cond) ∈ lw_T := lw_T_in (i := 173) (by decide +kernel) rfl
theorem q174 : (Cond.code ⟨"java/lang/Math", "max", "(II)I"⟩ prog_13_method_65_code 2 (some .int) : Cond) ∈ lw_T := lw_T_in (i := 174) (by decide +kernel) rfl
theorem q175 : (Cond.methodLink "CircusLines" 110 ⟨"CircusLines", "hangersOf", "(I)I"⟩ : Cond) ∈ lw_T := lw_T_in (i := 175) (by decide +kernel) rfl
theorem q177 : (Cond.instanceMethod ⟨"CircusLines", "hangersOf", "(I)I"⟩ : Cond) ∈ lw_T := lw_T_in (i := 177) (by decide +kernel) rfl
theorem q178 : (Cond.code ⟨"CircusLines", "hangersOf", "(I)I"⟩ prog_1_method_26_code 7 (some .int) : Cond) ∈ lw_T := lw_T_in (i := 178) (by decide +kernel) rfl
theorem q179 : (Cond.methodLink "CircusLines" 217 ⟨"CircusLines$Flyer", "hangsFrom", "(I)Z"⟩ : Cond) ∈ lw_T := lw_T_in (i := 179) (by decide +kernel) rfl
theorem q180 : (Cond.instanceMethod ⟨"CircusLines$Flyer", "hangsFrom", "(I)Z"⟩ : Cond) ∈ lw_T := lw_T_in (i := 180) (by decide +kernel) rfl
theorem q181 : (Cond.selects "CircusLines$Flyer" ⟨"CircusLines$Flyer", "hangsFrom", "(I)Z"⟩ ⟨"CircusLines$Flyer", "hangsFrom", "(I)Z"⟩ : Cond) ∈ lw_T := lw_T_in (i := 181) (by decide +kernel) rfl
theorem q182 : (Cond.code ⟨"CircusLines$Flyer", "hangsFrom", "(I)Z"⟩ prog_3_method_3_code 2 (some .boolean) : Cond) ∈ lw_T := lw_T_in (i := 182) (by decide +kernel) rfl
theorem q183 : (Cond.methodLink "CircusLinesLaw" 102 ⟨"CircusLines", "flyer", "(II)I"⟩ : Cond) ∈ lw_T := lw_T_in (i := 183) (by decide +kernel) rfl
theorem q184 : (Cond.instanceMethod ⟨"CircusLines", "flyer", "(II)I"⟩ : Cond) ∈ lw_T := lw_T_in (i := 184) (by decide +kernel) rfl
theorem q185 : (Cond.selects "CircusLines" ⟨"CircusLines", "flyer", "(II)I"⟩ ⟨"CircusLines", "flyer", "(II)I"⟩ : Cond) ∈ lw_T := lw_T_in (i := 185) (by decide +kernel) rfl
theorem q186 : (Cond.code ⟨"CircusLines", "flyer", "(II)I"⟩ prog_1_method_10_code 4 (some .int) : Cond) ∈ lw_T := lw_T_in (i := 186) (by decide +kernel) rfl
theorem q187 : (Cond.methodLink "CircusLines" 104 ⟨"CircusLines", "flyerNumbered", "(I)LCircusLines$Flyer;"⟩ : Cond) ∈ lw_T := lw_T_in (i := 187) (by decide +kernel) rfl
theorem q189 : (Cond.instanceMethod ⟨"CircusLines", "flyerNumbered", "(I)LCircusLines$Flyer;"⟩ : Cond) ∈ lw_T := lw_T_in (i := 189) (by decide +kernel) rfl
theorem q190 : (Cond.code ⟨"CircusLines", "flyerNumbered", "(I)LCircusLines$Flyer;"⟩ prog_1_method_25_code 2 (some (.object "CircusLines$Flyer")) : Cond) ∈ lw_T := lw_T_in (i := 190) (by decide +kernel) rfl
theorem q192 : (Cond.methodLink "CircusLines" 144 ⟨"CircusLines", "ofFlyer", "(LCircusLines$Flyer;I)I"⟩ : Cond) ∈ lw_T := lw_T_in (i := 192) (by decide +kernel) rfl
theorem q194 : (Cond.instanceMethod ⟨"CircusLines", "ofFlyer", "(LCircusLines$Flyer;I)I"⟩ : Cond) ∈ lw_T := lw_T_in (i := 194) (by decide +kernel) rfl
theorem q195 : (Cond.code ⟨"CircusLines", "ofFlyer", "(LCircusLines$Flyer;I)I"⟩ prog_1_method_29_code 4 (some .int) : Cond) ∈ lw_T := lw_T_in (i := 195) (by decide +kernel) rfl
theorem q196 : (Cond.methodLink "CircusLinesLaw" 105 ⟨"CircusLines", "called", "(II)I"⟩ : Cond) ∈ lw_T := lw_T_in (i := 196) (by decide +kernel) rfl
theorem q197 : (Cond.instanceMethod ⟨"CircusLines", "called", "(II)I"⟩ : Cond) ∈ lw_T := lw_T_in (i := 197) (by decide +kernel) rfl
theorem q198 : (Cond.selects "CircusLines" ⟨"CircusLines", "called", "(II)I"⟩ ⟨"CircusLines", "called", "(II)I"⟩ : Cond) ∈ lw_T := lw_T_in (i := 198) (by decide +kernel) rfl
theorem q199 : (Cond.code ⟨"CircusLines", "called", "(II)I"⟩ prog_1_method_11_code 4 (some .int) : Cond) ∈ lw_T := lw_T_in (i := 199) (by decide +kernel) rfl
theorem q201 : (Cond.methodLink "CircusLines" 150 ⟨"CircusLines", "ofCue", "(LCircusLines$Cue;I)I"⟩ : Cond) ∈ lw_T := lw_T_in (i := 201) (by decide +kernel) rfl
theorem q202 : (Cond.static ⟨"CircusLines", "ofCue", "(LCircusLines$Cue;I)I"⟩ : Cond) ∈ lw_T := lw_T_in (i := 202) (by decide +kernel) rfl
theorem q203 : (Cond.code ⟨"CircusLines", "ofCue", "(LCircusLines$Cue;I)I"⟩ prog_1_method_30_code 2 (some .int) : Cond) ∈ lw_T := lw_T_in (i := 203) (by decide +kernel) rfl
theorem q204 : (Cond.methodLink "CircusLinesLaw" 89 ⟨"CircusLines", "count", "(I)I"⟩ : Cond) ∈ lw_T := lw_T_in (i := 204) (by decide +kernel) rfl
theorem q205 : (Cond.instanceMethod ⟨"CircusLines", "count", "(I)I"⟩ : Cond) ∈ lw_T := lw_T_in (i := 205) (by decide +kernel) rfl
theorem q206 : (Cond.selects "CircusLines" ⟨"CircusLines", "count", "(I)I"⟩ ⟨"CircusLines", "count", "(I)I"⟩ : Cond) ∈ lw_T := lw_T_in (i := 206) (by decide +kernel) rfl
theorem q207 : (Cond.code ⟨"CircusLines", "count", "(I)I"⟩ prog_1_method_12_code 2 (some .int) : Cond) ∈ lw_T := lw_T_in (i := 207) (by decide +kernel) rfl
theorem q209 : (Cond.methodLink "CircusLines" 156 ⟨"CircusLines", "tally", "(I)I"⟩ : Cond) ∈ lw_T := lw_T_in (i := 209) (by decide +kernel) rfl
theorem q211 : (Cond.instanceMethod ⟨"CircusLines", "tally", "(I)I"⟩ : Cond) ∈ lw_T := lw_T_in (i := 211) (by decide +kernel) rfl
theorem q212 : (Cond.code ⟨"CircusLines", "tally", "(I)I"⟩ prog_1_method_31_code 2 (some .int) : Cond) ∈ lw_T := lw_T_in (i := 212) (by decide +kernel) rfl
theorem q213 : (Cond.methodLink "CircusLines" 249 ⟨"CircusLines", "wholeTrapezes", "()I"⟩ : Cond) ∈ lw_T := lw_T_in (i := 213) (by decide +kernel) rfl
theorem q215 : (Cond.instanceMethod ⟨"CircusLines", "wholeTrapezes", "()I"⟩ : Cond) ∈ lw_T := lw_T_in (i := 215) (by decide +kernel) rfl
theorem q216 : (Cond.code ⟨"CircusLines", "wholeTrapezes", "()I"⟩ prog_1_method_32_code 6 (some .int) : Cond) ∈ lw_T := lw_T_in (i := 216) (by decide +kernel) rfl
theorem q217 : (Cond.methodLink "CircusLines" 253 ⟨"CircusLines", "flyersWhoAre", "(I)I"⟩ : Cond) ∈ lw_T := lw_T_in (i := 217) (by decide +kernel) rfl
theorem q219 : (Cond.instanceMethod ⟨"CircusLines", "flyersWhoAre", "(I)I"⟩ : Cond) ∈ lw_T := lw_T_in (i := 219) (by decide +kernel) rfl
theorem q220 : (Cond.code ⟨"CircusLines", "flyersWhoAre", "(I)I"⟩ prog_1_method_33_code 7 (some .int) : Cond) ∈ lw_T := lw_T_in (i := 220) (by decide +kernel) rfl
theorem q221 : (Cond.methodLink "CircusLines" 256 ⟨"CircusLines", "openCues", "()I"⟩ : Cond) ∈ lw_T := lw_T_in (i := 221) (by decide +kernel) rfl
theorem q223 : (Cond.instanceMethod ⟨"CircusLines", "openCues", "()I"⟩ : Cond) ∈ lw_T := lw_T_in (i := 223) (by decide +kernel) rfl
theorem q224 : (Cond.code ⟨"CircusLines", "openCues", "()I"⟩ prog_1_method_34_code 6 (some .int) : Cond) ∈ lw_T := lw_T_in (i := 224) (by decide +kernel) rfl
theorem q225 : (Cond.methodLink "CircusLinesLaw" 96 ⟨"CircusLines", "place", "(II)I"⟩ : Cond) ∈ lw_T := lw_T_in (i := 225) (by decide +kernel) rfl
theorem q226 : (Cond.instanceMethod ⟨"CircusLines", "place", "(II)I"⟩ : Cond) ∈ lw_T := lw_T_in (i := 226) (by decide +kernel) rfl
theorem q227 : (Cond.selects "CircusLines" ⟨"CircusLines", "place", "(II)I"⟩ ⟨"CircusLines", "place", "(II)I"⟩ : Cond) ∈ lw_T := lw_T_in (i := 227) (by decide +kernel) rfl
theorem q228 : (Cond.code ⟨"CircusLines", "place", "(II)I"⟩ prog_1_method_13_code 4 (some .int) : Cond) ∈ lw_T := lw_T_in (i := 228) (by decide +kernel) rfl
theorem q230 : (Cond.classLink "CircusLines" 37 "java/lang/IllegalArgumentException" : Cond) ∈ lw_T := lw_T_in (i := 230) (by decide +kernel) rfl
theorem q231 : (Cond.instantiable "java/lang/IllegalArgumentException" 6 : Cond) ∈ lw_T := lw_T_in (i := 231) (by decide +kernel) rfl
theorem q233 : (Cond.selects "java/lang/IllegalArgumentException" ⟨"java/lang/Throwable", "fillInStackTrace", "(I)Ljava/lang/Throwable;"⟩ ⟨"java/lang/Throwable", "fillInStackTrace", "(I)Ljava/lang/Throwable;"⟩ : Cond) ∈ lw_T := lw_T_in (i := 233) (by decide +kernel) rfl
theorem q240 : (Cond.methodLink "CircusLines" 41 ⟨"java/lang/IllegalArgumentException", "<init>", "(Ljava/lang/String;)V"⟩ : Cond) ∈ lw_T := lw_T_in (i := 240) (by decide +kernel) rfl
theorem q241 : (Cond.instanceMethod ⟨"java/lang/IllegalArgumentException", "<init>", "(Ljava/lang/String;)V"⟩ : Cond) ∈ lw_T := lw_T_in (i := 241) (by decide +kernel) rfl
theorem q242 : (Cond.code ⟨"java/lang/IllegalArgumentException", "<init>", "(Ljava/lang/String;)V"⟩ prog_10_method_2_code 2 none : Cond) ∈ lw_T := lw_T_in (i := 242) (by decide +kernel) rfl
theorem q243 : (Cond.methodLink "java/lang/IllegalArgumentException" 7 ⟨"java/lang/RuntimeException", "<init>", "(Ljava/lang/String;)V"⟩ : Cond) ∈ lw_T := lw_T_in (i := 243) (by decide +kernel) rfl
theorem q246 : (Cond.methodLink "CircusLinesLaw" 111 ⟨"CircusLines", "go", "(I)I"⟩ : Cond) ∈ lw_T := lw_T_in (i := 246) (by decide +kernel) rfl
theorem q247 : (Cond.instanceMethod ⟨"CircusLines", "go", "(I)I"⟩ : Cond) ∈ lw_T := lw_T_in (i := 247) (by decide +kernel) rfl
theorem q248 : (Cond.selects "CircusLines" ⟨"CircusLines", "go", "(I)I"⟩ ⟨"CircusLines", "go", "(I)I"⟩ : Cond) ∈ lw_T := lw_T_in (i := 248) (by decide +kernel) rfl
theorem q249 : (Cond.code ⟨"CircusLines", "go", "(I)I"⟩ prog_1_method_15_code 2 (some .int) : Cond) ∈ lw_T := lw_T_in (i := 249) (by decide +kernel) rfl
theorem q251 : (Cond.methodLink "CircusLines" 170 ⟨"CircusLines", "passBeats", "(I)I"⟩ : Cond) ∈ lw_T := lw_T_in (i := 251) (by decide +kernel) rfl
theorem q253 : (Cond.instanceMethod ⟨"CircusLines", "passBeats", "(I)I"⟩ : Cond) ∈ lw_T := lw_T_in (i := 253) (by decide +kernel) rfl
theorem q254 : (Cond.code ⟨"CircusLines", "passBeats", "(I)I"⟩ prog_1_method_38_code 4 (some .int) : Cond) ∈ lw_T := lw_T_in (i := 254) (by decide +kernel) rfl
theorem q255 : (Cond.methodLink "CircusLines" 259 ⟨"CircusLines", "callCues", "()V"⟩ : Cond) ∈ lw_T := lw_T_in (i := 255) (by decide +kernel) rfl
theorem q257 : (Cond.instanceMethod ⟨"CircusLines", "callCues", "()V"⟩ : Cond) ∈ lw_T := lw_T_in (i := 257) (by decide +kernel) rfl
theorem q258 : (Cond.code ⟨"CircusLines", "callCues", "()V"⟩ prog_1_method_39_code 5 none : Cond) ∈ lw_T := lw_T_in (i := 258) (by decide +kernel) rfl
theorem q259 : (Cond.methodLink "CircusLines" 268 ⟨"CircusLines", "letGo", "(LCircusLines$Cue;)Z"⟩ : Cond) ∈ lw_T := lw_T_in (i := 259) (by decide +kernel) rfl
theorem q261 : (Cond.instanceMethod ⟨"CircusLines", "letGo", "(LCircusLines$Cue;)Z"⟩ : Cond) ∈ lw_T := lw_T_in (i := 261) (by decide +kernel) rfl
theorem q262 : (Cond.code ⟨"CircusLines", "letGo", "(LCircusLines$Cue;)Z"⟩ prog_1_method_40_code 4 (some .boolean) : Cond) ∈ lw_T := lw_T_in (i := 262) (by decide +kernel) rfl
theorem q263 : (Cond.methodLink "CircusLines" 272 ⟨"CircusLines$Flyer", "flyTo", "(II)V"⟩ : Cond) ∈ lw_T := lw_T_in (i := 263) (by decide +kernel) rfl
theorem q264 : (Cond.instanceMethod ⟨"CircusLines$Flyer", "flyTo", "(II)V"⟩ : Cond) ∈ lw_T := lw_T_in (i := 264) (by decide +kernel) rfl
theorem q265 : (Cond.selects "CircusLines$Flyer" ⟨"CircusLines$Flyer", "flyTo", "(II)V"⟩ ⟨"CircusLines$Flyer", "flyTo", "(II)V"⟩ : Cond) ∈ lw_T := lw_T_in (i := 265) (by decide +kernel) rfl
theorem q266 : (Cond.code ⟨"CircusLines$Flyer", "flyTo", "(II)V"⟩ prog_3_method_6_code 3 none : Cond) ∈ lw_T := lw_T_in (i := 266) (by decide +kernel) rfl
theorem q267 : (Cond.methodLink "CircusLines" 262 ⟨"CircusLines", "endFlights", "()I"⟩ : Cond) ∈ lw_T := lw_T_in (i := 267) (by decide +kernel) rfl
theorem q269 : (Cond.instanceMethod ⟨"CircusLines", "endFlights", "()I"⟩ : Cond) ∈ lw_T := lw_T_in (i := 269) (by decide +kernel) rfl
theorem q270 : (Cond.code ⟨"CircusLines", "endFlights", "()I"⟩ prog_1_method_41_code 7 (some .int) : Cond) ∈ lw_T := lw_T_in (i := 270) (by decide +kernel) rfl
theorem q271 : (Cond.methodLink "CircusLines" 275 ⟨"CircusLines$Flyer", "comesIn", "(I)Z"⟩ : Cond) ∈ lw_T := lw_T_in (i := 271) (by decide +kernel) rfl
theorem q272 : (Cond.instanceMethod ⟨"CircusLines$Flyer", "comesIn", "(I)Z"⟩ : Cond) ∈ lw_T := lw_T_in (i := 272) (by decide +kernel) rfl
theorem q273 : (Cond.selects "CircusLines$Flyer" ⟨"CircusLines$Flyer", "comesIn", "(I)Z"⟩ ⟨"CircusLines$Flyer", "comesIn", "(I)Z"⟩ : Cond) ∈ lw_T := lw_T_in (i := 273) (by decide +kernel) rfl
theorem q274 : (Cond.code ⟨"CircusLines$Flyer", "comesIn", "(I)Z"⟩ prog_3_method_4_code 2 (some .boolean) : Cond) ∈ lw_T := lw_T_in (i := 274) (by decide +kernel) rfl
theorem q275 : (Cond.methodLink "CircusLines" 278 ⟨"CircusLines", "catcherAt", "(I)I"⟩ : Cond) ∈ lw_T := lw_T_in (i := 275) (by decide +kernel) rfl
theorem q277 : (Cond.instanceMethod ⟨"CircusLines", "catcherAt", "(I)I"⟩ : Cond) ∈ lw_T := lw_T_in (i := 277) (by decide +kernel) rfl
theorem q278 : (Cond.code ⟨"CircusLines", "catcherAt", "(I)I"⟩ prog_1_method_42_code 4 (some .int) : Cond) ∈ lw_T := lw_T_in (i := 278) (by decide +kernel) rfl
theorem q279 : (Cond.methodLink "CircusLines" 173 ⟨"CircusLines", "isNear", "(II)Z"⟩ : Cond) ∈ lw_T := lw_T_in (i := 279) (by decide +kernel) rfl
theorem q280 : (Cond.static ⟨"CircusLines", "isNear", "(II)Z"⟩ : Cond) ∈ lw_T := lw_T_in (i := 280) (by decide +kernel) rfl
theorem q281 : (Cond.code ⟨"CircusLines", "isNear", "(II)Z"⟩ prog_1_method_23_code 2 (some .boolean) : Cond) ∈ lw_T := lw_T_in (i := 281) (by decide +kernel) rfl
theorem q282 : (Cond.methodLink "CircusLines" 164 ⟨"CircusLines", "isNetSpreadAt", "(I)Z"⟩ : Cond) ∈ lw_T := lw_T_in (i := 282) (by decide +kernel) rfl
theorem q284 : (Cond.instanceMethod ⟨"CircusLines", "isNetSpreadAt", "(I)Z"⟩ : Cond) ∈ lw_T := lw_T_in (i := 284) (by decide +kernel) rfl
theorem q285 : (Cond.code ⟨"CircusLines", "isNetSpreadAt", "(I)Z"⟩ prog_1_method_27_code 6 (some .boolean) : Cond) ∈ lw_T := lw_T_in (i := 285) (by decide +kernel) rfl
theorem q286 : (Cond.methodLink "CircusLines" 281 ⟨"CircusLines$Flyer", "fall", "(Z)V"⟩ : Cond) ∈ lw_T := lw_T_in (i := 286) (by decide +kernel) rfl
theorem q287 : (Cond.instanceMethod ⟨"CircusLines$Flyer", "fall", "(Z)V"⟩ : Cond) ∈ lw_T := lw_T_in (i := 287) (by decide +kernel) rfl
theorem q288 : (Cond.selects "CircusLines$Flyer" ⟨"CircusLines$Flyer", "fall", "(Z)V"⟩ ⟨"CircusLines$Flyer", "fall", "(Z)V"⟩ : Cond) ∈ lw_T := lw_T_in (i := 288) (by decide +kernel) rfl
theorem q289 : (Cond.code ⟨"CircusLines$Flyer", "fall", "(Z)V"⟩ prog_3_method_7_code 2 none : Cond) ∈ lw_T := lw_T_in (i := 289) (by decide +kernel) rfl
theorem q290 : (Cond.methodLink "CircusLines" 120 ⟨"CircusLines$Flyer", "hangFrom", "(I)V"⟩ : Cond) ∈ lw_T := lw_T_in (i := 290) (by decide +kernel) rfl
theorem q291 : (Cond.instanceMethod ⟨"CircusLines$Flyer", "hangFrom", "(I)V"⟩ : Cond) ∈ lw_T := lw_T_in (i := 291) (by decide +kernel) rfl
theorem q292 : (Cond.selects "CircusLines$Flyer" ⟨"CircusLines$Flyer", "hangFrom", "(I)V"⟩ ⟨"CircusLines$Flyer", "hangFrom", "(I)V"⟩ : Cond) ∈ lw_T := lw_T_in (i := 292) (by decide +kernel) rfl
theorem q293 : (Cond.code ⟨"CircusLines$Flyer", "hangFrom", "(I)V"⟩ prog_3_method_5_code 2 none : Cond) ∈ lw_T := lw_T_in (i := 293) (by decide +kernel) rfl
theorem q294 : (Cond.methodLink "CircusLines" 265 ⟨"CircusLines", "wearRopes", "()V"⟩ : Cond) ∈ lw_T := lw_T_in (i := 294) (by decide +kernel) rfl
theorem q296 : (Cond.instanceMethod ⟨"CircusLines", "wearRopes", "()V"⟩ : Cond) ∈ lw_T := lw_T_in (i := 296) (by decide +kernel) rfl
theorem q297 : (Cond.code ⟨"CircusLines", "wearRopes", "()V"⟩ prog_1_method_43_code 3 none : Cond) ∈ lw_T := lw_T_in (i := 297) (by decide +kernel) rfl
theorem q298 : (Cond.methodLink "CircusLines" 285 ⟨"CircusLines$Trapeze", "isAtLeftEndIn", "(I)Z"⟩ : Cond) ∈ lw_T := lw_T_in (i := 298) (by decide +kernel) rfl
theorem q299 : (Cond.instanceMethod ⟨"CircusLines$Trapeze", "isAtLeftEndIn", "(I)Z"⟩ : Cond) ∈ lw_T := lw_T_in (i := 299) (by decide +kernel) rfl
theorem q300 : (Cond.selects "CircusLines$Trapeze" ⟨"CircusLines$Trapeze", "isAtLeftEndIn", "(I)Z"⟩ ⟨"CircusLines$Trapeze", "isAtLeftEndIn", "(I)Z"⟩ : Cond) ∈ lw_T := lw_T_in (i := 300) (by decide +kernel) rfl
theorem q301 : (Cond.code ⟨"CircusLines$Trapeze", "isAtLeftEndIn", "(I)Z"⟩ prog_5_method_6_code 2 (some .boolean) : Cond) ∈ lw_T := lw_T_in (i := 301) (by decide +kernel) rfl
theorem q302 : (Cond.methodLink "CircusLines" 288 ⟨"CircusLines$Trapeze", "wear", "(I)V"⟩ : Cond) ∈ lw_T := lw_T_in (i := 302) (by decide +kernel) rfl
theorem q303 : (Cond.instanceMethod ⟨"CircusLines$Trapeze", "wear", "(I)V"⟩ : Cond) ∈ lw_T := lw_T_in (i := 303) (by decide +kernel) rfl
theorem q304 : (Cond.selects "CircusLines$Trapeze" ⟨"CircusLines$Trapeze", "wear", "(I)V"⟩ ⟨"CircusLines$Trapeze", "wear", "(I)V"⟩ : Cond) ∈ lw_T := lw_T_in (i := 304) (by decide +kernel) rfl
theorem q305 : (Cond.code ⟨"CircusLines$Trapeze", "wear", "(I)V"⟩ prog_5_method_4_code 2 none : Cond) ∈ lw_T := lw_T_in (i := 305) (by decide +kernel) rfl
theorem q306 : (Cond.methodLink "CircusLines" 291 ⟨"CircusLines", "dropFrom", "(II)V"⟩ : Cond) ∈ lw_T := lw_T_in (i := 306) (by decide +kernel) rfl
theorem q308 : (Cond.instanceMethod ⟨"CircusLines", "dropFrom", "(II)V"⟩ : Cond) ∈ lw_T := lw_T_in (i := 308) (by decide +kernel) rfl
theorem q309 : (Cond.code ⟨"CircusLines", "dropFrom", "(II)V"⟩ prog_1_method_44_code 8 none : Cond) ∈ lw_T := lw_T_in (i := 309) (by decide +kernel) rfl
theorem q310 : (Cond.methodLink "CircusLinesLaw" 99 ⟨"CircusLines", "meets", "(II)I"⟩ : Cond) ∈ lw_T := lw_T_in (i := 310) (by decide +kernel) rfl
theorem q311 : (Cond.instanceMethod ⟨"CircusLines", "meets", "(II)I"⟩ : Cond) ∈ lw_T := lw_T_in (i := 311) (by decide +kernel) rfl
theorem q312 : (Cond.selects "CircusLines" ⟨"CircusLines", "meets", "(II)I"⟩ ⟨"CircusLines", "meets", "(II)I"⟩ : Cond) ∈ lw_T := lw_T_in (i := 312) (by decide +kernel) rfl
theorem q313 : (Cond.code ⟨"CircusLines", "meets", "(II)I"⟩ prog_1_method_16_code 6 (some .int) : Cond) ∈ lw_T := lw_T_in (i := 313) (by decide +kernel) rfl
theorem q314 : (Cond.methodLink "CircusLinesLaw" 108 ⟨"CircusLines", "foresee", "(II)I"⟩ : Cond) ∈ lw_T := lw_T_in (i := 314) (by decide +kernel) rfl
theorem q315 : (Cond.instanceMethod ⟨"CircusLines", "foresee", "(II)I"⟩ : Cond) ∈ lw_T := lw_T_in (i := 315) (by decide +kernel) rfl
theorem q316 : (Cond.selects "CircusLines" ⟨"CircusLines", "foresee", "(II)I"⟩ ⟨"CircusLines", "foresee", "(II)I"⟩ : Cond) ∈ lw_T := lw_T_in (i := 316) (by decide +kernel) rfl
theorem q317 : (Cond.code ⟨"CircusLines", "foresee", "(II)I"⟩ prog_1_method_19_code 5 (some .int) : Cond) ∈ lw_T := lw_T_in (i := 317) (by decide +kernel) rfl
theorem q319 : (Cond.methodLink "CircusLines" 188 ⟨"CircusLines", "keepAct", "()V"⟩ : Cond) ∈ lw_T := lw_T_in (i := 319) (by decide +kernel) rfl
theorem q321 : (Cond.instanceMethod ⟨"CircusLines", "keepAct", "()V"⟩ : Cond) ∈ lw_T := lw_T_in (i := 321) (by decide +kernel) rfl
theorem q322 : (Cond.code ⟨"CircusLines", "keepAct", "()V"⟩ prog_1_method_45_code 5 none : Cond) ∈ lw_T := lw_T_in (i := 322) (by decide +kernel) rfl
theorem q323 : (Cond.methodLink "CircusLines" 294 ⟨"CircusLines$Trapeze", "keep", "()V"⟩ : Cond) ∈ lw_T := lw_T_in (i := 323) (by decide +kernel) rfl
theorem q324 : (Cond.instanceMethod ⟨"CircusLines$Trapeze", "keep", "()V"⟩ : Cond) ∈ lw_T := lw_T_in (i := 324) (by decide +kernel) rfl
theorem q325 : (Cond.selects "CircusLines$Trapeze" ⟨"CircusLines$Trapeze", "keep", "()V"⟩ ⟨"CircusLines$Trapeze", "keep", "()V"⟩ : Cond) ∈ lw_T := lw_T_in (i := 325) (by decide +kernel) rfl
theorem q326 : (Cond.code ⟨"CircusLines$Trapeze", "keep", "()V"⟩ prog_5_method_9_code 1 none : Cond) ∈ lw_T := lw_T_in (i := 326) (by decide +kernel) rfl
theorem q327 : (Cond.methodLink "CircusLines" 297 ⟨"CircusLines$Flyer", "keep", "()V"⟩ : Cond) ∈ lw_T := lw_T_in (i := 327) (by decide +kernel) rfl
theorem q328 : (Cond.instanceMethod ⟨"CircusLines$Flyer", "keep", "()V"⟩ : Cond) ∈ lw_T := lw_T_in (i := 328) (by decide +kernel) rfl
theorem q329 : (Cond.selects "CircusLines$Flyer" ⟨"CircusLines$Flyer", "keep", "()V"⟩ ⟨"CircusLines$Flyer", "keep", "()V"⟩ : Cond) ∈ lw_T := lw_T_in (i := 329) (by decide +kernel) rfl
theorem q330 : (Cond.code ⟨"CircusLines$Flyer", "keep", "()V"⟩ prog_3_method_8_code 1 none : Cond) ∈ lw_T := lw_T_in (i := 330) (by decide +kernel) rfl
theorem q331 : (Cond.methodLink "CircusLines" 298 ⟨"CircusLines$Cue", "keep", "()V"⟩ : Cond) ∈ lw_T := lw_T_in (i := 331) (by decide +kernel) rfl
theorem q332 : (Cond.instanceMethod ⟨"CircusLines$Cue", "keep", "()V"⟩ : Cond) ∈ lw_T := lw_T_in (i := 332) (by decide +kernel) rfl
theorem q333 : (Cond.selects "CircusLines$Cue" ⟨"CircusLines$Cue", "keep", "()V"⟩ ⟨"CircusLines$Cue", "keep", "()V"⟩ : Cond) ∈ lw_T := lw_T_in (i := 333) (by decide +kernel) rfl
theorem q334 : (Cond.code ⟨"CircusLines$Cue", "keep", "()V"⟩ prog_2_method_2_code 1 none : Cond) ∈ lw_T := lw_T_in (i := 334) (by decide +kernel) rfl
theorem q335 : (Cond.methodLink "CircusLines" 191 ⟨"CircusLines", "takeActBack", "()V"⟩ : Cond) ∈ lw_T := lw_T_in (i := 335) (by decide +kernel) rfl
theorem q337 : (Cond.instanceMethod ⟨"CircusLines", "takeActBack", "()V"⟩ : Cond) ∈ lw_T := lw_T_in (i := 337) (by decide +kernel) rfl
theorem q338 : (Cond.code ⟨"CircusLines", "takeActBack", "()V"⟩ prog_1_method_46_code 5 none : Cond) ∈ lw_T := lw_T_in (i := 338) (by decide +kernel) rfl
theorem q339 : (Cond.methodLink "CircusLines" 299 ⟨"CircusLines$Trapeze", "takeBack", "()V"⟩ : Cond) ∈ lw_T := lw_T_in (i := 339) (by decide +kernel) rfl
theorem q340 : (Cond.instanceMethod ⟨"CircusLines$Trapeze", "takeBack", "()V"⟩ : Cond) ∈ lw_T := lw_T_in (i := 340) (by decide +kernel) rfl
theorem q341 : (Cond.selects "CircusLines$Trapeze" ⟨"CircusLines$Trapeze", "takeBack", "()V"⟩ ⟨"CircusLines$Trapeze", "takeBack", "()V"⟩ : Cond) ∈ lw_T := lw_T_in (i := 341) (by decide +kernel) rfl
theorem q342 : (Cond.code ⟨"CircusLines$Trapeze", "takeBack", "()V"⟩ prog_5_method_10_code 1 none : Cond) ∈ lw_T := lw_T_in (i := 342) (by decide +kernel) rfl
theorem q343 : (Cond.methodLink "CircusLines" 302 ⟨"CircusLines$Flyer", "takeBack", "()V"⟩ : Cond) ∈ lw_T := lw_T_in (i := 343) (by decide +kernel) rfl
theorem q344 : (Cond.instanceMethod ⟨"CircusLines$Flyer", "takeBack", "()V"⟩ : Cond) ∈ lw_T := lw_T_in (i := 344) (by decide +kernel) rfl
theorem q345 : (Cond.selects "CircusLines$Flyer" ⟨"CircusLines$Flyer", "takeBack", "()V"⟩ ⟨"CircusLines$Flyer", "takeBack", "()V"⟩ : Cond) ∈ lw_T := lw_T_in (i := 345) (by decide +kernel) rfl
theorem q346 : (Cond.code ⟨"CircusLines$Flyer", "takeBack", "()V"⟩ prog_3_method_9_code 1 none : Cond) ∈ lw_T := lw_T_in (i := 346) (by decide +kernel) rfl
theorem q347 : (Cond.methodLink "CircusLines" 303 ⟨"CircusLines$Cue", "takeBack", "()V"⟩ : Cond) ∈ lw_T := lw_T_in (i := 347) (by decide +kernel) rfl
theorem q348 : (Cond.instanceMethod ⟨"CircusLines$Cue", "takeBack", "()V"⟩ : Cond) ∈ lw_T := lw_T_in (i := 348) (by decide +kernel) rfl
theorem q349 : (Cond.selects "CircusLines$Cue" ⟨"CircusLines$Cue", "takeBack", "()V"⟩ ⟨"CircusLines$Cue", "takeBack", "()V"⟩ : Cond) ∈ lw_T := lw_T_in (i := 349) (by decide +kernel) rfl
theorem q350 : (Cond.code ⟨"CircusLines$Cue", "takeBack", "()V"⟩ prog_2_method_3_code 1 none : Cond) ∈ lw_T := lw_T_in (i := 350) (by decide +kernel) rfl
theorem q351 : (Cond.methodLink "CircusLinesLaw" 114 ⟨"CircusLinesLaw$Sim", "go", "()I"⟩ : Cond) ∈ lw_T := lw_T_in (i := 351) (by decide +kernel) rfl
theorem q352 : (Cond.instanceMethod ⟨"CircusLinesLaw$Sim", "go", "()I"⟩ : Cond) ∈ lw_T := lw_T_in (i := 352) (by decide +kernel) rfl
theorem q353 : (Cond.selects "CircusLinesLaw$Sim" ⟨"CircusLinesLaw$Sim", "go", "()I"⟩ ⟨"CircusLinesLaw$Sim", "go", "()I"⟩ : Cond) ∈ lw_T := lw_T_in (i := 353) (by decide +kernel) rfl
theorem q354 : (Cond.code ⟨"CircusLinesLaw$Sim", "go", "()I"⟩ prog_7_method_10_code 9 (some .int) : Cond) ∈ lw_T := lw_T_in (i := 354) (by decide +kernel) rfl
theorem q355 : (Cond.methodLink "CircusLinesLaw$Sim" 45 ⟨"CircusLinesLaw$Sim", "place", "([II)I"⟩ : Cond) ∈ lw_T := lw_T_in (i := 355) (by decide +kernel) rfl
theorem q356 : (Cond.static ⟨"CircusLinesLaw$Sim", "place", "([II)I"⟩ : Cond) ∈ lw_T := lw_T_in (i := 356) (by decide +kernel) rfl
theorem q357 : (Cond.code ⟨"CircusLinesLaw$Sim", "place", "([II)I"⟩ prog_7_method_5_code 6 (some .int) : Cond) ∈ lw_T := lw_T_in (i := 357) (by decide +kernel) rfl
theorem q358 : (Cond.methodLink "CircusLinesLaw$Sim" 41 ⟨"CircusLinesLaw$Sim", "state", "([IIIII)V"⟩ : Cond) ∈ lw_T := lw_T_in (i := 358) (by decide +kernel) rfl
theorem q359 : (Cond.instanceMethod ⟨"CircusLinesLaw$Sim", "state", "([IIIII)V"⟩ : Cond) ∈ lw_T := lw_T_in (i := 359) (by decide +kernel) rfl
theorem q360 : (Cond.selects "CircusLinesLaw$Sim" ⟨"CircusLinesLaw$Sim", "state", "([IIIII)V"⟩ ⟨"CircusLinesLaw$Sim", "state", "([IIIII)V"⟩ : Cond) ∈ lw_T := lw_T_in (i := 360) (by decide +kernel) rfl
theorem q361 : (Cond.code ⟨"CircusLinesLaw$Sim", "state", "([IIIII)V"⟩ prog_7_method_8_code 6 none : Cond) ∈ lw_T := lw_T_in (i := 361) (by decide +kernel) rfl
theorem q362 : (Cond.methodLink "CircusLinesLaw$Sim" 49 ⟨"CircusLinesLaw$Sim", "hang", "(I)I"⟩ : Cond) ∈ lw_T := lw_T_in (i := 362) (by decide +kernel) rfl
theorem q363 : (Cond.instanceMethod ⟨"CircusLinesLaw$Sim", "hang", "(I)I"⟩ : Cond) ∈ lw_T := lw_T_in (i := 363) (by decide +kernel) rfl
theorem q364 : (Cond.selects "CircusLinesLaw$Sim" ⟨"CircusLinesLaw$Sim", "hang", "(I)I"⟩ ⟨"CircusLinesLaw$Sim", "hang", "(I)I"⟩ : Cond) ∈ lw_T := lw_T_in (i := 364) (by decide +kernel) rfl
theorem q365 : (Cond.code ⟨"CircusLinesLaw$Sim", "hang", "(I)I"⟩ prog_7_method_6_code 7 (some .int) : Cond) ∈ lw_T := lw_T_in (i := 365) (by decide +kernel) rfl
theorem q366 : (Cond.methodLink "CircusLinesLaw$Sim" 53 ⟨"CircusLinesLaw$Sim", "falls", "([II)V"⟩ : Cond) ∈ lw_T := lw_T_in (i := 366) (by decide +kernel) rfl
theorem q367 : (Cond.instanceMethod ⟨"CircusLinesLaw$Sim", "falls", "([II)V"⟩ : Cond) ∈ lw_T := lw_T_in (i := 367) (by decide +kernel) rfl
theorem q368 : (Cond.selects "CircusLinesLaw$Sim" ⟨"CircusLinesLaw$Sim", "falls", "([II)V"⟩ ⟨"CircusLinesLaw$Sim", "falls", "([II)V"⟩ : Cond) ∈ lw_T := lw_T_in (i := 368) (by decide +kernel) rfl
theorem q369 : (Cond.code ⟨"CircusLinesLaw$Sim", "falls", "([II)V"⟩ prog_7_method_9_code 3 none : Cond) ∈ lw_T := lw_T_in (i := 369) (by decide +kernel) rfl
theorem q370 : (Cond.methodLink "CircusLinesLaw$Sim" 37 ⟨"CircusLinesLaw$Sim", "net", "(I)Z"⟩ : Cond) ∈ lw_T := lw_T_in (i := 370) (by decide +kernel) rfl
theorem q371 : (Cond.instanceMethod ⟨"CircusLinesLaw$Sim", "net", "(I)Z"⟩ : Cond) ∈ lw_T := lw_T_in (i := 371) (by decide +kernel) rfl
theorem q372 : (Cond.selects "CircusLinesLaw$Sim" ⟨"CircusLinesLaw$Sim", "net", "(I)Z"⟩ ⟨"CircusLinesLaw$Sim", "net", "(I)Z"⟩ : Cond) ∈ lw_T := lw_T_in (i := 372) (by decide +kernel) rfl
theorem q373 : (Cond.code ⟨"CircusLinesLaw$Sim", "net", "(I)Z"⟩ prog_7_method_7_code 6 (some .boolean) : Cond) ∈ lw_T := lw_T_in (i := 373) (by decide +kernel) rfl
theorem q374 : (Cond.methodLink "CircusLinesLaw" 119 ⟨"CircusLinesLaw$Sim", "isSame", "(LCircusLines;)Z"⟩ : Cond) ∈ lw_T := lw_T_in (i := 374) (by decide +kernel) rfl
theorem q375 : (Cond.instanceMethod ⟨"CircusLinesLaw$Sim", "isSame", "(LCircusLines;)Z"⟩ : Cond) ∈ lw_T := lw_T_in (i := 375) (by decide +kernel) rfl
theorem q376 : (Cond.selects "CircusLinesLaw$Sim" ⟨"CircusLinesLaw$Sim", "isSame", "(LCircusLines;)Z"⟩ ⟨"CircusLinesLaw$Sim", "isSame", "(LCircusLines;)Z"⟩ : Cond) ∈ lw_T := lw_T_in (i := 376) (by decide +kernel) rfl
theorem q377 : (Cond.code ⟨"CircusLinesLaw$Sim", "isSame", "(LCircusLines;)Z"⟩ prog_7_method_13_code 8 (some .boolean) : Cond) ∈ lw_T := lw_T_in (i := 377) (by decide +kernel) rfl
theorem q378 : (Cond.methodLink "CircusLinesLaw$Sim" 57 ⟨"CircusLines", "trapeze", "(II)I"⟩ : Cond) ∈ lw_T := lw_T_in (i := 378) (by decide +kernel) rfl
theorem q379 : (Cond.methodLink "CircusLinesLaw$Sim" 63 ⟨"CircusLines", "flyer", "(II)I"⟩ : Cond) ∈ lw_T := lw_T_in (i := 379) (by decide +kernel) rfl
theorem q380 : (Cond.methodLink "CircusLinesLaw$Sim" 66 ⟨"CircusLines", "called", "(II)I"⟩ : Cond) ∈ lw_T := lw_T_in (i := 380) (by decide +kernel) rfl
theorem q381 : (Cond.methodLink "CircusLinesLaw$Sim" 69 ⟨"CircusLinesLaw$Sim", "in", "(I)I"⟩ : Cond) ∈ lw_T := lw_T_in (i := 381) (by decide +kernel) rfl
theorem q382 : (Cond.instanceMethod ⟨"CircusLinesLaw$Sim", "in", "(I)I"⟩ : Cond) ∈ lw_T := lw_T_in (i := 382) (by decide +kernel) rfl
theorem q383 : (Cond.selects "CircusLinesLaw$Sim" ⟨"CircusLinesLaw$Sim", "in", "(I)I"⟩ ⟨"CircusLinesLaw$Sim", "in", "(I)I"⟩ : Cond) ∈ lw_T := lw_T_in (i := 383) (by decide +kernel) rfl
theorem q384 : (Cond.code ⟨"CircusLinesLaw$Sim", "in", "(I)I"⟩ prog_7_method_11_code 7 (some .int) : Cond) ∈ lw_T := lw_T_in (i := 384) (by decide +kernel) rfl
theorem q385 : (Cond.methodLink "CircusLinesLaw$Sim" 72 ⟨"CircusLinesLaw$Sim", "open", "()I"⟩ : Cond) ∈ lw_T := lw_T_in (i := 385) (by decide +kernel) rfl
theorem q386 : (Cond.instanceMethod ⟨"CircusLinesLaw$Sim", "open", "()I"⟩ : Cond) ∈ lw_T := lw_T_in (i := 386) (by decide +kernel) rfl
theorem q387 : (Cond.selects "CircusLinesLaw$Sim" ⟨"CircusLinesLaw$Sim", "open", "()I"⟩ ⟨"CircusLinesLaw$Sim", "open", "()I"⟩ : Cond) ∈ lw_T := lw_T_in (i := 387) (by decide +kernel) rfl
theorem q388 : (Cond.code ⟨"CircusLinesLaw$Sim", "open", "()I"⟩ prog_7_method_12_code 6 (some .int) : Cond) ∈ lw_T := lw_T_in (i := 388) (by decide +kernel) rfl
theorem q389 : (Cond.methodLink "CircusLinesLaw$Sim" 76 ⟨"CircusLines", "count", "(I)I"⟩ : Cond) ∈ lw_T := lw_T_in (i := 389) (by decide +kernel) rfl
theorem q390 : (Cond.methodLink "CircusLinesLaw$Sim" 79 ⟨"CircusLines", "mean", "()D"⟩ : Cond) ∈ lw_T := lw_T_in (i := 390) (by decide +kernel) rfl
theorem q391 : (Cond.instanceMethod ⟨"CircusLines", "mean", "()D"⟩ : Cond) ∈ lw_T := lw_T_in (i := 391) (by decide +kernel) rfl
theorem q392 : (Cond.selects "CircusLines" ⟨"CircusLines", "mean", "()D"⟩ ⟨"CircusLines", "mean", "()D"⟩ : Cond) ∈ lw_T := lw_T_in (i := 392) (by decide +kernel) rfl
theorem q393 : (Cond.code ⟨"CircusLines", "mean", "()D"⟩ prog_1_method_20_code 6 (some .double) : Cond) ∈ lw_T := lw_T_in (i := 393) (by decide +kernel) rfl
theorem q394 : (Cond.arrayClass .int : Cond) ∈ lw_T := lw_T_in (i := 394) (by decide +kernel) rfl
theorem q395 : (Cond.methodLink "CircusLinesLaw" 76 ⟨"CircusLinesLaw", "cell", "([II)I"⟩ : Cond) ∈ lw_T := lw_T_in (i := 395) (by decide +kernel) rfl
theorem q396 : (Cond.static ⟨"CircusLinesLaw", "cell", "([II)I"⟩ : Cond) ∈ lw_T := lw_T_in (i := 396) (by decide +kernel) rfl
theorem q397 : (Cond.code ⟨"CircusLinesLaw", "cell", "([II)I"⟩ method_3_code 2 (some .int) : Cond) ∈ lw_T := lw_T_in (i := 397) (by decide +kernel) rfl
theorem q399 : (Cond.methodLink "CircusLinesLaw" 80 ⟨"CircusLinesLaw", "act", "(LCircusLines;LCircusLinesLaw$Sim;I)Z"⟩ : Cond) ∈ lw_T := lw_T_in (i := 399) (by decide +kernel) rfl
theorem q400 : (Cond.static ⟨"CircusLinesLaw", "act", "(LCircusLines;LCircusLinesLaw$Sim;I)Z"⟩ : Cond) ∈ lw_T := lw_T_in (i := 400) (by decide +kernel) rfl
theorem q401 : (Cond.code ⟨"CircusLinesLaw", "act", "(LCircusLines;LCircusLinesLaw$Sim;I)Z"⟩ method_4_code 20 (some .boolean) : Cond) ∈ lw_T := lw_T_in (i := 401) rfl rfl
theorem q402 : (Cond.methodLink "CircusLinesLaw" 18 ⟨"CircusLinesLaw", "below", "(II)I"⟩ : Cond) ∈ lw_T := lw_T_in (i := 402) (by decide +kernel) rfl
theorem q403 : (Cond.static ⟨"CircusLinesLaw", "below", "(II)I"⟩ : Cond) ∈ lw_T := lw_T_in (i := 403) (by decide +kernel) rfl
theorem q404 : (Cond.code ⟨"CircusLinesLaw", "below", "(II)I"⟩ method_2_code 2 (some .int) : Cond) ∈ lw_T := lw_T_in (i := 404) (by decide +kernel) rfl
theorem q406 : (Cond.methodLink "CircusLinesLaw" 24 ⟨"CircusLinesLaw$Sim", "more", "([[I[I)[[I"⟩ : Cond) ∈ lw_T := lw_T_in (i := 406) (by decide +kernel) rfl
theorem q407 : (Cond.static ⟨"CircusLinesLaw$Sim", "more", "([[I[I)[[I"⟩ : Cond) ∈ lw_T := lw_T_in (i := 407) (by decide +kernel) rfl
theorem q408 : (Cond.code ⟨"CircusLinesLaw$Sim", "more", "([[I[I)[[I"⟩ prog_7_method_2_code 4 (some (.array (.array .int))) : Cond) ∈ lw_T := lw_T_in (i := 408) (by decide +kernel) rfl
theorem q409 : (Cond.classLink "CircusLinesLaw$Sim" 7 "[I" : Cond) ∈ lw_T := lw_T_in (i := 409) (by decide +kernel) rfl
theorem q411 : (Cond.methodLink "CircusLinesLaw" 28 ⟨"CircusLines", "rig", "(IIII)I"⟩ : Cond) ∈ lw_T := lw_T_in (i := 411) (by decide +kernel) rfl
theorem q412 : (Cond.instanceMethod ⟨"CircusLines", "rig", "(IIII)I"⟩ : Cond) ∈ lw_T := lw_T_in (i := 412) (by decide +kernel) rfl
theorem q413 : (Cond.selects "CircusLines" ⟨"CircusLines", "rig", "(IIII)I"⟩ ⟨"CircusLines", "rig", "(IIII)I"⟩ : Cond) ∈ lw_T := lw_T_in (i := 413) (by decide +kernel) rfl
theorem q414 : (Cond.code ⟨"CircusLines", "rig", "(IIII)I"⟩ prog_1_method_2_code 6 (some .int) : Cond) ∈ lw_T := lw_T_in (i := 414) (by decide +kernel) rfl
theorem q416 : (Cond.classLink "CircusLines" 48 "java/lang/IllegalStateException" : Cond) ∈ lw_T := lw_T_in (i := 416) (by decide +kernel) rfl
theorem q417 : (Cond.instantiable "java/lang/IllegalStateException" 6 : Cond) ∈ lw_T := lw_T_in (i := 417) (by decide +kernel) rfl
theorem q419 : (Cond.selects "java/lang/IllegalStateException" ⟨"java/lang/Throwable", "fillInStackTrace", "(I)Ljava/lang/Throwable;"⟩ ⟨"java/lang/Throwable", "fillInStackTrace", "(I)Ljava/lang/Throwable;"⟩ : Cond) ∈ lw_T := lw_T_in (i := 419) (by decide +kernel) rfl
theorem q426 : (Cond.methodLink "CircusLines" 52 ⟨"java/lang/IllegalStateException", "<init>", "(Ljava/lang/String;)V"⟩ : Cond) ∈ lw_T := lw_T_in (i := 426) (by decide +kernel) rfl
theorem q427 : (Cond.instanceMethod ⟨"java/lang/IllegalStateException", "<init>", "(Ljava/lang/String;)V"⟩ : Cond) ∈ lw_T := lw_T_in (i := 427) (by decide +kernel) rfl
theorem q428 : (Cond.code ⟨"java/lang/IllegalStateException", "<init>", "(Ljava/lang/String;)V"⟩ prog_11_method_2_code 2 none : Cond) ∈ lw_T := lw_T_in (i := 428) (by decide +kernel) rfl
theorem q429 : (Cond.methodLink "java/lang/IllegalStateException" 7 ⟨"java/lang/RuntimeException", "<init>", "(Ljava/lang/String;)V"⟩ : Cond) ∈ lw_T := lw_T_in (i := 429) (by decide +kernel) rfl
theorem q432 : (Cond.instantiable "CircusLines$Trapeze" 9 : Cond) ∈ lw_T := lw_T_in (i := 432) (by decide +kernel) rfl
theorem q433 : (Cond.methodLink "CircusLines" 56 ⟨"CircusLines$Trapeze", "<init>", "(IIIII)V"⟩ : Cond) ∈ lw_T := lw_T_in (i := 433) (by decide +kernel) rfl
theorem q434 : (Cond.instanceMethod ⟨"CircusLines$Trapeze", "<init>", "(IIIII)V"⟩ : Cond) ∈ lw_T := lw_T_in (i := 434) (by decide +kernel) rfl
theorem q435 : (Cond.code ⟨"CircusLines$Trapeze", "<init>", "(IIIII)V"⟩ prog_5_method_1_code 6 none : Cond) ∈ lw_T := lw_T_in (i := 435) (by decide +kernel) rfl
theorem q436 : (Cond.methodLink "CircusLines$Trapeze" 1 ⟨"java/lang/Object", "<init>", "()V"⟩ : Cond) ∈ lw_T := lw_T_in (i := 436) (by decide +kernel) rfl
theorem q437 : (Cond.fieldLink "CircusLines$Trapeze" 7 "CircusLines$Trapeze" "middle" "I" : Cond) ∈ lw_T := lw_T_in (i := 437) (by decide +kernel) rfl
theorem q438 : (Cond.fieldLink "CircusLines" 220 "CircusLines$Trapeze" "middle" "I" : Cond) ∈ lw_T := lw_T_in (i := 438) (by decide +kernel) rfl
theorem q439 : (Cond.fieldLink "CircusLines$Trapeze" 13 "CircusLines$Trapeze" "width" "I" : Cond) ∈ lw_T := lw_T_in (i := 439) (by decide +kernel) rfl
theorem q440 : (Cond.fieldLink "CircusLines" 223 "CircusLines$Trapeze" "width" "I" : Cond) ∈ lw_T := lw_T_in (i := 440) (by decide +kernel) rfl
theorem q441 : (Cond.fieldLink "CircusLines$Trapeze" 19 "CircusLines$Trapeze" "strength" "I" : Cond) ∈ lw_T := lw_T_in (i := 441) (by decide +kernel) rfl
theorem q442 : (Cond.fieldLink "CircusLines" 226 "CircusLines$Trapeze" "strength" "I" : Cond) ∈ lw_T := lw_T_in (i := 442) (by decide +kernel) rfl
theorem q443 : (Cond.fieldLink "CircusLines$Trapeze" 16 "CircusLines$Trapeze" "weight" "I" : Cond) ∈ lw_T := lw_T_in (i := 443) (by decide +kernel) rfl
theorem q444 : (Cond.fieldLink "CircusLines" 76 "CircusLines$Trapeze" "weight" "I" : Cond) ∈ lw_T := lw_T_in (i := 444) (by decide +kernel) rfl
theorem q445 : (Cond.fieldLink "CircusLines$Trapeze" 22 "CircusLines$Trapeze" "leftEndBeat" "I" : Cond) ∈ lw_T := lw_T_in (i := 445) (by decide +kernel) rfl
theorem q446 : (Cond.fieldLink "CircusLines$Trapeze" 29 "CircusLines$Trapeze" "worn" "I" : Cond) ∈ lw_T := lw_T_in (i := 446) (by decide +kernel) rfl
theorem q447 : (Cond.fieldLink "CircusLines" 83 "CircusLines$Trapeze" "worn" "I" : Cond) ∈ lw_T := lw_T_in (i := 447) (by decide +kernel) rfl
theorem q448 : (Cond.fieldLink "CircusLines$Trapeze" 25 "CircusLines$Trapeze" "whole" "Z" : Cond) ∈ lw_T := lw_T_in (i := 448) (by decide +kernel) rfl
theorem q449 : (Cond.fieldLink "CircusLines" 70 "CircusLines$Trapeze" "whole" "Z" : Cond) ∈ lw_T := lw_T_in (i := 449) (by decide +kernel) rfl
theorem q450 : (Cond.fieldLink "CircusLines$Trapeze" 45 "CircusLines$Trapeze" "keptWorn" "I" : Cond) ∈ lw_T := lw_T_in (i := 450) (by decide +kernel) rfl
theorem q451 : (Cond.fieldLink "CircusLines$Trapeze" 48 "CircusLines$Trapeze" "keptWhole" "Z" : Cond) ∈ lw_T := lw_T_in (i := 451) (by decide +kernel) rfl
theorem q471 : (Cond.methodLink "CircusLinesLaw" 33 ⟨"CircusLines", "weigh", "(II)I"⟩ : Cond) ∈ lw_T := lw_T_in (i := 471) (by decide +kernel) rfl
theorem q472 : (Cond.instanceMethod ⟨"CircusLines", "weigh", "(II)I"⟩ : Cond) ∈ lw_T := lw_T_in (i := 472) (by decide +kernel) rfl
theorem q473 : (Cond.selects "CircusLines" ⟨"CircusLines", "weigh", "(II)I"⟩ ⟨"CircusLines", "weigh", "(II)I"⟩ : Cond) ∈ lw_T := lw_T_in (i := 473) (by decide +kernel) rfl
theorem q474 : (Cond.code ⟨"CircusLines", "weigh", "(II)I"⟩ prog_1_method_3_code 5 (some .int) : Cond) ∈ lw_T := lw_T_in (i := 474) (by decide +kernel) rfl
theorem q477 : (Cond.methodLink "CircusLines" 79 ⟨"CircusLines$Trapeze", "setWeight", "(II)V"⟩ : Cond) ∈ lw_T := lw_T_in (i := 477) (by decide +kernel) rfl
theorem q478 : (Cond.instanceMethod ⟨"CircusLines$Trapeze", "setWeight", "(II)V"⟩ : Cond) ∈ lw_T := lw_T_in (i := 478) (by decide +kernel) rfl
theorem q479 : (Cond.selects "CircusLines$Trapeze" ⟨"CircusLines$Trapeze", "setWeight", "(II)V"⟩ ⟨"CircusLines$Trapeze", "setWeight", "(II)V"⟩ : Cond) ∈ lw_T := lw_T_in (i := 479) (by decide +kernel) rfl
theorem q480 : (Cond.code ⟨"CircusLines$Trapeze", "setWeight", "(II)V"⟩ prog_5_method_2_code 3 none : Cond) ∈ lw_T := lw_T_in (i := 480) (by decide +kernel) rfl
theorem q481 : (Cond.methodLink "CircusLinesLaw" 36 ⟨"CircusLines", "mend", "(I)I"⟩ : Cond) ∈ lw_T := lw_T_in (i := 481) (by decide +kernel) rfl
theorem q482 : (Cond.instanceMethod ⟨"CircusLines", "mend", "(I)I"⟩ : Cond) ∈ lw_T := lw_T_in (i := 482) (by decide +kernel) rfl
theorem q483 : (Cond.selects "CircusLines" ⟨"CircusLines", "mend", "(I)I"⟩ ⟨"CircusLines", "mend", "(I)I"⟩ : Cond) ∈ lw_T := lw_T_in (i := 483) (by decide +kernel) rfl
theorem q484 : (Cond.code ⟨"CircusLines", "mend", "(I)I"⟩ prog_1_method_4_code 4 (some .int) : Cond) ∈ lw_T := lw_T_in (i := 484) (by decide +kernel) rfl
theorem q485 : (Cond.methodLink "CircusLines" 86 ⟨"CircusLines$Trapeze", "renewRope", "()V"⟩ : Cond) ∈ lw_T := lw_T_in (i := 485) (by decide +kernel) rfl
theorem q486 : (Cond.instanceMethod ⟨"CircusLines$Trapeze", "renewRope", "()V"⟩ : Cond) ∈ lw_T := lw_T_in (i := 486) (by decide +kernel) rfl
theorem q487 : (Cond.selects "CircusLines$Trapeze" ⟨"CircusLines$Trapeze", "renewRope", "()V"⟩ ⟨"CircusLines$Trapeze", "renewRope", "()V"⟩ : Cond) ∈ lw_T := lw_T_in (i := 487) (by decide +kernel) rfl
theorem q488 : (Cond.code ⟨"CircusLines$Trapeze", "renewRope", "()V"⟩ prog_5_method_3_code 1 none : Cond) ∈ lw_T := lw_T_in (i := 488) (by decide +kernel) rfl
theorem q489 : (Cond.methodLink "CircusLinesLaw" 40 ⟨"CircusLines", "join", "()I"⟩ : Cond) ∈ lw_T := lw_T_in (i := 489) (by decide +kernel) rfl
theorem q490 : (Cond.instanceMethod ⟨"CircusLines", "join", "()I"⟩ : Cond) ∈ lw_T := lw_T_in (i := 490) (by decide +kernel) rfl
theorem q491 : (Cond.selects "CircusLines" ⟨"CircusLines", "join", "()I"⟩ ⟨"CircusLines", "join", "()I"⟩ : Cond) ∈ lw_T := lw_T_in (i := 491) (by decide +kernel) rfl
theorem q492 : (Cond.code ⟨"CircusLines", "join", "()I"⟩ prog_1_method_6_code 2 (some .int) : Cond) ∈ lw_T := lw_T_in (i := 492) (by decide +kernel) rfl
theorem q494 : (Cond.instantiable "CircusLines$Flyer" 10 : Cond) ∈ lw_T := lw_T_in (i := 494) (by decide +kernel) rfl
theorem q496 : (Cond.instanceMethod ⟨"CircusLines$Flyer", "<init>", "()V"⟩ : Cond) ∈ lw_T := lw_T_in (i := 496) (by decide +kernel) rfl
theorem q497 : (Cond.code ⟨"CircusLines$Flyer", "<init>", "()V"⟩ prog_3_method_1_code 1 none : Cond) ∈ lw_T := lw_T_in (i := 497) (by decide +kernel) rfl
theorem q498 : (Cond.methodLink "CircusLines$Flyer" 3 ⟨"java/lang/Object", "<init>", "()V"⟩ : Cond) ∈ lw_T := lw_T_in (i := 498) (by decide +kernel) rfl
theorem q499 : (Cond.fieldLink "CircusLines$Flyer" 9 "CircusLines$Flyer" "state" "I" : Cond) ∈ lw_T := lw_T_in (i := 499) (by decide +kernel) rfl
theorem q500 : (Cond.fieldLink "CircusLines" 229 "CircusLines$Flyer" "state" "I" : Cond) ∈ lw_T := lw_T_in (i := 500) (by decide +kernel) rfl
theorem q501 : (Cond.fieldLink "CircusLines$Flyer" 15 "CircusLines$Flyer" "trapezeNumber" "I" : Cond) ∈ lw_T := lw_T_in (i := 501) (by decide +kernel) rfl
theorem q502 : (Cond.fieldLink "CircusLines" 177 "CircusLines$Flyer" "trapezeNumber" "I" : Cond) ∈ lw_T := lw_T_in (i := 502) (by decide +kernel) rfl
theorem q503 : (Cond.fieldLink "CircusLines$Flyer" 21 "CircusLines$Flyer" "goal" "I" : Cond) ∈ lw_T := lw_T_in (i := 503) (by decide +kernel) rfl
theorem q504 : (Cond.fieldLink "CircusLines" 232 "CircusLines$Flyer" "goal" "I" : Cond) ∈ lw_T := lw_T_in (i := 504) (by decide +kernel) rfl
theorem q505 : (Cond.fieldLink "CircusLines$Flyer" 18 "CircusLines$Flyer" "landingBeat" "I" : Cond) ∈ lw_T := lw_T_in (i := 505) (by decide +kernel) rfl
theorem q506 : (Cond.fieldLink "CircusLines" 235 "CircusLines$Flyer" "landingBeat" "I" : Cond) ∈ lw_T := lw_T_in (i := 506) (by decide +kernel) rfl
theorem q507 : (Cond.fieldLink "CircusLines$Flyer" 36 "CircusLines$Flyer" "caught" "I" : Cond) ∈ lw_T := lw_T_in (i := 507) (by decide +kernel) rfl
theorem q508 : (Cond.fieldLink "CircusLines" 194 "CircusLines$Flyer" "caught" "I" : Cond) ∈ lw_T := lw_T_in (i := 508) (by decide +kernel) rfl
theorem q509 : (Cond.fieldLink "CircusLines$Flyer" 24 "CircusLines$Flyer" "keptState" "I" : Cond) ∈ lw_T := lw_T_in (i := 509) (by decide +kernel) rfl
theorem q510 : (Cond.fieldLink "CircusLines$Flyer" 27 "CircusLines$Flyer" "keptTrapezeNumber" "I" : Cond) ∈ lw_T := lw_T_in (i := 510) (by decide +kernel) rfl
theorem q511 : (Cond.fieldLink "CircusLines$Flyer" 30 "CircusLines$Flyer" "keptGoal" "I" : Cond) ∈ lw_T := lw_T_in (i := 511) (by decide +kernel) rfl
theorem q512 : (Cond.fieldLink "CircusLines$Flyer" 33 "CircusLines$Flyer" "keptLandingBeat" "I" : Cond) ∈ lw_T := lw_T_in (i := 512) (by decide +kernel) rfl
theorem q513 : (Cond.fieldLink "CircusLines$Flyer" 39 "CircusLines$Flyer" "keptCaught" "I" : Cond) ∈ lw_T := lw_T_in (i := 513) (by decide +kernel) rfl
theorem q535 : (Cond.methodLink "CircusLinesLaw" 44 ⟨"CircusLinesLaw$Sim", "hang", "(I)I"⟩ : Cond) ∈ lw_T := lw_T_in (i := 535) (by decide +kernel) rfl
theorem q536 : (Cond.methodLink "CircusLinesLaw" 47 ⟨"CircusLinesLaw$Sim", "state", "([IIIII)V"⟩ : Cond) ∈ lw_T := lw_T_in (i := 536) (by decide +kernel) rfl
theorem q537 : (Cond.methodLink "CircusLinesLaw" 51 ⟨"CircusLines", "mount", "(II)I"⟩ : Cond) ∈ lw_T := lw_T_in (i := 537) (by decide +kernel) rfl
theorem q538 : (Cond.instanceMethod ⟨"CircusLines", "mount", "(II)I"⟩ : Cond) ∈ lw_T := lw_T_in (i := 538) (by decide +kernel) rfl
theorem q539 : (Cond.selects "CircusLines" ⟨"CircusLines", "mount", "(II)I"⟩ ⟨"CircusLines", "mount", "(II)I"⟩ : Cond) ∈ lw_T := lw_T_in (i := 539) (by decide +kernel) rfl
theorem q540 : (Cond.code ⟨"CircusLines", "mount", "(II)I"⟩ prog_1_method_7_code 6 (some .int) : Cond) ∈ lw_T := lw_T_in (i := 540) (by decide +kernel) rfl
theorem q542 : (Cond.methodLink "CircusLines" 114 ⟨"CircusLines$Flyer", "canMount", "()Z"⟩ : Cond) ∈ lw_T := lw_T_in (i := 542) (by decide +kernel) rfl
theorem q543 : (Cond.instanceMethod ⟨"CircusLines$Flyer", "canMount", "()Z"⟩ : Cond) ∈ lw_T := lw_T_in (i := 543) (by decide +kernel) rfl
theorem q544 : (Cond.selects "CircusLines$Flyer" ⟨"CircusLines$Flyer", "canMount", "()Z"⟩ ⟨"CircusLines$Flyer", "canMount", "()Z"⟩ : Cond) ∈ lw_T := lw_T_in (i := 544) (by decide +kernel) rfl
theorem q545 : (Cond.code ⟨"CircusLines$Flyer", "canMount", "()Z"⟩ prog_3_method_2_code 1 (some .boolean) : Cond) ∈ lw_T := lw_T_in (i := 545) (by decide +kernel) rfl
theorem q547 : (Cond.methodLink "CircusLinesLaw" 57 ⟨"java/lang/Math", "min", "(II)I"⟩ : Cond) ∈ lw_T := lw_T_in (i := 547) (by decide +kernel) rfl
theorem q548 : (Cond.static ⟨"java/lang/Math", "min", "(II)I"⟩ : Cond) ∈ lw_T := lw_T_in (i := 548) (by decide +kernel) rfl
theorem q549 : (Cond.code ⟨"java/lang/Math", "min", "(II)I"⟩ prog_13_method_69_code 2 (some .int) : Cond) ∈ lw_T := lw_T_in (i := 549) (by decide +kernel) rfl
theorem q550 : (Cond.methodLink "CircusLinesLaw" 62 ⟨"CircusLines", "spread", "(II)I"⟩ : Cond) ∈ lw_T := lw_T_in (i := 550) (by decide +kernel) rfl
theorem q551 : (Cond.instanceMethod ⟨"CircusLines", "spread", "(II)I"⟩ : Cond) ∈ lw_T := lw_T_in (i := 551) (by decide +kernel) rfl
theorem q552 : (Cond.selects "CircusLines" ⟨"CircusLines", "spread", "(II)I"⟩ ⟨"CircusLines", "spread", "(II)I"⟩ : Cond) ∈ lw_T := lw_T_in (i := 552) (by decide +kernel) rfl
theorem q553 : (Cond.code ⟨"CircusLines", "spread", "(II)I"⟩ prog_1_method_5_code 4 (some .int) : Cond) ∈ lw_T := lw_T_in (i := 553) (by decide +kernel) rfl
theorem q556 : (Cond.instantiable "CircusLines$Net" 2 : Cond) ∈ lw_T := lw_T_in (i := 556) (by decide +kernel) rfl
theorem q557 : (Cond.methodLink "CircusLines" 96 ⟨"CircusLines$Net", "<init>", "(II)V"⟩ : Cond) ∈ lw_T := lw_T_in (i := 557) (by decide +kernel) rfl
theorem q558 : (Cond.instanceMethod ⟨"CircusLines$Net", "<init>", "(II)V"⟩ : Cond) ∈ lw_T := lw_T_in (i := 558) (by decide +kernel) rfl
theorem q559 : (Cond.code ⟨"CircusLines$Net", "<init>", "(II)V"⟩ prog_4_method_1_code 3 none : Cond) ∈ lw_T := lw_T_in (i := 559) (by decide +kernel) rfl
theorem q560 : (Cond.methodLink "CircusLines$Net" 1 ⟨"java/lang/Object", "<init>", "()V"⟩ : Cond) ∈ lw_T := lw_T_in (i := 560) (by decide +kernel) rfl
theorem q561 : (Cond.fieldLink "CircusLines$Net" 7 "CircusLines$Net" "from" "I" : Cond) ∈ lw_T := lw_T_in (i := 561) (by decide +kernel) rfl
theorem q562 : (Cond.fieldLink "CircusLines" 211 "CircusLines$Net" "from" "I" : Cond) ∈ lw_T := lw_T_in (i := 562) (by decide +kernel) rfl
theorem q563 : (Cond.fieldLink "CircusLines$Net" 13 "CircusLines$Net" "to" "I" : Cond) ∈ lw_T := lw_T_in (i := 563) (by decide +kernel) rfl
theorem q564 : (Cond.fieldLink "CircusLines" 214 "CircusLines$Net" "to" "I" : Cond) ∈ lw_T := lw_T_in (i := 564) (by decide +kernel) rfl
theorem q570 : (Cond.methodLink "CircusLinesLaw" 72 ⟨"CircusLines", "cue", "(IIII)I"⟩ : Cond) ∈ lw_T := lw_T_in (i := 570) (by decide +kernel) rfl
theorem q571 : (Cond.instanceMethod ⟨"CircusLines", "cue", "(IIII)I"⟩ : Cond) ∈ lw_T := lw_T_in (i := 571) (by decide +kernel) rfl
theorem q572 : (Cond.selects "CircusLines" ⟨"CircusLines", "cue", "(IIII)I"⟩ ⟨"CircusLines", "cue", "(IIII)I"⟩ : Cond) ∈ lw_T := lw_T_in (i := 572) (by decide +kernel) rfl
theorem q573 : (Cond.code ⟨"CircusLines", "cue", "(IIII)I"⟩ prog_1_method_8_code 6 (some .int) : Cond) ∈ lw_T := lw_T_in (i := 573) (by decide +kernel) rfl
theorem q577 : (Cond.instantiable "CircusLines$Cue" 6 : Cond) ∈ lw_T := lw_T_in (i := 577) (by decide +kernel) rfl
theorem q578 : (Cond.methodLink "CircusLines" 133 ⟨"CircusLines$Cue", "<init>", "(IIII)V"⟩ : Cond) ∈ lw_T := lw_T_in (i := 578) (by decide +kernel) rfl
theorem q579 : (Cond.instanceMethod ⟨"CircusLines$Cue", "<init>", "(IIII)V"⟩ : Cond) ∈ lw_T := lw_T_in (i := 579) (by decide +kernel) rfl
theorem q580 : (Cond.code ⟨"CircusLines$Cue", "<init>", "(IIII)V"⟩ prog_2_method_1_code 5 none : Cond) ∈ lw_T := lw_T_in (i := 580) (by decide +kernel) rfl
theorem q581 : (Cond.methodLink "CircusLines$Cue" 3 ⟨"java/lang/Object", "<init>", "()V"⟩ : Cond) ∈ lw_T := lw_T_in (i := 581) (by decide +kernel) rfl
theorem q582 : (Cond.fieldLink "CircusLines$Cue" 15 "CircusLines$Cue" "beat" "I" : Cond) ∈ lw_T := lw_T_in (i := 582) (by decide +kernel) rfl
theorem q583 : (Cond.fieldLink "CircusLines" 238 "CircusLines$Cue" "beat" "I" : Cond) ∈ lw_T := lw_T_in (i := 583) (by decide +kernel) rfl
theorem q584 : (Cond.fieldLink "CircusLines$Cue" 18 "CircusLines$Cue" "flyerNumber" "I" : Cond) ∈ lw_T := lw_T_in (i := 584) (by decide +kernel) rfl
theorem q585 : (Cond.fieldLink "CircusLines" 239 "CircusLines$Cue" "flyerNumber" "I" : Cond) ∈ lw_T := lw_T_in (i := 585) (by decide +kernel) rfl
theorem q586 : (Cond.fieldLink "CircusLines$Cue" 21 "CircusLines$Cue" "reach" "I" : Cond) ∈ lw_T := lw_T_in (i := 586) (by decide +kernel) rfl
theorem q587 : (Cond.fieldLink "CircusLines" 242 "CircusLines$Cue" "reach" "I" : Cond) ∈ lw_T := lw_T_in (i := 587) (by decide +kernel) rfl
theorem q588 : (Cond.fieldLink "CircusLines$Cue" 24 "CircusLines$Cue" "time" "I" : Cond) ∈ lw_T := lw_T_in (i := 588) (by decide +kernel) rfl
theorem q589 : (Cond.fieldLink "CircusLines" 245 "CircusLines$Cue" "time" "I" : Cond) ∈ lw_T := lw_T_in (i := 589) (by decide +kernel) rfl
theorem q590 : (Cond.fieldLink "CircusLines$Cue" 9 "CircusLines$Cue" "state" "I" : Cond) ∈ lw_T := lw_T_in (i := 590) (by decide +kernel) rfl
theorem q591 : (Cond.fieldLink "CircusLines" 248 "CircusLines$Cue" "state" "I" : Cond) ∈ lw_T := lw_T_in (i := 591) (by decide +kernel) rfl
theorem q592 : (Cond.fieldLink "CircusLines$Cue" 27 "CircusLines$Cue" "keptState" "I" : Cond) ∈ lw_T := lw_T_in (i := 592) (by decide +kernel) rfl
theorem q606 : (Cond.methodLink "CircusLinesLaw" 85 ⟨"CircusLinesLaw", "build", "(LCircusLines;[I)LCircusLinesLaw$Sim;"⟩ : Cond) ∈ lw_T := lw_T_in (i := 606) (by decide +kernel) rfl
theorem q607 : (Cond.static ⟨"CircusLinesLaw", "build", "(LCircusLines;[I)LCircusLinesLaw$Sim;"⟩ : Cond) ∈ lw_T := lw_T_in (i := 607) (by decide +kernel) rfl
theorem q608 : (Cond.code ⟨"CircusLinesLaw", "build", "(LCircusLines;[I)LCircusLinesLaw$Sim;"⟩ method_5_code 4 (some (.object "CircusLinesLaw$Sim")) : Cond) ∈ lw_T := lw_T_in (i := 608) (by decide +kernel) rfl
theorem q609 : (Cond.classLink "CircusLinesLaw" 10 "CircusLinesLaw$Sim" : Cond) ∈ lw_T := lw_T_in (i := 609) (by decide +kernel) rfl
theorem q610 : (Cond.instantiable "CircusLinesLaw$Sim" 5 : Cond) ∈ lw_T := lw_T_in (i := 610) (by decide +kernel) rfl
theorem q612 : (Cond.instanceMethod ⟨"CircusLinesLaw$Sim", "<init>", "()V"⟩ : Cond) ∈ lw_T := lw_T_in (i := 612) (by decide +kernel) rfl
theorem q613 : (Cond.code ⟨"CircusLinesLaw$Sim", "<init>", "()V"⟩ prog_7_method_1_code 1 none : Cond) ∈ lw_T := lw_T_in (i := 613) (by decide +kernel) rfl
theorem q614 : (Cond.methodLink "CircusLinesLaw$Sim" 1 ⟨"java/lang/Object", "<init>", "()V"⟩ : Cond) ∈ lw_T := lw_T_in (i := 614) (by decide +kernel) rfl
theorem q615 : (Cond.fieldLink "CircusLinesLaw$Sim" 9 "CircusLinesLaw$Sim" "rig" "[[I" : Cond) ∈ lw_T := lw_T_in (i := 615) (by decide +kernel) rfl
theorem q616 : (Cond.fieldLink "CircusLinesLaw" 9 "CircusLinesLaw$Sim" "rig" "[[I" : Cond) ∈ lw_T := lw_T_in (i := 616) (by decide +kernel) rfl
theorem q617 : (Cond.fieldLink "CircusLinesLaw$Sim" 15 "CircusLinesLaw$Sim" "flyers" "[[I" : Cond) ∈ lw_T := lw_T_in (i := 617) (by decide +kernel) rfl
theorem q618 : (Cond.fieldLink "CircusLinesLaw" 15 "CircusLinesLaw$Sim" "flyers" "[[I" : Cond) ∈ lw_T := lw_T_in (i := 618) (by decide +kernel) rfl
theorem q619 : (Cond.fieldLink "CircusLinesLaw$Sim" 18 "CircusLinesLaw$Sim" "cues" "[[I" : Cond) ∈ lw_T := lw_T_in (i := 619) (by decide +kernel) rfl
theorem q620 : (Cond.fieldLink "CircusLinesLaw" 65 "CircusLinesLaw$Sim" "cues" "[[I" : Cond) ∈ lw_T := lw_T_in (i := 620) (by decide +kernel) rfl
theorem q621 : (Cond.fieldLink "CircusLinesLaw$Sim" 21 "CircusLinesLaw$Sim" "nets" "[[I" : Cond) ∈ lw_T := lw_T_in (i := 621) (by decide +kernel) rfl
theorem q622 : (Cond.fieldLink "CircusLinesLaw" 54 "CircusLinesLaw$Sim" "nets" "[[I" : Cond) ∈ lw_T := lw_T_in (i := 622) (by decide +kernel) rfl
theorem q623 : (Cond.fieldLink "CircusLinesLaw" 68 "CircusLinesLaw$Sim" "beat" "I" : Cond) ∈ lw_T := lw_T_in (i := 623) (by decide +kernel) rfl
theorem q624 : (Cond.fieldLink "CircusLinesLaw$Sim" 33 "CircusLinesLaw$Sim" "beat" "I" : Cond) ∈ lw_T := lw_T_in (i := 624) (by decide +kernel) rfl
theorem q636 : (Cond.methodLink "CircusLinesLaw" 116 ⟨"java/lang/Math", "abs", "(I)I"⟩ : Cond) ∈ lw_T := lw_T_in (i := 636) (by decide +kernel) rfl
theorem q637 : (Cond.static ⟨"java/lang/Math", "abs", "(I)I"⟩ : Cond) ∈ lw_T := lw_T_in (i := 637) (by decide +kernel) rfl
theorem q638 : (Cond.code ⟨"java/lang/Math", "abs", "(I)I"⟩ prog_13_method_59_code 1 (some .int) : Cond) ∈ lw_T := lw_T_in (i := 638) (by decide +kernel) rfl
theorem q639 : (Cond.classLink "CircusLinesLaw" 92 "[[I" : Cond) ∈ lw_T := lw_T_in (i := 639) (by decide +kernel) rfl
theorem fl_L_9 : g_fl "CircusLinesLaw" 9 5 0 := ⟨_, _, _, rfl, Nat.le_of_ble_eq_true rfl, inX5, q616, rfl⟩
theorem fl_L_15 : g_fl "CircusLinesLaw" 15 5 1 := ⟨_, _, _, rfl, Nat.le_of_ble_eq_true rfl, inX5, q618, rfl⟩
theorem fl_L_54 : g_fl "CircusLinesLaw" 54 5 3 := ⟨_, _, _, rfl, Nat.le_of_ble_eq_true rfl, inX5, q622, rfl⟩
theorem fl_L_65 : g_fl "CircusLinesLaw" 65 5 2 := ⟨_, _, _, rfl, Nat.le_of_ble_eq_true rfl, inX5, q620, rfl⟩
theorem fl_L_68 : g_fl "CircusLinesLaw" 68 5 4 := ⟨_, _, _, rfl, Nat.le_of_ble_eq_true rfl, inX5, q623, rfl⟩
theorem fl_X0_9 : g_fl "CircusLines$Cue" 9 0 4 := ⟨_, _, _, rfl, Nat.le_of_ble_eq_true rfl, inX0, q590, rfl⟩
theorem fl_X0_15 : g_fl "CircusLines$Cue" 15 0 0 := ⟨_, _, _, rfl, Nat.le_of_ble_eq_true rfl, inX0, q582, rfl⟩
theorem fl_X0_18 : g_fl "CircusLines$Cue" 18 0 1 := ⟨_, _, _, rfl, Nat.le_of_ble_eq_true rfl, inX0, q584, rfl⟩
theorem fl_X0_21 : g_fl "CircusLines$Cue" 21 0 2 := ⟨_, _, _, rfl, Nat.le_of_ble_eq_true rfl, inX0, q586, rfl⟩
theorem fl_X0_24 : g_fl "CircusLines$Cue" 24 0 3 := ⟨_, _, _, rfl, Nat.le_of_ble_eq_true rfl, inX0, q588, rfl⟩
theorem fl_X0_27 : g_fl "CircusLines$Cue" 27 0 5 := ⟨_, _, _, rfl, Nat.le_of_ble_eq_true rfl, inX0, q592, rfl⟩
theorem fl_X1_9 : g_fl "CircusLines$Flyer" 9 1 0 := ⟨_, _, _, rfl, Nat.le_of_ble_eq_true rfl, inX1, q499, rfl⟩
theorem fl_X1_15 : g_fl "CircusLines$Flyer" 15 1 1 := ⟨_, _, _, rfl, Nat.le_of_ble_eq_true rfl, inX1, q501, rfl⟩
theorem fl_X1_18 : g_fl "CircusLines$Flyer" 18 1 3 := ⟨_, _, _, rfl, Nat.le_of_ble_eq_true rfl, inX1, q505, rfl⟩
theorem fl_X1_21 : g_fl "CircusLines$Flyer" 21 1 2 := ⟨_, _, _, rfl, Nat.le_of_ble_eq_true rfl, inX1, q503, rfl⟩
theorem fl_X1_24 : g_fl "CircusLines$Flyer" 24 1 5 := ⟨_, _, _, rfl, Nat.le_of_ble_eq_true rfl, inX1, q509, rfl⟩
theorem fl_X1_27 : g_fl "CircusLines$Flyer" 27 1 6 := ⟨_, _, _, rfl, Nat.le_of_ble_eq_true rfl, inX1, q510, rfl⟩
theorem fl_X1_30 : g_fl "CircusLines$Flyer" 30 1 7 := ⟨_, _, _, rfl, Nat.le_of_ble_eq_true rfl, inX1, q511, rfl⟩
theorem fl_X1_33 : g_fl "CircusLines$Flyer" 33 1 8 := ⟨_, _, _, rfl, Nat.le_of_ble_eq_true rfl, inX1, q512, rfl⟩
theorem fl_X1_36 : g_fl "CircusLines$Flyer" 36 1 4 := ⟨_, _, _, rfl, Nat.le_of_ble_eq_true rfl, inX1, q507, rfl⟩
theorem fl_X1_39 : g_fl "CircusLines$Flyer" 39 1 9 := ⟨_, _, _, rfl, Nat.le_of_ble_eq_true rfl, inX1, q513, rfl⟩
theorem fl_X2_7 : g_fl "CircusLines$Net" 7 2 0 := ⟨_, _, _, rfl, Nat.le_of_ble_eq_true rfl, inX2, q561, rfl⟩
theorem fl_X2_13 : g_fl "CircusLines$Net" 13 2 1 := ⟨_, _, _, rfl, Nat.le_of_ble_eq_true rfl, inX2, q563, rfl⟩
theorem fl_X3_7 : g_fl "CircusLines$Trapeze" 7 3 0 := ⟨_, _, _, rfl, Nat.le_of_ble_eq_true rfl, inX3, q437, rfl⟩
theorem fl_X3_13 : g_fl "CircusLines$Trapeze" 13 3 1 := ⟨_, _, _, rfl, Nat.le_of_ble_eq_true rfl, inX3, q439, rfl⟩
theorem fl_X3_16 : g_fl "CircusLines$Trapeze" 16 3 3 := ⟨_, _, _, rfl, Nat.le_of_ble_eq_true rfl, inX3, q443, rfl⟩
theorem fl_X3_19 : g_fl "CircusLines$Trapeze" 19 3 2 := ⟨_, _, _, rfl, Nat.le_of_ble_eq_true rfl, inX3, q441, rfl⟩
theorem fl_X3_22 : g_fl "CircusLines$Trapeze" 22 3 4 := ⟨_, _, _, rfl, Nat.le_of_ble_eq_true rfl, inX3, q445, rfl⟩
theorem fl_X3_25 : g_fl "CircusLines$Trapeze" 25 3 6 := ⟨_, _, _, rfl, Nat.le_of_ble_eq_true rfl, inX3, q448, rfl⟩
theorem fl_X3_29 : g_fl "CircusLines$Trapeze" 29 3 5 := ⟨_, _, _, rfl, Nat.le_of_ble_eq_true rfl, inX3, q446, rfl⟩
theorem fl_X3_45 : g_fl "CircusLines$Trapeze" 45 3 7 := ⟨_, _, _, rfl, Nat.le_of_ble_eq_true rfl, inX3, q450, rfl⟩
theorem fl_X3_48 : g_fl "CircusLines$Trapeze" 48 3 8 := ⟨_, _, _, rfl, Nat.le_of_ble_eq_true rfl, inX3, q451, rfl⟩
theorem fl_X4_11 : g_fl "CircusLines" 11 4 0 := ⟨_, _, _, rfl, Nat.le_of_ble_eq_true rfl, inX4, q50, rfl⟩
theorem fl_X4_17 : g_fl "CircusLines" 17 4 1 := ⟨_, _, _, rfl, Nat.le_of_ble_eq_true rfl, inX4, q51, rfl⟩
theorem fl_X4_23 : g_fl "CircusLines" 23 4 2 := ⟨_, _, _, rfl, Nat.le_of_ble_eq_true rfl, inX4, q52, rfl⟩
theorem fl_X4_29 : g_fl "CircusLines" 29 4 3 := ⟨_, _, _, rfl, Nat.le_of_ble_eq_true rfl, inX4, q53, rfl⟩
theorem fl_X4_44 : g_fl "CircusLines" 44 4 4 := ⟨_, _, _, rfl, Nat.le_of_ble_eq_true rfl, inX4, q54, rfl⟩
theorem fl_X4_53 : g_fl "CircusLines" 53 4 8 := ⟨_, _, _, rfl, Nat.le_of_ble_eq_true rfl, inX4, q58, rfl⟩
theorem fl_X4_70 : g_fl "CircusLines" 70 3 6 := ⟨_, _, _, rfl, Nat.le_of_ble_eq_true rfl, inX3, q449, rfl⟩
theorem fl_X4_76 : g_fl "CircusLines" 76 3 3 := ⟨_, _, _, rfl, Nat.le_of_ble_eq_true rfl, inX3, q444, rfl⟩
theorem fl_X4_83 : g_fl "CircusLines" 83 3 5 := ⟨_, _, _, rfl, Nat.le_of_ble_eq_true rfl, inX3, q447, rfl⟩
theorem fl_X4_91 : g_fl "CircusLines" 91 4 7 := ⟨_, _, _, rfl, Nat.le_of_ble_eq_true rfl, inX4, q57, rfl⟩
theorem fl_X4_98 : g_fl "CircusLines" 98 4 5 := ⟨_, _, _, rfl, Nat.le_of_ble_eq_true rfl, inX4, q55, rfl⟩
theorem fl_X4_128 : g_fl "CircusLines" 128 4 6 := ⟨_, _, _, rfl, Nat.le_of_ble_eq_true rfl, inX4, q56, rfl⟩
theorem fl_X4_177 : g_fl "CircusLines" 177 1 1 := ⟨_, _, _, rfl, Nat.le_of_ble_eq_true rfl, inX1, q502, rfl⟩
theorem fl_X4_194 : g_fl "CircusLines" 194 1 4 := ⟨_, _, _, rfl, Nat.le_of_ble_eq_true rfl, inX1, q508, rfl⟩
theorem fl_X4_211 : g_fl "CircusLines" 211 2 0 := ⟨_, _, _, rfl, Nat.le_of_ble_eq_true rfl, inX2, q562, rfl⟩
theorem fl_X4_214 : g_fl "CircusLines" 214 2 1 := ⟨_, _, _, rfl, Nat.le_of_ble_eq_true rfl, inX2, q564, rfl⟩
theorem fl_X4_220 : g_fl "CircusLines" 220 3 0 := ⟨_, _, _, rfl, Nat.le_of_ble_eq_true rfl, inX3, q438, rfl⟩
theorem fl_X4_223 : g_fl "CircusLines" 223 3 1 := ⟨_, _, _, rfl, Nat.le_of_ble_eq_true rfl, inX3, q440, rfl⟩
theorem fl_X4_226 : g_fl "CircusLines" 226 3 2 := ⟨_, _, _, rfl, Nat.le_of_ble_eq_true rfl, inX3, q442, rfl⟩
theorem fl_X4_229 : g_fl "CircusLines" 229 1 0 := ⟨_, _, _, rfl, Nat.le_of_ble_eq_true rfl, inX1, q500, rfl⟩
theorem fl_X4_232 : g_fl "CircusLines" 232 1 2 := ⟨_, _, _, rfl, Nat.le_of_ble_eq_true rfl, inX1, q504, rfl⟩
theorem fl_X4_235 : g_fl "CircusLines" 235 1 3 := ⟨_, _, _, rfl, Nat.le_of_ble_eq_true rfl, inX1, q506, rfl⟩
theorem fl_X4_238 : g_fl "CircusLines" 238 0 0 := ⟨_, _, _, rfl, Nat.le_of_ble_eq_true rfl, inX0, q583, rfl⟩
theorem fl_X4_239 : g_fl "CircusLines" 239 0 1 := ⟨_, _, _, rfl, Nat.le_of_ble_eq_true rfl, inX0, q585, rfl⟩
theorem fl_X4_242 : g_fl "CircusLines" 242 0 2 := ⟨_, _, _, rfl, Nat.le_of_ble_eq_true rfl, inX0, q587, rfl⟩
theorem fl_X4_245 : g_fl "CircusLines" 245 0 3 := ⟨_, _, _, rfl, Nat.le_of_ble_eq_true rfl, inX0, q589, rfl⟩
theorem fl_X4_248 : g_fl "CircusLines" 248 0 4 := ⟨_, _, _, rfl, Nat.le_of_ble_eq_true rfl, inX0, q591, rfl⟩
theorem fl_X5_9 : g_fl "CircusLinesLaw$Sim" 9 5 0 := ⟨_, _, _, rfl, Nat.le_of_ble_eq_true rfl, inX5, q615, rfl⟩
theorem fl_X5_15 : g_fl "CircusLinesLaw$Sim" 15 5 1 := ⟨_, _, _, rfl, Nat.le_of_ble_eq_true rfl, inX5, q617, rfl⟩
theorem fl_X5_18 : g_fl "CircusLinesLaw$Sim" 18 5 2 := ⟨_, _, _, rfl, Nat.le_of_ble_eq_true rfl, inX5, q619, rfl⟩
theorem fl_X5_21 : g_fl "CircusLinesLaw$Sim" 21 5 3 := ⟨_, _, _, rfl, Nat.le_of_ble_eq_true rfl, inX5, q621, rfl⟩
theorem fl_X5_33 : g_fl "CircusLinesLaw$Sim" 33 5 4 := ⟨_, _, _, rfl, Nat.le_of_ble_eq_true rfl, inX5, q624, rfl⟩
theorem fp_X0_0 : g_fp 0 0 .int true := ⟨_, _, _, tyX0, rfl, tyX0_ok, nmX0, rfl, by decide +kernel⟩
theorem fp_X0_1 : g_fp 0 1 .int true := ⟨_, _, _, tyX0, rfl, tyX0_ok, nmX0, rfl, by decide +kernel⟩
theorem fp_X0_2 : g_fp 0 2 .int true := ⟨_, _, _, tyX0, rfl, tyX0_ok, nmX0, rfl, by decide +kernel⟩
theorem fp_X0_3 : g_fp 0 3 .int true := ⟨_, _, _, tyX0, rfl, tyX0_ok, nmX0, rfl, by decide +kernel⟩
theorem fp_X0_4 : g_fp 0 4 .int false := ⟨_, _, _, tyX0, rfl, tyX0_ok, nmX0, rfl, by decide +kernel⟩
theorem fp_X0_5 : g_fp 0 5 .int false := ⟨_, _, _, tyX0, rfl, tyX0_ok, nmX0, rfl, by decide +kernel⟩
theorem fp_X1_0 : g_fp 1 0 .int false := ⟨_, _, _, tyX1, rfl, tyX1_ok, nmX1, rfl, by decide +kernel⟩
theorem fp_X1_1 : g_fp 1 1 .int false := ⟨_, _, _, tyX1, rfl, tyX1_ok, nmX1, rfl, by decide +kernel⟩
theorem fp_X1_2 : g_fp 1 2 .int false := ⟨_, _, _, tyX1, rfl, tyX1_ok, nmX1, rfl, by decide +kernel⟩
theorem fp_X1_3 : g_fp 1 3 .int false := ⟨_, _, _, tyX1, rfl, tyX1_ok, nmX1, rfl, by decide +kernel⟩
theorem fp_X1_4 : g_fp 1 4 .int false := ⟨_, _, _, tyX1, rfl, tyX1_ok, nmX1, rfl, by decide +kernel⟩
theorem fp_X1_5 : g_fp 1 5 .int false := ⟨_, _, _, tyX1, rfl, tyX1_ok, nmX1, rfl, by decide +kernel⟩
theorem fp_X1_6 : g_fp 1 6 .int false := ⟨_, _, _, tyX1, rfl, tyX1_ok, nmX1, rfl, by decide +kernel⟩
theorem fp_X1_7 : g_fp 1 7 .int false := ⟨_, _, _, tyX1, rfl, tyX1_ok, nmX1, rfl, by decide +kernel⟩
theorem fp_X1_8 : g_fp 1 8 .int false := ⟨_, _, _, tyX1, rfl, tyX1_ok, nmX1, rfl, by decide +kernel⟩
theorem fp_X1_9 : g_fp 1 9 .int false := ⟨_, _, _, tyX1, rfl, tyX1_ok, nmX1, rfl, by decide +kernel⟩
theorem fp_X2_0 : g_fp 2 0 .int true := ⟨_, _, _, tyX2, rfl, tyX2_ok, nmX2, rfl, by decide +kernel⟩
theorem fp_X2_1 : g_fp 2 1 .int true := ⟨_, _, _, tyX2, rfl, tyX2_ok, nmX2, rfl, by decide +kernel⟩
theorem fp_X3_0 : g_fp 3 0 .int true := ⟨_, _, _, tyX3, rfl, tyX3_ok, nmX3, rfl, by decide +kernel⟩
theorem fp_X3_1 : g_fp 3 1 .int true := ⟨_, _, _, tyX3, rfl, tyX3_ok, nmX3, rfl, by decide +kernel⟩
theorem fp_X3_2 : g_fp 3 2 .int true := ⟨_, _, _, tyX3, rfl, tyX3_ok, nmX3, rfl, by decide +kernel⟩
theorem fp_X3_3 : g_fp 3 3 .int false := ⟨_, _, _, tyX3, rfl, tyX3_ok, nmX3, rfl, by decide +kernel⟩
theorem fp_X3_4 : g_fp 3 4 .int false := ⟨_, _, _, tyX3, rfl, tyX3_ok, nmX3, rfl, by decide +kernel⟩
theorem fp_X3_5 : g_fp 3 5 .int false := ⟨_, _, _, tyX3, rfl, tyX3_ok, nmX3, rfl, by decide +kernel⟩
theorem fp_X3_6 : g_fp 3 6 .boolean false := ⟨_, _, _, tyX3, rfl, tyX3_ok, nmX3, rfl, by decide +kernel⟩
theorem fp_X3_7 : g_fp 3 7 .int false := ⟨_, _, _, tyX3, rfl, tyX3_ok, nmX3, rfl, by decide +kernel⟩
theorem fp_X3_8 : g_fp 3 8 .boolean false := ⟨_, _, _, tyX3, rfl, tyX3_ok, nmX3, rfl, by decide +kernel⟩
theorem fp_X4_0 : g_fp 4 0 (.array (.object "CircusLines$Trapeze")) true := ⟨_, _, _, tyX4, rfl, tyX4_ok, nmX4, rfl, by decide +kernel⟩
theorem fp_X4_1 : g_fp 4 1 (.array (.object "CircusLines$Flyer")) true := ⟨_, _, _, tyX4, rfl, tyX4_ok, nmX4, rfl, by decide +kernel⟩
theorem fp_X4_2 : g_fp 4 2 (.array (.object "CircusLines$Cue")) true := ⟨_, _, _, tyX4, rfl, tyX4_ok, nmX4, rfl, by decide +kernel⟩
theorem fp_X4_3 : g_fp 4 3 (.array (.object "CircusLines$Net")) true := ⟨_, _, _, tyX4, rfl, tyX4_ok, nmX4, rfl, by decide +kernel⟩
theorem fp_X4_4 : g_fp 4 4 .int false := ⟨_, _, _, tyX4, rfl, tyX4_ok, nmX4, rfl, by decide +kernel⟩
theorem fp_X4_5 : g_fp 4 5 .int false := ⟨_, _, _, tyX4, rfl, tyX4_ok, nmX4, rfl, by decide +kernel⟩
theorem fp_X4_6 : g_fp 4 6 .int false := ⟨_, _, _, tyX4, rfl, tyX4_ok, nmX4, rfl, by decide +kernel⟩
theorem fp_X4_7 : g_fp 4 7 .int false := ⟨_, _, _, tyX4, rfl, tyX4_ok, nmX4, rfl, by decide +kernel⟩
theorem fp_X4_8 : g_fp 4 8 .int false := ⟨_, _, _, tyX4, rfl, tyX4_ok, nmX4, rfl, by decide +kernel⟩
theorem fp_X5_0 : g_fp 5 0 (.array (.array .int)) false := ⟨_, _, _, tyX5, rfl, tyX5_ok, nmX5, rfl, by decide +kernel⟩
theorem fp_X5_1 : g_fp 5 1 (.array (.array .int)) false := ⟨_, _, _, tyX5, rfl, tyX5_ok, nmX5, rfl, by decide +kernel⟩
theorem fp_X5_2 : g_fp 5 2 (.array (.array .int)) false := ⟨_, _, _, tyX5, rfl, tyX5_ok, nmX5, rfl, by decide +kernel⟩
theorem fp_X5_3 : g_fp 5 3 (.array (.array .int)) false := ⟨_, _, _, tyX5, rfl, tyX5_ok, nmX5, rfl, by decide +kernel⟩
theorem fp_X5_4 : g_fp 5 4 .int false := ⟨_, _, _, tyX5, rfl, tyX5_ok, nmX5, rfl, by decide +kernel⟩
theorem mS_L_act : g_mS yL_act method_4_code 20 (some .boolean) 3 := ⟨q401, q20, ⟨by decide +kernel, by decide +kernel⟩, by decide +kernel, q400⟩
theorem mS_L_below : g_mS yL_below method_2_code 2 (some .int) 2 := ⟨q404, q20, ⟨by decide +kernel, by decide +kernel⟩, by decide +kernel, q403⟩
theorem mS_L_build : g_mS yL_build method_5_code 4 (some (.object "CircusLinesLaw$Sim")) 2 := ⟨q608, q20, ⟨by decide +kernel, by decide +kernel⟩, by decide +kernel, q607⟩
theorem mS_L_cell : g_mS yL_cell method_3_code 2 (some .int) 2 := ⟨q397, q20, ⟨by decide +kernel, by decide +kernel⟩, by decide +kernel, q396⟩
theorem mI_X0_init : g_mI yX0_init prog_2_method_1_code 5 4 := ⟨q580, q33, ⟨by decide +kernel, by decide +kernel⟩, by decide +kernel, q579, rfl⟩
theorem mV_X0_keep : g_mV yX0_keep prog_2_method_2_code 1 none 0 := ⟨q334, q33, ⟨by decide +kernel, by decide +kernel⟩, by decide +kernel, q332, q333⟩
theorem mV_X0_takeBack : g_mV yX0_takeBack prog_2_method_3_code 1 none 0 := ⟨q350, q33, ⟨by decide +kernel, by decide +kernel⟩, by decide +kernel, q348, q349⟩
theorem mI_X1_init : g_mI yX1_init prog_3_method_1_code 1 0 := ⟨q497, q30, ⟨by decide +kernel, by decide +kernel⟩, by decide +kernel, q496, rfl⟩
theorem mV_X1_canMount : g_mV yX1_canMount prog_3_method_2_code 1 (some .boolean) 0 := ⟨q545, q30, ⟨by decide +kernel, by decide +kernel⟩, by decide +kernel, q543, q544⟩
theorem mV_X1_comesIn : g_mV yX1_comesIn prog_3_method_4_code 2 (some .boolean) 1 := ⟨q274, q30, ⟨by decide +kernel, by decide +kernel⟩, by decide +kernel, q272, q273⟩
theorem mV_X1_fall : g_mV yX1_fall prog_3_method_7_code 2 none 1 := ⟨q289, q30, ⟨by decide +kernel, by decide +kernel⟩, by decide +kernel, q287, q288⟩
theorem mV_X1_flyTo : g_mV yX1_flyTo prog_3_method_6_code 3 none 2 := ⟨q266, q30, ⟨by decide +kernel, by decide +kernel⟩, by decide +kernel, q264, q265⟩
theorem mV_X1_hangFrom : g_mV yX1_hangFrom prog_3_method_5_code 2 none 1 := ⟨q293, q30, ⟨by decide +kernel, by decide +kernel⟩, by decide +kernel, q291, q292⟩
theorem mV_X1_hangsFrom : g_mV yX1_hangsFrom prog_3_method_3_code 2 (some .boolean) 1 := ⟨q182, q30, ⟨by decide +kernel, by decide +kernel⟩, by decide +kernel, q180, q181⟩
theorem mV_X1_keep : g_mV yX1_keep prog_3_method_8_code 1 none 0 := ⟨q330, q30, ⟨by decide +kernel, by decide +kernel⟩, by decide +kernel, q328, q329⟩
theorem mV_X1_takeBack : g_mV yX1_takeBack prog_3_method_9_code 1 none 0 := ⟨q346, q30, ⟨by decide +kernel, by decide +kernel⟩, by decide +kernel, q344, q345⟩
theorem mI_X2_init : g_mI yX2_init prog_4_method_1_code 3 2 := ⟨q559, q32, ⟨by decide +kernel, by decide +kernel⟩, by decide +kernel, q558, rfl⟩
theorem mI_X3_init : g_mI yX3_init prog_5_method_1_code 6 5 := ⟨q435, q28, ⟨by decide +kernel, by decide +kernel⟩, by decide +kernel, q434, rfl⟩
theorem mS_X3_halfSwing : g_mS yX3_halfSwing prog_5_method_8_code 1 (some .int) 1 := ⟨q171, q28, ⟨by decide +kernel, by decide +kernel⟩, by decide +kernel, q170⟩
theorem mV_X3_isAtLeftEndIn : g_mV yX3_isAtLeftEndIn prog_5_method_6_code 2 (some .boolean) 1 := ⟨q301, q28, ⟨by decide +kernel, by decide +kernel⟩, by decide +kernel, q299, q300⟩
theorem mV_X3_keep : g_mV yX3_keep prog_5_method_9_code 1 none 0 := ⟨q326, q28, ⟨by decide +kernel, by decide +kernel⟩, by decide +kernel, q324, q325⟩
theorem mV_X3_placeIn : g_mV yX3_placeIn prog_5_method_5_code 2 (some .int) 1 := ⟨q164, q28, ⟨by decide +kernel, by decide +kernel⟩, by decide +kernel, q162, q163⟩
theorem mV_X3_placeSinceLeftEnd : g_mV yX3_placeSinceLeftEnd prog_5_method_7_code 5 (some .int) 2 := ⟨q168, q28, ⟨by decide +kernel, by decide +kernel⟩, by decide +kernel, q166, q167⟩
theorem mV_X3_renewRope : g_mV yX3_renewRope prog_5_method_3_code 1 none 0 := ⟨q488, q28, ⟨by decide +kernel, by decide +kernel⟩, by decide +kernel, q486, q487⟩
theorem mV_X3_setWeight : g_mV yX3_setWeight prog_5_method_2_code 3 none 2 := ⟨q480, q28, ⟨by decide +kernel, by decide +kernel⟩, by decide +kernel, q478, q479⟩
theorem mV_X3_takeBack : g_mV yX3_takeBack prog_5_method_10_code 1 none 0 := ⟨q342, q28, ⟨by decide +kernel, by decide +kernel⟩, by decide +kernel, q340, q341⟩
theorem mV_X3_wear : g_mV yX3_wear prog_5_method_4_code 2 none 1 := ⟨q305, q28, ⟨by decide +kernel, by decide +kernel⟩, by decide +kernel, q303, q304⟩
theorem mI_X4_init : g_mI yX4_init prog_1_method_1_code 1 0 := ⟨q38, q21, ⟨by decide +kernel, by decide +kernel⟩, by decide +kernel, q37, rfl⟩
theorem mV_X4_callCues : g_mV yX4_callCues prog_1_method_39_code 5 none 0 := ⟨q258, q21, ⟨by decide +kernel, by decide +kernel⟩, by decide +kernel, q257, q11⟩
theorem mV_X4_called : g_mV yX4_called prog_1_method_11_code 4 (some .int) 2 := ⟨q199, q21, ⟨by decide +kernel, by decide +kernel⟩, by decide +kernel, q197, q198⟩
theorem mV_X4_catcherAt : g_mV yX4_catcherAt prog_1_method_42_code 4 (some .int) 1 := ⟨q278, q21, ⟨by decide +kernel, by decide +kernel⟩, by decide +kernel, q277, q14⟩
theorem mV_X4_count : g_mV yX4_count prog_1_method_12_code 2 (some .int) 1 := ⟨q207, q21, ⟨by decide +kernel, by decide +kernel⟩, by decide +kernel, q205, q206⟩
theorem mV_X4_cue : g_mV yX4_cue prog_1_method_8_code 6 (some .int) 4 := ⟨q573, q21, ⟨by decide +kernel, by decide +kernel⟩, by decide +kernel, q571, q572⟩
theorem mV_X4_dropFrom : g_mV yX4_dropFrom prog_1_method_44_code 8 none 2 := ⟨q309, q21, ⟨by decide +kernel, by decide +kernel⟩, by decide +kernel, q308, q17⟩
theorem mV_X4_endFlights : g_mV yX4_endFlights prog_1_method_41_code 7 (some .int) 0 := ⟨q270, q21, ⟨by decide +kernel, by decide +kernel⟩, by decide +kernel, q269, q13⟩
theorem mV_X4_flyer : g_mV yX4_flyer prog_1_method_10_code 4 (some .int) 2 := ⟨q186, q21, ⟨by decide +kernel, by decide +kernel⟩, by decide +kernel, q184, q185⟩
theorem mV_X4_flyerNumbered : g_mV yX4_flyerNumbered prog_1_method_25_code 2 (some (.object "CircusLines$Flyer")) 1 := ⟨q190, q21, ⟨by decide +kernel, by decide +kernel⟩, by decide +kernel, q189, q4⟩
theorem mV_X4_flyersWhoAre : g_mV yX4_flyersWhoAre prog_1_method_33_code 7 (some .int) 1 := ⟨q220, q21, ⟨by decide +kernel, by decide +kernel⟩, by decide +kernel, q219, q8⟩
theorem mV_X4_foresee : g_mV yX4_foresee prog_1_method_19_code 5 (some .int) 2 := ⟨q317, q21, ⟨by decide +kernel, by decide +kernel⟩, by decide +kernel, q315, q316⟩
theorem mV_X4_go : g_mV yX4_go prog_1_method_15_code 2 (some .int) 1 := ⟨q249, q21, ⟨by decide +kernel, by decide +kernel⟩, by decide +kernel, q247, q248⟩
theorem mV_X4_hangersOf : g_mV yX4_hangersOf prog_1_method_26_code 7 (some .int) 1 := ⟨q178, q21, ⟨by decide +kernel, by decide +kernel⟩, by decide +kernel, q177, q3⟩
theorem mS_X4_isNear : g_mS yX4_isNear prog_1_method_23_code 2 (some .boolean) 2 := ⟨q281, q21, ⟨by decide +kernel, by decide +kernel⟩, by decide +kernel, q280⟩
theorem mV_X4_isNetSpreadAt : g_mV yX4_isNetSpreadAt prog_1_method_27_code 6 (some .boolean) 1 := ⟨q285, q21, ⟨by decide +kernel, by decide +kernel⟩, by decide +kernel, q284, q15⟩
theorem mS_X4_isWithin : g_mS yX4_isWithin prog_1_method_22_code 3 (some .boolean) 3 := ⟨q88, q21, ⟨by decide +kernel, by decide +kernel⟩, by decide +kernel, q87⟩
theorem mV_X4_join : g_mV yX4_join prog_1_method_6_code 2 (some .int) 0 := ⟨q492, q21, ⟨by decide +kernel, by decide +kernel⟩, by decide +kernel, q490, q491⟩
theorem mV_X4_keepAct : g_mV yX4_keepAct prog_1_method_45_code 5 none 0 := ⟨q322, q21, ⟨by decide +kernel, by decide +kernel⟩, by decide +kernel, q321, q18⟩
theorem mV_X4_letGo : g_mV yX4_letGo prog_1_method_40_code 4 (some .boolean) 1 := ⟨q262, q21, ⟨by decide +kernel, by decide +kernel⟩, by decide +kernel, q261, q12⟩
theorem mV_X4_mean : g_mV yX4_mean prog_1_method_20_code 6 (some .double) 0 := ⟨q393, q21, ⟨by decide +kernel, by decide +kernel⟩, by decide +kernel, q391, q392⟩
theorem mV_X4_meets : g_mV yX4_meets prog_1_method_16_code 6 (some .int) 2 := ⟨q313, q21, ⟨by decide +kernel, by decide +kernel⟩, by decide +kernel, q311, q312⟩
theorem mV_X4_mend : g_mV yX4_mend prog_1_method_4_code 4 (some .int) 1 := ⟨q484, q21, ⟨by decide +kernel, by decide +kernel⟩, by decide +kernel, q482, q483⟩
theorem mV_X4_mount : g_mV yX4_mount prog_1_method_7_code 6 (some .int) 2 := ⟨q540, q21, ⟨by decide +kernel, by decide +kernel⟩, by decide +kernel, q538, q539⟩
theorem mS_X4_ofCue : g_mS yX4_ofCue prog_1_method_30_code 2 (some .int) 2 := ⟨q203, q21, ⟨by decide +kernel, by decide +kernel⟩, by decide +kernel, q202⟩
theorem mV_X4_ofFlyer : g_mV yX4_ofFlyer prog_1_method_29_code 4 (some .int) 2 := ⟨q195, q21, ⟨by decide +kernel, by decide +kernel⟩, by decide +kernel, q194, q5⟩
theorem mV_X4_ofTrapeze : g_mV yX4_ofTrapeze prog_1_method_28_code 4 (some .int) 3 := ⟨q160, q21, ⟨by decide +kernel, by decide +kernel⟩, by decide +kernel, q159, q2⟩
theorem mV_X4_openCues : g_mV yX4_openCues prog_1_method_34_code 6 (some .int) 0 := ⟨q224, q21, ⟨by decide +kernel, by decide +kernel⟩, by decide +kernel, q223, q9⟩
theorem mV_X4_passBeats : g_mV yX4_passBeats prog_1_method_38_code 4 (some .int) 1 := ⟨q254, q21, ⟨by decide +kernel, by decide +kernel⟩, by decide +kernel, q253, q10⟩
theorem mV_X4_place : g_mV yX4_place prog_1_method_13_code 4 (some .int) 2 := ⟨q228, q21, ⟨by decide +kernel, by decide +kernel⟩, by decide +kernel, q226, q227⟩
theorem mV_X4_rig : g_mV yX4_rig prog_1_method_2_code 6 (some .int) 4 := ⟨q414, q21, ⟨by decide +kernel, by decide +kernel⟩, by decide +kernel, q412, q413⟩
theorem mV_X4_spread : g_mV yX4_spread prog_1_method_5_code 4 (some .int) 2 := ⟨q553, q21, ⟨by decide +kernel, by decide +kernel⟩, by decide +kernel, q551, q552⟩
theorem mV_X4_takeActBack : g_mV yX4_takeActBack prog_1_method_46_code 5 none 0 := ⟨q338, q21, ⟨by decide +kernel, by decide +kernel⟩, by decide +kernel, q337, q19⟩
theorem mV_X4_tally : g_mV yX4_tally prog_1_method_31_code 2 (some .int) 1 := ⟨q212, q21, ⟨by decide +kernel, by decide +kernel⟩, by decide +kernel, q211, q6⟩
theorem mV_X4_trapeze : g_mV yX4_trapeze prog_1_method_9_code 4 (some .int) 2 := ⟨q81, q21, ⟨by decide +kernel, by decide +kernel⟩, by decide +kernel, q79, q80⟩
theorem mV_X4_trapezeNumbered : g_mV yX4_trapezeNumbered prog_1_method_24_code 2 (some (.object "CircusLines$Trapeze")) 1 := ⟨q85, q21, ⟨by decide +kernel, by decide +kernel⟩, by decide +kernel, q84, q0⟩
theorem mV_X4_wearRopes : g_mV yX4_wearRopes prog_1_method_43_code 3 none 0 := ⟨q297, q21, ⟨by decide +kernel, by decide +kernel⟩, by decide +kernel, q296, q16⟩
theorem mV_X4_weigh : g_mV yX4_weigh prog_1_method_3_code 5 (some .int) 2 := ⟨q474, q21, ⟨by decide +kernel, by decide +kernel⟩, by decide +kernel, q472, q473⟩
theorem mV_X4_wholeTrapezes : g_mV yX4_wholeTrapezes prog_1_method_32_code 6 (some .int) 0 := ⟨q216, q21, ⟨by decide +kernel, by decide +kernel⟩, by decide +kernel, q215, q7⟩
theorem mI_X5_init : g_mI yX5_init prog_7_method_1_code 1 0 := ⟨q613, q22, ⟨by decide +kernel, by decide +kernel⟩, by decide +kernel, q612, rfl⟩
theorem mV_X5_falls : g_mV yX5_falls prog_7_method_9_code 3 none 2 := ⟨q369, q22, ⟨by decide +kernel, by decide +kernel⟩, by decide +kernel, q367, q368⟩
theorem mV_X5_go : g_mV yX5_go prog_7_method_10_code 9 (some .int) 0 := ⟨q354, q22, ⟨by decide +kernel, by decide +kernel⟩, by decide +kernel, q352, q353⟩
theorem mV_X5_hang : g_mV yX5_hang prog_7_method_6_code 7 (some .int) 1 := ⟨q365, q22, ⟨by decide +kernel, by decide +kernel⟩, by decide +kernel, q363, q364⟩
theorem mV_X5_in : g_mV yX5_in prog_7_method_11_code 7 (some .int) 1 := ⟨q384, q22, ⟨by decide +kernel, by decide +kernel⟩, by decide +kernel, q382, q383⟩
theorem mV_X5_isSame : g_mV yX5_isSame prog_7_method_13_code 8 (some .boolean) 1 := ⟨q377, q22, ⟨by decide +kernel, by decide +kernel⟩, by decide +kernel, q375, q376⟩
theorem mS_X5_more : g_mS yX5_more prog_7_method_2_code 4 (some (.array (.array .int))) 2 := ⟨q408, q22, ⟨by decide +kernel, by decide +kernel⟩, by decide +kernel, q407⟩
theorem mV_X5_net : g_mV yX5_net prog_7_method_7_code 6 (some .boolean) 1 := ⟨q373, q22, ⟨by decide +kernel, by decide +kernel⟩, by decide +kernel, q371, q372⟩
theorem mV_X5_open : g_mV yX5_open prog_7_method_12_code 6 (some .int) 0 := ⟨q388, q22, ⟨by decide +kernel, by decide +kernel⟩, by decide +kernel, q386, q387⟩
theorem mS_X5_place : g_mS yX5_place prog_7_method_5_code 6 (some .int) 2 := ⟨q357, q22, ⟨by decide +kernel, by decide +kernel⟩, by decide +kernel, q356⟩
theorem mV_X5_state : g_mV yX5_state prog_7_method_8_code 6 none 5 := ⟨q361, q22, ⟨by decide +kernel, by decide +kernel⟩, by decide +kernel, q359, q360⟩
end
section
/-! WHAT THE RINGS ARE: pure words -/
abbrev Rw : Type := Nat → Nat → Int32
def cnt (p : Nat → Bool) : Nat → Nat
  | 0 => 0
  | n + 1 => cnt p n + (if p n = true then 1 else 0)
def fst (p : Nat → Bool) : Nat → Option Nat
  | 0 => none
  | n + 1 => match fst p n with
    | some t => some t
    | none => if p n = true then some n else none
def its {α : Type} (f : Nat → α → α) (a : α) : Nat → α
  | 0 => a
  | n + 1 => f n (its f a n)
theorem cnt_le (p : Nat → Bool) (n : Nat) : cnt p n ≤ n := by
  induction n with
  | zero => exact Nat.le_refl _
  | succ n ih => simp only [cnt]; split <;> omega
theorem cnt_congr {p q : Nat → Bool} {n : Nat} (h : ∀ i, i < n → p i = q i) : cnt p n = cnt q n := by
  induction n with
  | zero => rfl
  | succ n ih => simp only [cnt]; rw [ih (fun i hi => h i (by omega)), h n (by omega)]
theorem fst_none {p : Nat → Bool} {n : Nat} (h : ∀ t, t < n → p t = false) : fst p n = none := by
  induction n with
  | zero => rfl
  | succ n ih => simp only [fst]; rw [ih (fun t ht => h t (by omega)), h n (by omega)]; rfl
theorem fst_some {p : Nat → Bool} {n t : Nat} (ht : t < n) (hp : p t = true) (h : ∀ u, u < t → p u = false) : fst p n = some t := by
  induction n with
  | zero => omega
  | succ n ih =>
    simp only [fst]
    by_cases hn : t < n
    · rw [ih hn]
    · have : t = n := by omega
      subst this
      rw [fst_none h, hp]; rfl
theorem fst_inv {p : Nat → Bool} {n t : Nat} (h : fst p n = some t) : t < n ∧ p t = true ∧ ∀ u, u < t → p u = false := by
  induction n with
  | zero => cases h
  | succ n ih =>
    simp only [fst] at h
    cases h1 : fst p n with
    | some u => rw [h1] at h; cases h; obtain ⟨a, b, c⟩ := ih h1; exact ⟨by omega, b, c⟩
    | none =>
      rw [h1] at h
      simp only at h
      split at h
      · rename_i hp
        cases h
        refine ⟨by omega, hp, fun u hu => ?_⟩
        cases hq : p u with
        | false => rfl
        | true =>
          exfalso
          have hx : ∀ m, u < m → fst p m ≠ none := by
            intro m
            induction m with
            | zero => intro h; omega
            | succ m ihm =>
              intro hm
              simp only [fst]
              by_cases hlt : u < m
              · cases hf : fst p m with
                | none => exact absurd hf (ihm hlt)
                | some v => simp
              · have : u = m := by omega
                subst this
                cases hf : fst p u with
                | none => simp [hq]
                | some v => simp
          exact hx _ hu h1
      · cases h
theorem fst_congr {p q : Nat → Bool} {n : Nat} (h : ∀ i, i < n → p i = q i) : fst p n = fst q n := by
  induction n with
  | zero => rfl
  | succ n ih => simp only [fst]; rw [ih (fun i hi => h i (by omega)), h n (by omega)]
/-- where a trapeze is -/
def s_p (wt d : Int32) : Int32 := d - d / (2 * (2 + wt)) * (2 * (2 + wt))
def s_pl (mid wid wt d : Int32) : Int32 := if s_p wt d ≤ 2 + wt then mid - wid + 2 * wid * s_p wt d / (2 + wt) else mid + wid - 2 * wid * (s_p wt d - (2 + wt)) / (2 + wt)
def s_at (T : Rw) (t : Nat) (b : Int32) : Int32 := s_pl (T t 0) (T t 1) (T t 2) (b - T t 6)
def s_near (a b : Int32) : Bool := decide (a - b ≤ 2) && decide (b - a ≤ 2)
def s_hang (F : Rw) (nf : Nat) (t : Int32) : Nat := cnt (fun f => decide (F f 1 = t)) nf
def s_in (F : Rw) (nf : Nat) (v : Int32) : Nat := cnt (fun f => decide (F f 0 = v)) nf
def s_net (N : Rw) (nn : Nat) (x : Int32) : Bool := (fst (fun k => decide (N k 0 ≤ x) && decide (x ≤ N k 1)) nn).isSome
def s_row (F : Rw) (f : Nat) (a b c d : Int32) : Rw := fun i k => if i = f then (match k with | 0 => a | 1 => b | 2 => c | 3 => d | _ => F f k) else F i k
def s_set (C : Rw) (i k : Nat) (v : Int32) : Rw := fun a b => if a = i ∧ b = k then v else C a b
def s_fall (N : Rw) (nn : Nat) (F : Rw) (f : Nat) (x : Int32) : Rw := s_row F f (if s_net N nn x = true then 3 else 4) (-1) 0 (-1)
def s_cue (T : Rw) (b : Int32) (k : Nat) (FC : Rw × Rw) : Rw × Rw :=
  if FC.2 k 0 = b then
    (if FC.1 (FC.2 k 1).toNatClampNeg 0 = 1 then (s_row FC.1 (FC.2 k 1).toNatClampNeg 2 (-1) (s_at T (FC.1 (FC.2 k 1).toNatClampNeg 1).toNatClampNeg b + FC.2 k 2) (b + FC.2 k 3), s_set FC.2 k 4 1)
    else (FC.1, s_set FC.2 k 4 2))
  else FC
def s_free (T F : Rw) (nf : Nat) (b x : Int32) (t : Nat) : Bool := decide (T t 5 = 1) && s_near (s_at T t b) x && decide (s_hang F nf (nI t) < 2)
def s_land (N : Rw) (nn : Nat) (T : Rw) (nt nf : Nat) (b : Int32) (f : Nat) (F : Rw) : Rw :=
  if F f 0 = 2 ∧ F f 3 = b then
    (match fst (s_free T F nf b (F f 2)) nt with
    | some t => s_set (s_row F f 1 (nI t) 0 (-1)) f 4 (F f 4 + 1)
    | none => s_fall N nn F f (F f 2))
  else F
def s_left (T : Rw) (t : Nat) (b : Int32) : Bool := decide (s_p (T t 2) (b - T t 6) = 0)
def s_drop (N : Rw) (nn : Nat) (t : Nat) (x : Int32) (f : Nat) (F : Rw) : Rw := if F f 1 = nI t then s_fall N nn F f x else F
def s_wear (N : Rw) (nn nf : Nat) (b : Int32) (t : Nat) (TF : Rw × Rw) : Rw × Rw :=
  if TF.1 t 5 = 1 ∧ s_left TF.1 t b = true then
    (if TF.1 t 4 + nI (s_hang TF.2 nf (nI t)) ≤ TF.1 t 3 then (s_set TF.1 t 4 (TF.1 t 4 + nI (s_hang TF.2 nf (nI t))), TF.2)
    else (s_set (s_set TF.1 t 4 (TF.1 t 4 + nI (s_hang TF.2 nf (nI t)))) t 5 0, its (s_drop N nn t (s_at TF.1 t b)) TF.2 nf))
  else TF
/-- what a beat changes: the beat, trapezes, flyers, cues -/
abbrev Sb : Type := Nat × Rw × Rw × Rw
def s_beat (N : Rw) (nn nt nf nc : Nat) (S : Sb) : Sb :=
  let FC := its (s_cue S.2.1 (nI S.1)) (S.2.2.1, S.2.2.2) nc
  let TF := its (s_wear N nn nf (nI S.1)) (S.2.1, its (s_land N nn S.2.1 nt nf (nI S.1)) FC.1 nf) nt
  (S.1 + 1, TF.1, TF.2, FC.2)
def s_beats (N : Rw) (nn nt nf nc : Nat) (S : Sb) (n : Nat) : Sb := its (fun _ S => s_beat N nn nt nf nc S) S n
def s_caught (F : Rw) (nf : Nat) : Int32 := its (fun f s => s + F f 4) 0 nf
/-- what is told -/
def s_told (T F : Rw) (nf : Nat) (b : Int32) (t : Nat) (w : Int32) : Int32 :=
  if w = 0 then T t 0 else if w = 1 then T t 1 else if w = 2 then T t 2 else if w = 3 then T t 3 else if w = 4 then T t 4 else if w = 5 then T t 5 else if w = 6 then s_at T t b else nI (s_hang F nf (nI t))
def s_toldF (F : Rw) (b : Int32) (f : Nat) (w : Int32) : Int32 :=
  if w = 0 then F f 0 else if w = 1 then F f 1 else if w = 2 then F f 2 else if w = 3 then (if F f 0 = 2 then F f 3 - b else -1) else F f 4
def s_toldC (C : Rw) (k : Nat) (w : Int32) : Int32 :=
  if w = 0 then C k 0 else if w = 1 then C k 1 else if w = 2 then C k 2 else if w = 3 then C k 3 else C k 4
def s_count (b : Int32) (nt nf nc : Nat) (T F C : Rw) (w : Int32) : Int32 :=
  if w = 0 then b else if w = 1 then nI nt else if w = 2 then nI (cnt (fun t => decide (T t 5 = 1)) nt) else if w = 3 then nI nf else if w = 4 then nI (s_in F nf 1) else if w = 5 then nI (s_in F nf 2) else if w = 6 then nI (s_in F nf 3) else if w = 7 then nI (s_in F nf 4) else nI (cnt (fun k => decide (C k 4 = 0)) nc)
/-- digests -/
def s_dig (f : Nat → Int32) (d : Int64) (n : Nat) : Int64 := its (fun i d => d * 31 + (f i).toInt64) d n
/-! what always holds -/
def s_ok (b nt nf nc nn : Nat) (T F C : Rw) : Prop :=
  (nt ≤ 6 ∧ nf ≤ 8 ∧ nc ≤ 20 ∧ nn ≤ 3 ∧ b < 2 ^ 30) ∧
  (∀ t, t < nt → (∃ w, w ≤ 10 ∧ T t 2 = nI w) ∧ (T t 5 = 0 ∨ T t 5 = 1)) ∧
  (∀ f, f < nf → (F f 0 = 1 → ∃ t, t < nt ∧ F f 1 = nI t) ∧ (F f 0 ≠ 1 → F f 1 = -1) ∧ (F f 0 ≠ 2 → F f 2 = 0)) ∧
  (∀ k, k < nc → (∃ f, f < nf ∧ C k 1 = nI f) ∧ (nI b ≤ C k 0 → C k 4 = 0))
/-! the class's own heap -/
def oT (T KT : Rw) (i : Nat) : va_E := .inr (3, [.int (T i 0), .int (T i 1), .int (T i 3), .int (T i 2), .int (T i 6), .int (T i 4), .int (T i 5), .int (KT i 0), .int (KT i 1)])
def oF (E KF : Rw) (i : Nat) : va_E := .inr (1, [.int (E i 0), .int (E i 1), .int (E i 2), .int (E i 3), .int (E i 4), .int (KF i 0), .int (KF i 1), .int (KF i 2), .int (KF i 3), .int (KF i 4)])
def oC (C KC : Rw) (i : Nat) : va_E := .inr (0, [.int (C i 0), .int (C i 1), .int (C i 2), .int (C i 3), .int (C i 4), .int (KC i 0)])
def oN (N : Rw) (i : Nat) : va_E := .inr (2, [.int (N i 0), .int (N i 1)])
def oX (ad : Nat → Nat → Nat) (b : Int32) (nt nf nc nn : Nat) : va_E := .inr (4, [.ref (ad 0 0), .ref (ad 0 1), .ref (ad 0 2), .ref (ad 0 3), .int (nI nt), .int (nI nf), .int (nI nc), .int (nI nn), .int b])
def RX (cy : Nat → ClassId) (x : Nat) (ad : Nat → Nat → Nat) (b : Int32) (nt nf nc nn : Nat) (T E C N KT KF KC : Rw) (G : GG) : Prop :=
  (G x = some (oX ad b nt nf nc nn) ∧ G (ad 0 0) = some (oA (cy 1) 6 (ad 1) nt) ∧ G (ad 0 1) = some (oA (cy 2) 8 (ad 2) nf) ∧ G (ad 0 2) = some (oA (cy 3) 20 (ad 3) nc) ∧ G (ad 0 3) = some (oA (cy 4) 3 (ad 4) nn)) ∧
  ((∀ i, i < nt → G (ad 1 i) = some (oT T KT i)) ∧ (∀ i, i < nf → G (ad 2 i) = some (oF E KF i)) ∧ (∀ i, i < nc → G (ad 3 i) = some (oC C KC i)) ∧ (∀ i, i < nn → G (ad 4 i) = some (oN N i))) ∧
  ((∀ i j, i < nt → j < nt → ad 1 i = ad 1 j → i = j) ∧ (∀ i j, i < nf → j < nf → ad 2 i = ad 2 j → i = j) ∧ (∀ i j, i < nc → j < nc → ad 3 i = ad 3 j → i = j)) ∧ (nt ≤ 6 ∧ nf ≤ 8 ∧ nc ≤ 20 ∧ nn ≤ 3)
theorem g_oth {G : GG} {a q : Nat} {e e0 e' : va_E} (h : G q = some e') (ha : G a = some e0) (hne : e' ≠ e0) : g_up G a e q = some e' := by
  by_cases hq : q = a
  · subst hq; exact absurd (Option.some.inj (h.symm.trans ha)) hne
  · rw [g_up_ne hq]; exact h
section RXU
variable {cy : Nat → ClassId} {x : Nat} {ad : Nat → Nat → Nat} {b : Int32} {nt nf nc nn : Nat} {T E C N KT KF KC : Rw} {G : GG}
theorem RX.setT {T' KT' : Rw} {i : Nat} (h : RX cy x ad b nt nf nc nn T E C N KT KF KC G) (hi : i < nt) (ho : ∀ j, j < nt → j ≠ i → oT T' KT' j = oT T KT j) : RX cy x ad b nt nf nc nn T' E C N KT' KF KC (g_up G (ad 1 i) (oT T' KT' i)) := by
  obtain ⟨⟨h1, h2, h3, h4, h5⟩, ⟨k1, k2, k3, k4⟩, ⟨i1, i2, i3⟩, hb⟩ := h
  have ha := k1 i hi
  refine ⟨⟨g_oth h1 ha (by simp [oX, oT]), g_oth h2 ha (by simp [oA, oT]), g_oth h3 ha (by simp [oA, oT]), g_oth h4 ha (by simp [oA, oT]), g_oth h5 ha (by simp [oA, oT])⟩, ⟨fun j hj => ?_, fun j hj => g_oth (k2 j hj) ha (by simp [oF, oT]), fun j hj => g_oth (k3 j hj) ha (by simp [oC, oT]), fun j hj => g_oth (k4 j hj) ha (by simp [oN, oT])⟩, ⟨i1, i2, i3⟩, hb⟩
  by_cases hji : j = i
  · subst hji; exact g_up_self ..
  · rw [g_up_ne (fun q => hji (i1 j i hj hi q)), k1 j hj, ho j hj hji]
theorem RX.setF {E' KF' : Rw} {i : Nat} (h : RX cy x ad b nt nf nc nn T E C N KT KF KC G) (hi : i < nf) (ho : ∀ j, j < nf → j ≠ i → oF E' KF' j = oF E KF j) : RX cy x ad b nt nf nc nn T E' C N KT KF' KC (g_up G (ad 2 i) (oF E' KF' i)) := by
  obtain ⟨⟨h1, h2, h3, h4, h5⟩, ⟨k1, k2, k3, k4⟩, ⟨i1, i2, i3⟩, hb⟩ := h
  have ha := k2 i hi
  refine ⟨⟨g_oth h1 ha (by simp [oX, oF]), g_oth h2 ha (by simp [oA, oF]), g_oth h3 ha (by simp [oA, oF]), g_oth h4 ha (by simp [oA, oF]), g_oth h5 ha (by simp [oA, oF])⟩, ⟨fun j hj => g_oth (k1 j hj) ha (by simp [oF, oT]), fun j hj => ?_, fun j hj => g_oth (k3 j hj) ha (by simp [oC, oF]), fun j hj => g_oth (k4 j hj) ha (by simp [oN, oF])⟩, ⟨i1, i2, i3⟩, hb⟩
  by_cases hji : j = i
  · subst hji; exact g_up_self ..
  · rw [g_up_ne (fun q => hji (i2 j i hj hi q)), k2 j hj, ho j hj hji]
theorem RX.setC {C' KC' : Rw} {i : Nat} (h : RX cy x ad b nt nf nc nn T E C N KT KF KC G) (hi : i < nc) (ho : ∀ j, j < nc → j ≠ i → oC C' KC' j = oC C KC j) : RX cy x ad b nt nf nc nn T E C' N KT KF KC' (g_up G (ad 3 i) (oC C' KC' i)) := by
  obtain ⟨⟨h1, h2, h3, h4, h5⟩, ⟨k1, k2, k3, k4⟩, ⟨i1, i2, i3⟩, hb⟩ := h
  have ha := k3 i hi
  refine ⟨⟨g_oth h1 ha (by simp [oX, oC]), g_oth h2 ha (by simp [oA, oC]), g_oth h3 ha (by simp [oA, oC]), g_oth h4 ha (by simp [oA, oC]), g_oth h5 ha (by simp [oA, oC])⟩, ⟨fun j hj => g_oth (k1 j hj) ha (by simp [oC, oT]), fun j hj => g_oth (k2 j hj) ha (by simp [oC, oF]), fun j hj => ?_, fun j hj => g_oth (k4 j hj) ha (by simp [oN, oC])⟩, ⟨i1, i2, i3⟩, hb⟩
  by_cases hji : j = i
  · subst hji; exact g_up_self ..
  · rw [g_up_ne (fun q => hji (i3 j i hj hi q)), k3 j hj, ho j hj hji]
theorem RX.setB {b' : Int32} (h : RX cy x ad b nt nf nc nn T E C N KT KF KC G) : RX cy x ad b' nt nf nc nn T E C N KT KF KC (g_up G x (oX ad b' nt nf nc nn)) := by
  obtain ⟨⟨h1, h2, h3, h4, h5⟩, ⟨k1, k2, k3, k4⟩, ⟨i1, i2, i3⟩, hb⟩ := h
  exact ⟨⟨g_up_self .., g_oth h2 h1 (by simp [oA, oX]), g_oth h3 h1 (by simp [oA, oX]), g_oth h4 h1 (by simp [oA, oX]), g_oth h5 h1 (by simp [oA, oX])⟩, ⟨fun j hj => g_oth (k1 j hj) h1 (by simp [oX, oT]), fun j hj => g_oth (k2 j hj) h1 (by simp [oX, oF]), fun j hj => g_oth (k3 j hj) h1 (by simp [oC, oX]), fun j hj => g_oth (k4 j hj) h1 (by simp [oN, oX])⟩, ⟨i1, i2, i3⟩, hb⟩
end RXU
/-- the class's flyers against the words' flyers: where this one doesn't fly, goal and landing beat are old -/
def relF (E F : Rw) (nf : Nat) : Prop := ∀ f, f < nf → E f 0 = F f 0 ∧ E f 1 = F f 1 ∧ E f 4 = F f 4 ∧ (F f 0 = 2 → E f 2 = F f 2 ∧ E f 3 = F f 3)
end
section
/-! an object that is written again and again -/
section PGU
variable {κ : Kx} {l0 : Launch} {D0 : va_G} {cy0 : Nat → ClassId} {y : MethodName} {nL ce sl index : Nat} {cc : ByteArray} {rm : Room} {ret : Option FieldType} {G : GG} {lv lv' : LV} {pc : Nat} {st rest : List Value} {a : Nat}
theorem g_getU {ci k : Nat} {fs : List Value} (v : Value) (C : g_OK κ l0 D0 cy0 y nL cc rm ret) (hf : g_fl y.cls index ci k) (hv : fs[k]? = some v) (hd : decode cc pc = .ok (.getfield index, 3)) (kk : PG κ nL ce sl (g_up G a (.inr (ci, fs))) lv (pc + 3) (v :: rest)) : PG κ nL ce sl (g_up G a (.inr (ci, fs))) lv pc (.ref a :: rest) :=
  g_getf C hf (g_up_self ..) hv hd kk
theorem g_putU {ci k : Nat} {fs : List Value} {v : Value} {ty : FieldType} (fs' : List Value) (C : g_OK κ l0 D0 cy0 y nL cc rm ret) (hf : g_fl y.cls index ci k) (hp : g_fp ci k ty false) (hn : narrow ty v = v) (hfit : fits ty v = true) (hl0 : k < fs.length) (hs : fs.set k v = fs') (hd : decode cc pc = .ok (.putfield index, 3)) (kk : PG κ nL ce sl (g_up G a (.inr (ci, fs'))) lv (pc + 3) rest) : PG κ nL ce sl (g_up G a (.inr (ci, fs))) lv pc (v :: .ref a :: rest) := by
  refine g_putf C hf hp (g_up_self ..) hn hfit hl0 hd ?_
  rw [g_up_up, hs]
  exact kk
theorem g_putFU {ci k : Nat} {fs : List Value} {v : Value} {ty : FieldType} (fs' : List Value) (C : g_OK κ l0 D0 cy0 y nL cc rm ret) (hf : g_fl y.cls index ci k) (hp : g_fp ci k ty true) (hy : y.name = "<init>") (hdecl : ∀ q, vwCl[ci]? = some q → q.1 = y.cls) (hn : narrow ty v = v) (hfit : fits ty v = true) (hl0 : k < fs.length) (hs : fs.set k v = fs') (hd : decode cc pc = .ok (.putfield index, 3)) (kk : PG κ nL ce sl (g_up G a (.inr (ci, fs'))) lv (pc + 3) rest) : PG κ nL ce sl (g_up G a (.inr (ci, fs))) lv pc (v :: .ref a :: rest) := by
  refine g_putF C hf hp hy hdecl (g_up_self ..) hn hfit hl0 hd ?_
  rw [g_up_up, hs]
  exact kk
theorem g_start {e : va_E} (ha : G a = some e) (k : PG κ nL ce sl (g_up G a e) lv pc st) : PG κ nL ce sl G lv pc st := by
  rw [← g_up_id ha]; exact k
theorem g_eqG {G' : GG} (h : G = G') (k : PG κ nL ce sl G' lv pc st) : PG κ nL ce sl G lv pc st := h ▸ k
end PGU
theorem nar_b {x : Int32} (h : x = 0 ∨ x = 1) : narrow .boolean (.int x) = .int x := by rcases h with rfl | rfl <;> rfl
theorem fit_b {x : Int32} (h : x = 0 ∨ x = 1) : fits .boolean (.int x) = true := by rcases h with rfl | rfl <;> first | rfl | decide

set_option maxHeartbeats 4000000 in
set_option maxRecDepth 100000 in
theorem c_X0_init (l : Launch) (D : va_G) (cy : Nat → ClassId) (G : GG) (a : Nat) (b0 f0 r0 t0 : Int32) (ha : G a = some (.inr (0, [.int 0, .int 0, .int 0, .int 0, .int 0, .int 0]))) : Ctr l D cy yX0_init prog_2_method_1_code 5 none kX0_init [.ref a, .int b0, .int f0, .int r0, .int t0] G (pV (fun G' => G' = g_up G a (.inr (0, [.int b0, .int f0, .int r0, .int t0, .int 0, .int 0])))) := by
  refine Ctr.mk (by decide +kernel) (Nat.le_of_ble_eq_true rfl) ?_
  intro κ C R
  refine g_start ha ?_
  refine g_pc (pc' := 0) rfl ?_
  refine g_seg [(0, .aload_n 0, 1)] 1 [(0, .ref a), (1, .int b0), (2, .int f0), (3, .int r0), (4, .int t0)] [.ref a] C (by decide +kernel) rfl ?_
  refine g_obj (pc := 1) C q581 q40 q41 (Nat.le_of_ble_eq_true rfl) (Nat.le_of_ble_eq_true rfl) (by decide +kernel) ?_
  refine g_seg [(4, .aload_n 0, 1), (5, .iconst 0, 1)] 6 [(0, .ref a), (1, .int b0), (2, .int f0), (3, .int r0), (4, .int t0)] [.int 0, .ref a] C (by decide +kernel) rfl ?_
  refine g_putU (pc := 6) (k := 4) (ty := .int) [.int 0, .int 0, .int 0, .int 0, .int 0, .int 0] C fl_X0_9 fp_X0_4 (by first | rfl | decide) (by first | rfl | decide) (Nat.le_of_ble_eq_true rfl) rfl (by decide +kernel) ?_
  refine g_seg [(9, .aload_n 0, 1), (10, .iload_n 1, 1)] 11 [(0, .ref a), (1, .int b0), (2, .int f0), (3, .int r0), (4, .int t0)] [.int b0, .ref a] C (by decide +kernel) rfl ?_
  refine g_putFU (pc := 11) (k := 0) (ty := .int) [.int b0, .int 0, .int 0, .int 0, .int 0, .int 0] C fl_X0_15 fp_X0_0 rfl (fun q hq => by cases hq; rfl) rfl (by first | rfl | decide) (Nat.le_of_ble_eq_true rfl) rfl (by decide +kernel) ?_
  refine g_seg [(14, .aload_n 0, 1), (15, .iload_n 2, 1)] 16 [(0, .ref a), (1, .int b0), (2, .int f0), (3, .int r0), (4, .int t0)] [.int f0, .ref a] C (by decide +kernel) rfl ?_
  refine g_putFU (pc := 16) (k := 1) (ty := .int) [.int b0, .int f0, .int 0, .int 0, .int 0, .int 0] C fl_X0_18 fp_X0_1 rfl (fun q hq => by cases hq; rfl) rfl (by first | rfl | decide) (Nat.le_of_ble_eq_true rfl) rfl (by decide +kernel) ?_
  refine g_seg [(19, .aload_n 0, 1), (20, .iload_n 3, 1)] 21 [(0, .ref a), (1, .int b0), (2, .int f0), (3, .int r0), (4, .int t0)] [.int r0, .ref a] C (by decide +kernel) rfl ?_
  refine g_putFU (pc := 21) (k := 2) (ty := .int) [.int b0, .int f0, .int r0, .int 0, .int 0, .int 0] C fl_X0_21 fp_X0_2 rfl (fun q hq => by cases hq; rfl) rfl (by first | rfl | decide) (Nat.le_of_ble_eq_true rfl) rfl (by decide +kernel) ?_
  refine g_seg [(24, .aload_n 0, 1), (25, .iload 4, 2)] 27 [(0, .ref a), (1, .int b0), (2, .int f0), (3, .int r0), (4, .int t0)] [.int t0, .ref a] C (by decide +kernel) rfl ?_
  refine g_putFU (pc := 27) (k := 3) (ty := .int) [.int b0, .int f0, .int r0, .int t0, .int 0, .int 0] C fl_X0_24 fp_X0_3 rfl (fun q hq => by cases hq; rfl) rfl (by first | rfl | decide) (Nat.le_of_ble_eq_true rfl) rfl (by decide +kernel) ?_
  exact g_vret (pc := 30) C R (⟨rfl, rfl⟩) (Nat.le_of_ble_eq_true rfl) (Nat.le_of_ble_eq_true rfl) (by decide +kernel)
set_option maxHeartbeats 4000000 in
set_option maxRecDepth 100000 in
theorem c_X0_keep (l : Launch) (D : va_G) (cy : Nat → ClassId) (G : GG) (a : Nat) (b0 f0 r0 t0 s0 k0 : Int32) (ha : G a = some (.inr (0, [.int b0, .int f0, .int r0, .int t0, .int s0, .int k0]))) : Ctr l D cy yX0_keep prog_2_method_2_code 1 none kX0_keep [.ref a] G (pV (fun G' => G' = g_up G a (.inr (0, [.int b0, .int f0, .int r0, .int t0, .int s0, .int s0])))) := by
  refine Ctr.mk (by decide +kernel) (Nat.le_of_ble_eq_true rfl) ?_
  intro κ C R
  refine g_start ha ?_
  refine g_pc (pc' := 0) rfl ?_
  refine g_seg [(0, .aload_n 0, 1), (1, .aload_n 0, 1)] 2 [(0, .ref a)] [.ref a, .ref a] C (by decide +kernel) rfl ?_
  refine g_getU (pc := 2) (k := 4) (.int s0) C fl_X0_9 rfl (by decide +kernel) ?_
  refine g_putU (pc := 5) (k := 5) (ty := .int) [.int b0, .int f0, .int r0, .int t0, .int s0, .int s0] C fl_X0_27 fp_X0_5 (by first | rfl | decide) (by first | rfl | decide) (Nat.le_of_ble_eq_true rfl) rfl (by decide +kernel) ?_
  exact g_vret (pc := 8) C R (⟨rfl, rfl⟩) (Nat.le_of_ble_eq_true rfl) (Nat.le_of_ble_eq_true rfl) (by decide +kernel)
set_option maxHeartbeats 4000000 in
set_option maxRecDepth 100000 in
theorem c_X0_takeBack (l : Launch) (D : va_G) (cy : Nat → ClassId) (G : GG) (a : Nat) (b0 f0 r0 t0 s0 k0 : Int32) (ha : G a = some (.inr (0, [.int b0, .int f0, .int r0, .int t0, .int s0, .int k0]))) : Ctr l D cy yX0_takeBack prog_2_method_3_code 1 none kX0_takeBack [.ref a] G (pV (fun G' => G' = g_up G a (.inr (0, [.int b0, .int f0, .int r0, .int t0, .int k0, .int k0])))) := by
  refine Ctr.mk (by decide +kernel) (Nat.le_of_ble_eq_true rfl) ?_
  intro κ C R
  refine g_start ha ?_
  refine g_pc (pc' := 0) rfl ?_
  refine g_seg [(0, .aload_n 0, 1), (1, .aload_n 0, 1)] 2 [(0, .ref a)] [.ref a, .ref a] C (by decide +kernel) rfl ?_
  refine g_getU (pc := 2) (k := 5) (.int k0) C fl_X0_27 rfl (by decide +kernel) ?_
  refine g_putU (pc := 5) (k := 4) (ty := .int) [.int b0, .int f0, .int r0, .int t0, .int k0, .int k0] C fl_X0_9 fp_X0_4 (by first | rfl | decide) (by first | rfl | decide) (Nat.le_of_ble_eq_true rfl) rfl (by decide +kernel) ?_
  exact g_vret (pc := 8) C R (⟨rfl, rfl⟩) (Nat.le_of_ble_eq_true rfl) (Nat.le_of_ble_eq_true rfl) (by decide +kernel)
set_option maxHeartbeats 4000000 in
set_option maxRecDepth 100000 in
theorem c_X2_init (l : Launch) (D : va_G) (cy : Nat → ClassId) (G : GG) (a : Nat) (p0 p1 : Int32) (ha : G a = some (.inr (2, [.int 0, .int 0]))) : Ctr l D cy yX2_init prog_4_method_1_code 3 none kX2_init [.ref a, .int p0, .int p1] G (pV (fun G' => G' = g_up G a (.inr (2, [.int p0, .int p1])))) := by
  refine Ctr.mk (by decide +kernel) (Nat.le_of_ble_eq_true rfl) ?_
  intro κ C R
  refine g_start ha ?_
  refine g_pc (pc' := 0) rfl ?_
  refine g_seg [(0, .aload_n 0, 1)] 1 [(0, .ref a), (1, .int p0), (2, .int p1)] [.ref a] C (by decide +kernel) rfl ?_
  refine g_obj (pc := 1) C q560 q40 q41 (Nat.le_of_ble_eq_true rfl) (Nat.le_of_ble_eq_true rfl) (by decide +kernel) ?_
  refine g_seg [(4, .aload_n 0, 1), (5, .iload_n 1, 1)] 6 [(0, .ref a), (1, .int p0), (2, .int p1)] [.int p0, .ref a] C (by decide +kernel) rfl ?_
  refine g_putFU (pc := 6) (k := 0) (ty := .int) [.int p0, .int 0] C fl_X2_7 fp_X2_0 rfl (fun q hq => by cases hq; rfl) rfl (by first | rfl | decide) (Nat.le_of_ble_eq_true rfl) rfl (by decide +kernel) ?_
  refine g_seg [(9, .aload_n 0, 1), (10, .iload_n 2, 1)] 11 [(0, .ref a), (1, .int p0), (2, .int p1)] [.int p1, .ref a] C (by decide +kernel) rfl ?_
  refine g_putFU (pc := 11) (k := 1) (ty := .int) [.int p0, .int p1] C fl_X2_13 fp_X2_1 rfl (fun q hq => by cases hq; rfl) rfl (by first | rfl | decide) (Nat.le_of_ble_eq_true rfl) rfl (by decide +kernel) ?_
  exact g_vret (pc := 14) C R (⟨rfl, rfl⟩) (Nat.le_of_ble_eq_true rfl) (Nat.le_of_ble_eq_true rfl) (by decide +kernel)
set_option maxHeartbeats 4000000 in
set_option maxRecDepth 100000 in
theorem c_X3_init (l : Launch) (D : va_G) (cy : Nat → ClassId) (G : GG) (a : Nat) (m wd wt sg lb : Int32) (ha : G a = some (.inr (3, [.int 0, .int 0, .int 0, .int 0, .int 0, .int 0, .int 0, .int 0, .int 0]))) : Ctr l D cy yX3_init prog_5_method_1_code 6 none kX3_init [.ref a, .int m, .int wd, .int wt, .int sg, .int lb] G (pV (fun G' => G' = g_up G a (.inr (3, [.int m, .int wd, .int sg, .int wt, .int lb, .int 0, .int 1, .int 0, .int 0])))) := by
  refine Ctr.mk (by decide +kernel) (Nat.le_of_ble_eq_true rfl) ?_
  intro κ C R
  refine g_start ha ?_
  refine g_pc (pc' := 0) rfl ?_
  refine g_seg [(0, .aload_n 0, 1)] 1 [(0, .ref a), (1, .int m), (2, .int wd), (3, .int wt), (4, .int sg), (5, .int lb)] [.ref a] C (by decide +kernel) rfl ?_
  refine g_obj (pc := 1) C q436 q40 q41 (Nat.le_of_ble_eq_true rfl) (Nat.le_of_ble_eq_true rfl) (by decide +kernel) ?_
  refine g_seg [(4, .aload_n 0, 1), (5, .iload_n 1, 1)] 6 [(0, .ref a), (1, .int m), (2, .int wd), (3, .int wt), (4, .int sg), (5, .int lb)] [.int m, .ref a] C (by decide +kernel) rfl ?_
  refine g_putFU (pc := 6) (k := 0) (ty := .int) [.int m, .int 0, .int 0, .int 0, .int 0, .int 0, .int 0, .int 0, .int 0] C fl_X3_7 fp_X3_0 rfl (fun q hq => by cases hq; rfl) rfl (by first | rfl | decide) (Nat.le_of_ble_eq_true rfl) rfl (by decide +kernel) ?_
  refine g_seg [(9, .aload_n 0, 1), (10, .iload_n 2, 1)] 11 [(0, .ref a), (1, .int m), (2, .int wd), (3, .int wt), (4, .int sg), (5, .int lb)] [.int wd, .ref a] C (by decide +kernel) rfl ?_
  refine g_putFU (pc := 11) (k := 1) (ty := .int) [.int m, .int wd, .int 0, .int 0, .int 0, .int 0, .int 0, .int 0, .int 0] C fl_X3_13 fp_X3_1 rfl (fun q hq => by cases hq; rfl) rfl (by first | rfl | decide) (Nat.le_of_ble_eq_true rfl) rfl (by decide +kernel) ?_
  refine g_seg [(14, .aload_n 0, 1), (15, .iload_n 3, 1)] 16 [(0, .ref a), (1, .int m), (2, .int wd), (3, .int wt), (4, .int sg), (5, .int lb)] [.int wt, .ref a] C (by decide +kernel) rfl ?_
  refine g_putU (pc := 16) (k := 3) (ty := .int) [.int m, .int wd, .int 0, .int wt, .int 0, .int 0, .int 0, .int 0, .int 0] C fl_X3_16 fp_X3_3 (by first | rfl | decide) (by first | rfl | decide) (Nat.le_of_ble_eq_true rfl) rfl (by decide +kernel) ?_
  refine g_seg [(19, .aload_n 0, 1), (20, .iload 4, 2)] 22 [(0, .ref a), (1, .int m), (2, .int wd), (3, .int wt), (4, .int sg), (5, .int lb)] [.int sg, .ref a] C (by decide +kernel) rfl ?_
  refine g_putFU (pc := 22) (k := 2) (ty := .int) [.int m, .int wd, .int sg, .int wt, .int 0, .int 0, .int 0, .int 0, .int 0] C fl_X3_19 fp_X3_2 rfl (fun q hq => by cases hq; rfl) rfl (by first | rfl | decide) (Nat.le_of_ble_eq_true rfl) rfl (by decide +kernel) ?_
  refine g_seg [(25, .aload_n 0, 1), (26, .iload 5, 2)] 28 [(0, .ref a), (1, .int m), (2, .int wd), (3, .int wt), (4, .int sg), (5, .int lb)] [.int lb, .ref a] C (by decide +kernel) rfl ?_
  refine g_putU (pc := 28) (k := 4) (ty := .int) [.int m, .int wd, .int sg, .int wt, .int lb, .int 0, .int 0, .int 0, .int 0] C fl_X3_22 fp_X3_4 (by first | rfl | decide) (by first | rfl | decide) (Nat.le_of_ble_eq_true rfl) rfl (by decide +kernel) ?_
  refine g_seg [(31, .aload_n 0, 1), (32, .iconst 1, 1)] 33 [(0, .ref a), (1, .int m), (2, .int wd), (3, .int wt), (4, .int sg), (5, .int lb)] [.int 1, .ref a] C (by decide +kernel) rfl ?_
  refine g_putU (pc := 33) (k := 6) (ty := .boolean) [.int m, .int wd, .int sg, .int wt, .int lb, .int 0, .int 1, .int 0, .int 0] C fl_X3_25 fp_X3_6 (by first | rfl | decide) (by first | rfl | decide) (Nat.le_of_ble_eq_true rfl) rfl (by decide +kernel) ?_
  exact g_vret (pc := 36) C R (⟨rfl, rfl⟩) (Nat.le_of_ble_eq_true rfl) (Nat.le_of_ble_eq_true rfl) (by decide +kernel)
set_option maxHeartbeats 4000000 in
set_option maxRecDepth 100000 in
theorem c_X3_setWeight (l : Launch) (D : va_G) (cy : Nat → ClassId) (G : GG) (a : Nat) (m wd sg wt lb wo wh kw kh : Int32) (p0 p1 : Int32) (ha : G a = some (.inr (3, [.int m, .int wd, .int sg, .int wt, .int lb, .int wo, .int wh, .int kw, .int kh]))) : Ctr l D cy yX3_setWeight prog_5_method_2_code 3 none kX3_setWeight [.ref a, .int p0, .int p1] G (pV (fun G' => G' = g_up G a (.inr (3, [.int m, .int wd, .int sg, .int p0, .int p1, .int wo, .int wh, .int kw, .int kh])))) := by
  refine Ctr.mk (by decide +kernel) (Nat.le_of_ble_eq_true rfl) ?_
  intro κ C R
  refine g_start ha ?_
  refine g_pc (pc' := 0) rfl ?_
  refine g_seg [(0, .aload_n 0, 1), (1, .iload_n 1, 1)] 2 [(0, .ref a), (1, .int p0), (2, .int p1)] [.int p0, .ref a] C (by decide +kernel) rfl ?_
  refine g_putU (pc := 2) (k := 3) (ty := .int) [.int m, .int wd, .int sg, .int p0, .int lb, .int wo, .int wh, .int kw, .int kh] C fl_X3_16 fp_X3_3 (by first | rfl | decide) (by first | rfl | decide) (Nat.le_of_ble_eq_true rfl) rfl (by decide +kernel) ?_
  refine g_seg [(5, .aload_n 0, 1), (6, .iload_n 2, 1)] 7 [(0, .ref a), (1, .int p0), (2, .int p1)] [.int p1, .ref a] C (by decide +kernel) rfl ?_
  refine g_putU (pc := 7) (k := 4) (ty := .int) [.int m, .int wd, .int sg, .int p0, .int p1, .int wo, .int wh, .int kw, .int kh] C fl_X3_22 fp_X3_4 (by first | rfl | decide) (by first | rfl | decide) (Nat.le_of_ble_eq_true rfl) rfl (by decide +kernel) ?_
  exact g_vret (pc := 10) C R (⟨rfl, rfl⟩) (Nat.le_of_ble_eq_true rfl) (Nat.le_of_ble_eq_true rfl) (by decide +kernel)
set_option maxHeartbeats 4000000 in
set_option maxRecDepth 100000 in
theorem c_X3_renewRope (l : Launch) (D : va_G) (cy : Nat → ClassId) (G : GG) (a : Nat) (m wd sg wt lb wo wh kw kh : Int32) (ha : G a = some (.inr (3, [.int m, .int wd, .int sg, .int wt, .int lb, .int wo, .int wh, .int kw, .int kh]))) : Ctr l D cy yX3_renewRope prog_5_method_3_code 1 none kX3_renewRope [.ref a] G (pV (fun G' => G' = g_up G a (.inr (3, [.int m, .int wd, .int sg, .int wt, .int lb, .int 0, .int 1, .int kw, .int kh])))) := by
  refine Ctr.mk (by decide +kernel) (Nat.le_of_ble_eq_true rfl) ?_
  intro κ C R
  refine g_start ha ?_
  refine g_pc (pc' := 0) rfl ?_
  refine g_seg [(0, .aload_n 0, 1), (1, .iconst 0, 1)] 2 [(0, .ref a)] [.int 0, .ref a] C (by decide +kernel) rfl ?_
  refine g_putU (pc := 2) (k := 5) (ty := .int) [.int m, .int wd, .int sg, .int wt, .int lb, .int 0, .int wh, .int kw, .int kh] C fl_X3_29 fp_X3_5 (by first | rfl | decide) (by first | rfl | decide) (Nat.le_of_ble_eq_true rfl) rfl (by decide +kernel) ?_
  refine g_seg [(5, .aload_n 0, 1), (6, .iconst 1, 1)] 7 [(0, .ref a)] [.int 1, .ref a] C (by decide +kernel) rfl ?_
  refine g_putU (pc := 7) (k := 6) (ty := .boolean) [.int m, .int wd, .int sg, .int wt, .int lb, .int 0, .int 1, .int kw, .int kh] C fl_X3_25 fp_X3_6 (by first | rfl | decide) (by first | rfl | decide) (Nat.le_of_ble_eq_true rfl) rfl (by decide +kernel) ?_
  exact g_vret (pc := 10) C R (⟨rfl, rfl⟩) (Nat.le_of_ble_eq_true rfl) (Nat.le_of_ble_eq_true rfl) (by decide +kernel)
set_option maxHeartbeats 4000000 in
set_option maxRecDepth 100000 in
theorem c_X3_keep (l : Launch) (D : va_G) (cy : Nat → ClassId) (G : GG) (a : Nat) (m wd sg wt lb wo wh kw kh : Int32) (ha : G a = some (.inr (3, [.int m, .int wd, .int sg, .int wt, .int lb, .int wo, .int wh, .int kw, .int kh]))) (h1 : wh = 0 ∨ wh = 1) : Ctr l D cy yX3_keep prog_5_method_9_code 1 none kX3_keep [.ref a] G (pV (fun G' => G' = g_up G a (.inr (3, [.int m, .int wd, .int sg, .int wt, .int lb, .int wo, .int wh, .int wo, .int wh])))) := by
  refine Ctr.mk (by decide +kernel) (Nat.le_of_ble_eq_true rfl) ?_
  intro κ C R
  refine g_start ha ?_
  refine g_pc (pc' := 0) rfl ?_
  refine g_seg [(0, .aload_n 0, 1), (1, .aload_n 0, 1)] 2 [(0, .ref a)] [.ref a, .ref a] C (by decide +kernel) rfl ?_
  refine g_getU (pc := 2) (k := 5) (.int wo) C fl_X3_29 rfl (by decide +kernel) ?_
  refine g_putU (pc := 5) (k := 7) (ty := .int) [.int m, .int wd, .int sg, .int wt, .int lb, .int wo, .int wh, .int wo, .int kh] C fl_X3_45 fp_X3_7 (by first | rfl | decide) (by first | rfl | decide) (Nat.le_of_ble_eq_true rfl) rfl (by decide +kernel) ?_
  refine g_seg [(8, .aload_n 0, 1), (9, .aload_n 0, 1)] 10 [(0, .ref a)] [.ref a, .ref a] C (by decide +kernel) rfl ?_
  refine g_getU (pc := 10) (k := 6) (.int wh) C fl_X3_25 rfl (by decide +kernel) ?_
  refine g_putU (pc := 13) (k := 8) (ty := .boolean) [.int m, .int wd, .int sg, .int wt, .int lb, .int wo, .int wh, .int wo, .int wh] C fl_X3_48 fp_X3_8 (nar_b h1) (fit_b h1) (Nat.le_of_ble_eq_true rfl) rfl (by decide +kernel) ?_
  exact g_vret (pc := 16) C R (⟨rfl, rfl⟩) (Nat.le_of_ble_eq_true rfl) (Nat.le_of_ble_eq_true rfl) (by decide +kernel)
set_option maxHeartbeats 4000000 in
set_option maxRecDepth 100000 in
theorem c_X3_takeBack (l : Launch) (D : va_G) (cy : Nat → ClassId) (G : GG) (a : Nat) (m wd sg wt lb wo wh kw kh : Int32) (ha : G a = some (.inr (3, [.int m, .int wd, .int sg, .int wt, .int lb, .int wo, .int wh, .int kw, .int kh]))) (h1 : kh = 0 ∨ kh = 1) : Ctr l D cy yX3_takeBack prog_5_method_10_code 1 none kX3_takeBack [.ref a] G (pV (fun G' => G' = g_up G a (.inr (3, [.int m, .int wd, .int sg, .int wt, .int lb, .int kw, .int kh, .int kw, .int kh])))) := by
  refine Ctr.mk (by decide +kernel) (Nat.le_of_ble_eq_true rfl) ?_
  intro κ C R
  refine g_start ha ?_
  refine g_pc (pc' := 0) rfl ?_
  refine g_seg [(0, .aload_n 0, 1), (1, .aload_n 0, 1)] 2 [(0, .ref a)] [.ref a, .ref a] C (by decide +kernel) rfl ?_
  refine g_getU (pc := 2) (k := 7) (.int kw) C fl_X3_45 rfl (by decide +kernel) ?_
  refine g_putU (pc := 5) (k := 5) (ty := .int) [.int m, .int wd, .int sg, .int wt, .int lb, .int kw, .int wh, .int kw, .int kh] C fl_X3_29 fp_X3_5 (by first | rfl | decide) (by first | rfl | decide) (Nat.le_of_ble_eq_true rfl) rfl (by decide +kernel) ?_
  refine g_seg [(8, .aload_n 0, 1), (9, .aload_n 0, 1)] 10 [(0, .ref a)] [.ref a, .ref a] C (by decide +kernel) rfl ?_
  refine g_getU (pc := 10) (k := 8) (.int kh) C fl_X3_48 rfl (by decide +kernel) ?_
  refine g_putU (pc := 13) (k := 6) (ty := .boolean) [.int m, .int wd, .int sg, .int wt, .int lb, .int kw, .int kh, .int kw, .int kh] C fl_X3_25 fp_X3_6 (nar_b h1) (fit_b h1) (Nat.le_of_ble_eq_true rfl) rfl (by decide +kernel) ?_
  exact g_vret (pc := 16) C R (⟨rfl, rfl⟩) (Nat.le_of_ble_eq_true rfl) (Nat.le_of_ble_eq_true rfl) (by decide +kernel)
set_option maxHeartbeats 4000000 in
set_option maxRecDepth 100000 in
theorem c_X3_wear (l : Launch) (D : va_G) (cy : Nat → ClassId) (G : GG) (a : Nat) (m wd sg wt lb wo wh kw kh : Int32) (p0 : Int32) (ha : G a = some (.inr (3, [.int m, .int wd, .int sg, .int wt, .int lb, .int wo, .int wh, .int kw, .int kh]))) : Ctr l D cy yX3_wear prog_5_method_4_code 2 none kX3_wear [.ref a, .int p0] G (pV (fun G' => G' = g_up G a (.inr (3, [.int m, .int wd, .int sg, .int wt, .int lb, .int (wo + p0), .int (if wo + p0 ≤ sg then 1 else 0), .int kw, .int kh])))) := by
  refine Ctr.mk (by decide +kernel) (Nat.le_of_ble_eq_true rfl) ?_
  intro κ C R
  refine g_start ha ?_
  refine g_pc (pc' := 0) rfl ?_
  refine g_seg [(0, .aload_n 0, 1), (1, .dup, 1)] 2 [(0, .ref a), (1, .int p0)] [.ref a, .ref a] C (by decide +kernel) rfl ?_
  refine g_getU (pc := 2) (k := 5) (.int wo) C fl_X3_29 rfl (by decide +kernel) ?_
  refine g_seg [(5, .iload_n 1, 1), (6, .iadd, 1)] 7 [(0, .ref a), (1, .int p0)] [.int (wo + p0), .ref a] C (by decide +kernel) rfl ?_
  refine g_putU (pc := 7) (k := 5) (ty := .int) [.int m, .int wd, .int sg, .int wt, .int lb, .int (wo + p0), .int wh, .int kw, .int kh] C fl_X3_29 fp_X3_5 (by first | rfl | decide) (by first | rfl | decide) (Nat.le_of_ble_eq_true rfl) rfl (by decide +kernel) ?_
  refine g_seg [(10, .aload_n 0, 1), (11, .aload_n 0, 1)] 12 [(0, .ref a), (1, .int p0)] [.ref a, .ref a] C (by decide +kernel) rfl ?_
  refine g_getU (pc := 12) (k := 5) (.int (wo + p0)) C fl_X3_29 rfl (by decide +kernel) ?_
  refine g_seg [(15, .aload_n 0, 1)] 16 [(0, .ref a), (1, .int p0)] [.ref a, .int (wo + p0), .ref a] C (by decide +kernel) rfl ?_
  refine g_getU (pc := 16) (k := 2) (.int sg) C fl_X3_19 rfl (by decide +kernel) ?_
  refine g_icmp_gt (pc := 19) (off := 7) 26 C (by decide +kernel) (by decide) (fun c1 => ?_) (fun c1 => ?_)
  · refine g_seg [(26, .iconst 0, 1)] 27 [(0, .ref a), (1, .int p0)] [.int 0, .ref a] C (by decide +kernel) rfl ?_
    refine g_putU (pc := 27) (k := 6) (ty := .boolean) [.int m, .int wd, .int sg, .int wt, .int lb, .int (wo + p0), .int 0, .int kw, .int kh] C fl_X3_25 fp_X3_6 (by first | rfl | decide) (by first | rfl | decide) (Nat.le_of_ble_eq_true rfl) rfl (by decide +kernel) ?_
    exact g_vret (pc := 30) C R (⟨rfl, by first | rw [if_pos (by first | assumption | exact Int32.not_lt.mp (by assumption) | exact Int32.le_of_lt (by assumption))] | rw [if_neg (by first | assumption | exact Int32.not_le.mpr (by assumption))]⟩) (Nat.le_of_ble_eq_true rfl) (Nat.le_of_ble_eq_true rfl) (by decide +kernel)
  · refine g_seg [(22, .iconst 1, 1), (23, .goto 4, 3)] 27 [(0, .ref a), (1, .int p0)] [.int 1, .ref a] C (by decide +kernel) rfl ?_
    refine g_putU (pc := 27) (k := 6) (ty := .boolean) [.int m, .int wd, .int sg, .int wt, .int lb, .int (wo + p0), .int 1, .int kw, .int kh] C fl_X3_25 fp_X3_6 (by first | rfl | decide) (by first | rfl | decide) (Nat.le_of_ble_eq_true rfl) rfl (by decide +kernel) ?_
    exact g_vret (pc := 30) C R (⟨rfl, by first | rw [if_pos (by first | assumption | exact Int32.not_lt.mp (by assumption) | exact Int32.le_of_lt (by assumption))] | rw [if_neg (by first | assumption | exact Int32.not_le.mpr (by assumption))]⟩) (Nat.le_of_ble_eq_true rfl) (Nat.le_of_ble_eq_true rfl) (by decide +kernel)
set_option maxHeartbeats 4000000 in
set_option maxRecDepth 100000 in
theorem c_X1_init (l : Launch) (D : va_G) (cy : Nat → ClassId) (G : GG) (a : Nat) (ha : G a = some (.inr (1, [.int 0, .int 0, .int 0, .int 0, .int 0, .int 0, .int 0, .int 0, .int 0, .int 0]))) : Ctr l D cy yX1_init prog_3_method_1_code 1 none kX1_init [.ref a] G (pV (fun G' => G' = g_up G a (.inr (1, [.int 0, .int (-1), .int 0, .int 0, .int 0, .int 0, .int 0, .int 0, .int 0, .int 0])))) := by
  refine Ctr.mk (by decide +kernel) (Nat.le_of_ble_eq_true rfl) ?_
  intro κ C R
  refine g_start ha ?_
  refine g_pc (pc' := 0) rfl ?_
  refine g_seg [(0, .aload_n 0, 1)] 1 [(0, .ref a)] [.ref a] C (by decide +kernel) rfl ?_
  refine g_obj (pc := 1) C q498 q40 q41 (Nat.le_of_ble_eq_true rfl) (Nat.le_of_ble_eq_true rfl) (by decide +kernel) ?_
  refine g_seg [(4, .aload_n 0, 1), (5, .iconst 0, 1)] 6 [(0, .ref a)] [.int 0, .ref a] C (by decide +kernel) rfl ?_
  refine g_putU (pc := 6) (k := 0) (ty := .int) [.int 0, .int 0, .int 0, .int 0, .int 0, .int 0, .int 0, .int 0, .int 0, .int 0] C fl_X1_9 fp_X1_0 (by first | rfl | decide) (by first | rfl | decide) (Nat.le_of_ble_eq_true rfl) rfl (by decide +kernel) ?_
  refine g_seg [(9, .aload_n 0, 1), (10, .iconst (-1), 1)] 11 [(0, .ref a)] [.int (-1), .ref a] C (by decide +kernel) rfl ?_
  refine g_putU (pc := 11) (k := 1) (ty := .int) [.int 0, .int (-1), .int 0, .int 0, .int 0, .int 0, .int 0, .int 0, .int 0, .int 0] C fl_X1_15 fp_X1_1 (by first | rfl | decide) (by first | rfl | decide) (Nat.le_of_ble_eq_true rfl) rfl (by decide +kernel) ?_
  exact g_vret (pc := 14) C R (⟨rfl, rfl⟩) (Nat.le_of_ble_eq_true rfl) (Nat.le_of_ble_eq_true rfl) (by decide +kernel)
set_option maxHeartbeats 4000000 in
set_option maxRecDepth 100000 in
theorem c_X1_hangFrom (l : Launch) (D : va_G) (cy : Nat → ClassId) (G : GG) (a : Nat) (s0 s1 s2 s3 s4 k0 k1 k2 k3 k4 : Int32) (p0 : Int32) (ha : G a = some (.inr (1, [.int s0, .int s1, .int s2, .int s3, .int s4, .int k0, .int k1, .int k2, .int k3, .int k4]))) : Ctr l D cy yX1_hangFrom prog_3_method_5_code 2 none kX1_hangFrom [.ref a, .int p0] G (pV (fun G' => G' = g_up G a (.inr (1, [.int 1, .int p0, .int s2, .int s3, .int s4, .int k0, .int k1, .int k2, .int k3, .int k4])))) := by
  refine Ctr.mk (by decide +kernel) (Nat.le_of_ble_eq_true rfl) ?_
  intro κ C R
  refine g_start ha ?_
  refine g_pc (pc' := 0) rfl ?_
  refine g_seg [(0, .aload_n 0, 1), (1, .iconst 1, 1)] 2 [(0, .ref a), (1, .int p0)] [.int 1, .ref a] C (by decide +kernel) rfl ?_
  refine g_putU (pc := 2) (k := 0) (ty := .int) [.int 1, .int s1, .int s2, .int s3, .int s4, .int k0, .int k1, .int k2, .int k3, .int k4] C fl_X1_9 fp_X1_0 (by first | rfl | decide) (by first | rfl | decide) (Nat.le_of_ble_eq_true rfl) rfl (by decide +kernel) ?_
  refine g_seg [(5, .aload_n 0, 1), (6, .iload_n 1, 1)] 7 [(0, .ref a), (1, .int p0)] [.int p0, .ref a] C (by decide +kernel) rfl ?_
  refine g_putU (pc := 7) (k := 1) (ty := .int) [.int 1, .int p0, .int s2, .int s3, .int s4, .int k0, .int k1, .int k2, .int k3, .int k4] C fl_X1_15 fp_X1_1 (by first | rfl | decide) (by first | rfl | decide) (Nat.le_of_ble_eq_true rfl) rfl (by decide +kernel) ?_
  exact g_vret (pc := 10) C R (⟨rfl, rfl⟩) (Nat.le_of_ble_eq_true rfl) (Nat.le_of_ble_eq_true rfl) (by decide +kernel)
set_option maxHeartbeats 4000000 in
set_option maxRecDepth 100000 in
theorem c_X1_flyTo (l : Launch) (D : va_G) (cy : Nat → ClassId) (G : GG) (a : Nat) (s0 s1 s2 s3 s4 k0 k1 k2 k3 k4 : Int32) (p0 p1 : Int32) (ha : G a = some (.inr (1, [.int s0, .int s1, .int s2, .int s3, .int s4, .int k0, .int k1, .int k2, .int k3, .int k4]))) : Ctr l D cy yX1_flyTo prog_3_method_6_code 3 none kX1_flyTo [.ref a, .int p0, .int p1] G (pV (fun G' => G' = g_up G a (.inr (1, [.int 2, .int (-1), .int p0, .int p1, .int s4, .int k0, .int k1, .int k2, .int k3, .int k4])))) := by
  refine Ctr.mk (by decide +kernel) (Nat.le_of_ble_eq_true rfl) ?_
  intro κ C R
  refine g_start ha ?_
  refine g_pc (pc' := 0) rfl ?_
  refine g_seg [(0, .aload_n 0, 1), (1, .iconst 2, 1)] 2 [(0, .ref a), (1, .int p0), (2, .int p1)] [.int 2, .ref a] C (by decide +kernel) rfl ?_
  refine g_putU (pc := 2) (k := 0) (ty := .int) [.int 2, .int s1, .int s2, .int s3, .int s4, .int k0, .int k1, .int k2, .int k3, .int k4] C fl_X1_9 fp_X1_0 (by first | rfl | decide) (by first | rfl | decide) (Nat.le_of_ble_eq_true rfl) rfl (by decide +kernel) ?_
  refine g_seg [(5, .aload_n 0, 1), (6, .iconst (-1), 1)] 7 [(0, .ref a), (1, .int p0), (2, .int p1)] [.int (-1), .ref a] C (by decide +kernel) rfl ?_
  refine g_putU (pc := 7) (k := 1) (ty := .int) [.int 2, .int (-1), .int s2, .int s3, .int s4, .int k0, .int k1, .int k2, .int k3, .int k4] C fl_X1_15 fp_X1_1 (by first | rfl | decide) (by first | rfl | decide) (Nat.le_of_ble_eq_true rfl) rfl (by decide +kernel) ?_
  refine g_seg [(10, .aload_n 0, 1), (11, .iload_n 1, 1)] 12 [(0, .ref a), (1, .int p0), (2, .int p1)] [.int p0, .ref a] C (by decide +kernel) rfl ?_
  refine g_putU (pc := 12) (k := 2) (ty := .int) [.int 2, .int (-1), .int p0, .int s3, .int s4, .int k0, .int k1, .int k2, .int k3, .int k4] C fl_X1_21 fp_X1_2 (by first | rfl | decide) (by first | rfl | decide) (Nat.le_of_ble_eq_true rfl) rfl (by decide +kernel) ?_
  refine g_seg [(15, .aload_n 0, 1), (16, .iload_n 2, 1)] 17 [(0, .ref a), (1, .int p0), (2, .int p1)] [.int p1, .ref a] C (by decide +kernel) rfl ?_
  refine g_putU (pc := 17) (k := 3) (ty := .int) [.int 2, .int (-1), .int p0, .int p1, .int s4, .int k0, .int k1, .int k2, .int k3, .int k4] C fl_X1_18 fp_X1_3 (by first | rfl | decide) (by first | rfl | decide) (Nat.le_of_ble_eq_true rfl) rfl (by decide +kernel) ?_
  exact g_vret (pc := 20) C R (⟨rfl, rfl⟩) (Nat.le_of_ble_eq_true rfl) (Nat.le_of_ble_eq_true rfl) (by decide +kernel)
set_option maxHeartbeats 4000000 in
set_option maxRecDepth 100000 in
theorem c_X1_keep (l : Launch) (D : va_G) (cy : Nat → ClassId) (G : GG) (a : Nat) (s0 s1 s2 s3 s4 k0 k1 k2 k3 k4 : Int32) (ha : G a = some (.inr (1, [.int s0, .int s1, .int s2, .int s3, .int s4, .int k0, .int k1, .int k2, .int k3, .int k4]))) : Ctr l D cy yX1_keep prog_3_method_8_code 1 none kX1_keep [.ref a] G (pV (fun G' => G' = g_up G a (.inr (1, [.int s0, .int s1, .int s2, .int s3, .int s4, .int s0, .int s1, .int s2, .int s3, .int s4])))) := by
  refine Ctr.mk (by decide +kernel) (Nat.le_of_ble_eq_true rfl) ?_
  intro κ C R
  refine g_start ha ?_
  refine g_pc (pc' := 0) rfl ?_
  refine g_seg [(0, .aload_n 0, 1), (1, .aload_n 0, 1)] 2 [(0, .ref a)] [.ref a, .ref a] C (by decide +kernel) rfl ?_
  refine g_getU (pc := 2) (k := 0) (.int s0) C fl_X1_9 rfl (by decide +kernel) ?_
  refine g_putU (pc := 5) (k := 5) (ty := .int) [.int s0, .int s1, .int s2, .int s3, .int s4, .int s0, .int k1, .int k2, .int k3, .int k4] C fl_X1_24 fp_X1_5 (by first | rfl | decide) (by first | rfl | decide) (Nat.le_of_ble_eq_true rfl) rfl (by decide +kernel) ?_
  refine g_seg [(8, .aload_n 0, 1), (9, .aload_n 0, 1)] 10 [(0, .ref a)] [.ref a, .ref a] C (by decide +kernel) rfl ?_
  refine g_getU (pc := 10) (k := 1) (.int s1) C fl_X1_15 rfl (by decide +kernel) ?_
  refine g_putU (pc := 13) (k := 6) (ty := .int) [.int s0, .int s1, .int s2, .int s3, .int s4, .int s0, .int s1, .int k2, .int k3, .int k4] C fl_X1_27 fp_X1_6 (by first | rfl | decide) (by first | rfl | decide) (Nat.le_of_ble_eq_true rfl) rfl (by decide +kernel) ?_
  refine g_seg [(16, .aload_n 0, 1), (17, .aload_n 0, 1)] 18 [(0, .ref a)] [.ref a, .ref a] C (by decide +kernel) rfl ?_
  refine g_getU (pc := 18) (k := 2) (.int s2) C fl_X1_21 rfl (by decide +kernel) ?_
  refine g_putU (pc := 21) (k := 7) (ty := .int) [.int s0, .int s1, .int s2, .int s3, .int s4, .int s0, .int s1, .int s2, .int k3, .int k4] C fl_X1_30 fp_X1_7 (by first | rfl | decide) (by first | rfl | decide) (Nat.le_of_ble_eq_true rfl) rfl (by decide +kernel) ?_
  refine g_seg [(24, .aload_n 0, 1), (25, .aload_n 0, 1)] 26 [(0, .ref a)] [.ref a, .ref a] C (by decide +kernel) rfl ?_
  refine g_getU (pc := 26) (k := 3) (.int s3) C fl_X1_18 rfl (by decide +kernel) ?_
  refine g_putU (pc := 29) (k := 8) (ty := .int) [.int s0, .int s1, .int s2, .int s3, .int s4, .int s0, .int s1, .int s2, .int s3, .int k4] C fl_X1_33 fp_X1_8 (by first | rfl | decide) (by first | rfl | decide) (Nat.le_of_ble_eq_true rfl) rfl (by decide +kernel) ?_
  refine g_seg [(32, .aload_n 0, 1), (33, .aload_n 0, 1)] 34 [(0, .ref a)] [.ref a, .ref a] C (by decide +kernel) rfl ?_
  refine g_getU (pc := 34) (k := 4) (.int s4) C fl_X1_36 rfl (by decide +kernel) ?_
  refine g_putU (pc := 37) (k := 9) (ty := .int) [.int s0, .int s1, .int s2, .int s3, .int s4, .int s0, .int s1, .int s2, .int s3, .int s4] C fl_X1_39 fp_X1_9 (by first | rfl | decide) (by first | rfl | decide) (Nat.le_of_ble_eq_true rfl) rfl (by decide +kernel) ?_
  exact g_vret (pc := 40) C R (⟨rfl, rfl⟩) (Nat.le_of_ble_eq_true rfl) (Nat.le_of_ble_eq_true rfl) (by decide +kernel)
set_option maxHeartbeats 4000000 in
set_option maxRecDepth 100000 in
theorem c_X1_takeBack (l : Launch) (D : va_G) (cy : Nat → ClassId) (G : GG) (a : Nat) (s0 s1 s2 s3 s4 k0 k1 k2 k3 k4 : Int32) (ha : G a = some (.inr (1, [.int s0, .int s1, .int s2, .int s3, .int s4, .int k0, .int k1, .int k2, .int k3, .int k4]))) : Ctr l D cy yX1_takeBack prog_3_method_9_code 1 none kX1_takeBack [.ref a] G (pV (fun G' => G' = g_up G a (.inr (1, [.int k0, .int k1, .int k2, .int k3, .int k4, .int k0, .int k1, .int k2, .int k3, .int k4])))) := by
  refine Ctr.mk (by decide +kernel) (Nat.le_of_ble_eq_true rfl) ?_
  intro κ C R
  refine g_start ha ?_
  refine g_pc (pc' := 0) rfl ?_
  refine g_seg [(0, .aload_n 0, 1), (1, .aload_n 0, 1)] 2 [(0, .ref a)] [.ref a, .ref a] C (by decide +kernel) rfl ?_
  refine g_getU (pc := 2) (k := 5) (.int k0) C fl_X1_24 rfl (by decide +kernel) ?_
  refine g_putU (pc := 5) (k := 0) (ty := .int) [.int k0, .int s1, .int s2, .int s3, .int s4, .int k0, .int k1, .int k2, .int k3, .int k4] C fl_X1_9 fp_X1_0 (by first | rfl | decide) (by first | rfl | decide) (Nat.le_of_ble_eq_true rfl) rfl (by decide +kernel) ?_
  refine g_seg [(8, .aload_n 0, 1), (9, .aload_n 0, 1)] 10 [(0, .ref a)] [.ref a, .ref a] C (by decide +kernel) rfl ?_
  refine g_getU (pc := 10) (k := 6) (.int k1) C fl_X1_27 rfl (by decide +kernel) ?_
  refine g_putU (pc := 13) (k := 1) (ty := .int) [.int k0, .int k1, .int s2, .int s3, .int s4, .int k0, .int k1, .int k2, .int k3, .int k4] C fl_X1_15 fp_X1_1 (by first | rfl | decide) (by first | rfl | decide) (Nat.le_of_ble_eq_true rfl) rfl (by decide +kernel) ?_
  refine g_seg [(16, .aload_n 0, 1), (17, .aload_n 0, 1)] 18 [(0, .ref a)] [.ref a, .ref a] C (by decide +kernel) rfl ?_
  refine g_getU (pc := 18) (k := 7) (.int k2) C fl_X1_30 rfl (by decide +kernel) ?_
  refine g_putU (pc := 21) (k := 2) (ty := .int) [.int k0, .int k1, .int k2, .int s3, .int s4, .int k0, .int k1, .int k2, .int k3, .int k4] C fl_X1_21 fp_X1_2 (by first | rfl | decide) (by first | rfl | decide) (Nat.le_of_ble_eq_true rfl) rfl (by decide +kernel) ?_
  refine g_seg [(24, .aload_n 0, 1), (25, .aload_n 0, 1)] 26 [(0, .ref a)] [.ref a, .ref a] C (by decide +kernel) rfl ?_
  refine g_getU (pc := 26) (k := 8) (.int k3) C fl_X1_33 rfl (by decide +kernel) ?_
  refine g_putU (pc := 29) (k := 3) (ty := .int) [.int k0, .int k1, .int k2, .int k3, .int s4, .int k0, .int k1, .int k2, .int k3, .int k4] C fl_X1_18 fp_X1_3 (by first | rfl | decide) (by first | rfl | decide) (Nat.le_of_ble_eq_true rfl) rfl (by decide +kernel) ?_
  refine g_seg [(32, .aload_n 0, 1), (33, .aload_n 0, 1)] 34 [(0, .ref a)] [.ref a, .ref a] C (by decide +kernel) rfl ?_
  refine g_getU (pc := 34) (k := 9) (.int k4) C fl_X1_39 rfl (by decide +kernel) ?_
  refine g_putU (pc := 37) (k := 4) (ty := .int) [.int k0, .int k1, .int k2, .int k3, .int k4, .int k0, .int k1, .int k2, .int k3, .int k4] C fl_X1_36 fp_X1_4 (by first | rfl | decide) (by first | rfl | decide) (Nat.le_of_ble_eq_true rfl) rfl (by decide +kernel) ?_
  exact g_vret (pc := 40) C R (⟨rfl, rfl⟩) (Nat.le_of_ble_eq_true rfl) (Nat.le_of_ble_eq_true rfl) (by decide +kernel)
set_option maxHeartbeats 4000000 in
set_option maxRecDepth 100000 in
theorem c_X1_fall (l : Launch) (D : va_G) (cy : Nat → ClassId) (G : GG) (a : Nat) (s0 s1 s2 s3 s4 k0 k1 k2 k3 k4 : Int32) (p0 : Int32) (ha : G a = some (.inr (1, [.int s0, .int s1, .int s2, .int s3, .int s4, .int k0, .int k1, .int k2, .int k3, .int k4]))) : Ctr l D cy yX1_fall prog_3_method_7_code 2 none kX1_fall [.ref a, .int p0] G (pV (fun G' => G' = g_up G a (.inr (1, [.int (if p0 = 0 then 4 else 3), .int (-1), .int s2, .int s3, .int s4, .int k0, .int k1, .int k2, .int k3, .int k4])))) := by
  refine Ctr.mk (by decide +kernel) (Nat.le_of_ble_eq_true rfl) ?_
  intro κ C R
  refine g_start ha ?_
  refine g_pc (pc' := 0) rfl ?_
  refine g_seg [(0, .aload_n 0, 1), (1, .iload_n 1, 1)] 2 [(0, .ref a), (1, .int p0)] [.int p0, .ref a] C (by decide +kernel) rfl ?_
  refine g_if_eq (pc := 2) (off := 7) 9 C (by decide +kernel) (by decide) (fun c1 => ?_) (fun c1 => ?_)
  · refine g_seg [(9, .iconst 4, 1)] 10 [(0, .ref a), (1, .int p0)] [.int 4, .ref a] C (by decide +kernel) rfl ?_
    refine g_putU (pc := 10) (k := 0) (ty := .int) [.int 4, .int s1, .int s2, .int s3, .int s4, .int k0, .int k1, .int k2, .int k3, .int k4] C fl_X1_9 fp_X1_0 (by first | rfl | decide) (by first | rfl | decide) (Nat.le_of_ble_eq_true rfl) rfl (by decide +kernel) ?_
    refine g_seg [(13, .aload_n 0, 1), (14, .iconst (-1), 1)] 15 [(0, .ref a), (1, .int p0)] [.int (-1), .ref a] C (by decide +kernel) rfl ?_
    refine g_putU (pc := 15) (k := 1) (ty := .int) [.int 4, .int (-1), .int s2, .int s3, .int s4, .int k0, .int k1, .int k2, .int k3, .int k4] C fl_X1_15 fp_X1_1 (by first | rfl | decide) (by first | rfl | decide) (Nat.le_of_ble_eq_true rfl) rfl (by decide +kernel) ?_
    exact g_vret (pc := 18) C R (⟨rfl, by first | rw [if_pos (by assumption)] | rw [if_neg (by assumption)]⟩) (Nat.le_of_ble_eq_true rfl) (Nat.le_of_ble_eq_true rfl) (by decide +kernel)
  · refine g_seg [(5, .iconst 3, 1), (6, .goto 4, 3)] 10 [(0, .ref a), (1, .int p0)] [.int 3, .ref a] C (by decide +kernel) rfl ?_
    refine g_putU (pc := 10) (k := 0) (ty := .int) [.int 3, .int s1, .int s2, .int s3, .int s4, .int k0, .int k1, .int k2, .int k3, .int k4] C fl_X1_9 fp_X1_0 (by first | rfl | decide) (by first | rfl | decide) (Nat.le_of_ble_eq_true rfl) rfl (by decide +kernel) ?_
    refine g_seg [(13, .aload_n 0, 1), (14, .iconst (-1), 1)] 15 [(0, .ref a), (1, .int p0)] [.int (-1), .ref a] C (by decide +kernel) rfl ?_
    refine g_putU (pc := 15) (k := 1) (ty := .int) [.int 3, .int (-1), .int s2, .int s3, .int s4, .int k0, .int k1, .int k2, .int k3, .int k4] C fl_X1_15 fp_X1_1 (by first | rfl | decide) (by first | rfl | decide) (Nat.le_of_ble_eq_true rfl) rfl (by decide +kernel) ?_
    exact g_vret (pc := 18) C R (⟨rfl, by first | rw [if_pos (by assumption)] | rw [if_neg (by assumption)]⟩) (Nat.le_of_ble_eq_true rfl) (Nat.le_of_ble_eq_true rfl) (by decide +kernel)
set_option maxHeartbeats 4000000 in
set_option maxRecDepth 100000 in
theorem c_X1_canMount (l : Launch) (D : va_G) (cy : Nat → ClassId) (G : GG) (a : Nat) (s0 s1 s2 s3 s4 k0 k1 k2 k3 k4 : Int32) (ha : G a = some (.inr (1, [.int s0, .int s1, .int s2, .int s3, .int s4, .int k0, .int k1, .int k2, .int k3, .int k4]))) : Ctr l D cy yX1_canMount prog_3_method_2_code 1 (some .boolean) kX1_canMount [.ref a] G (pI (fun v G' => G' = G ∧ ((v = 1 ∧ (s0 = 0 ∨ s0 = 3)) ∨ (v = 0 ∧ ¬ (s0 = 0 ∨ s0 = 3))))) := by
  refine Ctr.mk (by decide +kernel) (Nat.le_of_ble_eq_true rfl) ?_
  intro κ C R
  refine g_start ha ?_
  refine g_pc (pc' := 0) rfl ?_
  refine g_seg [(0, .aload_n 0, 1)] 1 [(0, .ref a)] [.ref a] C (by decide +kernel) rfl ?_
  refine g_getU (pc := 1) (k := 0) (.int s0) C fl_X1_9 rfl (by decide +kernel) ?_
  refine g_if_eq (pc := 4) (off := 11) 15 C (by decide +kernel) (by decide) (fun c1 => ?_) (fun c1 => ?_)
  · refine g_seg [(15, .iconst 1, 1), (16, .goto 4, 3)] 20 [(0, .ref a)] [.int 1] C (by decide +kernel) rfl ?_
    exact g_zret (pc := 20) C R (by first | rfl | decide) (⟨_, rfl, g_up_id ha, Or.inl ⟨rfl, by first | exact Or.inl (by assumption) | exact Or.inr (by assumption)⟩⟩) (Nat.le_of_ble_eq_true rfl) (Nat.le_of_ble_eq_true rfl) (by decide +kernel)
  · refine g_seg [(7, .aload_n 0, 1)] 8 [(0, .ref a)] [.ref a] C (by decide +kernel) rfl ?_
    refine g_getU (pc := 8) (k := 0) (.int s0) C fl_X1_9 rfl (by decide +kernel) ?_
    refine g_seg [(11, .iconst 3, 1)] 12 [(0, .ref a)] [.int 3, .int s0] C (by decide +kernel) rfl ?_
    refine g_icmp_ne (pc := 12) (off := 7) 19 C (by decide +kernel) (by decide) (fun c2 => ?_) (fun c2 => ?_)
    · refine g_seg [(19, .iconst 0, 1)] 20 [(0, .ref a)] [.int 0] C (by decide +kernel) rfl ?_
      exact g_zret (pc := 20) C R (by first | rfl | decide) (⟨_, rfl, g_up_id ha, Or.inr ⟨rfl, fun h9 => by rcases h9 with h9 | h9 <;> contradiction⟩⟩) (Nat.le_of_ble_eq_true rfl) (Nat.le_of_ble_eq_true rfl) (by decide +kernel)
    · refine g_seg [(15, .iconst 1, 1), (16, .goto 4, 3)] 20 [(0, .ref a)] [.int 1] C (by decide +kernel) rfl ?_
      exact g_zret (pc := 20) C R (by first | rfl | decide) (⟨_, rfl, g_up_id ha, Or.inl ⟨rfl, by first | exact Or.inl (by assumption) | exact Or.inr (by assumption)⟩⟩) (Nat.le_of_ble_eq_true rfl) (Nat.le_of_ble_eq_true rfl) (by decide +kernel)
set_option maxHeartbeats 4000000 in
set_option maxRecDepth 100000 in
theorem c_X1_hangsFrom (l : Launch) (D : va_G) (cy : Nat → ClassId) (G : GG) (a : Nat) (s0 s1 s2 s3 s4 k0 k1 k2 k3 k4 : Int32) (p0 : Int32) (ha : G a = some (.inr (1, [.int s0, .int s1, .int s2, .int s3, .int s4, .int k0, .int k1, .int k2, .int k3, .int k4]))) : Ctr l D cy yX1_hangsFrom prog_3_method_3_code 2 (some .boolean) kX1_hangsFrom [.ref a, .int p0] G (pI (fun v G' => G' = G ∧ ((v = 1 ∧ (s0 = 1 ∧ s1 = p0)) ∨ (v = 0 ∧ ¬ (s0 = 1 ∧ s1 = p0))))) := by
  refine Ctr.mk (by decide +kernel) (Nat.le_of_ble_eq_true rfl) ?_
  intro κ C R
  refine g_start ha ?_
  refine g_pc (pc' := 0) rfl ?_
  refine g_seg [(0, .aload_n 0, 1)] 1 [(0, .ref a), (1, .int p0)] [.ref a] C (by decide +kernel) rfl ?_
  refine g_getU (pc := 1) (k := 0) (.int s0) C fl_X1_9 rfl (by decide +kernel) ?_
  refine g_seg [(4, .iconst 1, 1)] 5 [(0, .ref a), (1, .int p0)] [.int 1, .int s0] C (by decide +kernel) rfl ?_
  refine g_icmp_ne (pc := 5) (off := 15) 20 C (by decide +kernel) (by decide) (fun c1 => ?_) (fun c1 => ?_)
  · refine g_seg [(20, .iconst 0, 1)] 21 [(0, .ref a), (1, .int p0)] [.int 0] C (by decide +kernel) rfl ?_
    exact g_zret (pc := 21) C R (by first | rfl | decide) (⟨_, rfl, g_up_id ha, Or.inr ⟨rfl, fun h9 => by obtain ⟨h8, h9⟩ := h9; contradiction⟩⟩) (Nat.le_of_ble_eq_true rfl) (Nat.le_of_ble_eq_true rfl) (by decide +kernel)
  · refine g_seg [(8, .aload_n 0, 1)] 9 [(0, .ref a), (1, .int p0)] [.ref a] C (by decide +kernel) rfl ?_
    refine g_getU (pc := 9) (k := 1) (.int s1) C fl_X1_15 rfl (by decide +kernel) ?_
    refine g_seg [(12, .iload_n 1, 1)] 13 [(0, .ref a), (1, .int p0)] [.int p0, .int s1] C (by decide +kernel) rfl ?_
    refine g_icmp_ne (pc := 13) (off := 7) 20 C (by decide +kernel) (by decide) (fun c2 => ?_) (fun c2 => ?_)
    · refine g_seg [(20, .iconst 0, 1)] 21 [(0, .ref a), (1, .int p0)] [.int 0] C (by decide +kernel) rfl ?_
      exact g_zret (pc := 21) C R (by first | rfl | decide) (⟨_, rfl, g_up_id ha, Or.inr ⟨rfl, fun h9 => by obtain ⟨h8, h9⟩ := h9; contradiction⟩⟩) (Nat.le_of_ble_eq_true rfl) (Nat.le_of_ble_eq_true rfl) (by decide +kernel)
    · refine g_seg [(16, .iconst 1, 1), (17, .goto 4, 3)] 21 [(0, .ref a), (1, .int p0)] [.int 1] C (by decide +kernel) rfl ?_
      exact g_zret (pc := 21) C R (by first | rfl | decide) (⟨_, rfl, g_up_id ha, Or.inl ⟨rfl, by assumption, by assumption⟩⟩) (Nat.le_of_ble_eq_true rfl) (Nat.le_of_ble_eq_true rfl) (by decide +kernel)
set_option maxHeartbeats 4000000 in
set_option maxRecDepth 100000 in
theorem c_X1_comesIn (l : Launch) (D : va_G) (cy : Nat → ClassId) (G : GG) (a : Nat) (s0 s1 s2 s3 s4 k0 k1 k2 k3 k4 : Int32) (p0 : Int32) (ha : G a = some (.inr (1, [.int s0, .int s1, .int s2, .int s3, .int s4, .int k0, .int k1, .int k2, .int k3, .int k4]))) : Ctr l D cy yX1_comesIn prog_3_method_4_code 2 (some .boolean) kX1_comesIn [.ref a, .int p0] G (pI (fun v G' => G' = G ∧ ((v = 1 ∧ (s0 = 2 ∧ s3 = p0)) ∨ (v = 0 ∧ ¬ (s0 = 2 ∧ s3 = p0))))) := by
  refine Ctr.mk (by decide +kernel) (Nat.le_of_ble_eq_true rfl) ?_
  intro κ C R
  refine g_start ha ?_
  refine g_pc (pc' := 0) rfl ?_
  refine g_seg [(0, .aload_n 0, 1)] 1 [(0, .ref a), (1, .int p0)] [.ref a] C (by decide +kernel) rfl ?_
  refine g_getU (pc := 1) (k := 0) (.int s0) C fl_X1_9 rfl (by decide +kernel) ?_
  refine g_seg [(4, .iconst 2, 1)] 5 [(0, .ref a), (1, .int p0)] [.int 2, .int s0] C (by decide +kernel) rfl ?_
  refine g_icmp_ne (pc := 5) (off := 15) 20 C (by decide +kernel) (by decide) (fun c1 => ?_) (fun c1 => ?_)
  · refine g_seg [(20, .iconst 0, 1)] 21 [(0, .ref a), (1, .int p0)] [.int 0] C (by decide +kernel) rfl ?_
    exact g_zret (pc := 21) C R (by first | rfl | decide) (⟨_, rfl, g_up_id ha, Or.inr ⟨rfl, fun h9 => by obtain ⟨h8, h9⟩ := h9; contradiction⟩⟩) (Nat.le_of_ble_eq_true rfl) (Nat.le_of_ble_eq_true rfl) (by decide +kernel)
  · refine g_seg [(8, .aload_n 0, 1)] 9 [(0, .ref a), (1, .int p0)] [.ref a] C (by decide +kernel) rfl ?_
    refine g_getU (pc := 9) (k := 3) (.int s3) C fl_X1_18 rfl (by decide +kernel) ?_
    refine g_seg [(12, .iload_n 1, 1)] 13 [(0, .ref a), (1, .int p0)] [.int p0, .int s3] C (by decide +kernel) rfl ?_
    refine g_icmp_ne (pc := 13) (off := 7) 20 C (by decide +kernel) (by decide) (fun c2 => ?_) (fun c2 => ?_)
    · refine g_seg [(20, .iconst 0, 1)] 21 [(0, .ref a), (1, .int p0)] [.int 0] C (by decide +kernel) rfl ?_
      exact g_zret (pc := 21) C R (by first | rfl | decide) (⟨_, rfl, g_up_id ha, Or.inr ⟨rfl, fun h9 => by obtain ⟨h8, h9⟩ := h9; contradiction⟩⟩) (Nat.le_of_ble_eq_true rfl) (Nat.le_of_ble_eq_true rfl) (by decide +kernel)
    · refine g_seg [(16, .iconst 1, 1), (17, .goto 4, 3)] 21 [(0, .ref a), (1, .int p0)] [.int 1] C (by decide +kernel) rfl ?_
      exact g_zret (pc := 21) C R (by first | rfl | decide) (⟨_, rfl, g_up_id ha, Or.inl ⟨rfl, by assumption, by assumption⟩⟩) (Nat.le_of_ble_eq_true rfl) (Nat.le_of_ble_eq_true rfl) (by decide +kernel)
end
section
/-! pure facts for the class's reads -/
theorem s_hmax {wt : Int32} (h : ∃ w, w ≤ 10 ∧ wt = nI w) : (if 2 < 2 + wt then 2 + wt else 2) = 2 + wt := by
  obtain ⟨w, hw, rfl⟩ := h
  have : ∀ w : Fin 11, (if (2 : Int32) < 2 + nI w.val then 2 + nI w.val else 2) = 2 + nI w.val := by decide
  exact this ⟨w, by omega⟩
theorem s_hne {wt : Int32} (h : ∃ w, w ≤ 10 ∧ wt = nI w) : ¬ 2 + wt = 0 := by
  obtain ⟨w, hw, rfl⟩ := h
  have : ∀ w : Fin 11, ¬ (2 : Int32) + nI w.val = 0 := by decide
  exact this ⟨w, by omega⟩
theorem s_hne2 {wt : Int32} (h : ∃ w, w ≤ 10 ∧ wt = nI w) : ¬ 2 * (2 + wt) = 0 := by
  obtain ⟨w, hw, rfl⟩ := h
  have : ∀ w : Fin 11, ¬ (2 : Int32) * (2 + nI w.val) = 0 := by decide
  exact this ⟨w, by omega⟩
theorem i_sub1 {k : Nat} (hk : 0 < k) (hk2 : k < 1000) : (nI k - 1).toInt = (k : Int) - 1 := by
  obtain ⟨j, rfl⟩ : ∃ j, k = j + 1 := ⟨k - 1, by omega⟩
  rw [nI_pred, nI_toInt (by omega)]; omega
theorem in_ix {n : Int32} {k : Nat} (hk : 0 < k) (hk2 : k < 1000) (h : 0 ≤ n ∧ n ≤ nI k - 1) : ∃ j, j < k ∧ n = nI j := by
  obtain ⟨h1, h2⟩ := h
  obtain ⟨j, hj, rfl⟩ := nI_of (x := n) (Int32.not_lt.mpr h1)
  rw [Int32.le_iff_toInt_le, i_sub1 hk hk2, nI_toInt hj] at h2
  exact ⟨j, by omega, rfl⟩
theorem in_nix {n : Int32} {k : Nat} (hk : 0 < k) (hk2 : k < 1000) (h : ¬ (0 ≤ n ∧ n ≤ nI k - 1)) : ∀ j, j < k → n ≠ nI j := by
  intro j hj e
  subst e
  refine h ⟨nI_pos' (by omega), ?_⟩
  rw [Int32.le_iff_toInt_le, i_sub1 hk hk2, nI_toInt (by omega)]; omega

set_option maxHeartbeats 4000000 in
set_option maxRecDepth 100000 in
theorem c_X4_isWithin (l : Launch) (D : va_G) (cy : Nat → ClassId) (G : GG) (n lo hi : Int32) : Ctr l D cy yX4_isWithin prog_1_method_22_code 3 (some .boolean) kX4_isWithin [.int n, .int lo, .int hi] G (pI (fun v G' => G' = G ∧ ((v = 1 ∧ (lo ≤ n ∧ n ≤ hi)) ∨ (v = 0 ∧ ¬ (lo ≤ n ∧ n ≤ hi))))) := by
  refine Ctr.mk (by decide +kernel) (Nat.le_of_ble_eq_true rfl) ?_
  intro κ C R
  refine g_pc (pc' := 0) rfl ?_
  refine g_seg [(0, .iload_n 0, 1), (1, .iload_n 1, 1)] 2 [(0, .int n), (1, .int lo), (2, .int hi)] [.int lo, .int n] C (by decide +kernel) rfl ?_
  refine g_icmp_lt (pc := 2) (off := 12) 14 C (by decide +kernel) (by decide) (fun c1 => ?_) (fun c1 => ?_)
  · refine g_seg [(14, .iconst 0, 1)] 15 [(0, .int n), (1, .int lo), (2, .int hi)] [.int 0] C (by decide +kernel) rfl ?_
    exact g_zret (pc := 15) C R (by first | rfl | decide) (⟨_, rfl, rfl, Or.inr ⟨rfl, fun h9 => by first | exact absurd h9.1 (Int32.not_le.mpr (by assumption)) | exact absurd h9.2 (Int32.not_le.mpr (by assumption))⟩⟩) (Nat.le_of_ble_eq_true rfl) (Nat.le_of_ble_eq_true rfl) (by decide +kernel)
  · refine g_seg [(5, .iload_n 0, 1), (6, .iload_n 2, 1)] 7 [(0, .int n), (1, .int lo), (2, .int hi)] [.int hi, .int n] C (by decide +kernel) rfl ?_
    refine g_icmp_gt (pc := 7) (off := 7) 14 C (by decide +kernel) (by decide) (fun c2 => ?_) (fun c2 => ?_)
    · refine g_seg [(14, .iconst 0, 1)] 15 [(0, .int n), (1, .int lo), (2, .int hi)] [.int 0] C (by decide +kernel) rfl ?_
      exact g_zret (pc := 15) C R (by first | rfl | decide) (⟨_, rfl, rfl, Or.inr ⟨rfl, fun h9 => by first | exact absurd h9.1 (Int32.not_le.mpr (by assumption)) | exact absurd h9.2 (Int32.not_le.mpr (by assumption))⟩⟩) (Nat.le_of_ble_eq_true rfl) (Nat.le_of_ble_eq_true rfl) (by decide +kernel)
    · refine g_seg [(10, .iconst 1, 1), (11, .goto 4, 3)] 15 [(0, .int n), (1, .int lo), (2, .int hi)] [.int 1] C (by decide +kernel) rfl ?_
      exact g_zret (pc := 15) C R (by first | rfl | decide) (⟨_, rfl, rfl, Or.inl ⟨rfl, Int32.not_lt.mp (by assumption), Int32.not_lt.mp (by assumption)⟩⟩) (Nat.le_of_ble_eq_true rfl) (Nat.le_of_ble_eq_true rfl) (by decide +kernel)
set_option maxHeartbeats 4000000 in
set_option maxRecDepth 100000 in
theorem c_X4_isNear (l : Launch) (D : va_G) (cy : Nat → ClassId) (G : GG) (p0 p1 : Int32) : Ctr l D cy yX4_isNear prog_1_method_23_code 2 (some .boolean) kX4_isNear [.int p0, .int p1] G (pI (fun v G' => G' = G ∧ ((v = 1 ∧ s_near p0 p1 = true) ∨ (v = 0 ∧ s_near p0 p1 = false)))) := by
  refine Ctr.mk (by decide +kernel) (Nat.le_of_ble_eq_true rfl) ?_
  intro κ C R
  refine g_pc (pc' := 0) rfl ?_
  refine g_seg [(0, .iload_n 0, 1), (1, .iload_n 1, 1), (2, .isub, 1), (3, .iconst 2, 1)] 4 [(0, .int p0), (1, .int p1)] [.int 2, .int (p0 - p1)] C (by decide +kernel) rfl ?_
  refine g_icmp_gt (pc := 4) (off := 14) 18 C (by decide +kernel) (by decide) (fun c1 => ?_) (fun c1 => ?_)
  · refine g_seg [(18, .iconst 0, 1)] 19 [(0, .int p0), (1, .int p1)] [.int 0] C (by decide +kernel) rfl ?_
    exact g_zret (pc := 19) C R (by first | rfl | decide) (⟨_, rfl, rfl, Or.inr ⟨rfl, by simp only [s_near, Bool.and_eq_false_iff, decide_eq_false_iff_not]; first | exact Or.inl (Int32.not_le.mpr (by assumption)) | exact Or.inr (Int32.not_le.mpr (by assumption))⟩⟩) (Nat.le_of_ble_eq_true rfl) (Nat.le_of_ble_eq_true rfl) (by decide +kernel)
  · refine g_seg [(7, .iload_n 1, 1), (8, .iload_n 0, 1), (9, .isub, 1), (10, .iconst 2, 1)] 11 [(0, .int p0), (1, .int p1)] [.int 2, .int (p1 - p0)] C (by decide +kernel) rfl ?_
    refine g_icmp_gt (pc := 11) (off := 7) 18 C (by decide +kernel) (by decide) (fun c2 => ?_) (fun c2 => ?_)
    · refine g_seg [(18, .iconst 0, 1)] 19 [(0, .int p0), (1, .int p1)] [.int 0] C (by decide +kernel) rfl ?_
      exact g_zret (pc := 19) C R (by first | rfl | decide) (⟨_, rfl, rfl, Or.inr ⟨rfl, by simp only [s_near, Bool.and_eq_false_iff, decide_eq_false_iff_not]; first | exact Or.inl (Int32.not_le.mpr (by assumption)) | exact Or.inr (Int32.not_le.mpr (by assumption))⟩⟩) (Nat.le_of_ble_eq_true rfl) (Nat.le_of_ble_eq_true rfl) (by decide +kernel)
    · refine g_seg [(14, .iconst 1, 1), (15, .goto 4, 3)] 19 [(0, .int p0), (1, .int p1)] [.int 1] C (by decide +kernel) rfl ?_
      exact g_zret (pc := 19) C R (by first | rfl | decide) (⟨_, rfl, rfl, Or.inl ⟨rfl, by simp only [s_near, Bool.and_eq_true, decide_eq_true_eq]; exact ⟨Int32.not_lt.mp (by assumption), Int32.not_lt.mp (by assumption)⟩⟩⟩) (Nat.le_of_ble_eq_true rfl) (Nat.le_of_ble_eq_true rfl) (by decide +kernel)
set_option maxHeartbeats 4000000 in
set_option maxRecDepth 100000 in
theorem c_X3_halfSwing (l : Launch) (D : va_G) (cy : Nat → ClassId) (G : GG) (wt : Int32) (hw : ∃ w, w ≤ 10 ∧ wt = nI w) : Ctr l D cy yX3_halfSwing prog_5_method_8_code 1 (some .int) kX3_halfSwing [.int wt] G (pI (fun v G' => G' = G ∧ v = 2 + wt)) := by
  refine Ctr.mk (by decide +kernel) (Nat.le_of_ble_eq_true rfl) ?_
  intro κ C R
  refine g_pc (pc' := 0) rfl ?_
  refine g_seg [(0, .iconst 2, 1), (1, .iconst 2, 1), (2, .iload_n 0, 1), (3, .iadd, 1)] 4 [(0, .int wt)] [.int (2 + wt), .int 2] C (by decide +kernel) rfl ?_
  refine g_mmax (pc := 4) C q172 q173 q31 q174 (Nat.le_of_ble_eq_true rfl) (Nat.le_of_ble_eq_true rfl) (Nat.le_of_ble_eq_true rfl) (Nat.le_of_ble_eq_true rfl) (by decide +kernel) ?_
  exact g_iret (pc := 7) C R (⟨_, rfl, rfl, s_hmax hw⟩) (Nat.le_of_ble_eq_true rfl) (Nat.le_of_ble_eq_true rfl) (by decide +kernel)
set_option maxHeartbeats 4000000 in
set_option maxRecDepth 100000 in
theorem c_X3_placeSinceLeftEnd (l : Launch) (D : va_G) (cy : Nat → ClassId) (G : GG) (a : Nat) (m wd sg wt lb wo wh kw kh : Int32) (ha : G a = some (.inr (3, [.int m, .int wd, .int sg, .int wt, .int lb, .int wo, .int wh, .int kw, .int kh]))) (p0 p1 : Int32) (hw : ∃ w, w ≤ 10 ∧ p1 = nI w) : Ctr l D cy yX3_placeSinceLeftEnd prog_5_method_7_code 5 (some .int) kX3_placeSinceLeftEnd [.ref a, .int p0, .int p1] G (pI (fun v G' => G' = G ∧ v = s_pl m wd p1 p0)) := by
  refine Ctr.mk (by decide +kernel) (Nat.le_of_ble_eq_true rfl) ?_
  intro κ C R
  refine g_pc (pc' := 0) rfl ?_
  refine g_seg [(0, .iload_n 2, 1)] 1 [(0, .ref a), (1, .int p0), (2, .int p1)] [.int p1] C (by decide +kernel) rfl ?_
  refine g_callS (pc := 1) C mS_X3_halfSwing q169 (c_X3_halfSwing l D cy G p1 (by first | exact hw | assumption)) rfl ⟨⟨Nat.le_of_ble_eq_true rfl, Nat.le_of_ble_eq_true rfl⟩, Nat.le_of_ble_eq_true rfl, Nat.le_of_ble_eq_true rfl⟩ rfl (Nat.le_of_ble_eq_true rfl) (by decide +kernel) ?_
  refine g_kI (fun v3 G2 hp1 => ?_)
  obtain ⟨rfl, rfl⟩ := hp1
  refine g_seg [(4, .istore_n 3, 1), (5, .iload_n 1, 1), (6, .iconst 2, 1), (7, .iload_n 3, 1), (8, .imul, 1)] 9 [(3, .int (2 + p1)), (0, .ref a), (1, .int p0), (2, .int p1)] [.int (2 * (2 + p1)), .int p0] C (by decide +kernel) rfl ?_
  refine g_irem (pc := 9) C (by decide +kernel) (s_hne2 hw) ?_
  refine g_seg [(10, .istore 4, 2), (12, .iload 4, 2), (14, .iload_n 3, 1)] 15 [(4, .int (p0 - p0 / (2 * (2 + p1)) * (2 * (2 + p1)))), (3, .int (2 + p1)), (0, .ref a), (1, .int p0), (2, .int p1)] [.int (2 + p1), .int (p0 - p0 / (2 * (2 + p1)) * (2 * (2 + p1)))] C (by decide +kernel) rfl ?_
  refine g_icmp_gt (pc := 15) (off := 27) 42 C (by decide +kernel) (by decide) (fun c4 => ?_) (fun c4 => ?_)
  · refine g_seg [(42, .aload_n 0, 1)] 43 [(4, .int (p0 - p0 / (2 * (2 + p1)) * (2 * (2 + p1)))), (3, .int (2 + p1)), (0, .ref a), (1, .int p0), (2, .int p1)] [.ref a] C (by decide +kernel) rfl ?_
    refine g_getf (pc := 43) (k := 0) (v := .int m) C fl_X3_7 (ha) rfl (by decide +kernel) ?_
    refine g_seg [(46, .aload_n 0, 1)] 47 [(4, .int (p0 - p0 / (2 * (2 + p1)) * (2 * (2 + p1)))), (3, .int (2 + p1)), (0, .ref a), (1, .int p0), (2, .int p1)] [.ref a, .int m] C (by decide +kernel) rfl ?_
    refine g_getf (pc := 47) (k := 1) (v := .int wd) C fl_X3_13 (ha) rfl (by decide +kernel) ?_
    refine g_seg [(50, .iadd, 1), (51, .iconst 2, 1), (52, .aload_n 0, 1)] 53 [(4, .int (p0 - p0 / (2 * (2 + p1)) * (2 * (2 + p1)))), (3, .int (2 + p1)), (0, .ref a), (1, .int p0), (2, .int p1)] [.ref a, .int 2, .int (m + wd)] C (by decide +kernel) rfl ?_
    refine g_getf (pc := 53) (k := 1) (v := .int wd) C fl_X3_13 (ha) rfl (by decide +kernel) ?_
    refine g_seg [(56, .imul, 1), (57, .iload 4, 2), (59, .iload_n 3, 1), (60, .isub, 1), (61, .imul, 1), (62, .iload_n 3, 1)] 63 [(4, .int (p0 - p0 / (2 * (2 + p1)) * (2 * (2 + p1)))), (3, .int (2 + p1)), (0, .ref a), (1, .int p0), (2, .int p1)] [.int (2 + p1), .int ((2 * wd) * ((p0 - p0 / (2 * (2 + p1)) * (2 * (2 + p1))) - (2 + p1))), .int (m + wd)] C (by decide +kernel) rfl ?_
    refine g_idiv (pc := 63) C (by decide +kernel) (s_hne hw) ?_
    refine g_seg [(64, .isub, 1)] 65 [(4, .int (p0 - p0 / (2 * (2 + p1)) * (2 * (2 + p1)))), (3, .int (2 + p1)), (0, .ref a), (1, .int p0), (2, .int p1)] [.int ((m + wd) - (((2 * wd) * ((p0 - p0 / (2 * (2 + p1)) * (2 * (2 + p1))) - (2 + p1))) / (2 + p1)))] C (by decide +kernel) rfl ?_
    exact g_iret (pc := 65) C R (⟨_, rfl, rfl, by unfold s_pl s_p; first | rw [if_pos (Int32.not_lt.mp (by assumption))] | rw [if_neg (Int32.not_le.mpr (by assumption))]⟩) (Nat.le_of_ble_eq_true rfl) (Nat.le_of_ble_eq_true rfl) (by decide +kernel)
  · refine g_seg [(18, .aload_n 0, 1)] 19 [(4, .int (p0 - p0 / (2 * (2 + p1)) * (2 * (2 + p1)))), (3, .int (2 + p1)), (0, .ref a), (1, .int p0), (2, .int p1)] [.ref a] C (by decide +kernel) rfl ?_
    refine g_getf (pc := 19) (k := 0) (v := .int m) C fl_X3_7 (ha) rfl (by decide +kernel) ?_
    refine g_seg [(22, .aload_n 0, 1)] 23 [(4, .int (p0 - p0 / (2 * (2 + p1)) * (2 * (2 + p1)))), (3, .int (2 + p1)), (0, .ref a), (1, .int p0), (2, .int p1)] [.ref a, .int m] C (by decide +kernel) rfl ?_
    refine g_getf (pc := 23) (k := 1) (v := .int wd) C fl_X3_13 (ha) rfl (by decide +kernel) ?_
    refine g_seg [(26, .isub, 1), (27, .iconst 2, 1), (28, .aload_n 0, 1)] 29 [(4, .int (p0 - p0 / (2 * (2 + p1)) * (2 * (2 + p1)))), (3, .int (2 + p1)), (0, .ref a), (1, .int p0), (2, .int p1)] [.ref a, .int 2, .int (m - wd)] C (by decide +kernel) rfl ?_
    refine g_getf (pc := 29) (k := 1) (v := .int wd) C fl_X3_13 (ha) rfl (by decide +kernel) ?_
    refine g_seg [(32, .imul, 1), (33, .iload 4, 2), (35, .imul, 1), (36, .iload_n 3, 1)] 37 [(4, .int (p0 - p0 / (2 * (2 + p1)) * (2 * (2 + p1)))), (3, .int (2 + p1)), (0, .ref a), (1, .int p0), (2, .int p1)] [.int (2 + p1), .int ((2 * wd) * (p0 - p0 / (2 * (2 + p1)) * (2 * (2 + p1)))), .int (m - wd)] C (by decide +kernel) rfl ?_
    refine g_idiv (pc := 37) C (by decide +kernel) (s_hne hw) ?_
    refine g_seg [(38, .iadd, 1), (39, .goto 26, 3)] 65 [(4, .int (p0 - p0 / (2 * (2 + p1)) * (2 * (2 + p1)))), (3, .int (2 + p1)), (0, .ref a), (1, .int p0), (2, .int p1)] [.int ((m - wd) + (((2 * wd) * (p0 - p0 / (2 * (2 + p1)) * (2 * (2 + p1)))) / (2 + p1)))] C (by decide +kernel) rfl ?_
    exact g_iret (pc := 65) C R (⟨_, rfl, rfl, by unfold s_pl s_p; first | rw [if_pos (Int32.not_lt.mp (by assumption))] | rw [if_neg (Int32.not_le.mpr (by assumption))]⟩) (Nat.le_of_ble_eq_true rfl) (Nat.le_of_ble_eq_true rfl) (by decide +kernel)
set_option maxHeartbeats 4000000 in
set_option maxRecDepth 100000 in
theorem c_X3_placeIn (l : Launch) (D : va_G) (cy : Nat → ClassId) (G : GG) (a : Nat) (m wd sg wt lb wo wh kw kh : Int32) (ha : G a = some (.inr (3, [.int m, .int wd, .int sg, .int wt, .int lb, .int wo, .int wh, .int kw, .int kh]))) (p0 : Int32) (hw : ∃ w, w ≤ 10 ∧ wt = nI w) : Ctr l D cy yX3_placeIn prog_5_method_5_code 2 (some .int) kX3_placeIn [.ref a, .int p0] G (pI (fun v G' => G' = G ∧ v = s_pl m wd wt (p0 - lb))) := by
  refine Ctr.mk (by decide +kernel) (Nat.le_of_ble_eq_true rfl) ?_
  intro κ C R
  refine g_pc (pc' := 0) rfl ?_
  refine g_seg [(0, .aload_n 0, 1), (1, .iload_n 1, 1), (2, .aload_n 0, 1)] 3 [(0, .ref a), (1, .int p0)] [.ref a, .int p0, .ref a] C (by decide +kernel) rfl ?_
  refine g_getf (pc := 3) (k := 4) (v := .int lb) C fl_X3_22 (ha) rfl (by decide +kernel) ?_
  refine g_seg [(6, .isub, 1), (7, .aload_n 0, 1)] 8 [(0, .ref a), (1, .int p0)] [.ref a, .int (p0 - lb), .ref a] C (by decide +kernel) rfl ?_
  refine g_getf (pc := 8) (k := 3) (v := .int wt) C fl_X3_16 (ha) rfl (by decide +kernel) ?_
  refine g_callV (pc := 11) C mV_X3_placeSinceLeftEnd q165 (ha) rfl rfl (c_X3_placeSinceLeftEnd l D cy G a m wd sg wt lb wo wh kw kh ha (p0 - lb) wt hw) rfl ⟨⟨Nat.le_of_ble_eq_true rfl, Nat.le_of_ble_eq_true rfl⟩, Nat.le_of_ble_eq_true rfl, Nat.le_of_ble_eq_true rfl⟩ rfl (Nat.le_of_ble_eq_true rfl) (by decide +kernel) ?_
  refine g_kI (fun v3 G2 hp1 => ?_)
  obtain ⟨rfl, rfl⟩ := hp1
  exact g_iret (pc := 14) C R (⟨_, rfl, rfl, rfl⟩) (Nat.le_of_ble_eq_true rfl) (Nat.le_of_ble_eq_true rfl) (by decide +kernel)
set_option maxHeartbeats 4000000 in
set_option maxRecDepth 100000 in
theorem c_X3_isAtLeftEndIn (l : Launch) (D : va_G) (cy : Nat → ClassId) (G : GG) (a : Nat) (m wd sg wt lb wo wh kw kh : Int32) (ha : G a = some (.inr (3, [.int m, .int wd, .int sg, .int wt, .int lb, .int wo, .int wh, .int kw, .int kh]))) (p0 : Int32) (hw : ∃ w, w ≤ 10 ∧ wt = nI w) : Ctr l D cy yX3_isAtLeftEndIn prog_5_method_6_code 2 (some .boolean) kX3_isAtLeftEndIn [.ref a, .int p0] G (pI (fun v G' => G' = G ∧ ((v = 1 ∧ s_p wt (p0 - lb) = 0) ∨ (v = 0 ∧ ¬ s_p wt (p0 - lb) = 0)))) := by
  refine Ctr.mk (by decide +kernel) (Nat.le_of_ble_eq_true rfl) ?_
  intro κ C R
  refine g_pc (pc' := 0) rfl ?_
  refine g_seg [(0, .iload_n 1, 1), (1, .aload_n 0, 1)] 2 [(0, .ref a), (1, .int p0)] [.ref a, .int p0] C (by decide +kernel) rfl ?_
  refine g_getf (pc := 2) (k := 4) (v := .int lb) C fl_X3_22 (ha) rfl (by decide +kernel) ?_
  refine g_seg [(5, .isub, 1), (6, .iconst 2, 1), (7, .aload_n 0, 1)] 8 [(0, .ref a), (1, .int p0)] [.ref a, .int 2, .int (p0 - lb)] C (by decide +kernel) rfl ?_
  refine g_getf (pc := 8) (k := 3) (v := .int wt) C fl_X3_16 (ha) rfl (by decide +kernel) ?_
  refine g_callS (pc := 11) C mS_X3_halfSwing q169 (c_X3_halfSwing l D cy G wt (by first | exact hw | assumption)) rfl ⟨⟨Nat.le_of_ble_eq_true rfl, Nat.le_of_ble_eq_true rfl⟩, Nat.le_of_ble_eq_true rfl, Nat.le_of_ble_eq_true rfl⟩ rfl (Nat.le_of_ble_eq_true rfl) (by decide +kernel) ?_
  refine g_kI (fun v3 G2 hp1 => ?_)
  obtain ⟨rfl, rfl⟩ := hp1
  refine g_seg [(14, .imul, 1)] 15 [(0, .ref a), (1, .int p0)] [.int (2 * (2 + wt)), .int (p0 - lb)] C (by decide +kernel) rfl ?_
  refine g_irem (pc := 15) C (by decide +kernel) (s_hne2 hw) ?_
  refine g_if_ne (pc := 16) (off := 7) 23 C (by decide +kernel) (by decide) (fun c4 => ?_) (fun c4 => ?_)
  · refine g_seg [(23, .iconst 0, 1)] 24 [(0, .ref a), (1, .int p0)] [.int 0] C (by decide +kernel) rfl ?_
    exact g_zret (pc := 24) C R (by first | rfl | decide) (⟨_, rfl, rfl, Or.inr ⟨rfl, by assumption⟩⟩) (Nat.le_of_ble_eq_true rfl) (Nat.le_of_ble_eq_true rfl) (by decide +kernel)
  · refine g_seg [(19, .iconst 1, 1), (20, .goto 4, 3)] 24 [(0, .ref a), (1, .int p0)] [.int 1] C (by decide +kernel) rfl ?_
    exact g_zret (pc := 24) C R (by first | rfl | decide) (⟨_, rfl, rfl, Or.inl ⟨rfl, by assumption⟩⟩) (Nat.le_of_ble_eq_true rfl) (Nat.le_of_ble_eq_true rfl) (by decide +kernel)
end
section
theorem lp_ge {x : Int32} {k n : Nat} (hx : x = nI k) (hk : k < 100000) (hn : n < 100000) (h : nI n ≤ x) : n ≤ k := by
  subst hx; rwa [Int32.le_iff_toInt_le, nI_toInt (by omega), nI_toInt (by omega), Int.ofNat_le] at h
theorem lp_lt {x : Int32} {k n : Nat} (hx : x = nI k) (hk : k < 100000) (hn : n < 100000) (h : ¬ nI n ≤ x) : k < n := by
  subst hx; rw [Int32.le_iff_toInt_le, nI_toInt (by omega), nI_toInt (by omega), Int.ofNat_le] at h; omega
theorem lp_gt {x : Int32} {k n : Nat} (hx : x = nI k) (hk : k < 100000) (hn : n < 100000) (h : nI n < x) : n < k := by
  subst hx; rwa [Int32.lt_iff_toInt_lt, nI_toInt (by omega), nI_toInt (by omega), Int.ofNat_lt] at h
theorem lp_ngt {x : Int32} {k n : Nat} (hx : x = nI k) (hk : k < 100000) (hn : n < 100000) (h : ¬ nI n < x) : k ≤ n := by
  subst hx; rw [Int32.lt_iff_toInt_lt, nI_toInt (by omega), nI_toInt (by omega), Int.ofNat_lt] at h; omega
theorem lp_s {x : Int32} {k : Nat} (hx : x = nI k) : x + 1 = nI (k + 1) := by rw [hx]; exact nI_1 k
theorem min_y {k n : Nat} (h : k < n) : min (k + 1) n = min k n + 1 := by omega
theorem min_e {k n : Nat} (h : k < n) : min k n = k := by omega
theorem min_n {k n : Nat} (h : ¬ k < n) : min (k + 1) n = min k n := by omega
theorem cnt_y {s : Int32} {p : Nat → Bool} {k n : Nat} (hs : s = nI (cnt p (min k n))) (h : k < n) (hp : p k = true) : s + 1 = nI (cnt p (min (k + 1) n)) := by
  rw [min_y h, min_e h] at *
  rw [hs]; simp only [cnt, hp, if_true]; exact nI_1 _
theorem cnt_f {s : Int32} {p : Nat → Bool} {k n : Nat} (hs : s = nI (cnt p (min k n))) (h : k < n) (hp : p k = false) : s = nI (cnt p (min (k + 1) n)) := by
  rw [min_y h, min_e h] at *
  rw [hs]; simp [cnt, hp]
theorem cnt_n {s : Int32} {p : Nat → Bool} {k n : Nat} (hs : s = nI (cnt p (min k n))) (h : ¬ k < n) : s = nI (cnt p (min (k + 1) n)) := by
  rw [min_n h]; exact hs
theorem cnt_0 {p : Nat → Bool} {n : Nat} : (0 : Int32) = nI (cnt p (min 0 n)) := by rw [Nat.zero_min]; rfl
theorem cnt_e {s : Int32} {p : Nat → Bool} {k n m : Nat} (hs : s = nI (cnt p (min k n))) (hk : k = m) (hn : n ≤ m) : s = nI (cnt p n) := by
  rw [hs, Nat.min_eq_right (by omega)]
theorem its_n {α : Type} {f : Nat → α → α} {a z : α} {k n : Nat} (hs : z = its f a (min k n)) (h : ¬ k < n) : z = its f a (min (k + 1) n) := by rw [min_n h]; exact hs
theorem its_y {α : Type} {f : Nat → α → α} {a z z' : α} {k n : Nat} (hs : z = its f a (min k n)) (h : k < n) (hz : z' = f k z) : z' = its f a (min (k + 1) n) := by
  rw [min_y h, min_e h] at *
  rw [hz, hs]; rfl
theorem its_0 {α : Type} {f : Nat → α → α} {a : α} {n : Nat} : a = its f a (min 0 n) := by rw [Nat.zero_min]; rfl
theorem its_e {α : Type} {f : Nat → α → α} {a z : α} {k n m : Nat} (hs : z = its f a (min k n)) (hk : k = m) (hn : n ≤ m) : z = its f a n := by
  rw [hs, Nat.min_eq_right (by omega)]
theorem no_n {p : Nat → Bool} {k n : Nat} (hs : ∀ t, t < k → t < n → p t = false) (h : ¬ k < n) : ∀ t, t < k + 1 → t < n → p t = false := fun t h1 h2 => hs t (by omega) h2
theorem no_f {p : Nat → Bool} {k n : Nat} (hs : ∀ t, t < k → t < n → p t = false) (hp : p k = false) : ∀ t, t < k + 1 → t < n → p t = false := fun t h1 h2 => by
  by_cases h : t = k
  · subst h; exact hp
  · exact hs t (by omega) h2
theorem nix2 {n : Int32} {j nt : Nat} (hn : n = nI j) (hj : j < 1000) (h : ¬ j < nt) (hb : nt ≤ 1000) : ∀ i, i < nt → n ≠ nI i := by
  intro i hi e
  have := (nI_eq (by omega) (by omega)).mp (hn.symm.trans e)
  omega
theorem ti_ne {w k : Int32} (h : ¬ w = k) : w.toInt ≠ k.toInt := fun e => h (Int32.toInt_inj.mp e)
def s_hangE (E : Rw) (nf : Nat) (t : Int32) : Nat := cnt (fun f => decide (E f 0 = 1 ∧ E f 1 = t)) nf
def s_toldX (T E : Rw) (nf : Nat) (b : Int32) (t : Nat) (w : Int32) : Int32 :=
  if w = 0 then T t 0 else if w = 1 then T t 1 else if w = 2 then T t 2 else if w = 3 then T t 3 else if w = 4 then T t 4 else if w = 5 then (if T t 5 = 0 then 0 else 1) else if w = 6 then s_at T t b else nI (s_hangE E nf (nI t))
def s_toldFX (E : Rw) (b : Int32) (f : Nat) (w : Int32) : Int32 :=
  if w = 0 then E f 0 else if w = 1 then E f 1 else if w = 2 then (if E f 0 = 2 then E f 2 else 0) else if w = 3 then (if E f 0 = 2 then E f 3 - b else -1) else E f 4
def s_countX (b : Int32) (nt nf nc : Nat) (T E C : Rw) (w : Int32) : Int32 :=
  if w = 0 then b else if w = 1 then nI nt else if w = 2 then nI (cnt (fun t => decide (¬ T t 5 = 0)) nt) else if w = 3 then nI nf else if w = 4 then nI (s_in E nf 1) else if w = 5 then nI (s_in E nf 2) else if w = 6 then nI (s_in E nf 3) else if w = 7 then nI (s_in E nf 4) else nI (cnt (fun k => decide (C k 4 = 0)) nc)
def s_wok (T : Rw) (nt : Nat) : Prop := ∀ t, t < nt → ∃ w, w ≤ 10 ∧ T t 2 = nI w

set_option maxHeartbeats 4000000 in
set_option maxRecDepth 100000 in
theorem c_X4_trapezeNumbered (l : Launch) (D : va_G) (cy : Nat → ClassId) {G : GG} {x : Nat} {ad : Nat → Nat → Nat} {b : Int32} {nt nf nc nn : Nat} {T E Cu N KT KF KC : Rw} (h : RX cy x ad b nt nf nc nn T E Cu N KT KF KC G) (n : Int32) : Ctr l D cy yX4_trapezeNumbered prog_1_method_24_code 2 (some (.object "CircusLines$Trapeze")) kX4_trapezeNumbered [.ref x, .int n] G (pA (fun v G' => G' = G ∧ ((∃ i, i < nt ∧ n = nI i ∧ v = .ref (ad 1 i)) ∨ ((∀ i, i < nt → n ≠ nI i) ∧ v = .null)))) := by
  refine Ctr.mk (by decide +kernel) (Nat.le_of_ble_eq_true rfl) ?_
  intro κ C R
  refine g_pc (pc' := 0) rfl ?_
  refine g_seg [(0, .iload_n 1, 1), (1, .iconst 0, 1), (2, .aload_n 0, 1)] 3 [(0, .ref x), (1, .int n)] [.ref x, .int 0, .int n] C (by decide +kernel) rfl ?_
  refine g_getf (pc := 3) (k := 0) (v := .ref (ad 0 0)) C fl_X4_11 (h.1.1) rfl (by decide +kernel) ?_
  refine g_alenA (pc := 6) (len := 6) (t0 := 1) C (h.1.2.1) rfl (by decide +kernel) ?_
  refine g_seg [(7, .iconst 1, 1), (8, .isub, 1)] 9 [(0, .ref x), (1, .int n)] [.int ((nI 6) - 1), .int 0, .int n] C (by decide +kernel) rfl ?_
  refine g_callS (pc := 9) C mS_X4_isWithin q86 (c_X4_isWithin l D cy G n 0 ((nI 6) - 1)) rfl ⟨⟨Nat.le_of_ble_eq_true rfl, Nat.le_of_ble_eq_true rfl⟩, Nat.le_of_ble_eq_true rfl, Nat.le_of_ble_eq_true rfl⟩ rfl (Nat.le_of_ble_eq_true rfl) (by decide +kernel) ?_
  refine g_kI (fun v3 G2 hp1 => ?_)
  obtain ⟨rfl, hp1⟩ := hp1
  rcases hp1 with ⟨rfl, h4⟩ | ⟨rfl, h4⟩
  · refine g_if_eq (pc := 12) (off := 12) 24 C (by decide +kernel) (by decide) (fun c9 => absurd c9 (by decide)) (fun _ => ?_)
    refine g_seg [(15, .aload_n 0, 1)] 16 [(0, .ref x), (1, .int n)] [.ref x] C (by decide +kernel) rfl ?_
    refine g_getf (pc := 16) (k := 0) (v := .ref (ad 0 0)) C fl_X4_11 (h.1.1) rfl (by decide +kernel) ?_
    refine g_seg [(19, .iload_n 1, 1)] 20 [(0, .ref x), (1, .int n)] [.int n, .ref (ad 0 0)] C (by decide +kernel) rfl ?_
    obtain ⟨j, hj, hn⟩ := in_ix (by decide) (by decide) h4
    refine g_aaldA (pc := 20) (len := 6) (t0 := 1) (j := j) C (h.1.2.1) rfl (hn) (hj) (by decide) (by decide +kernel) (fun hi5 => ?_) (fun hi5 => ?_)
    · refine g_seg [(21, .goto 4, 3)] 25 [(0, .ref x), (1, .int n)] [.ref (ad 1 j)] C (by decide +kernel) rfl ?_
      exact g_aret (pc := 25) C R (Or.inl ⟨_, rfl⟩) (Or.inr ⟨_, rfl⟩) (⟨_, rfl, rfl, Or.inl ⟨j, hi5, hn, rfl⟩⟩) (Nat.le_of_ble_eq_true rfl) (Nat.le_of_ble_eq_true rfl) (by decide +kernel)
    · refine g_seg [(21, .goto 4, 3)] 25 [(0, .ref x), (1, .int n)] [.null] C (by decide +kernel) rfl ?_
      exact g_aret (pc := 25) C R (Or.inl ⟨_, rfl⟩) (Or.inl rfl) (⟨_, rfl, rfl, Or.inr ⟨nix2 hn (by omega) hi5 (by have := h.2.2.2.1; omega), rfl⟩⟩) (Nat.le_of_ble_eq_true rfl) (Nat.le_of_ble_eq_true rfl) (by decide +kernel)
  · refine g_if_eq (pc := 12) (off := 12) 24 C (by decide +kernel) (by decide) (fun _ => ?_) (fun c9 => absurd (by decide) c9)
    refine g_seg [(24, .aconst_null, 1)] 25 [(0, .ref x), (1, .int n)] [.null] C (by decide +kernel) rfl ?_
    exact g_aret (pc := 25) C R (Or.inl ⟨_, rfl⟩) (Or.inl rfl) (⟨_, rfl, rfl, Or.inr ⟨fun i hi => in_nix (by decide) (by decide) h4 i (by have := h.2.2.2.1; omega), rfl⟩⟩) (Nat.le_of_ble_eq_true rfl) (Nat.le_of_ble_eq_true rfl) (by decide +kernel)
set_option maxHeartbeats 4000000 in
set_option maxRecDepth 100000 in
theorem c_X4_flyerNumbered (l : Launch) (D : va_G) (cy : Nat → ClassId) {G : GG} {x : Nat} {ad : Nat → Nat → Nat} {b : Int32} {nt nf nc nn : Nat} {T E Cu N KT KF KC : Rw} (h : RX cy x ad b nt nf nc nn T E Cu N KT KF KC G) (n : Int32) : Ctr l D cy yX4_flyerNumbered prog_1_method_25_code 2 (some (.object "CircusLines$Flyer")) kX4_flyerNumbered [.ref x, .int n] G (pA (fun v G' => G' = G ∧ ((∃ i, i < nf ∧ n = nI i ∧ v = .ref (ad 2 i)) ∨ ((∀ i, i < nf → n ≠ nI i) ∧ v = .null)))) := by
  refine Ctr.mk (by decide +kernel) (Nat.le_of_ble_eq_true rfl) ?_
  intro κ C R
  refine g_pc (pc' := 0) rfl ?_
  refine g_seg [(0, .iload_n 1, 1), (1, .iconst 0, 1), (2, .aload_n 0, 1)] 3 [(0, .ref x), (1, .int n)] [.ref x, .int 0, .int n] C (by decide +kernel) rfl ?_
  refine g_getf (pc := 3) (k := 1) (v := .ref (ad 0 1)) C fl_X4_17 (h.1.1) rfl (by decide +kernel) ?_
  refine g_alenA (pc := 6) (len := 8) (t0 := 2) C (h.1.2.2.1) rfl (by decide +kernel) ?_
  refine g_seg [(7, .iconst 1, 1), (8, .isub, 1)] 9 [(0, .ref x), (1, .int n)] [.int ((nI 8) - 1), .int 0, .int n] C (by decide +kernel) rfl ?_
  refine g_callS (pc := 9) C mS_X4_isWithin q86 (c_X4_isWithin l D cy G n 0 ((nI 8) - 1)) rfl ⟨⟨Nat.le_of_ble_eq_true rfl, Nat.le_of_ble_eq_true rfl⟩, Nat.le_of_ble_eq_true rfl, Nat.le_of_ble_eq_true rfl⟩ rfl (Nat.le_of_ble_eq_true rfl) (by decide +kernel) ?_
  refine g_kI (fun v3 G2 hp1 => ?_)
  obtain ⟨rfl, hp1⟩ := hp1
  rcases hp1 with ⟨rfl, h4⟩ | ⟨rfl, h4⟩
  · refine g_if_eq (pc := 12) (off := 12) 24 C (by decide +kernel) (by decide) (fun c9 => absurd c9 (by decide)) (fun _ => ?_)
    refine g_seg [(15, .aload_n 0, 1)] 16 [(0, .ref x), (1, .int n)] [.ref x] C (by decide +kernel) rfl ?_
    refine g_getf (pc := 16) (k := 1) (v := .ref (ad 0 1)) C fl_X4_17 (h.1.1) rfl (by decide +kernel) ?_
    refine g_seg [(19, .iload_n 1, 1)] 20 [(0, .ref x), (1, .int n)] [.int n, .ref (ad 0 1)] C (by decide +kernel) rfl ?_
    obtain ⟨j, hj, hn⟩ := in_ix (by decide) (by decide) h4
    refine g_aaldA (pc := 20) (len := 8) (t0 := 2) (j := j) C (h.1.2.2.1) rfl (hn) (hj) (by decide) (by decide +kernel) (fun hi5 => ?_) (fun hi5 => ?_)
    · refine g_seg [(21, .goto 4, 3)] 25 [(0, .ref x), (1, .int n)] [.ref (ad 2 j)] C (by decide +kernel) rfl ?_
      exact g_aret (pc := 25) C R (Or.inl ⟨_, rfl⟩) (Or.inr ⟨_, rfl⟩) (⟨_, rfl, rfl, Or.inl ⟨j, hi5, hn, rfl⟩⟩) (Nat.le_of_ble_eq_true rfl) (Nat.le_of_ble_eq_true rfl) (by decide +kernel)
    · refine g_seg [(21, .goto 4, 3)] 25 [(0, .ref x), (1, .int n)] [.null] C (by decide +kernel) rfl ?_
      exact g_aret (pc := 25) C R (Or.inl ⟨_, rfl⟩) (Or.inl rfl) (⟨_, rfl, rfl, Or.inr ⟨nix2 hn (by omega) hi5 (by have := h.2.2.2.2.1; omega), rfl⟩⟩) (Nat.le_of_ble_eq_true rfl) (Nat.le_of_ble_eq_true rfl) (by decide +kernel)
  · refine g_if_eq (pc := 12) (off := 12) 24 C (by decide +kernel) (by decide) (fun _ => ?_) (fun c9 => absurd (by decide) c9)
    refine g_seg [(24, .aconst_null, 1)] 25 [(0, .ref x), (1, .int n)] [.null] C (by decide +kernel) rfl ?_
    exact g_aret (pc := 25) C R (Or.inl ⟨_, rfl⟩) (Or.inl rfl) (⟨_, rfl, rfl, Or.inr ⟨fun i hi => in_nix (by decide) (by decide) h4 i (by have := h.2.2.2.2.1; omega), rfl⟩⟩) (Nat.le_of_ble_eq_true rfl) (Nat.le_of_ble_eq_true rfl) (by decide +kernel)
set_option maxHeartbeats 4000000 in
set_option maxRecDepth 100000 in
theorem c_X4_hangersOf (l : Launch) (D : va_G) (cy : Nat → ClassId) {G : GG} {x : Nat} {ad : Nat → Nat → Nat} {b : Int32} {nt nf nc nn : Nat} {T E Cu N KT KF KC : Rw} (h : RX cy x ad b nt nf nc nn T E Cu N KT KF KC G) (n : Int32) : Ctr l D cy yX4_hangersOf prog_1_method_26_code 7 (some .int) kX4_hangersOf [.ref x, .int n] G (pI (fun v G' => G' = G ∧ v = nI (cnt (fun k => decide (E k 0 = 1 ∧ E k 1 = n)) nf))) := by
  refine Ctr.mk (by decide +kernel) (Nat.le_of_ble_eq_true rfl) ?_
  intro κ C R
  refine g_pc (pc' := 0) rfl ?_
  refine g_seg [(0, .iconst 0, 1), (1, .istore_n 2, 1), (2, .aload_n 0, 1)] 3 [(2, .int 0), (0, .ref x), (1, .int n)] [.ref x] C (by decide +kernel) rfl ?_
  refine g_getf (pc := 3) (k := 1) (v := .ref (ad 0 1)) C fl_X4_17 (h.1.1) rfl (by decide +kernel) ?_
  refine g_seg [(6, .astore_n 3, 1), (7, .aload_n 3, 1)] 8 [(3, .ref (ad 0 1)), (2, .int 0), (0, .ref x), (1, .int n)] [.ref (ad 0 1)] C (by decide +kernel) rfl ?_
  refine g_alenA (pc := 8) (len := 8) (t0 := 2) C (h.1.2.2.1) rfl (by decide +kernel) ?_
  refine g_seg [(9, .istore 4, 2), (11, .iconst 0, 1), (12, .istore 5, 2)] 14 [(5, .int 0), (4, .int (nI 8)), (3, .ref (ad 0 1)), (2, .int 0), (0, .ref x), (1, .int n)] [] C (by decide +kernel) rfl ?_
  refine g_subp [4, 5, 3, 2, 1, 0] (lv' := [(0, .ref x), (1, .int n), (2, .int 0), (3, .ref (ad 0 1)), (4, .int (nI 8)), (5, .int 0)]) rfl ?_
  have lp1 : ∀ (m k : Nat) (s xk : Int32), 8 + 1 ≤ k + m → k ≤ 8 → xk = nI k → s = nI (cnt (fun k => decide (E k 0 = 1 ∧ E k 1 = n)) (min k nf)) → PG κ 7 0 0 G [(0, .ref x), (1, .int n), (2, .int s), (3, .ref (ad 0 1)), (4, .int (nI 8)), (5, .int xk)] 14 [] := by
    intro m
    induction m with
    | zero => intro k s xk h1 h2; intros; exact absurd h1 (by omega)
    | succ m ih =>
      intro k s xk hm hk hx hs
      refine g_seg [(14, .iload 5, 2), (16, .iload 4, 2)] 18 [(0, .ref x), (1, .int n), (2, .int s), (3, .ref (ad 0 1)), (4, .int (nI 8)), (5, .int xk)] [.int (nI 8), .int xk] C (by decide +kernel) rfl ?_
      refine g_icmp_ge (pc := 18) (off := 32) 50 C (by decide +kernel) (by decide) (fun c2 => ?_) (fun c2 => ?_)
      · have hk8 : k = 8 := by have := lp_ge hx (by omega) (by decide) c2; omega
        refine g_seg [(50, .iload_n 2, 1)] 51 [(0, .ref x), (1, .int n), (2, .int s), (3, .ref (ad 0 1)), (4, .int (nI 8)), (5, .int xk)] [.int s] C (by decide +kernel) rfl ?_
        exact g_iret (pc := 51) C R (⟨_, rfl, rfl, cnt_e hs hk8 (h.2.2.2.2.1)⟩) (Nat.le_of_ble_eq_true rfl) (Nat.le_of_ble_eq_true rfl) (by decide +kernel)
      · have hk8 : k < 8 := by have := lp_lt hx (by omega) (by decide) c2; omega
        refine g_seg [(21, .aload_n 3, 1), (22, .iload 5, 2)] 24 [(0, .ref x), (1, .int n), (2, .int s), (3, .ref (ad 0 1)), (4, .int (nI 8)), (5, .int xk)] [.int xk, .ref (ad 0 1)] C (by decide +kernel) rfl ?_
        refine g_aaldA (pc := 24) (len := 8) (t0 := 2) (j := k) C (h.1.2.2.1) rfl (hx) (hk8) (by decide) (by decide +kernel) (fun hi3 => ?_) (fun hi3 => ?_)
        · refine g_seg [(25, .astore 6, 2), (27, .aload 6, 2)] 29 [(6, .ref (ad 2 k)), (0, .ref x), (1, .int n), (2, .int s), (3, .ref (ad 0 1)), (4, .int (nI 8)), (5, .int xk)] [.ref (ad 2 k)] C (by decide +kernel) rfl ?_
          refine g_ifnull (pc := 29) (off := 15) C (by decide +kernel) ?_
          refine g_seg [(32, .aload 6, 2), (34, .iload_n 1, 1)] 35 [(6, .ref (ad 2 k)), (0, .ref x), (1, .int n), (2, .int s), (3, .ref (ad 0 1)), (4, .int (nI 8)), (5, .int xk)] [.int n, .ref (ad 2 k)] C (by decide +kernel) rfl ?_
          refine g_callV (pc := 35) C mV_X1_hangsFrom q179 (h.2.1.2.1 k hi3) rfl rfl (c_X1_hangsFrom l D cy G (ad 2 k) (E k 0) (E k 1) (E k 2) (E k 3) (E k 4) (KF k 0) (KF k 1) (KF k 2) (KF k 3) (KF k 4) n (h.2.1.2.1 k hi3)) rfl ⟨⟨Nat.le_of_ble_eq_true rfl, Nat.le_of_ble_eq_true rfl⟩, Nat.le_of_ble_eq_true rfl, Nat.le_of_ble_eq_true rfl⟩ rfl (Nat.le_of_ble_eq_true rfl) (by decide +kernel) ?_
          refine g_kI (fun v6 G5 hp4 => ?_)
          obtain ⟨rfl, hp4⟩ := hp4
          rcases hp4 with ⟨rfl, h7⟩ | ⟨rfl, h7⟩
          · refine g_if_eq (pc := 38) (off := 6) 44 C (by decide +kernel) (by decide) (fun c9 => absurd c9 (by decide)) (fun _ => ?_)
            refine g_seg [(41, .iinc 2 1, 3), (44, .iinc 5 1, 3), (47, .goto (-33), 3)] 14 [(5, .int (xk + 1)), (2, .int (s + 1)), (6, .ref (ad 2 k)), (0, .ref x), (1, .int n), (3, .ref (ad 0 1)), (4, .int (nI 8))] [] C (by decide +kernel) rfl ?_
            refine g_subp [3, 4, 1, 5, 6, 0] (lv' := [(0, .ref x), (1, .int n), (2, .int (s + 1)), (3, .ref (ad 0 1)), (4, .int (nI 8)), (5, .int (xk + 1))]) rfl ?_
            exact ih (k + 1) (s + 1) (xk + 1) (by omega) (by omega) (lp_s hx) (cnt_y hs hi3 (decide_eq_true h7))
          · refine g_if_eq (pc := 38) (off := 6) 44 C (by decide +kernel) (by decide) (fun _ => ?_) (fun c9 => absurd (by decide) c9)
            refine g_seg [(44, .iinc 5 1, 3), (47, .goto (-33), 3)] 14 [(5, .int (xk + 1)), (6, .ref (ad 2 k)), (0, .ref x), (1, .int n), (2, .int s), (3, .ref (ad 0 1)), (4, .int (nI 8))] [] C (by decide +kernel) rfl ?_
            refine g_subp [2, 3, 4, 5, 6, 0] (lv' := [(0, .ref x), (1, .int n), (2, .int s), (3, .ref (ad 0 1)), (4, .int (nI 8)), (5, .int (xk + 1))]) rfl ?_
            exact ih (k + 1) s (xk + 1) (by omega) (by omega) (lp_s hx) (cnt_f hs hi3 (decide_eq_false h7))
        · refine g_seg [(25, .astore 6, 2), (27, .aload 6, 2)] 29 [(6, .null), (0, .ref x), (1, .int n), (2, .int s), (3, .ref (ad 0 1)), (4, .int (nI 8)), (5, .int xk)] [.null] C (by decide +kernel) rfl ?_
          refine g_ifnullN (pc := 29) (off := 15) 44 C (by decide +kernel) (by decide) ?_
          refine g_seg [(44, .iinc 5 1, 3), (47, .goto (-33), 3)] 14 [(5, .int (xk + 1)), (6, .null), (0, .ref x), (1, .int n), (2, .int s), (3, .ref (ad 0 1)), (4, .int (nI 8))] [] C (by decide +kernel) rfl ?_
          refine g_subp [2, 3, 4, 5, 6, 0] (lv' := [(0, .ref x), (1, .int n), (2, .int s), (3, .ref (ad 0 1)), (4, .int (nI 8)), (5, .int (xk + 1))]) rfl ?_
          exact ih (k + 1) s (xk + 1) (by omega) (by omega) (lp_s hx) (cnt_n hs hi3)
  exact lp1 (8 + 1) 0 0 0 (by omega) (by omega) (nI_0.symm) (cnt_0)
set_option maxHeartbeats 4000000 in
set_option maxRecDepth 100000 in
theorem c_X4_wholeTrapezes (l : Launch) (D : va_G) (cy : Nat → ClassId) {G : GG} {x : Nat} {ad : Nat → Nat → Nat} {b : Int32} {nt nf nc nn : Nat} {T E Cu N KT KF KC : Rw} (h : RX cy x ad b nt nf nc nn T E Cu N KT KF KC G) : Ctr l D cy yX4_wholeTrapezes prog_1_method_32_code 6 (some .int) kX4_wholeTrapezes [.ref x] G (pI (fun v G' => G' = G ∧ v = nI (cnt (fun k => decide (¬ T k 5 = 0)) nt))) := by
  refine Ctr.mk (by decide +kernel) (Nat.le_of_ble_eq_true rfl) ?_
  intro κ C R
  refine g_pc (pc' := 0) rfl ?_
  refine g_seg [(0, .iconst 0, 1), (1, .istore_n 1, 1), (2, .aload_n 0, 1)] 3 [(1, .int 0), (0, .ref x)] [.ref x] C (by decide +kernel) rfl ?_
  refine g_getf (pc := 3) (k := 0) (v := .ref (ad 0 0)) C fl_X4_11 (h.1.1) rfl (by decide +kernel) ?_
  refine g_seg [(6, .astore_n 2, 1), (7, .aload_n 2, 1)] 8 [(2, .ref (ad 0 0)), (1, .int 0), (0, .ref x)] [.ref (ad 0 0)] C (by decide +kernel) rfl ?_
  refine g_alenA (pc := 8) (len := 6) (t0 := 1) C (h.1.2.1) rfl (by decide +kernel) ?_
  refine g_seg [(9, .istore_n 3, 1), (10, .iconst 0, 1), (11, .istore 4, 2)] 13 [(4, .int 0), (3, .int (nI 6)), (2, .ref (ad 0 0)), (1, .int 0), (0, .ref x)] [] C (by decide +kernel) rfl ?_
  refine g_subp [4, 3, 2, 1, 0] (lv' := [(0, .ref x), (1, .int 0), (2, .ref (ad 0 0)), (3, .int (nI 6)), (4, .int 0)]) rfl ?_
  have lp1 : ∀ (m k : Nat) (s xk : Int32), 6 + 1 ≤ k + m → k ≤ 6 → xk = nI k → s = nI (cnt (fun k => decide (¬ T k 5 = 0)) (min k nt)) → PG κ 6 0 0 G [(0, .ref x), (1, .int s), (2, .ref (ad 0 0)), (3, .int (nI 6)), (4, .int xk)] 13 [] := by
    intro m
    induction m with
    | zero => intro k s xk h1 h2; intros; exact absurd h1 (by omega)
    | succ m ih =>
      intro k s xk hm hk hx hs
      refine g_seg [(13, .iload 4, 2), (15, .iload_n 3, 1)] 16 [(0, .ref x), (1, .int s), (2, .ref (ad 0 0)), (3, .int (nI 6)), (4, .int xk)] [.int (nI 6), .int xk] C (by decide +kernel) rfl ?_
      refine g_icmp_ge (pc := 16) (off := 31) 47 C (by decide +kernel) (by decide) (fun c2 => ?_) (fun c2 => ?_)
      · have hk8 : k = 6 := by have := lp_ge hx (by omega) (by decide) c2; omega
        refine g_seg [(47, .iload_n 1, 1)] 48 [(0, .ref x), (1, .int s), (2, .ref (ad 0 0)), (3, .int (nI 6)), (4, .int xk)] [.int s] C (by decide +kernel) rfl ?_
        exact g_iret (pc := 48) C R (⟨_, rfl, rfl, cnt_e hs hk8 (h.2.2.2.1)⟩) (Nat.le_of_ble_eq_true rfl) (Nat.le_of_ble_eq_true rfl) (by decide +kernel)
      · have hk8 : k < 6 := by have := lp_lt hx (by omega) (by decide) c2; omega
        refine g_seg [(19, .aload_n 2, 1), (20, .iload 4, 2)] 22 [(0, .ref x), (1, .int s), (2, .ref (ad 0 0)), (3, .int (nI 6)), (4, .int xk)] [.int xk, .ref (ad 0 0)] C (by decide +kernel) rfl ?_
        refine g_aaldA (pc := 22) (len := 6) (t0 := 1) (j := k) C (h.1.2.1) rfl (hx) (hk8) (by decide) (by decide +kernel) (fun hi3 => ?_) (fun hi3 => ?_)
        · refine g_seg [(23, .astore 5, 2), (25, .aload 5, 2)] 27 [(5, .ref (ad 1 k)), (0, .ref x), (1, .int s), (2, .ref (ad 0 0)), (3, .int (nI 6)), (4, .int xk)] [.ref (ad 1 k)] C (by decide +kernel) rfl ?_
          refine g_ifnull (pc := 27) (off := 14) C (by decide +kernel) ?_
          refine g_seg [(30, .aload 5, 2)] 32 [(5, .ref (ad 1 k)), (0, .ref x), (1, .int s), (2, .ref (ad 0 0)), (3, .int (nI 6)), (4, .int xk)] [.ref (ad 1 k)] C (by decide +kernel) rfl ?_
          refine g_getf (pc := 32) (k := 6) (v := .int (T k 5)) C fl_X4_70 (h.2.1.1 k hi3) rfl (by decide +kernel) ?_
          refine g_if_eq (pc := 35) (off := 6) 41 C (by decide +kernel) (by decide) (fun c4 => ?_) (fun c4 => ?_)
          · refine g_seg [(41, .iinc 4 1, 3), (44, .goto (-31), 3)] 13 [(4, .int (xk + 1)), (5, .ref (ad 1 k)), (0, .ref x), (1, .int s), (2, .ref (ad 0 0)), (3, .int (nI 6))] [] C (by decide +kernel) rfl ?_
            refine g_subp [2, 3, 4, 5, 0] (lv' := [(0, .ref x), (1, .int s), (2, .ref (ad 0 0)), (3, .int (nI 6)), (4, .int (xk + 1))]) rfl ?_
            exact ih (k + 1) s (xk + 1) (by omega) (by omega) (lp_s hx) (cnt_f hs hi3 (decide_eq_false (fun h9 => h9 c4)))
          · refine g_seg [(38, .iinc 1 1, 3), (41, .iinc 4 1, 3), (44, .goto (-31), 3)] 13 [(4, .int (xk + 1)), (1, .int (s + 1)), (5, .ref (ad 1 k)), (0, .ref x), (2, .ref (ad 0 0)), (3, .int (nI 6))] [] C (by decide +kernel) rfl ?_
            refine g_subp [3, 1, 4, 5, 0] (lv' := [(0, .ref x), (1, .int (s + 1)), (2, .ref (ad 0 0)), (3, .int (nI 6)), (4, .int (xk + 1))]) rfl ?_
            exact ih (k + 1) (s + 1) (xk + 1) (by omega) (by omega) (lp_s hx) (cnt_y hs hi3 (decide_eq_true c4))
        · refine g_seg [(23, .astore 5, 2), (25, .aload 5, 2)] 27 [(5, .null), (0, .ref x), (1, .int s), (2, .ref (ad 0 0)), (3, .int (nI 6)), (4, .int xk)] [.null] C (by decide +kernel) rfl ?_
          refine g_ifnullN (pc := 27) (off := 14) 41 C (by decide +kernel) (by decide) ?_
          refine g_seg [(41, .iinc 4 1, 3), (44, .goto (-31), 3)] 13 [(4, .int (xk + 1)), (5, .null), (0, .ref x), (1, .int s), (2, .ref (ad 0 0)), (3, .int (nI 6))] [] C (by decide +kernel) rfl ?_
          refine g_subp [2, 3, 4, 5, 0] (lv' := [(0, .ref x), (1, .int s), (2, .ref (ad 0 0)), (3, .int (nI 6)), (4, .int (xk + 1))]) rfl ?_
          exact ih (k + 1) s (xk + 1) (by omega) (by omega) (lp_s hx) (cnt_n hs hi3)
  exact lp1 (6 + 1) 0 0 0 (by omega) (by omega) (nI_0.symm) (cnt_0)
set_option maxHeartbeats 4000000 in
set_option maxRecDepth 100000 in
theorem c_X4_flyersWhoAre (l : Launch) (D : va_G) (cy : Nat → ClassId) {G : GG} {x : Nat} {ad : Nat → Nat → Nat} {b : Int32} {nt nf nc nn : Nat} {T E Cu N KT KF KC : Rw} (h : RX cy x ad b nt nf nc nn T E Cu N KT KF KC G) (n : Int32) : Ctr l D cy yX4_flyersWhoAre prog_1_method_33_code 7 (some .int) kX4_flyersWhoAre [.ref x, .int n] G (pI (fun v G' => G' = G ∧ v = nI (cnt (fun k => decide (E k 0 = n)) nf))) := by
  refine Ctr.mk (by decide +kernel) (Nat.le_of_ble_eq_true rfl) ?_
  intro κ C R
  refine g_pc (pc' := 0) rfl ?_
  refine g_seg [(0, .iconst 0, 1), (1, .istore_n 2, 1), (2, .aload_n 0, 1)] 3 [(2, .int 0), (0, .ref x), (1, .int n)] [.ref x] C (by decide +kernel) rfl ?_
  refine g_getf (pc := 3) (k := 1) (v := .ref (ad 0 1)) C fl_X4_17 (h.1.1) rfl (by decide +kernel) ?_
  refine g_seg [(6, .astore_n 3, 1), (7, .aload_n 3, 1)] 8 [(3, .ref (ad 0 1)), (2, .int 0), (0, .ref x), (1, .int n)] [.ref (ad 0 1)] C (by decide +kernel) rfl ?_
  refine g_alenA (pc := 8) (len := 8) (t0 := 2) C (h.1.2.2.1) rfl (by decide +kernel) ?_
  refine g_seg [(9, .istore 4, 2), (11, .iconst 0, 1), (12, .istore 5, 2)] 14 [(5, .int 0), (4, .int (nI 8)), (3, .ref (ad 0 1)), (2, .int 0), (0, .ref x), (1, .int n)] [] C (by decide +kernel) rfl ?_
  refine g_subp [4, 5, 3, 2, 1, 0] (lv' := [(0, .ref x), (1, .int n), (2, .int 0), (3, .ref (ad 0 1)), (4, .int (nI 8)), (5, .int 0)]) rfl ?_
  have lp1 : ∀ (m k : Nat) (s xk : Int32), 8 + 1 ≤ k + m → k ≤ 8 → xk = nI k → s = nI (cnt (fun k => decide (E k 0 = n)) (min k nf)) → PG κ 7 0 0 G [(0, .ref x), (1, .int n), (2, .int s), (3, .ref (ad 0 1)), (4, .int (nI 8)), (5, .int xk)] 14 [] := by
    intro m
    induction m with
    | zero => intro k s xk h1 h2; intros; exact absurd h1 (by omega)
    | succ m ih =>
      intro k s xk hm hk hx hs
      refine g_seg [(14, .iload 5, 2), (16, .iload 4, 2)] 18 [(0, .ref x), (1, .int n), (2, .int s), (3, .ref (ad 0 1)), (4, .int (nI 8)), (5, .int xk)] [.int (nI 8), .int xk] C (by decide +kernel) rfl ?_
      refine g_icmp_ge (pc := 18) (off := 32) 50 C (by decide +kernel) (by decide) (fun c2 => ?_) (fun c2 => ?_)
      · have hk8 : k = 8 := by have := lp_ge hx (by omega) (by decide) c2; omega
        refine g_seg [(50, .iload_n 2, 1)] 51 [(0, .ref x), (1, .int n), (2, .int s), (3, .ref (ad 0 1)), (4, .int (nI 8)), (5, .int xk)] [.int s] C (by decide +kernel) rfl ?_
        exact g_iret (pc := 51) C R (⟨_, rfl, rfl, cnt_e hs hk8 (h.2.2.2.2.1)⟩) (Nat.le_of_ble_eq_true rfl) (Nat.le_of_ble_eq_true rfl) (by decide +kernel)
      · have hk8 : k < 8 := by have := lp_lt hx (by omega) (by decide) c2; omega
        refine g_seg [(21, .aload_n 3, 1), (22, .iload 5, 2)] 24 [(0, .ref x), (1, .int n), (2, .int s), (3, .ref (ad 0 1)), (4, .int (nI 8)), (5, .int xk)] [.int xk, .ref (ad 0 1)] C (by decide +kernel) rfl ?_
        refine g_aaldA (pc := 24) (len := 8) (t0 := 2) (j := k) C (h.1.2.2.1) rfl (hx) (hk8) (by decide) (by decide +kernel) (fun hi3 => ?_) (fun hi3 => ?_)
        · refine g_seg [(25, .astore 6, 2), (27, .aload 6, 2)] 29 [(6, .ref (ad 2 k)), (0, .ref x), (1, .int n), (2, .int s), (3, .ref (ad 0 1)), (4, .int (nI 8)), (5, .int xk)] [.ref (ad 2 k)] C (by decide +kernel) rfl ?_
          refine g_ifnull (pc := 29) (off := 15) C (by decide +kernel) ?_
          refine g_seg [(32, .aload 6, 2)] 34 [(6, .ref (ad 2 k)), (0, .ref x), (1, .int n), (2, .int s), (3, .ref (ad 0 1)), (4, .int (nI 8)), (5, .int xk)] [.ref (ad 2 k)] C (by decide +kernel) rfl ?_
          refine g_getf (pc := 34) (k := 0) (v := .int (E k 0)) C fl_X4_229 (h.2.1.2.1 k hi3) rfl (by decide +kernel) ?_
          refine g_seg [(37, .iload_n 1, 1)] 38 [(6, .ref (ad 2 k)), (0, .ref x), (1, .int n), (2, .int s), (3, .ref (ad 0 1)), (4, .int (nI 8)), (5, .int xk)] [.int n, .int (E k 0)] C (by decide +kernel) rfl ?_
          refine g_icmp_ne (pc := 38) (off := 6) 44 C (by decide +kernel) (by decide) (fun c4 => ?_) (fun c4 => ?_)
          · refine g_seg [(44, .iinc 5 1, 3), (47, .goto (-33), 3)] 14 [(5, .int (xk + 1)), (6, .ref (ad 2 k)), (0, .ref x), (1, .int n), (2, .int s), (3, .ref (ad 0 1)), (4, .int (nI 8))] [] C (by decide +kernel) rfl ?_
            refine g_subp [2, 3, 4, 5, 6, 0] (lv' := [(0, .ref x), (1, .int n), (2, .int s), (3, .ref (ad 0 1)), (4, .int (nI 8)), (5, .int (xk + 1))]) rfl ?_
            exact ih (k + 1) s (xk + 1) (by omega) (by omega) (lp_s hx) (cnt_f hs hi3 (decide_eq_false c4))
          · refine g_seg [(41, .iinc 2 1, 3), (44, .iinc 5 1, 3), (47, .goto (-33), 3)] 14 [(5, .int (xk + 1)), (2, .int (s + 1)), (6, .ref (ad 2 k)), (0, .ref x), (1, .int n), (3, .ref (ad 0 1)), (4, .int (nI 8))] [] C (by decide +kernel) rfl ?_
            refine g_subp [3, 4, 1, 5, 6, 0] (lv' := [(0, .ref x), (1, .int n), (2, .int (s + 1)), (3, .ref (ad 0 1)), (4, .int (nI 8)), (5, .int (xk + 1))]) rfl ?_
            exact ih (k + 1) (s + 1) (xk + 1) (by omega) (by omega) (lp_s hx) (cnt_y hs hi3 (decide_eq_true c4))
        · refine g_seg [(25, .astore 6, 2), (27, .aload 6, 2)] 29 [(6, .null), (0, .ref x), (1, .int n), (2, .int s), (3, .ref (ad 0 1)), (4, .int (nI 8)), (5, .int xk)] [.null] C (by decide +kernel) rfl ?_
          refine g_ifnullN (pc := 29) (off := 15) 44 C (by decide +kernel) (by decide) ?_
          refine g_seg [(44, .iinc 5 1, 3), (47, .goto (-33), 3)] 14 [(5, .int (xk + 1)), (6, .null), (0, .ref x), (1, .int n), (2, .int s), (3, .ref (ad 0 1)), (4, .int (nI 8))] [] C (by decide +kernel) rfl ?_
          refine g_subp [2, 3, 4, 5, 6, 0] (lv' := [(0, .ref x), (1, .int n), (2, .int s), (3, .ref (ad 0 1)), (4, .int (nI 8)), (5, .int (xk + 1))]) rfl ?_
          exact ih (k + 1) s (xk + 1) (by omega) (by omega) (lp_s hx) (cnt_n hs hi3)
  exact lp1 (8 + 1) 0 0 0 (by omega) (by omega) (nI_0.symm) (cnt_0)
set_option maxHeartbeats 4000000 in
set_option maxRecDepth 100000 in
theorem c_X4_openCues (l : Launch) (D : va_G) (cy : Nat → ClassId) {G : GG} {x : Nat} {ad : Nat → Nat → Nat} {b : Int32} {nt nf nc nn : Nat} {T E Cu N KT KF KC : Rw} (h : RX cy x ad b nt nf nc nn T E Cu N KT KF KC G) : Ctr l D cy yX4_openCues prog_1_method_34_code 6 (some .int) kX4_openCues [.ref x] G (pI (fun v G' => G' = G ∧ v = nI (cnt (fun k => decide (Cu k 4 = 0)) nc))) := by
  refine Ctr.mk (by decide +kernel) (Nat.le_of_ble_eq_true rfl) ?_
  intro κ C R
  refine g_pc (pc' := 0) rfl ?_
  refine g_seg [(0, .iconst 0, 1), (1, .istore_n 1, 1), (2, .aload_n 0, 1)] 3 [(1, .int 0), (0, .ref x)] [.ref x] C (by decide +kernel) rfl ?_
  refine g_getf (pc := 3) (k := 2) (v := .ref (ad 0 2)) C fl_X4_23 (h.1.1) rfl (by decide +kernel) ?_
  refine g_seg [(6, .astore_n 2, 1), (7, .aload_n 2, 1)] 8 [(2, .ref (ad 0 2)), (1, .int 0), (0, .ref x)] [.ref (ad 0 2)] C (by decide +kernel) rfl ?_
  refine g_alenA (pc := 8) (len := 20) (t0 := 3) C (h.1.2.2.2.1) rfl (by decide +kernel) ?_
  refine g_seg [(9, .istore_n 3, 1), (10, .iconst 0, 1), (11, .istore 4, 2)] 13 [(4, .int 0), (3, .int (nI 20)), (2, .ref (ad 0 2)), (1, .int 0), (0, .ref x)] [] C (by decide +kernel) rfl ?_
  refine g_subp [4, 3, 2, 1, 0] (lv' := [(0, .ref x), (1, .int 0), (2, .ref (ad 0 2)), (3, .int (nI 20)), (4, .int 0)]) rfl ?_
  have lp1 : ∀ (m k : Nat) (s xk : Int32), 20 + 1 ≤ k + m → k ≤ 20 → xk = nI k → s = nI (cnt (fun k => decide (Cu k 4 = 0)) (min k nc)) → PG κ 6 0 0 G [(0, .ref x), (1, .int s), (2, .ref (ad 0 2)), (3, .int (nI 20)), (4, .int xk)] 13 [] := by
    intro m
    induction m with
    | zero => intro k s xk h1 h2; intros; exact absurd h1 (by omega)
    | succ m ih =>
      intro k s xk hm hk hx hs
      refine g_seg [(13, .iload 4, 2), (15, .iload_n 3, 1)] 16 [(0, .ref x), (1, .int s), (2, .ref (ad 0 2)), (3, .int (nI 20)), (4, .int xk)] [.int (nI 20), .int xk] C (by decide +kernel) rfl ?_
      refine g_icmp_ge (pc := 16) (off := 31) 47 C (by decide +kernel) (by decide) (fun c2 => ?_) (fun c2 => ?_)
      · have hk8 : k = 20 := by have := lp_ge hx (by omega) (by decide) c2; omega
        refine g_seg [(47, .iload_n 1, 1)] 48 [(0, .ref x), (1, .int s), (2, .ref (ad 0 2)), (3, .int (nI 20)), (4, .int xk)] [.int s] C (by decide +kernel) rfl ?_
        exact g_iret (pc := 48) C R (⟨_, rfl, rfl, cnt_e hs hk8 (h.2.2.2.2.2.1)⟩) (Nat.le_of_ble_eq_true rfl) (Nat.le_of_ble_eq_true rfl) (by decide +kernel)
      · have hk8 : k < 20 := by have := lp_lt hx (by omega) (by decide) c2; omega
        refine g_seg [(19, .aload_n 2, 1), (20, .iload 4, 2)] 22 [(0, .ref x), (1, .int s), (2, .ref (ad 0 2)), (3, .int (nI 20)), (4, .int xk)] [.int xk, .ref (ad 0 2)] C (by decide +kernel) rfl ?_
        refine g_aaldA (pc := 22) (len := 20) (t0 := 3) (j := k) C (h.1.2.2.2.1) rfl (hx) (hk8) (by decide) (by decide +kernel) (fun hi3 => ?_) (fun hi3 => ?_)
        · refine g_seg [(23, .astore 5, 2), (25, .aload 5, 2)] 27 [(5, .ref (ad 3 k)), (0, .ref x), (1, .int s), (2, .ref (ad 0 2)), (3, .int (nI 20)), (4, .int xk)] [.ref (ad 3 k)] C (by decide +kernel) rfl ?_
          refine g_ifnull (pc := 27) (off := 14) C (by decide +kernel) ?_
          refine g_seg [(30, .aload 5, 2)] 32 [(5, .ref (ad 3 k)), (0, .ref x), (1, .int s), (2, .ref (ad 0 2)), (3, .int (nI 20)), (4, .int xk)] [.ref (ad 3 k)] C (by decide +kernel) rfl ?_
          refine g_getf (pc := 32) (k := 4) (v := .int (Cu k 4)) C fl_X4_248 (h.2.1.2.2.1 k hi3) rfl (by decide +kernel) ?_
          refine g_if_ne (pc := 35) (off := 6) 41 C (by decide +kernel) (by decide) (fun c4 => ?_) (fun c4 => ?_)
          · refine g_seg [(41, .iinc 4 1, 3), (44, .goto (-31), 3)] 13 [(4, .int (xk + 1)), (5, .ref (ad 3 k)), (0, .ref x), (1, .int s), (2, .ref (ad 0 2)), (3, .int (nI 20))] [] C (by decide +kernel) rfl ?_
            refine g_subp [2, 3, 4, 5, 0] (lv' := [(0, .ref x), (1, .int s), (2, .ref (ad 0 2)), (3, .int (nI 20)), (4, .int (xk + 1))]) rfl ?_
            exact ih (k + 1) s (xk + 1) (by omega) (by omega) (lp_s hx) (cnt_f hs hi3 (decide_eq_false c4))
          · refine g_seg [(38, .iinc 1 1, 3), (41, .iinc 4 1, 3), (44, .goto (-31), 3)] 13 [(4, .int (xk + 1)), (1, .int (s + 1)), (5, .ref (ad 3 k)), (0, .ref x), (2, .ref (ad 0 2)), (3, .int (nI 20))] [] C (by decide +kernel) rfl ?_
            refine g_subp [3, 1, 4, 5, 0] (lv' := [(0, .ref x), (1, .int (s + 1)), (2, .ref (ad 0 2)), (3, .int (nI 20)), (4, .int (xk + 1))]) rfl ?_
            exact ih (k + 1) (s + 1) (xk + 1) (by omega) (by omega) (lp_s hx) (cnt_y hs hi3 (decide_eq_true c4))
        · refine g_seg [(23, .astore 5, 2), (25, .aload 5, 2)] 27 [(5, .null), (0, .ref x), (1, .int s), (2, .ref (ad 0 2)), (3, .int (nI 20)), (4, .int xk)] [.null] C (by decide +kernel) rfl ?_
          refine g_ifnullN (pc := 27) (off := 14) 41 C (by decide +kernel) (by decide) ?_
          refine g_seg [(41, .iinc 4 1, 3), (44, .goto (-31), 3)] 13 [(4, .int (xk + 1)), (5, .null), (0, .ref x), (1, .int s), (2, .ref (ad 0 2)), (3, .int (nI 20))] [] C (by decide +kernel) rfl ?_
          refine g_subp [2, 3, 4, 5, 0] (lv' := [(0, .ref x), (1, .int s), (2, .ref (ad 0 2)), (3, .int (nI 20)), (4, .int (xk + 1))]) rfl ?_
          exact ih (k + 1) s (xk + 1) (by omega) (by omega) (lp_s hx) (cnt_n hs hi3)
  exact lp1 (20 + 1) 0 0 0 (by omega) (by omega) (nI_0.symm) (cnt_0)
end
section
theorem net_y {N : Rw} {nn k : Nat} {p0 : Int32} (hk : k < nn) (hp : N k 0 ≤ p0 ∧ p0 ≤ N k 1) (hs : ∀ t, t < k → t < nn → (decide (N t 0 ≤ p0) && decide (p0 ≤ N t 1)) = false) : s_net N nn p0 = true := by
  unfold s_net
  rw [fst_some (t := k) hk (by simp [hp.1, hp.2]) (fun u hu => hs u hu (by omega))]; rfl
theorem net_n {N : Rw} {nn k : Nat} {p0 : Int32} (hn : nn ≤ k) (hs : ∀ t, t < k → t < nn → (decide (N t 0 ≤ p0) && decide (p0 ≤ N t 1)) = false) : s_net N nn p0 = false := by
  unfold s_net
  rw [fst_none (fun t ht => hs t (by omega) ht)]; rfl
theorem net_f {a b c : Int32} (h : ¬ (a ≤ b ∧ b ≤ c)) : (decide (a ≤ b) && decide (b ≤ c)) = false := by
  simp only [Bool.and_eq_false_iff, decide_eq_false_iff_not]
  by_cases h1 : a ≤ b
  · exact Or.inr (fun h2 => h ⟨h1, h2⟩)
  · exact Or.inl h1
theorem ge2 {n : Nat} (h : (2 : Int32) ≤ nI n) (hn : n < 1000) : ¬ n < 2 := by
  have := lp_ge (x := nI n) (k := n) (n := 2) rfl (by omega) (by decide) h; omega
theorem lt2 {n : Nat} (h : ¬ (2 : Int32) ≤ nI n) (hn : n < 1000) : n < 2 := lp_lt (x := nI n) (k := n) (n := 2) rfl (by omega) (by decide) h
theorem hangE_lt {E : Rw} {nf : Nat} {t : Int32} (h : nf ≤ 8) : s_hangE E nf t < 1000 := by have := cnt_le (fun f => decide (E f 0 = 1 ∧ E f 1 = t)) nf; unfold s_hangE; omega
def s_freeX (T E : Rw) (nf : Nat) (b x : Int32) (t : Nat) : Bool := decide (¬ T t 5 = 0) && s_near (s_at T t b) x && decide (s_hangE E nf (nI t) < 2)

set_option maxHeartbeats 4000000 in
set_option maxRecDepth 100000 in
theorem c_X4_isNetSpreadAt (l : Launch) (D : va_G) (cy : Nat → ClassId) {G : GG} {x : Nat} {ad : Nat → Nat → Nat} {b : Int32} {nt nf nc nn : Nat} {T E Cu N KT KF KC : Rw} (h : RX cy x ad b nt nf nc nn T E Cu N KT KF KC G) (p0 : Int32) : Ctr l D cy yX4_isNetSpreadAt prog_1_method_27_code 6 (some .boolean) kX4_isNetSpreadAt [.ref x, .int p0] G (pI (fun v G' => G' = G ∧ ((v = 1 ∧ s_net N nn p0 = true) ∨ (v = 0 ∧ s_net N nn p0 = false)))) := by
  refine Ctr.mk (by decide +kernel) (Nat.le_of_ble_eq_true rfl) ?_
  intro κ C R
  refine g_pc (pc' := 0) rfl ?_
  refine g_seg [(0, .aload_n 0, 1)] 1 [(0, .ref x), (1, .int p0)] [.ref x] C (by decide +kernel) rfl ?_
  refine g_getf (pc := 1) (k := 3) (v := .ref (ad 0 3)) C fl_X4_29 (h.1.1) rfl (by decide +kernel) ?_
  refine g_seg [(4, .astore_n 2, 1), (5, .aload_n 2, 1)] 6 [(2, .ref (ad 0 3)), (0, .ref x), (1, .int p0)] [.ref (ad 0 3)] C (by decide +kernel) rfl ?_
  refine g_alenA (pc := 6) (len := 3) (t0 := 4) C (h.1.2.2.2.2) rfl (by decide +kernel) ?_
  refine g_seg [(7, .istore_n 3, 1), (8, .iconst 0, 1), (9, .istore 4, 2)] 11 [(4, .int 0), (3, .int (nI 3)), (2, .ref (ad 0 3)), (0, .ref x), (1, .int p0)] [] C (by decide +kernel) rfl ?_
  refine g_subp [3, 4, 2, 1, 0] (lv' := [(0, .ref x), (1, .int p0), (2, .ref (ad 0 3)), (3, .int (nI 3)), (4, .int 0)]) rfl ?_
  have lp1 : ∀ (m k : Nat) (xk : Int32), 3 + 1 ≤ k + m → k ≤ 3 → xk = nI k → (∀ t, t < k → t < nn → (decide (N t 0 ≤ p0) && decide (p0 ≤ N t 1)) = false) → PG κ 6 0 0 G [(0, .ref x), (1, .int p0), (2, .ref (ad 0 3)), (3, .int (nI 3)), (4, .int xk)] 11 [] := by
    intro m
    induction m with
    | zero => intro k xk h1 h2; intros; exact absurd h1 (by omega)
    | succ m ih =>
      intro k xk hm hk hx hs
      refine g_seg [(11, .iload 4, 2), (13, .iload_n 3, 1)] 14 [(0, .ref x), (1, .int p0), (2, .ref (ad 0 3)), (3, .int (nI 3)), (4, .int xk)] [.int (nI 3), .int xk] C (by decide +kernel) rfl ?_
      refine g_icmp_ge (pc := 14) (off := 39) 53 C (by decide +kernel) (by decide) (fun c2 => ?_) (fun c2 => ?_)
      · have hk8 : k = 3 := by have := lp_ge hx (by omega) (by decide) c2; omega
        refine g_seg [(53, .iconst 0, 1)] 54 [(0, .ref x), (1, .int p0), (2, .ref (ad 0 3)), (3, .int (nI 3)), (4, .int xk)] [.int 0] C (by decide +kernel) rfl ?_
        exact g_zret (pc := 54) C R (by first | rfl | decide) (⟨_, rfl, rfl, Or.inr ⟨rfl, net_n (k := k) (by have := h.2.2.2.2.2.2; omega) hs⟩⟩) (Nat.le_of_ble_eq_true rfl) (Nat.le_of_ble_eq_true rfl) (by decide +kernel)
      · have hk8 : k < 3 := by have := lp_lt hx (by omega) (by decide) c2; omega
        refine g_seg [(17, .aload_n 2, 1), (18, .iload 4, 2)] 20 [(0, .ref x), (1, .int p0), (2, .ref (ad 0 3)), (3, .int (nI 3)), (4, .int xk)] [.int xk, .ref (ad 0 3)] C (by decide +kernel) rfl ?_
        refine g_aaldA (pc := 20) (len := 3) (t0 := 4) (j := k) C (h.1.2.2.2.2) rfl (hx) (hk8) (by decide) (by decide +kernel) (fun hi3 => ?_) (fun hi3 => ?_)
        · refine g_seg [(21, .astore 5, 2), (23, .aload 5, 2)] 25 [(5, .ref (ad 4 k)), (0, .ref x), (1, .int p0), (2, .ref (ad 0 3)), (3, .int (nI 3)), (4, .int xk)] [.ref (ad 4 k)] C (by decide +kernel) rfl ?_
          refine g_ifnull (pc := 25) (off := 22) C (by decide +kernel) ?_
          refine g_seg [(28, .iload_n 1, 1), (29, .aload 5, 2)] 31 [(5, .ref (ad 4 k)), (0, .ref x), (1, .int p0), (2, .ref (ad 0 3)), (3, .int (nI 3)), (4, .int xk)] [.ref (ad 4 k), .int p0] C (by decide +kernel) rfl ?_
          refine g_getf (pc := 31) (k := 0) (v := .int (N k 0)) C fl_X4_211 (h.2.1.2.2.2 k hi3) rfl (by decide +kernel) ?_
          refine g_seg [(34, .aload 5, 2)] 36 [(5, .ref (ad 4 k)), (0, .ref x), (1, .int p0), (2, .ref (ad 0 3)), (3, .int (nI 3)), (4, .int xk)] [.ref (ad 4 k), .int (N k 0), .int p0] C (by decide +kernel) rfl ?_
          refine g_getf (pc := 36) (k := 1) (v := .int (N k 1)) C fl_X4_214 (h.2.1.2.2.2 k hi3) rfl (by decide +kernel) ?_
          refine g_callS (pc := 39) C mS_X4_isWithin q86 (c_X4_isWithin l D cy G p0 (N k 0) (N k 1)) rfl ⟨⟨Nat.le_of_ble_eq_true rfl, Nat.le_of_ble_eq_true rfl⟩, Nat.le_of_ble_eq_true rfl, Nat.le_of_ble_eq_true rfl⟩ rfl (Nat.le_of_ble_eq_true rfl) (by decide +kernel) ?_
          refine g_kI (fun v6 G5 hp4 => ?_)
          obtain ⟨rfl, hp4⟩ := hp4
          rcases hp4 with ⟨rfl, h7⟩ | ⟨rfl, h7⟩
          · refine g_if_eq (pc := 42) (off := 5) 47 C (by decide +kernel) (by decide) (fun c9 => absurd c9 (by decide)) (fun _ => ?_)
            refine g_seg [(45, .iconst 1, 1)] 46 [(5, .ref (ad 4 k)), (0, .ref x), (1, .int p0), (2, .ref (ad 0 3)), (3, .int (nI 3)), (4, .int xk)] [.int 1] C (by decide +kernel) rfl ?_
            exact g_zret (pc := 46) C R (by first | rfl | decide) (⟨_, rfl, rfl, Or.inl ⟨rfl, net_y hi3 h7 hs⟩⟩) (Nat.le_of_ble_eq_true rfl) (Nat.le_of_ble_eq_true rfl) (by decide +kernel)
          · refine g_if_eq (pc := 42) (off := 5) 47 C (by decide +kernel) (by decide) (fun _ => ?_) (fun c9 => absurd (by decide) c9)
            refine g_seg [(47, .iinc 4 1, 3), (50, .goto (-39), 3)] 11 [(4, .int (xk + 1)), (5, .ref (ad 4 k)), (0, .ref x), (1, .int p0), (2, .ref (ad 0 3)), (3, .int (nI 3))] [] C (by decide +kernel) rfl ?_
            refine g_subp [2, 3, 4, 5, 0] (lv' := [(0, .ref x), (1, .int p0), (2, .ref (ad 0 3)), (3, .int (nI 3)), (4, .int (xk + 1))]) rfl ?_
            exact ih (k + 1) (xk + 1) (by omega) (by omega) (lp_s hx) (no_f hs (net_f h7))
        · refine g_seg [(21, .astore 5, 2), (23, .aload 5, 2)] 25 [(5, .null), (0, .ref x), (1, .int p0), (2, .ref (ad 0 3)), (3, .int (nI 3)), (4, .int xk)] [.null] C (by decide +kernel) rfl ?_
          refine g_ifnullN (pc := 25) (off := 22) 47 C (by decide +kernel) (by decide) ?_
          refine g_seg [(47, .iinc 4 1, 3), (50, .goto (-39), 3)] 11 [(4, .int (xk + 1)), (5, .null), (0, .ref x), (1, .int p0), (2, .ref (ad 0 3)), (3, .int (nI 3))] [] C (by decide +kernel) rfl ?_
          refine g_subp [2, 3, 4, 5, 0] (lv' := [(0, .ref x), (1, .int p0), (2, .ref (ad 0 3)), (3, .int (nI 3)), (4, .int (xk + 1))]) rfl ?_
          exact ih (k + 1) (xk + 1) (by omega) (by omega) (lp_s hx) (no_n hs hi3)
  exact lp1 (3 + 1) 0 0 (by omega) (by omega) (nI_0.symm) (fun t h1 => absurd h1 (by omega))
set_option maxHeartbeats 4000000 in
set_option maxRecDepth 100000 in
theorem c_X4_ofTrapeze (l : Launch) (D : va_G) (cy : Nat → ClassId) {G : GG} {x : Nat} {ad : Nat → Nat → Nat} {b : Int32} {nt nf nc nn : Nat} {T E Cu N KT KF KC : Rw} (h : RX cy x ad b nt nf nc nn T E Cu N KT KF KC G) (i : Nat) (hi : i < nt) (hwok : s_wok T nt) (n w : Int32) (hn : n = nI i) : Ctr l D cy yX4_ofTrapeze prog_1_method_28_code 4 (some .int) kX4_ofTrapeze [.ref x, .ref (ad 1 i), .int n, .int w] G (pI (fun v G' => G' = G ∧ v = s_toldX T E nf b i w)) := by
  refine Ctr.mk (by decide +kernel) (Nat.le_of_ble_eq_true rfl) ?_
  intro κ C R
  refine g_pc (pc' := 0) rfl ?_
  refine g_seg [(0, .iload_n 3, 1)] 1 [(0, .ref x), (1, .ref (ad 1 i)), (2, .int n), (3, .int w)] [.int w] C (by decide +kernel) rfl ?_
  by_cases hw0 : w = 0
  · subst hw0
    refine g_tableIn (pc := 1) (dflt := 90) (lo := 0) (hi := 6) (offs := #[43, 48, 53, 58, 63, 68, 81]) (len := 43) (off := 43) 44 C (by decide +kernel) (by decide) (by decide) (by decide) (by decide) ?_
    refine g_seg [(44, .aload_n 1, 1)] 45 [(0, .ref x), (1, .ref (ad 1 i)), (2, .int n), (3, .int 0)] [.ref (ad 1 i)] C (by decide +kernel) rfl ?_
    refine g_getf (pc := 45) (k := 0) (v := .int (T i 0)) C fl_X4_220 (h.2.1.1 i hi) rfl (by decide +kernel) ?_
    exact g_iret (pc := 48) C R (⟨_, rfl, rfl, by first | rfl | (simp [s_toldX]; done) | (unfold s_toldX; rw [if_neg hw0, if_neg hw1, if_neg hw2, if_neg hw3, if_neg hw4, if_neg hw5, if_neg hw6, hn]; rfl)⟩) (Nat.le_of_ble_eq_true rfl) (Nat.le_of_ble_eq_true rfl) (by decide +kernel)
  by_cases hw1 : w = 1
  · subst hw1
    refine g_tableIn (pc := 1) (dflt := 90) (lo := 0) (hi := 6) (offs := #[43, 48, 53, 58, 63, 68, 81]) (len := 43) (off := 48) 49 C (by decide +kernel) (by decide) (by decide) (by decide) (by decide) ?_
    refine g_seg [(49, .aload_n 1, 1)] 50 [(0, .ref x), (1, .ref (ad 1 i)), (2, .int n), (3, .int 1)] [.ref (ad 1 i)] C (by decide +kernel) rfl ?_
    refine g_getf (pc := 50) (k := 1) (v := .int (T i 1)) C fl_X4_223 (h.2.1.1 i hi) rfl (by decide +kernel) ?_
    exact g_iret (pc := 53) C R (⟨_, rfl, rfl, by first | rfl | (simp [s_toldX]; done) | (unfold s_toldX; rw [if_neg hw0, if_neg hw1, if_neg hw2, if_neg hw3, if_neg hw4, if_neg hw5, if_neg hw6, hn]; rfl)⟩) (Nat.le_of_ble_eq_true rfl) (Nat.le_of_ble_eq_true rfl) (by decide +kernel)
  by_cases hw2 : w = 2
  · subst hw2
    refine g_tableIn (pc := 1) (dflt := 90) (lo := 0) (hi := 6) (offs := #[43, 48, 53, 58, 63, 68, 81]) (len := 43) (off := 53) 54 C (by decide +kernel) (by decide) (by decide) (by decide) (by decide) ?_
    refine g_seg [(54, .aload_n 1, 1)] 55 [(0, .ref x), (1, .ref (ad 1 i)), (2, .int n), (3, .int 2)] [.ref (ad 1 i)] C (by decide +kernel) rfl ?_
    refine g_getf (pc := 55) (k := 3) (v := .int (T i 2)) C fl_X4_76 (h.2.1.1 i hi) rfl (by decide +kernel) ?_
    exact g_iret (pc := 58) C R (⟨_, rfl, rfl, by first | rfl | (simp [s_toldX]; done) | (unfold s_toldX; rw [if_neg hw0, if_neg hw1, if_neg hw2, if_neg hw3, if_neg hw4, if_neg hw5, if_neg hw6, hn]; rfl)⟩) (Nat.le_of_ble_eq_true rfl) (Nat.le_of_ble_eq_true rfl) (by decide +kernel)
  by_cases hw3 : w = 3
  · subst hw3
    refine g_tableIn (pc := 1) (dflt := 90) (lo := 0) (hi := 6) (offs := #[43, 48, 53, 58, 63, 68, 81]) (len := 43) (off := 58) 59 C (by decide +kernel) (by decide) (by decide) (by decide) (by decide) ?_
    refine g_seg [(59, .aload_n 1, 1)] 60 [(0, .ref x), (1, .ref (ad 1 i)), (2, .int n), (3, .int 3)] [.ref (ad 1 i)] C (by decide +kernel) rfl ?_
    refine g_getf (pc := 60) (k := 2) (v := .int (T i 3)) C fl_X4_226 (h.2.1.1 i hi) rfl (by decide +kernel) ?_
    exact g_iret (pc := 63) C R (⟨_, rfl, rfl, by first | rfl | (simp [s_toldX]; done) | (unfold s_toldX; rw [if_neg hw0, if_neg hw1, if_neg hw2, if_neg hw3, if_neg hw4, if_neg hw5, if_neg hw6, hn]; rfl)⟩) (Nat.le_of_ble_eq_true rfl) (Nat.le_of_ble_eq_true rfl) (by decide +kernel)
  by_cases hw4 : w = 4
  · subst hw4
    refine g_tableIn (pc := 1) (dflt := 90) (lo := 0) (hi := 6) (offs := #[43, 48, 53, 58, 63, 68, 81]) (len := 43) (off := 63) 64 C (by decide +kernel) (by decide) (by decide) (by decide) (by decide) ?_
    refine g_seg [(64, .aload_n 1, 1)] 65 [(0, .ref x), (1, .ref (ad 1 i)), (2, .int n), (3, .int 4)] [.ref (ad 1 i)] C (by decide +kernel) rfl ?_
    refine g_getf (pc := 65) (k := 5) (v := .int (T i 4)) C fl_X4_83 (h.2.1.1 i hi) rfl (by decide +kernel) ?_
    exact g_iret (pc := 68) C R (⟨_, rfl, rfl, by first | rfl | (simp [s_toldX]; done) | (unfold s_toldX; rw [if_neg hw0, if_neg hw1, if_neg hw2, if_neg hw3, if_neg hw4, if_neg hw5, if_neg hw6, hn]; rfl)⟩) (Nat.le_of_ble_eq_true rfl) (Nat.le_of_ble_eq_true rfl) (by decide +kernel)
  by_cases hw5 : w = 5
  · subst hw5
    refine g_tableIn (pc := 1) (dflt := 90) (lo := 0) (hi := 6) (offs := #[43, 48, 53, 58, 63, 68, 81]) (len := 43) (off := 68) 69 C (by decide +kernel) (by decide) (by decide) (by decide) (by decide) ?_
    refine g_seg [(69, .aload_n 1, 1)] 70 [(0, .ref x), (1, .ref (ad 1 i)), (2, .int n), (3, .int 5)] [.ref (ad 1 i)] C (by decide +kernel) rfl ?_
    refine g_getf (pc := 70) (k := 6) (v := .int (T i 5)) C fl_X4_70 (h.2.1.1 i hi) rfl (by decide +kernel) ?_
    refine g_if_eq (pc := 73) (off := 7) 80 C (by decide +kernel) (by decide) (fun c1 => ?_) (fun c1 => ?_)
    · refine g_seg [(80, .iconst 0, 1)] 81 [(0, .ref x), (1, .ref (ad 1 i)), (2, .int n), (3, .int 5)] [.int 0] C (by decide +kernel) rfl ?_
      exact g_iret (pc := 81) C R (⟨_, rfl, rfl, by first | rfl | (simp [s_toldX, c1]; done) | (unfold s_toldX; rw [if_neg hw0, if_neg hw1, if_neg hw2, if_neg hw3, if_neg hw4, if_neg hw5, if_neg hw6, hn]; rfl)⟩) (Nat.le_of_ble_eq_true rfl) (Nat.le_of_ble_eq_true rfl) (by decide +kernel)
    · refine g_seg [(76, .iconst 1, 1), (77, .goto 4, 3)] 81 [(0, .ref x), (1, .ref (ad 1 i)), (2, .int n), (3, .int 5)] [.int 1] C (by decide +kernel) rfl ?_
      exact g_iret (pc := 81) C R (⟨_, rfl, rfl, by first | rfl | (simp [s_toldX, c1]; done) | (unfold s_toldX; rw [if_neg hw0, if_neg hw1, if_neg hw2, if_neg hw3, if_neg hw4, if_neg hw5, if_neg hw6, hn]; rfl)⟩) (Nat.le_of_ble_eq_true rfl) (Nat.le_of_ble_eq_true rfl) (by decide +kernel)
  by_cases hw6 : w = 6
  · subst hw6
    refine g_tableIn (pc := 1) (dflt := 90) (lo := 0) (hi := 6) (offs := #[43, 48, 53, 58, 63, 68, 81]) (len := 43) (off := 81) 82 C (by decide +kernel) (by decide) (by decide) (by decide) (by decide) ?_
    refine g_seg [(82, .aload_n 1, 1), (83, .aload_n 0, 1)] 84 [(0, .ref x), (1, .ref (ad 1 i)), (2, .int n), (3, .int 6)] [.ref x, .ref (ad 1 i)] C (by decide +kernel) rfl ?_
    refine g_getf (pc := 84) (k := 8) (v := .int b) C fl_X4_53 (h.1.1) rfl (by decide +kernel) ?_
    refine g_callV (pc := 87) C mV_X3_placeIn q161 (h.2.1.1 i hi) rfl rfl (c_X3_placeIn l D cy G (ad 1 i) (T i 0) (T i 1) (T i 3) (T i 2) (T i 6) (T i 4) (T i 5) (KT i 0) (KT i 1) (h.2.1.1 i hi) b (hwok i hi)) rfl ⟨⟨Nat.le_of_ble_eq_true rfl, Nat.le_of_ble_eq_true rfl⟩, Nat.le_of_ble_eq_true rfl, Nat.le_of_ble_eq_true rfl⟩ rfl (Nat.le_of_ble_eq_true rfl) (by decide +kernel) ?_
    refine g_kI (fun v4 G3 hp2 => ?_)
    obtain ⟨rfl, rfl⟩ := hp2
    exact g_iret (pc := 90) C R (⟨_, rfl, rfl, by first | rfl | (simp [s_toldX]; done) | (unfold s_toldX; rw [if_neg hw0, if_neg hw1, if_neg hw2, if_neg hw3, if_neg hw4, if_neg hw5, if_neg hw6, hn]; rfl)⟩) (Nat.le_of_ble_eq_true rfl) (Nat.le_of_ble_eq_true rfl) (by decide +kernel)
  refine g_tableOut (pc := 1) (dflt := 90) (lo := 0) (hi := 6) (offs := #[43, 48, 53, 58, 63, 68, 81]) (len := 43) 91 C (by decide +kernel) (by have a0 := ti_ne hw0; rw [show (0 : Int32).toInt = 0 by decide] at a0; have a1 := ti_ne hw1; rw [show (1 : Int32).toInt = 1 by decide] at a1; have a2 := ti_ne hw2; rw [show (2 : Int32).toInt = 2 by decide] at a2; have a3 := ti_ne hw3; rw [show (3 : Int32).toInt = 3 by decide] at a3; have a4 := ti_ne hw4; rw [show (4 : Int32).toInt = 4 by decide] at a4; have a5 := ti_ne hw5; rw [show (5 : Int32).toInt = 5 by decide] at a5; have a6 := ti_ne hw6; rw [show (6 : Int32).toInt = 6 by decide] at a6; omega) (by decide) ?_
  refine g_seg [(91, .aload_n 0, 1), (92, .iload_n 2, 1)] 93 [(0, .ref x), (1, .ref (ad 1 i)), (2, .int n), (3, .int w)] [.int n, .ref x] C (by decide +kernel) rfl ?_
  refine g_callV (pc := 93) C mV_X4_hangersOf q175 (h.1.1) rfl rfl (c_X4_hangersOf l D cy h n) rfl ⟨⟨Nat.le_of_ble_eq_true rfl, Nat.le_of_ble_eq_true rfl⟩, Nat.le_of_ble_eq_true rfl, Nat.le_of_ble_eq_true rfl⟩ rfl (Nat.le_of_ble_eq_true rfl) (by decide +kernel) ?_
  refine g_kI (fun v7 G6 hp5 => ?_)
  obtain ⟨rfl, rfl⟩ := hp5
  exact g_iret (pc := 96) C R (⟨_, rfl, rfl, by first | rfl | (simp [s_toldX, hw0, hw1, hw2, hw3, hw4, hw5, hw6]; done) | (unfold s_toldX; rw [if_neg hw0, if_neg hw1, if_neg hw2, if_neg hw3, if_neg hw4, if_neg hw5, if_neg hw6, hn]; rfl)⟩) (Nat.le_of_ble_eq_true rfl) (Nat.le_of_ble_eq_true rfl) (by decide +kernel)
set_option maxHeartbeats 4000000 in
set_option maxRecDepth 100000 in
theorem c_X4_ofFlyer (l : Launch) (D : va_G) (cy : Nat → ClassId) {G : GG} {x : Nat} {ad : Nat → Nat → Nat} {b : Int32} {nt nf nc nn : Nat} {T E Cu N KT KF KC : Rw} (h : RX cy x ad b nt nf nc nn T E Cu N KT KF KC G) (i : Nat) (hi : i < nf) (w : Int32) : Ctr l D cy yX4_ofFlyer prog_1_method_29_code 4 (some .int) kX4_ofFlyer [.ref x, .ref (ad 2 i), .int w] G (pI (fun v G' => G' = G ∧ v = s_toldFX E b i w)) := by
  refine Ctr.mk (by decide +kernel) (Nat.le_of_ble_eq_true rfl) ?_
  intro κ C R
  refine g_pc (pc' := 0) rfl ?_
  refine g_seg [(0, .aload_n 1, 1)] 1 [(0, .ref x), (1, .ref (ad 2 i)), (2, .int w)] [.ref (ad 2 i)] C (by decide +kernel) rfl ?_
  refine g_getf (pc := 1) (k := 0) (v := .int (E i 0)) C fl_X4_229 (h.2.1.2.1 i hi) rfl (by decide +kernel) ?_
  refine g_seg [(4, .iconst 2, 1)] 5 [(0, .ref x), (1, .ref (ad 2 i)), (2, .int w)] [.int 2, .int (E i 0)] C (by decide +kernel) rfl ?_
  refine g_icmp_ne (pc := 5) (off := 7) 12 C (by decide +kernel) (by decide) (fun c1 => ?_) (fun c1 => ?_)
  · refine g_seg [(12, .iconst 0, 1), (13, .istore_n 3, 1), (14, .iload_n 2, 1)] 15 [(3, .int 0), (0, .ref x), (1, .ref (ad 2 i)), (2, .int w)] [.int w] C (by decide +kernel) rfl ?_
    by_cases hw0 : w = 0
    · subst hw0
      refine g_tableIn (pc := 15) (dflt := 70) (lo := 0) (hi := 3) (offs := #[29, 34, 39, 52]) (len := 29) (off := 29) 44 C (by decide +kernel) (by decide) (by decide) (by decide) (by decide) ?_
      refine g_seg [(44, .aload_n 1, 1)] 45 [(3, .int 0), (0, .ref x), (1, .ref (ad 2 i)), (2, .int 0)] [.ref (ad 2 i)] C (by decide +kernel) rfl ?_
      refine g_getf (pc := 45) (k := 0) (v := .int (E i 0)) C fl_X4_229 (h.2.1.2.1 i hi) rfl (by decide +kernel) ?_
      exact g_iret (pc := 48) C R (⟨_, rfl, rfl, by first | rfl | (simp [s_toldFX, c1]; done)⟩) (Nat.le_of_ble_eq_true rfl) (Nat.le_of_ble_eq_true rfl) (by decide +kernel)
    by_cases hw1 : w = 1
    · subst hw1
      refine g_tableIn (pc := 15) (dflt := 70) (lo := 0) (hi := 3) (offs := #[29, 34, 39, 52]) (len := 29) (off := 34) 49 C (by decide +kernel) (by decide) (by decide) (by decide) (by decide) ?_
      refine g_seg [(49, .aload_n 1, 1)] 50 [(3, .int 0), (0, .ref x), (1, .ref (ad 2 i)), (2, .int 1)] [.ref (ad 2 i)] C (by decide +kernel) rfl ?_
      refine g_getf (pc := 50) (k := 1) (v := .int (E i 1)) C fl_X4_177 (h.2.1.2.1 i hi) rfl (by decide +kernel) ?_
      exact g_iret (pc := 53) C R (⟨_, rfl, rfl, by first | rfl | (simp [s_toldFX, c1]; done)⟩) (Nat.le_of_ble_eq_true rfl) (Nat.le_of_ble_eq_true rfl) (by decide +kernel)
    by_cases hw2 : w = 2
    · subst hw2
      refine g_tableIn (pc := 15) (dflt := 70) (lo := 0) (hi := 3) (offs := #[29, 34, 39, 52]) (len := 29) (off := 39) 54 C (by decide +kernel) (by decide) (by decide) (by decide) (by decide) ?_
      refine g_seg [(54, .iload_n 3, 1)] 55 [(3, .int 0), (0, .ref x), (1, .ref (ad 2 i)), (2, .int 2)] [.int 0] C (by decide +kernel) rfl ?_
      refine g_if_eq (pc := 55) (off := 10) 65 C (by decide +kernel) (by decide) (fun _ => ?_) (fun c9 => absurd (by decide) c9)
      refine g_seg [(65, .iconst 0, 1)] 66 [(3, .int 0), (0, .ref x), (1, .ref (ad 2 i)), (2, .int 2)] [.int 0] C (by decide +kernel) rfl ?_
      exact g_iret (pc := 66) C R (⟨_, rfl, rfl, by first | rfl | (simp [s_toldFX, c1]; done)⟩) (Nat.le_of_ble_eq_true rfl) (Nat.le_of_ble_eq_true rfl) (by decide +kernel)
    by_cases hw3 : w = 3
    · subst hw3
      refine g_tableIn (pc := 15) (dflt := 70) (lo := 0) (hi := 3) (offs := #[29, 34, 39, 52]) (len := 29) (off := 52) 67 C (by decide +kernel) (by decide) (by decide) (by decide) (by decide) ?_
      refine g_seg [(67, .iload_n 3, 1)] 68 [(3, .int 0), (0, .ref x), (1, .ref (ad 2 i)), (2, .int 3)] [.int 0] C (by decide +kernel) rfl ?_
      refine g_if_eq (pc := 68) (off := 15) 83 C (by decide +kernel) (by decide) (fun _ => ?_) (fun c9 => absurd (by decide) c9)
      refine g_seg [(83, .iconst (-1), 1)] 84 [(3, .int 0), (0, .ref x), (1, .ref (ad 2 i)), (2, .int 3)] [.int (-1)] C (by decide +kernel) rfl ?_
      exact g_iret (pc := 84) C R (⟨_, rfl, rfl, by first | rfl | (simp [s_toldFX, c1]; done)⟩) (Nat.le_of_ble_eq_true rfl) (Nat.le_of_ble_eq_true rfl) (by decide +kernel)
    refine g_tableOut (pc := 15) (dflt := 70) (lo := 0) (hi := 3) (offs := #[29, 34, 39, 52]) (len := 29) 85 C (by decide +kernel) (by have a0 := ti_ne hw0; rw [show (0 : Int32).toInt = 0 by decide] at a0; have a1 := ti_ne hw1; rw [show (1 : Int32).toInt = 1 by decide] at a1; have a2 := ti_ne hw2; rw [show (2 : Int32).toInt = 2 by decide] at a2; have a3 := ti_ne hw3; rw [show (3 : Int32).toInt = 3 by decide] at a3; omega) (by decide) ?_
    refine g_seg [(85, .aload_n 1, 1)] 86 [(3, .int 0), (0, .ref x), (1, .ref (ad 2 i)), (2, .int w)] [.ref (ad 2 i)] C (by decide +kernel) rfl ?_
    refine g_getf (pc := 86) (k := 4) (v := .int (E i 4)) C fl_X4_194 (h.2.1.2.1 i hi) rfl (by decide +kernel) ?_
    exact g_iret (pc := 89) C R (⟨_, rfl, rfl, by first | rfl | (simp [s_toldFX, c1, hw0, hw1, hw2, hw3]; done)⟩) (Nat.le_of_ble_eq_true rfl) (Nat.le_of_ble_eq_true rfl) (by decide +kernel)
  · refine g_seg [(8, .iconst 1, 1), (9, .goto 4, 3), (13, .istore_n 3, 1), (14, .iload_n 2, 1)] 15 [(3, .int 1), (0, .ref x), (1, .ref (ad 2 i)), (2, .int w)] [.int w] C (by decide +kernel) rfl ?_
    by_cases hw0 : w = 0
    · subst hw0
      refine g_tableIn (pc := 15) (dflt := 70) (lo := 0) (hi := 3) (offs := #[29, 34, 39, 52]) (len := 29) (off := 29) 44 C (by decide +kernel) (by decide) (by decide) (by decide) (by decide) ?_
      refine g_seg [(44, .aload_n 1, 1)] 45 [(3, .int 1), (0, .ref x), (1, .ref (ad 2 i)), (2, .int 0)] [.ref (ad 2 i)] C (by decide +kernel) rfl ?_
      refine g_getf (pc := 45) (k := 0) (v := .int (E i 0)) C fl_X4_229 (h.2.1.2.1 i hi) rfl (by decide +kernel) ?_
      exact g_iret (pc := 48) C R (⟨_, rfl, rfl, by first | rfl | (simp [s_toldFX, c1]; done)⟩) (Nat.le_of_ble_eq_true rfl) (Nat.le_of_ble_eq_true rfl) (by decide +kernel)
    by_cases hw1 : w = 1
    · subst hw1
      refine g_tableIn (pc := 15) (dflt := 70) (lo := 0) (hi := 3) (offs := #[29, 34, 39, 52]) (len := 29) (off := 34) 49 C (by decide +kernel) (by decide) (by decide) (by decide) (by decide) ?_
      refine g_seg [(49, .aload_n 1, 1)] 50 [(3, .int 1), (0, .ref x), (1, .ref (ad 2 i)), (2, .int 1)] [.ref (ad 2 i)] C (by decide +kernel) rfl ?_
      refine g_getf (pc := 50) (k := 1) (v := .int (E i 1)) C fl_X4_177 (h.2.1.2.1 i hi) rfl (by decide +kernel) ?_
      exact g_iret (pc := 53) C R (⟨_, rfl, rfl, by first | rfl | (simp [s_toldFX, c1]; done)⟩) (Nat.le_of_ble_eq_true rfl) (Nat.le_of_ble_eq_true rfl) (by decide +kernel)
    by_cases hw2 : w = 2
    · subst hw2
      refine g_tableIn (pc := 15) (dflt := 70) (lo := 0) (hi := 3) (offs := #[29, 34, 39, 52]) (len := 29) (off := 39) 54 C (by decide +kernel) (by decide) (by decide) (by decide) (by decide) ?_
      refine g_seg [(54, .iload_n 3, 1)] 55 [(3, .int 1), (0, .ref x), (1, .ref (ad 2 i)), (2, .int 2)] [.int 1] C (by decide +kernel) rfl ?_
      refine g_if_eq (pc := 55) (off := 10) 65 C (by decide +kernel) (by decide) (fun c9 => absurd c9 (by decide)) (fun _ => ?_)
      refine g_seg [(58, .aload_n 1, 1)] 59 [(3, .int 1), (0, .ref x), (1, .ref (ad 2 i)), (2, .int 2)] [.ref (ad 2 i)] C (by decide +kernel) rfl ?_
      refine g_getf (pc := 59) (k := 2) (v := .int (E i 2)) C fl_X4_232 (h.2.1.2.1 i hi) rfl (by decide +kernel) ?_
      refine g_seg [(62, .goto 4, 3)] 66 [(3, .int 1), (0, .ref x), (1, .ref (ad 2 i)), (2, .int 2)] [.int (E i 2)] C (by decide +kernel) rfl ?_
      exact g_iret (pc := 66) C R (⟨_, rfl, rfl, by first | rfl | (simp [s_toldFX, c1]; done)⟩) (Nat.le_of_ble_eq_true rfl) (Nat.le_of_ble_eq_true rfl) (by decide +kernel)
    by_cases hw3 : w = 3
    · subst hw3
      refine g_tableIn (pc := 15) (dflt := 70) (lo := 0) (hi := 3) (offs := #[29, 34, 39, 52]) (len := 29) (off := 52) 67 C (by decide +kernel) (by decide) (by decide) (by decide) (by decide) ?_
      refine g_seg [(67, .iload_n 3, 1)] 68 [(3, .int 1), (0, .ref x), (1, .ref (ad 2 i)), (2, .int 3)] [.int 1] C (by decide +kernel) rfl ?_
      refine g_if_eq (pc := 68) (off := 15) 83 C (by decide +kernel) (by decide) (fun c9 => absurd c9 (by decide)) (fun _ => ?_)
      refine g_seg [(71, .aload_n 1, 1)] 72 [(3, .int 1), (0, .ref x), (1, .ref (ad 2 i)), (2, .int 3)] [.ref (ad 2 i)] C (by decide +kernel) rfl ?_
      refine g_getf (pc := 72) (k := 3) (v := .int (E i 3)) C fl_X4_235 (h.2.1.2.1 i hi) rfl (by decide +kernel) ?_
      refine g_seg [(75, .aload_n 0, 1)] 76 [(3, .int 1), (0, .ref x), (1, .ref (ad 2 i)), (2, .int 3)] [.ref x, .int (E i 3)] C (by decide +kernel) rfl ?_
      refine g_getf (pc := 76) (k := 8) (v := .int b) C fl_X4_53 (h.1.1) rfl (by decide +kernel) ?_
      refine g_seg [(79, .isub, 1), (80, .goto 4, 3)] 84 [(3, .int 1), (0, .ref x), (1, .ref (ad 2 i)), (2, .int 3)] [.int ((E i 3) - b)] C (by decide +kernel) rfl ?_
      exact g_iret (pc := 84) C R (⟨_, rfl, rfl, by first | rfl | (simp [s_toldFX, c1]; done)⟩) (Nat.le_of_ble_eq_true rfl) (Nat.le_of_ble_eq_true rfl) (by decide +kernel)
    refine g_tableOut (pc := 15) (dflt := 70) (lo := 0) (hi := 3) (offs := #[29, 34, 39, 52]) (len := 29) 85 C (by decide +kernel) (by have a0 := ti_ne hw0; rw [show (0 : Int32).toInt = 0 by decide] at a0; have a1 := ti_ne hw1; rw [show (1 : Int32).toInt = 1 by decide] at a1; have a2 := ti_ne hw2; rw [show (2 : Int32).toInt = 2 by decide] at a2; have a3 := ti_ne hw3; rw [show (3 : Int32).toInt = 3 by decide] at a3; omega) (by decide) ?_
    refine g_seg [(85, .aload_n 1, 1)] 86 [(3, .int 1), (0, .ref x), (1, .ref (ad 2 i)), (2, .int w)] [.ref (ad 2 i)] C (by decide +kernel) rfl ?_
    refine g_getf (pc := 86) (k := 4) (v := .int (E i 4)) C fl_X4_194 (h.2.1.2.1 i hi) rfl (by decide +kernel) ?_
    exact g_iret (pc := 89) C R (⟨_, rfl, rfl, by first | rfl | (simp [s_toldFX, c1, hw0, hw1, hw2, hw3]; done)⟩) (Nat.le_of_ble_eq_true rfl) (Nat.le_of_ble_eq_true rfl) (by decide +kernel)
set_option maxHeartbeats 4000000 in
set_option maxRecDepth 100000 in
theorem c_X4_ofCue (l : Launch) (D : va_G) (cy : Nat → ClassId) {G : GG} {x : Nat} {ad : Nat → Nat → Nat} {b : Int32} {nt nf nc nn : Nat} {T E Cu N KT KF KC : Rw} (h : RX cy x ad b nt nf nc nn T E Cu N KT KF KC G) (i : Nat) (hi : i < nc) (w : Int32) : Ctr l D cy yX4_ofCue prog_1_method_30_code 2 (some .int) kX4_ofCue [.ref (ad 3 i), .int w] G (pI (fun v G' => G' = G ∧ v = s_toldC Cu i w)) := by
  refine Ctr.mk (by decide +kernel) (Nat.le_of_ble_eq_true rfl) ?_
  intro κ C R
  refine g_pc (pc' := 0) rfl ?_
  refine g_seg [(0, .iload_n 1, 1)] 1 [(0, .ref (ad 3 i)), (1, .int w)] [.int w] C (by decide +kernel) rfl ?_
  by_cases hw0 : w = 0
  · subst hw0
    refine g_tableIn (pc := 1) (dflt := 51) (lo := 0) (hi := 3) (offs := #[31, 36, 41, 46]) (len := 31) (off := 31) 32 C (by decide +kernel) (by decide) (by decide) (by decide) (by decide) ?_
    refine g_seg [(32, .aload_n 0, 1)] 33 [(0, .ref (ad 3 i)), (1, .int 0)] [.ref (ad 3 i)] C (by decide +kernel) rfl ?_
    refine g_getf (pc := 33) (k := 0) (v := .int (Cu i 0)) C fl_X4_238 (h.2.1.2.2.1 i hi) rfl (by decide +kernel) ?_
    exact g_iret (pc := 36) C R (⟨_, rfl, rfl, by first | rfl | (simp [s_toldC]; done)⟩) (Nat.le_of_ble_eq_true rfl) (Nat.le_of_ble_eq_true rfl) (by decide +kernel)
  by_cases hw1 : w = 1
  · subst hw1
    refine g_tableIn (pc := 1) (dflt := 51) (lo := 0) (hi := 3) (offs := #[31, 36, 41, 46]) (len := 31) (off := 36) 37 C (by decide +kernel) (by decide) (by decide) (by decide) (by decide) ?_
    refine g_seg [(37, .aload_n 0, 1)] 38 [(0, .ref (ad 3 i)), (1, .int 1)] [.ref (ad 3 i)] C (by decide +kernel) rfl ?_
    refine g_getf (pc := 38) (k := 1) (v := .int (Cu i 1)) C fl_X4_239 (h.2.1.2.2.1 i hi) rfl (by decide +kernel) ?_
    exact g_iret (pc := 41) C R (⟨_, rfl, rfl, by first | rfl | (simp [s_toldC]; done)⟩) (Nat.le_of_ble_eq_true rfl) (Nat.le_of_ble_eq_true rfl) (by decide +kernel)
  by_cases hw2 : w = 2
  · subst hw2
    refine g_tableIn (pc := 1) (dflt := 51) (lo := 0) (hi := 3) (offs := #[31, 36, 41, 46]) (len := 31) (off := 41) 42 C (by decide +kernel) (by decide) (by decide) (by decide) (by decide) ?_
    refine g_seg [(42, .aload_n 0, 1)] 43 [(0, .ref (ad 3 i)), (1, .int 2)] [.ref (ad 3 i)] C (by decide +kernel) rfl ?_
    refine g_getf (pc := 43) (k := 2) (v := .int (Cu i 2)) C fl_X4_242 (h.2.1.2.2.1 i hi) rfl (by decide +kernel) ?_
    exact g_iret (pc := 46) C R (⟨_, rfl, rfl, by first | rfl | (simp [s_toldC]; done)⟩) (Nat.le_of_ble_eq_true rfl) (Nat.le_of_ble_eq_true rfl) (by decide +kernel)
  by_cases hw3 : w = 3
  · subst hw3
    refine g_tableIn (pc := 1) (dflt := 51) (lo := 0) (hi := 3) (offs := #[31, 36, 41, 46]) (len := 31) (off := 46) 47 C (by decide +kernel) (by decide) (by decide) (by decide) (by decide) ?_
    refine g_seg [(47, .aload_n 0, 1)] 48 [(0, .ref (ad 3 i)), (1, .int 3)] [.ref (ad 3 i)] C (by decide +kernel) rfl ?_
    refine g_getf (pc := 48) (k := 3) (v := .int (Cu i 3)) C fl_X4_245 (h.2.1.2.2.1 i hi) rfl (by decide +kernel) ?_
    exact g_iret (pc := 51) C R (⟨_, rfl, rfl, by first | rfl | (simp [s_toldC]; done)⟩) (Nat.le_of_ble_eq_true rfl) (Nat.le_of_ble_eq_true rfl) (by decide +kernel)
  refine g_tableOut (pc := 1) (dflt := 51) (lo := 0) (hi := 3) (offs := #[31, 36, 41, 46]) (len := 31) 52 C (by decide +kernel) (by have a0 := ti_ne hw0; rw [show (0 : Int32).toInt = 0 by decide] at a0; have a1 := ti_ne hw1; rw [show (1 : Int32).toInt = 1 by decide] at a1; have a2 := ti_ne hw2; rw [show (2 : Int32).toInt = 2 by decide] at a2; have a3 := ti_ne hw3; rw [show (3 : Int32).toInt = 3 by decide] at a3; omega) (by decide) ?_
  refine g_seg [(52, .aload_n 0, 1)] 53 [(0, .ref (ad 3 i)), (1, .int w)] [.ref (ad 3 i)] C (by decide +kernel) rfl ?_
  refine g_getf (pc := 53) (k := 4) (v := .int (Cu i 4)) C fl_X4_248 (h.2.1.2.2.1 i hi) rfl (by decide +kernel) ?_
  exact g_iret (pc := 56) C R (⟨_, rfl, rfl, by first | rfl | (simp [s_toldC, hw0, hw1, hw2, hw3]; done)⟩) (Nat.le_of_ble_eq_true rfl) (Nat.le_of_ble_eq_true rfl) (by decide +kernel)
set_option maxHeartbeats 4000000 in
set_option maxRecDepth 100000 in
theorem c_X4_tally (l : Launch) (D : va_G) (cy : Nat → ClassId) {G : GG} {x : Nat} {ad : Nat → Nat → Nat} {b : Int32} {nt nf nc nn : Nat} {T E Cu N KT KF KC : Rw} (h : RX cy x ad b nt nf nc nn T E Cu N KT KF KC G) (w : Int32) : Ctr l D cy yX4_tally prog_1_method_31_code 2 (some .int) kX4_tally [.ref x, .int w] G (pI (fun v G' => G' = G ∧ v = s_countX b nt nf nc T E Cu w)) := by
  refine Ctr.mk (by decide +kernel) (Nat.le_of_ble_eq_true rfl) ?_
  intro κ C R
  refine g_pc (pc' := 0) rfl ?_
  refine g_seg [(0, .iload_n 1, 1)] 1 [(0, .ref x), (1, .int w)] [.int w] C (by decide +kernel) rfl ?_
  by_cases hw0 : w = 0
  · subst hw0
    refine g_tableIn (pc := 1) (dflt := 91) (lo := 0) (hi := 7) (offs := #[47, 52, 57, 62, 67, 73, 79, 85]) (len := 47) (off := 47) 48 C (by decide +kernel) (by decide) (by decide) (by decide) (by decide) ?_
    refine g_seg [(48, .aload_n 0, 1)] 49 [(0, .ref x), (1, .int 0)] [.ref x] C (by decide +kernel) rfl ?_
    refine g_getf (pc := 49) (k := 8) (v := .int b) C fl_X4_53 (h.1.1) rfl (by decide +kernel) ?_
    exact g_iret (pc := 52) C R (⟨_, rfl, rfl, by first | rfl | (simp [s_countX]; done)⟩) (Nat.le_of_ble_eq_true rfl) (Nat.le_of_ble_eq_true rfl) (by decide +kernel)
  by_cases hw1 : w = 1
  · subst hw1
    refine g_tableIn (pc := 1) (dflt := 91) (lo := 0) (hi := 7) (offs := #[47, 52, 57, 62, 67, 73, 79, 85]) (len := 47) (off := 52) 53 C (by decide +kernel) (by decide) (by decide) (by decide) (by decide) ?_
    refine g_seg [(53, .aload_n 0, 1)] 54 [(0, .ref x), (1, .int 1)] [.ref x] C (by decide +kernel) rfl ?_
    refine g_getf (pc := 54) (k := 4) (v := .int (nI nt)) C fl_X4_44 (h.1.1) rfl (by decide +kernel) ?_
    exact g_iret (pc := 57) C R (⟨_, rfl, rfl, by first | rfl | (simp [s_countX]; done)⟩) (Nat.le_of_ble_eq_true rfl) (Nat.le_of_ble_eq_true rfl) (by decide +kernel)
  by_cases hw2 : w = 2
  · subst hw2
    refine g_tableIn (pc := 1) (dflt := 91) (lo := 0) (hi := 7) (offs := #[47, 52, 57, 62, 67, 73, 79, 85]) (len := 47) (off := 57) 58 C (by decide +kernel) (by decide) (by decide) (by decide) (by decide) ?_
    refine g_seg [(58, .aload_n 0, 1)] 59 [(0, .ref x), (1, .int 2)] [.ref x] C (by decide +kernel) rfl ?_
    refine g_callV (pc := 59) C mV_X4_wholeTrapezes q213 (h.1.1) rfl rfl (c_X4_wholeTrapezes l D cy h) rfl ⟨⟨Nat.le_of_ble_eq_true rfl, Nat.le_of_ble_eq_true rfl⟩, Nat.le_of_ble_eq_true rfl, Nat.le_of_ble_eq_true rfl⟩ rfl (Nat.le_of_ble_eq_true rfl) (by decide +kernel) ?_
    refine g_kI (fun v3 G2 hp1 => ?_)
    obtain ⟨rfl, rfl⟩ := hp1
    exact g_iret (pc := 62) C R (⟨_, rfl, rfl, by first | rfl | (simp [s_countX]; done)⟩) (Nat.le_of_ble_eq_true rfl) (Nat.le_of_ble_eq_true rfl) (by decide +kernel)
  by_cases hw3 : w = 3
  · subst hw3
    refine g_tableIn (pc := 1) (dflt := 91) (lo := 0) (hi := 7) (offs := #[47, 52, 57, 62, 67, 73, 79, 85]) (len := 47) (off := 62) 63 C (by decide +kernel) (by decide) (by decide) (by decide) (by decide) ?_
    refine g_seg [(63, .aload_n 0, 1)] 64 [(0, .ref x), (1, .int 3)] [.ref x] C (by decide +kernel) rfl ?_
    refine g_getf (pc := 64) (k := 5) (v := .int (nI nf)) C fl_X4_98 (h.1.1) rfl (by decide +kernel) ?_
    exact g_iret (pc := 67) C R (⟨_, rfl, rfl, by first | rfl | (simp [s_countX]; done)⟩) (Nat.le_of_ble_eq_true rfl) (Nat.le_of_ble_eq_true rfl) (by decide +kernel)
  by_cases hw4 : w = 4
  · subst hw4
    refine g_tableIn (pc := 1) (dflt := 91) (lo := 0) (hi := 7) (offs := #[47, 52, 57, 62, 67, 73, 79, 85]) (len := 47) (off := 67) 68 C (by decide +kernel) (by decide) (by decide) (by decide) (by decide) ?_
    refine g_seg [(68, .aload_n 0, 1), (69, .iconst 1, 1)] 70 [(0, .ref x), (1, .int 4)] [.int 1, .ref x] C (by decide +kernel) rfl ?_
    refine g_callV (pc := 70) C mV_X4_flyersWhoAre q217 (h.1.1) rfl rfl (c_X4_flyersWhoAre l D cy h 1) rfl ⟨⟨Nat.le_of_ble_eq_true rfl, Nat.le_of_ble_eq_true rfl⟩, Nat.le_of_ble_eq_true rfl, Nat.le_of_ble_eq_true rfl⟩ rfl (Nat.le_of_ble_eq_true rfl) (by decide +kernel) ?_
    refine g_kI (fun v6 G5 hp4 => ?_)
    obtain ⟨rfl, rfl⟩ := hp4
    exact g_iret (pc := 73) C R (⟨_, rfl, rfl, by first | rfl | (simp [s_countX]; done)⟩) (Nat.le_of_ble_eq_true rfl) (Nat.le_of_ble_eq_true rfl) (by decide +kernel)
  by_cases hw5 : w = 5
  · subst hw5
    refine g_tableIn (pc := 1) (dflt := 91) (lo := 0) (hi := 7) (offs := #[47, 52, 57, 62, 67, 73, 79, 85]) (len := 47) (off := 73) 74 C (by decide +kernel) (by decide) (by decide) (by decide) (by decide) ?_
    refine g_seg [(74, .aload_n 0, 1), (75, .iconst 2, 1)] 76 [(0, .ref x), (1, .int 5)] [.int 2, .ref x] C (by decide +kernel) rfl ?_
    refine g_callV (pc := 76) C mV_X4_flyersWhoAre q217 (h.1.1) rfl rfl (c_X4_flyersWhoAre l D cy h 2) rfl ⟨⟨Nat.le_of_ble_eq_true rfl, Nat.le_of_ble_eq_true rfl⟩, Nat.le_of_ble_eq_true rfl, Nat.le_of_ble_eq_true rfl⟩ rfl (Nat.le_of_ble_eq_true rfl) (by decide +kernel) ?_
    refine g_kI (fun v9 G8 hp7 => ?_)
    obtain ⟨rfl, rfl⟩ := hp7
    exact g_iret (pc := 79) C R (⟨_, rfl, rfl, by first | rfl | (simp [s_countX]; done)⟩) (Nat.le_of_ble_eq_true rfl) (Nat.le_of_ble_eq_true rfl) (by decide +kernel)
  by_cases hw6 : w = 6
  · subst hw6
    refine g_tableIn (pc := 1) (dflt := 91) (lo := 0) (hi := 7) (offs := #[47, 52, 57, 62, 67, 73, 79, 85]) (len := 47) (off := 79) 80 C (by decide +kernel) (by decide) (by decide) (by decide) (by decide) ?_
    refine g_seg [(80, .aload_n 0, 1), (81, .iconst 3, 1)] 82 [(0, .ref x), (1, .int 6)] [.int 3, .ref x] C (by decide +kernel) rfl ?_
    refine g_callV (pc := 82) C mV_X4_flyersWhoAre q217 (h.1.1) rfl rfl (c_X4_flyersWhoAre l D cy h 3) rfl ⟨⟨Nat.le_of_ble_eq_true rfl, Nat.le_of_ble_eq_true rfl⟩, Nat.le_of_ble_eq_true rfl, Nat.le_of_ble_eq_true rfl⟩ rfl (Nat.le_of_ble_eq_true rfl) (by decide +kernel) ?_
    refine g_kI (fun v12 G11 hp10 => ?_)
    obtain ⟨rfl, rfl⟩ := hp10
    exact g_iret (pc := 85) C R (⟨_, rfl, rfl, by first | rfl | (simp [s_countX]; done)⟩) (Nat.le_of_ble_eq_true rfl) (Nat.le_of_ble_eq_true rfl) (by decide +kernel)
  by_cases hw7 : w = 7
  · subst hw7
    refine g_tableIn (pc := 1) (dflt := 91) (lo := 0) (hi := 7) (offs := #[47, 52, 57, 62, 67, 73, 79, 85]) (len := 47) (off := 85) 86 C (by decide +kernel) (by decide) (by decide) (by decide) (by decide) ?_
    refine g_seg [(86, .aload_n 0, 1), (87, .iconst 4, 1)] 88 [(0, .ref x), (1, .int 7)] [.int 4, .ref x] C (by decide +kernel) rfl ?_
    refine g_callV (pc := 88) C mV_X4_flyersWhoAre q217 (h.1.1) rfl rfl (c_X4_flyersWhoAre l D cy h 4) rfl ⟨⟨Nat.le_of_ble_eq_true rfl, Nat.le_of_ble_eq_true rfl⟩, Nat.le_of_ble_eq_true rfl, Nat.le_of_ble_eq_true rfl⟩ rfl (Nat.le_of_ble_eq_true rfl) (by decide +kernel) ?_
    refine g_kI (fun v15 G14 hp13 => ?_)
    obtain ⟨rfl, rfl⟩ := hp13
    exact g_iret (pc := 91) C R (⟨_, rfl, rfl, by first | rfl | (simp [s_countX]; done)⟩) (Nat.le_of_ble_eq_true rfl) (Nat.le_of_ble_eq_true rfl) (by decide +kernel)
  refine g_tableOut (pc := 1) (dflt := 91) (lo := 0) (hi := 7) (offs := #[47, 52, 57, 62, 67, 73, 79, 85]) (len := 47) 92 C (by decide +kernel) (by have a0 := ti_ne hw0; rw [show (0 : Int32).toInt = 0 by decide] at a0; have a1 := ti_ne hw1; rw [show (1 : Int32).toInt = 1 by decide] at a1; have a2 := ti_ne hw2; rw [show (2 : Int32).toInt = 2 by decide] at a2; have a3 := ti_ne hw3; rw [show (3 : Int32).toInt = 3 by decide] at a3; have a4 := ti_ne hw4; rw [show (4 : Int32).toInt = 4 by decide] at a4; have a5 := ti_ne hw5; rw [show (5 : Int32).toInt = 5 by decide] at a5; have a6 := ti_ne hw6; rw [show (6 : Int32).toInt = 6 by decide] at a6; have a7 := ti_ne hw7; rw [show (7 : Int32).toInt = 7 by decide] at a7; omega) (by decide) ?_
  refine g_seg [(92, .aload_n 0, 1)] 93 [(0, .ref x), (1, .int w)] [.ref x] C (by decide +kernel) rfl ?_
  refine g_callV (pc := 93) C mV_X4_openCues q221 (h.1.1) rfl rfl (c_X4_openCues l D cy h) rfl ⟨⟨Nat.le_of_ble_eq_true rfl, Nat.le_of_ble_eq_true rfl⟩, Nat.le_of_ble_eq_true rfl, Nat.le_of_ble_eq_true rfl⟩ rfl (Nat.le_of_ble_eq_true rfl) (by decide +kernel) ?_
  refine g_kI (fun v18 G17 hp16 => ?_)
  obtain ⟨rfl, rfl⟩ := hp16
  exact g_iret (pc := 96) C R (⟨_, rfl, rfl, by first | rfl | (simp [s_countX, hw0, hw1, hw2, hw3, hw4, hw5, hw6, hw7]; done)⟩) (Nat.le_of_ble_eq_true rfl) (Nat.le_of_ble_eq_true rfl) (by decide +kernel)



set_option maxHeartbeats 4000000 in
set_option maxRecDepth 100000 in
theorem c_X4_catcherAt (l : Launch) (D : va_G) (cy : Nat → ClassId) {G : GG} {x : Nat} {ad : Nat → Nat → Nat} {b : Int32} {nt nf nc nn : Nat} {T E Cu N KT KF KC : Rw} (h : RX cy x ad b nt nf nc nn T E Cu N KT KF KC G) (hwok : s_wok T nt) (p0 : Int32) : Ctr l D cy yX4_catcherAt prog_1_method_42_code 4 (some .int) kX4_catcherAt [.ref x, .int p0] G (pI (fun v G' => G' = G ∧ ((∃ t, fst (s_freeX T E nf b p0) nt = some t ∧ v = nI t) ∨ (fst (s_freeX T E nf b p0) nt = none ∧ v = -1)))) := by
  refine Ctr.mk (by decide +kernel) (Nat.le_of_ble_eq_true rfl) ?_
  intro κ C R
  refine g_pc (pc' := 0) rfl ?_
  refine g_seg [(0, .iconst 0, 1), (1, .istore_n 2, 1)] 2 [(2, .int 0), (0, .ref x), (1, .int p0)] [] C (by decide +kernel) rfl ?_
  refine g_subp [1, 2, 0] (lv' := [(0, .ref x), (1, .int p0), (2, .int 0)]) rfl ?_
  have lp1 : ∀ (m k : Nat) (xk : Int32), 6 + 1 ≤ k + m → k ≤ 6 → xk = nI k → (∀ t, t < k → t < nt → s_freeX T E nf b p0 t = false) → PG κ 4 0 0 G [(0, .ref x), (1, .int p0), (2, .int xk)] 2 [] := by
    intro m
    induction m with
    | zero => intro k xk h1 h2; intros; exact absurd h1 (by omega)
    | succ m ih =>
      intro k xk hm hk hx hs
      refine g_seg [(2, .iload_n 2, 1), (3, .aload_n 0, 1)] 4 [(0, .ref x), (1, .int p0), (2, .int xk)] [.ref x, .int xk] C (by decide +kernel) rfl ?_
      refine g_getf (pc := 4) (k := 0) (v := .ref (ad 0 0)) C fl_X4_11 (h.1.1) rfl (by decide +kernel) ?_
      refine g_alenA (pc := 7) (len := 6) (t0 := 1) C (h.1.2.1) rfl (by decide +kernel) ?_
      refine g_icmp_ge (pc := 8) (off := 53) 61 C (by decide +kernel) (by decide) (fun c2 => ?_) (fun c2 => ?_)
      · have hk8 : k = 6 := by have := lp_ge hx (by omega) (by decide) c2; omega
        refine g_seg [(61, .iconst (-1), 1)] 62 [(0, .ref x), (1, .int p0), (2, .int xk)] [.int (-1)] C (by decide +kernel) rfl ?_
        exact g_iret (pc := 62) C R (⟨_, rfl, rfl, Or.inr ⟨fst_none (fun t ht => hs t (by have := h.2.2.2.1; omega) ht), rfl⟩⟩) (Nat.le_of_ble_eq_true rfl) (Nat.le_of_ble_eq_true rfl) (by decide +kernel)
      · have hk8 : k < 6 := by have := lp_lt hx (by omega) (by decide) c2; omega
        refine g_seg [(11, .aload_n 0, 1)] 12 [(0, .ref x), (1, .int p0), (2, .int xk)] [.ref x] C (by decide +kernel) rfl ?_
        refine g_getf (pc := 12) (k := 0) (v := .ref (ad 0 0)) C fl_X4_11 (h.1.1) rfl (by decide +kernel) ?_
        refine g_seg [(15, .iload_n 2, 1)] 16 [(0, .ref x), (1, .int p0), (2, .int xk)] [.int xk, .ref (ad 0 0)] C (by decide +kernel) rfl ?_
        refine g_aaldA (pc := 16) (len := 6) (t0 := 1) (j := k) C (h.1.2.1) rfl (hx) (hk8) (by decide) (by decide +kernel) (fun hi3 => ?_) (fun hi3 => ?_)
        · refine g_seg [(17, .astore_n 3, 1), (18, .aload_n 3, 1)] 19 [(3, .ref (ad 1 k)), (0, .ref x), (1, .int p0), (2, .int xk)] [.ref (ad 1 k)] C (by decide +kernel) rfl ?_
          refine g_ifnull (pc := 19) (off := 36) C (by decide +kernel) ?_
          refine g_seg [(22, .aload_n 3, 1)] 23 [(3, .ref (ad 1 k)), (0, .ref x), (1, .int p0), (2, .int xk)] [.ref (ad 1 k)] C (by decide +kernel) rfl ?_
          refine g_getf (pc := 23) (k := 6) (v := .int (T k 5)) C fl_X4_70 (h.2.1.1 k hi3) rfl (by decide +kernel) ?_
          refine g_if_eq (pc := 26) (off := 29) 55 C (by decide +kernel) (by decide) (fun c4 => ?_) (fun c4 => ?_)
          · refine g_seg [(55, .iinc 2 1, 3), (58, .goto (-56), 3)] 2 [(2, .int (xk + 1)), (3, .ref (ad 1 k)), (0, .ref x), (1, .int p0)] [] C (by decide +kernel) rfl ?_
            refine g_subp [2, 3, 0] (lv' := [(0, .ref x), (1, .int p0), (2, .int (xk + 1))]) rfl ?_
            exact ih (k + 1) (xk + 1) (by omega) (by omega) (lp_s hx) (no_f hs (by simp [s_freeX, c4]))
          · refine g_seg [(29, .aload_n 3, 1), (30, .aload_n 0, 1)] 31 [(3, .ref (ad 1 k)), (0, .ref x), (1, .int p0), (2, .int xk)] [.ref x, .ref (ad 1 k)] C (by decide +kernel) rfl ?_
            refine g_getf (pc := 31) (k := 8) (v := .int b) C fl_X4_53 (h.1.1) rfl (by decide +kernel) ?_
            refine g_callV (pc := 34) C mV_X3_placeIn q161 (h.2.1.1 k hi3) rfl rfl (c_X3_placeIn l D cy G (ad 1 k) (T k 0) (T k 1) (T k 3) (T k 2) (T k 6) (T k 4) (T k 5) (KT k 0) (KT k 1) (h.2.1.1 k hi3) b (hwok k hi3)) rfl ⟨⟨Nat.le_of_ble_eq_true rfl, Nat.le_of_ble_eq_true rfl⟩, Nat.le_of_ble_eq_true rfl, Nat.le_of_ble_eq_true rfl⟩ rfl (Nat.le_of_ble_eq_true rfl) (by decide +kernel) ?_
            refine g_kI (fun v7 G6 hp5 => ?_)
            obtain ⟨rfl, rfl⟩ := hp5
            refine g_seg [(37, .iload_n 1, 1)] 38 [(3, .ref (ad 1 k)), (0, .ref x), (1, .int p0), (2, .int xk)] [.int p0, .int (s_pl (T k 0) (T k 1) (T k 2) (b - (T k 6)))] C (by decide +kernel) rfl ?_
            refine g_callS (pc := 38) C mS_X4_isNear q279 (c_X4_isNear l D cy G6 (s_pl (T k 0) (T k 1) (T k 2) (b - (T k 6))) p0) rfl ⟨⟨Nat.le_of_ble_eq_true rfl, Nat.le_of_ble_eq_true rfl⟩, Nat.le_of_ble_eq_true rfl, Nat.le_of_ble_eq_true rfl⟩ rfl (Nat.le_of_ble_eq_true rfl) (by decide +kernel) ?_
            refine g_kI (fun v10 G9 hp8 => ?_)
            obtain ⟨rfl, hp8⟩ := hp8
            rcases hp8 with ⟨rfl, h11⟩ | ⟨rfl, h11⟩
            · refine g_if_eq (pc := 41) (off := 14) 55 C (by decide +kernel) (by decide) (fun c9 => absurd c9 (by decide)) (fun _ => ?_)
              refine g_seg [(44, .aload_n 0, 1), (45, .iload_n 2, 1)] 46 [(3, .ref (ad 1 k)), (0, .ref x), (1, .int p0), (2, .int xk)] [.int xk, .ref x] C (by decide +kernel) rfl ?_
              refine g_callV (pc := 46) C mV_X4_hangersOf q175 (h.1.1) rfl rfl (c_X4_hangersOf l D cy h xk) rfl ⟨⟨Nat.le_of_ble_eq_true rfl, Nat.le_of_ble_eq_true rfl⟩, Nat.le_of_ble_eq_true rfl, Nat.le_of_ble_eq_true rfl⟩ rfl (Nat.le_of_ble_eq_true rfl) (by decide +kernel) ?_
              refine g_kI (fun v14 G13 hp12 => ?_)
              obtain ⟨rfl, rfl⟩ := hp12
              refine g_seg [(49, .iconst 2, 1)] 50 [(3, .ref (ad 1 k)), (0, .ref x), (1, .int p0), (2, .int xk)] [.int 2, .int (nI (s_hangE E nf xk))] C (by decide +kernel) rfl ?_
              refine g_icmp_ge (pc := 50) (off := 5) 55 C (by decide +kernel) (by decide) (fun c15 => ?_) (fun c15 => ?_)
              · refine g_seg [(55, .iinc 2 1, 3), (58, .goto (-56), 3)] 2 [(2, .int (xk + 1)), (3, .ref (ad 1 k)), (0, .ref x), (1, .int p0)] [] C (by decide +kernel) rfl ?_
                refine g_subp [2, 3, 0] (lv' := [(0, .ref x), (1, .int p0), (2, .int (xk + 1))]) rfl ?_
                exact ih (k + 1) (xk + 1) (by omega) (by omega) (lp_s hx) (no_f hs (by have e9 : ¬ s_hangE E nf (nI k) < 2 := ge2 (by rw [← hx]; exact c15) (hangE_lt (E := E) (t := nI k) (h.2.2.2.2.1)); simp [s_freeX, e9]))
              · refine g_seg [(53, .iload_n 2, 1)] 54 [(3, .ref (ad 1 k)), (0, .ref x), (1, .int p0), (2, .int xk)] [.int xk] C (by decide +kernel) rfl ?_
                exact g_iret (pc := 54) C R (⟨_, rfl, rfl, Or.inl ⟨k, fst_some hi3 (by have e8 : s_near (s_at T k b) p0 = true := h11; have e9 : s_hangE E nf (nI k) < 2 := lt2 (by rw [← hx]; exact c15) (hangE_lt (E := E) (t := nI k) (h.2.2.2.2.1)); simp [s_freeX, e8, e9, c4]) (fun u hu => hs u hu (by omega)), hx⟩⟩) (Nat.le_of_ble_eq_true rfl) (Nat.le_of_ble_eq_true rfl) (by decide +kernel)
            · refine g_if_eq (pc := 41) (off := 14) 55 C (by decide +kernel) (by decide) (fun _ => ?_) (fun c9 => absurd (by decide) c9)
              refine g_seg [(55, .iinc 2 1, 3), (58, .goto (-56), 3)] 2 [(2, .int (xk + 1)), (3, .ref (ad 1 k)), (0, .ref x), (1, .int p0)] [] C (by decide +kernel) rfl ?_
              refine g_subp [2, 3, 0] (lv' := [(0, .ref x), (1, .int p0), (2, .int (xk + 1))]) rfl ?_
              exact ih (k + 1) (xk + 1) (by omega) (by omega) (lp_s hx) (no_f hs (by have e9 : s_near (s_at T k b) p0 = false := h11; simp [s_freeX, e9]))
        · refine g_seg [(17, .astore_n 3, 1), (18, .aload_n 3, 1)] 19 [(3, .null), (0, .ref x), (1, .int p0), (2, .int xk)] [.null] C (by decide +kernel) rfl ?_
          refine g_ifnullN (pc := 19) (off := 36) 55 C (by decide +kernel) (by decide) ?_
          refine g_seg [(55, .iinc 2 1, 3), (58, .goto (-56), 3)] 2 [(2, .int (xk + 1)), (3, .null), (0, .ref x), (1, .int p0)] [] C (by decide +kernel) rfl ?_
          refine g_subp [2, 3, 0] (lv' := [(0, .ref x), (1, .int p0), (2, .int (xk + 1))]) rfl ?_
          exact ih (k + 1) (xk + 1) (by omega) (by omega) (lp_s hx) (no_n hs hi3)
  exact lp1 (6 + 1) 0 0 (by omega) (by omega) (nI_0.symm) (fun t h1 => absurd h1 (by omega))
end
section
/-! what the class's beat does, word by word -/
def x_st (E : Rw) (f : Nat) (a n : Int32) : Rw := fun i k => if i = f then (match k with | 0 => a | 1 => n | _ => E f k) else E i k
def ixo (n : Nat) (v : Int32) : Option Nat := fst (fun i => decide (v = nI i)) n
theorem ixo_some {n i : Nat} {v : Int32} (hn : n ≤ 1000) (hi : i < n) (hv : v = nI i) : ixo n v = some i := by
  refine fst_some hi (by simp [hv]) (fun u hu => ?_)
  rw [decide_eq_false_iff_not]
  intro e
  have := (nI_eq (a := i) (b := u) (by omega) (by omega)).mp (hv.symm.trans e)
  omega
theorem ixo_none {n : Nat} {v : Int32} (h : ∀ i, i < n → v ≠ nI i) : ixo n v = none := fst_none (fun t ht => by simp [h t ht])
def x_go (T E Cu : Rw) (nt nf : Nat) (b : Int32) (k : Nat) : Option Rw :=
  match ixo nf (Cu k 1) with
  | none => none
  | some f => match ixo nt (E f 1) with
    | none => none
    | some t => some (s_row E f 2 (-1) (s_at T t b + Cu k 2) (b + Cu k 3))
def x_cue (T : Rw) (nt nf : Nat) (b : Int32) (k : Nat) (EC : Rw × Rw) : Rw × Rw :=
  if EC.2 k 0 = b then
    (match x_go T EC.1 EC.2 nt nf b k with
    | some E' => (E', s_set EC.2 k 4 1)
    | none => (EC.1, s_set EC.2 k 4 2))
  else EC
def x_fallc (N : Rw) (nn : Nat) (x : Int32) : Int32 := if s_net N nn x = true then 3 else 4
def x_land (N : Rw) (nn : Nat) (T : Rw) (nt nf : Nat) (b : Int32) (f : Nat) (EK : Rw × Int32) : Rw × Int32 :=
  if EK.1 f 0 = 2 ∧ EK.1 f 3 = b then
    (match fst (s_freeX T EK.1 nf b (EK.1 f 2)) nt with
    | some t => (s_set (x_st EK.1 f 1 (nI t)) f 4 (EK.1 f 4 + 1), EK.2 + 1)
    | none => (x_st EK.1 f (x_fallc N nn (EK.1 f 2)) (-1), EK.2))
  else EK
def x_drop (N : Rw) (nn : Nat) (n x : Int32) (f : Nat) (E : Rw) : Rw := if E f 0 = 1 ∧ E f 1 = n then x_st E f (x_fallc N nn x) (-1) else E
def x_wr (T E : Rw) (nf t : Nat) : Rw := s_set (s_set T t 4 (T t 4 + nI (s_hangE E nf (nI t)))) t 5 (if T t 4 + nI (s_hangE E nf (nI t)) ≤ T t 3 then 1 else 0)
def x_wear (N : Rw) (nn nf : Nat) (b : Int32) (t : Nat) (TE : Rw × Rw) : Rw × Rw :=
  if ¬ TE.1 t 5 = 0 ∧ s_p (TE.1 t 2) (b - TE.1 t 6) = 0 then
    (if x_wr TE.1 TE.2 nf t t 5 = 0 then (x_wr TE.1 TE.2 nf t, its (x_drop N nn (nI t) (s_at (x_wr TE.1 TE.2 nf t) t b)) TE.2 nf) else (x_wr TE.1 TE.2 nf t, TE.2))
  else TE
/-- beat, trapezes, flyers, cues, catches -/
abbrev Xb : Type := Int32 × Rw × Rw × Rw × Int32
def x_beat (N : Rw) (nn nt nf nc : Nat) (S : Xb) : Xb :=
  let EC := its (x_cue S.2.1 nt nf S.1) (S.2.2.1, S.2.2.2.1) nc
  let EK := its (x_land N nn S.2.1 nt nf S.1) (EC.1, 0) nf
  let TE := its (x_wear N nn nf S.1) (S.2.1, EK.1) nt
  (S.1 + 1, TE.1, TE.2, EC.2, S.2.2.2.2 + EK.2)
def x_beats (N : Rw) (nn nt nf nc : Nat) (S : Xb) (n : Nat) : Xb := its (fun _ S => x_beat N nn nt nf nc S) S n
def mixR (A B : Rw) (k : Nat) : Rw := fun i => if i < k then A i else B i
def kT (T : Rw) : Rw := fun i k => if k = 0 then T i 4 else T i 5
def kC (C : Rw) : Rw := fun i _ => C i 4
def tT (T KT : Rw) : Rw := fun i k => if k = 4 then KT i 0 else if k = 5 then KT i 1 else T i k
def tC (C KC : Rw) : Rw := fun i k => if k = 4 then KC i 0 else C i k
theorem wok_set {T : Rw} {nt t : Nat} {k : Nat} {v : Int32} (h : s_wok T nt) (hk : k ≠ 2) : s_wok (s_set T t k v) nt := by
  intro i hi
  obtain ⟨w, h1, h2⟩ := h i hi
  exact ⟨w, h1, by simp only [s_set]; rw [if_neg (by intro h9; exact hk h9.2.symm)]; exact h2⟩
theorem wok_wr {T E : Rw} {nt nf t : Nat} (h : s_wok T nt) : s_wok (x_wr T E nf t) nt := wok_set (wok_set h (by decide)) (by decide)
theorem nI_m1 {t : Nat} (h : t < 1000) : ¬ nI t = -1 := by
  intro e
  have h1 := congrArg Int32.toInt e
  rw [nI_toInt (by omega)] at h1
  have h2 : (-1 : Int32).toInt = -1 := by decide
  omega
theorem mix_c {α : Type} {j t : Nat} {A B : α} (h : j ≠ t) : (if j < t + 1 then A else B) = (if j < t then A else B) := by
  by_cases h1 : j < t
  · rw [if_pos h1, if_pos (by omega)]
  · rw [if_neg h1, if_neg (by omega)]
section RXU2
variable {cy : Nat → ClassId} {x : Nat} {ad : Nat → Nat → Nat} {b : Int32} {nt nf nc nn : Nat} {T E Cu N KT KF KC : Rw} {G : GG} {f k t : Nat}
theorem RXF_st {a n : Int32} (h : RX cy x ad b nt nf nc nn T E Cu N KT KF KC G) (hf : f < nf) : RX cy x ad b nt nf nc nn T (x_st E f a n) Cu N KT KF KC (g_up G (ad 2 f) (.inr (1, [.int a, .int n, .int (E f 2), .int (E f 3), .int (E f 4), .int (KF f 0), .int (KF f 1), .int (KF f 2), .int (KF f 3), .int (KF f 4)]))) := by
  have := RX.setF (E' := x_st E f a n) (KF' := KF) h hf (fun j hj hne => by simp [oF, x_st, hne])
  have e : oF (x_st E f a n) KF f = .inr (1, [.int a, .int n, .int (E f 2), .int (E f 3), .int (E f 4), .int (KF f 0), .int (KF f 1), .int (KF f 2), .int (KF f 3), .int (KF f 4)]) := by simp [oF, x_st]
  rw [e] at this; exact this
theorem RXF_fly {a c : Int32} (h : RX cy x ad b nt nf nc nn T E Cu N KT KF KC G) (hf : f < nf) : RX cy x ad b nt nf nc nn T (s_row E f 2 (-1) a c) Cu N KT KF KC (g_up G (ad 2 f) (.inr (1, [.int 2, .int (-1), .int a, .int c, .int (E f 4), .int (KF f 0), .int (KF f 1), .int (KF f 2), .int (KF f 3), .int (KF f 4)]))) := by
  have := RX.setF (E' := s_row E f 2 (-1) a c) (KF' := KF) h hf (fun j hj hne => by simp [oF, s_row, hne])
  have e : oF (s_row E f 2 (-1) a c) KF f = .inr (1, [.int 2, .int (-1), .int a, .int c, .int (E f 4), .int (KF f 0), .int (KF f 1), .int (KF f 2), .int (KF f 3), .int (KF f 4)]) := by simp [oF, s_row]
  rw [e] at this; exact this
theorem RXF_ca {v : Int32} (h : RX cy x ad b nt nf nc nn T E Cu N KT KF KC G) (hf : f < nf) : RX cy x ad b nt nf nc nn T (s_set E f 4 v) Cu N KT KF KC (g_up G (ad 2 f) (.inr (1, [.int (E f 0), .int (E f 1), .int (E f 2), .int (E f 3), .int v, .int (KF f 0), .int (KF f 1), .int (KF f 2), .int (KF f 3), .int (KF f 4)]))) := by
  have := RX.setF (E' := s_set E f 4 v) (KF' := KF) h hf (fun j hj hne => by simp [oF, s_set, hne])
  have e : oF (s_set E f 4 v) KF f = .inr (1, [.int (E f 0), .int (E f 1), .int (E f 2), .int (E f 3), .int v, .int (KF f 0), .int (KF f 1), .int (KF f 2), .int (KF f 3), .int (KF f 4)]) := by simp [oF, s_set]
  rw [e] at this; exact this
theorem RXC_st {v : Int32} (h : RX cy x ad b nt nf nc nn T E Cu N KT KF KC G) (hk : k < nc) : RX cy x ad b nt nf nc nn T E (s_set Cu k 4 v) N KT KF KC (g_up G (ad 3 k) (.inr (0, [.int (Cu k 0), .int (Cu k 1), .int (Cu k 2), .int (Cu k 3), .int v, .int (KC k 0)]))) := by
  have := RX.setC (C' := s_set Cu k 4 v) (KC' := KC) h hk (fun j hj hne => by simp [oC, s_set, hne])
  have e : oC (s_set Cu k 4 v) KC k = .inr (0, [.int (Cu k 0), .int (Cu k 1), .int (Cu k 2), .int (Cu k 3), .int v, .int (KC k 0)]) := by simp [oC, s_set]
  rw [e] at this; exact this
theorem RXT_wear (h : RX cy x ad b nt nf nc nn T E Cu N KT KF KC G) (ht : t < nt) : RX cy x ad b nt nf nc nn (x_wr T E nf t) E Cu N KT KF KC (g_up G (ad 1 t) (.inr (3, [.int (T t 0), .int (T t 1), .int (T t 3), .int (T t 2), .int (T t 6), .int (T t 4 + nI (s_hangE E nf (nI t))), .int (if T t 4 + nI (s_hangE E nf (nI t)) ≤ T t 3 then 1 else 0), .int (KT t 0), .int (KT t 1)]))) := by
  have := RX.setT (T' := x_wr T E nf t) (KT' := KT) h ht (fun j hj hne => by simp [oT, x_wr, s_set, hne])
  have e : oT (x_wr T E nf t) KT t = .inr (3, [.int (T t 0), .int (T t 1), .int (T t 3), .int (T t 2), .int (T t 6), .int (T t 4 + nI (s_hangE E nf (nI t))), .int (if T t 4 + nI (s_hangE E nf (nI t)) ≤ T t 3 then 1 else 0), .int (KT t 0), .int (KT t 1)]) := by simp [oT, x_wr, s_set]
  rw [e] at this; exact this
theorem RX.ext {T' E' C' KT' KF' KC' : Rw} (h : RX cy x ad b nt nf nc nn T E Cu N KT KF KC G) (h1 : ∀ i, i < nt → oT T' KT' i = oT T KT i) (h2 : ∀ i, i < nf → oF E' KF' i = oF E KF i) (h3 : ∀ i, i < nc → oC C' KC' i = oC Cu KC i) : RX cy x ad b nt nf nc nn T' E' C' N KT' KF' KC' G := by
  obtain ⟨a, ⟨k1, k2, k3, k4⟩, i, hb⟩ := h
  exact ⟨a, ⟨fun j hj => by rw [h1 j hj]; exact k1 j hj, fun j hj => by rw [h2 j hj]; exact k2 j hj, fun j hj => by rw [h3 j hj]; exact k3 j hj, k4⟩, i, hb⟩
theorem RX_keepT (h : RX cy x ad b nt nf nc nn T E Cu N (mixR (kT T) KT t) KF KC G) (ht : t < nt) : RX cy x ad b nt nf nc nn T E Cu N (mixR (kT T) KT (t + 1)) KF KC (g_up G (ad 1 t) (.inr (3, [.int (T t 0), .int (T t 1), .int (T t 3), .int (T t 2), .int (T t 6), .int (T t 4), .int (T t 5), .int (T t 4), .int (T t 5)]))) := by
  have := RX.setT (T' := T) (KT' := mixR (kT T) KT (t + 1)) h ht (fun j hj hne => by simp only [oT, mixR, mix_c hne])
  have e : oT T (mixR (kT T) KT (t + 1)) t = .inr (3, [.int (T t 0), .int (T t 1), .int (T t 3), .int (T t 2), .int (T t 6), .int (T t 4), .int (T t 5), .int (T t 4), .int (T t 5)]) := by simp [oT, mixR, kT]
  rw [e] at this; exact this
theorem RX_keepF (h : RX cy x ad b nt nf nc nn T E Cu N KT (mixR E KF f) KC G) (hf : f < nf) : RX cy x ad b nt nf nc nn T E Cu N KT (mixR E KF (f + 1)) KC (g_up G (ad 2 f) (.inr (1, [.int (E f 0), .int (E f 1), .int (E f 2), .int (E f 3), .int (E f 4), .int (E f 0), .int (E f 1), .int (E f 2), .int (E f 3), .int (E f 4)]))) := by
  have := RX.setF (E' := E) (KF' := mixR E KF (f + 1)) h hf (fun j hj hne => by simp only [oF, mixR, mix_c hne])
  have e : oF E (mixR E KF (f + 1)) f = .inr (1, [.int (E f 0), .int (E f 1), .int (E f 2), .int (E f 3), .int (E f 4), .int (E f 0), .int (E f 1), .int (E f 2), .int (E f 3), .int (E f 4)]) := by simp [oF, mixR]
  rw [e] at this; exact this
theorem RX_keepC (h : RX cy x ad b nt nf nc nn T E Cu N KT KF (mixR (kC Cu) KC k) G) (hk : k < nc) : RX cy x ad b nt nf nc nn T E Cu N KT KF (mixR (kC Cu) KC (k + 1)) (g_up G (ad 3 k) (.inr (0, [.int (Cu k 0), .int (Cu k 1), .int (Cu k 2), .int (Cu k 3), .int (Cu k 4), .int (Cu k 4)]))) := by
  have := RX.setC (C' := Cu) (KC' := mixR (kC Cu) KC (k + 1)) h hk (fun j hj hne => by simp only [oC, mixR, mix_c hne])
  have e : oC Cu (mixR (kC Cu) KC (k + 1)) k = .inr (0, [.int (Cu k 0), .int (Cu k 1), .int (Cu k 2), .int (Cu k 3), .int (Cu k 4), .int (Cu k 4)]) := by simp [oC, mixR, kC]
  rw [e] at this; exact this
theorem RX_backT (h : RX cy x ad b nt nf nc nn (mixR (tT T KT) T t) E Cu N KT KF KC G) (ht : t < nt) : RX cy x ad b nt nf nc nn (mixR (tT T KT) T (t + 1)) E Cu N KT KF KC (g_up G (ad 1 t) (.inr (3, [.int (mixR (tT T KT) T t t 0), .int (mixR (tT T KT) T t t 1), .int (mixR (tT T KT) T t t 3), .int (mixR (tT T KT) T t t 2), .int (mixR (tT T KT) T t t 6), .int (KT t 0), .int (KT t 1), .int (KT t 0), .int (KT t 1)]))) := by
  have := RX.setT (T' := mixR (tT T KT) T (t + 1)) (KT' := KT) h ht (fun j hj hne => by simp only [oT, mixR, mix_c hne])
  have e : oT (mixR (tT T KT) T (t + 1)) KT t = .inr (3, [.int (mixR (tT T KT) T t t 0), .int (mixR (tT T KT) T t t 1), .int (mixR (tT T KT) T t t 3), .int (mixR (tT T KT) T t t 2), .int (mixR (tT T KT) T t t 6), .int (KT t 0), .int (KT t 1), .int (KT t 0), .int (KT t 1)]) := by simp [oT, mixR, tT]
  rw [e] at this; exact this
theorem RX_backF (h : RX cy x ad b nt nf nc nn T (mixR KF E f) Cu N KT KF KC G) (hf : f < nf) : RX cy x ad b nt nf nc nn T (mixR KF E (f + 1)) Cu N KT KF KC (g_up G (ad 2 f) (.inr (1, [.int (KF f 0), .int (KF f 1), .int (KF f 2), .int (KF f 3), .int (KF f 4), .int (KF f 0), .int (KF f 1), .int (KF f 2), .int (KF f 3), .int (KF f 4)]))) := by
  have := RX.setF (E' := mixR KF E (f + 1)) (KF' := KF) h hf (fun j hj hne => by simp only [oF, mixR, mix_c hne])
  have e : oF (mixR KF E (f + 1)) KF f = .inr (1, [.int (KF f 0), .int (KF f 1), .int (KF f 2), .int (KF f 3), .int (KF f 4), .int (KF f 0), .int (KF f 1), .int (KF f 2), .int (KF f 3), .int (KF f 4)]) := by simp [oF, mixR]
  rw [e] at this; exact this
theorem RX_backC (h : RX cy x ad b nt nf nc nn T E (mixR (tC Cu KC) Cu k) N KT KF KC G) (hk : k < nc) : RX cy x ad b nt nf nc nn T E (mixR (tC Cu KC) Cu (k + 1)) N KT KF KC (g_up G (ad 3 k) (.inr (0, [.int (mixR (tC Cu KC) Cu k k 0), .int (mixR (tC Cu KC) Cu k k 1), .int (mixR (tC Cu KC) Cu k k 2), .int (mixR (tC Cu KC) Cu k k 3), .int (KC k 0), .int (KC k 0)]))) := by
  have := RX.setC (C' := mixR (tC Cu KC) Cu (k + 1)) (KC' := KC) h hk (fun j hj hne => by simp only [oC, mixR, mix_c hne])
  have e : oC (mixR (tC Cu KC) Cu (k + 1)) KC k = .inr (0, [.int (mixR (tC Cu KC) Cu k k 0), .int (mixR (tC Cu KC) Cu k k 1), .int (mixR (tC Cu KC) Cu k k 2), .int (mixR (tC Cu KC) Cu k k 3), .int (KC k 0), .int (KC k 0)]) := by simp [oC, mixR, tC]
  rw [e] at this; exact this
end RXU2
theorem mix0 (A B : Rw) : mixR A B 0 = B := by funext i; simp [mixR]
theorem mix_in {A B : Rw} {n i : Nat} (h : i < n) : mixR A B n i = A i := by simp [mixR, h]
section PGABS
variable {κ : Kx} {nL ce sl : Nat} {G : GG} {lv : LV} {pc : Nat} {st : List Value}
theorem g_abs {P : GG → Prop} (h : P G) (k : ∀ G', P G' → PG κ nL ce sl G' lv pc st) : PG κ nL ce sl G lv pc st := k G h
end PGABS
end
section
set_option maxHeartbeats 4000000 in
set_option maxRecDepth 100000 in
theorem c_X4_letGo (l : Launch) (D : va_G) (cy : Nat → ClassId) {G : GG} {x : Nat} {ad : Nat → Nat → Nat} {b : Int32} {nt nf nc nn : Nat} {T E Cu N KT KF KC : Rw} (h : RX cy x ad b nt nf nc nn T E Cu N KT KF KC G) (hwok : s_wok T nt) (k : Nat) (hk : k < nc) : Ctr l D cy yX4_letGo prog_1_method_40_code 4 (some .boolean) kX4_letGo [.ref x, .ref (ad 3 k)] G (pI (fun v G' => (v = 1 ∧ ∃ E', x_go T E Cu nt nf b k = some E' ∧ RX cy x ad b nt nf nc nn T E' Cu N KT KF KC G') ∨ (v = 0 ∧ x_go T E Cu nt nf b k = none ∧ RX cy x ad b nt nf nc nn T E Cu N KT KF KC G'))) := by
  refine Ctr.mk (by decide +kernel) (Nat.le_of_ble_eq_true rfl) ?_
  intro κ C R
  refine g_pc (pc' := 0) rfl ?_
  refine g_seg [(0, .aload_n 0, 1), (1, .aload_n 1, 1)] 2 [(0, .ref x), (1, .ref (ad 3 k))] [.ref (ad 3 k), .ref x] C (by decide +kernel) rfl ?_
  refine g_getf (pc := 2) (k := 1) (v := .int (Cu k 1)) C fl_X4_239 (h.2.1.2.2.1 k hk) rfl (by decide +kernel) ?_
  refine g_callV (pc := 5) C mV_X4_flyerNumbered q187 (h.1.1) rfl rfl (c_X4_flyerNumbered l D cy h (Cu k 1)) rfl ⟨⟨Nat.le_of_ble_eq_true rfl, Nat.le_of_ble_eq_true rfl⟩, Nat.le_of_ble_eq_true rfl, Nat.le_of_ble_eq_true rfl⟩ rfl (Nat.le_of_ble_eq_true rfl) (by decide +kernel) ?_
  refine g_kA (fun v3 G2 hp1 => ?_)
  obtain ⟨rfl, hp1⟩ := hp1
  rcases hp1 with ⟨i4, hi5, hn6, rfl⟩ | ⟨hn6, rfl⟩
  · refine g_seg [(8, .astore_n 2, 1), (9, .aload_n 2, 1)] 10 [(2, .ref (ad 2 i4)), (0, .ref x), (1, .ref (ad 3 k))] [.ref (ad 2 i4)] C (by decide +kernel) rfl ?_
    refine g_ifnonnull (pc := 10) (off := 5) 15 C (by decide +kernel) (by decide) ?_
    refine g_seg [(15, .aload_n 0, 1), (16, .aload_n 2, 1)] 17 [(2, .ref (ad 2 i4)), (0, .ref x), (1, .ref (ad 3 k))] [.ref (ad 2 i4), .ref x] C (by decide +kernel) rfl ?_
    refine g_getf (pc := 17) (k := 1) (v := .int (E i4 1)) C fl_X4_177 (h.2.1.2.1 i4 hi5) rfl (by decide +kernel) ?_
    refine g_callV (pc := 20) C mV_X4_trapezeNumbered q82 (h.1.1) rfl rfl (c_X4_trapezeNumbered l D cy h (E i4 1)) rfl ⟨⟨Nat.le_of_ble_eq_true rfl, Nat.le_of_ble_eq_true rfl⟩, Nat.le_of_ble_eq_true rfl, Nat.le_of_ble_eq_true rfl⟩ rfl (Nat.le_of_ble_eq_true rfl) (by decide +kernel) ?_
    refine g_kA (fun v9 G8 hp7 => ?_)
    obtain ⟨rfl, hp7⟩ := hp7
    rcases hp7 with ⟨i10, hi11, hn12, rfl⟩ | ⟨hn12, rfl⟩
    · refine g_seg [(23, .astore_n 3, 1), (24, .aload_n 3, 1)] 25 [(3, .ref (ad 1 i10)), (2, .ref (ad 2 i4)), (0, .ref x), (1, .ref (ad 3 k))] [.ref (ad 1 i10)] C (by decide +kernel) rfl ?_
      refine g_ifnonnull (pc := 25) (off := 5) 30 C (by decide +kernel) (by decide) ?_
      refine g_seg [(30, .aload_n 2, 1), (31, .aload_n 3, 1), (32, .aload_n 0, 1)] 33 [(3, .ref (ad 1 i10)), (2, .ref (ad 2 i4)), (0, .ref x), (1, .ref (ad 3 k))] [.ref x, .ref (ad 1 i10), .ref (ad 2 i4)] C (by decide +kernel) rfl ?_
      refine g_getf (pc := 33) (k := 8) (v := .int b) C fl_X4_53 (h.1.1) rfl (by decide +kernel) ?_
      refine g_callV (pc := 36) C mV_X3_placeIn q161 (h.2.1.1 i10 hi11) rfl rfl (c_X3_placeIn l D cy G8 (ad 1 i10) (T i10 0) (T i10 1) (T i10 3) (T i10 2) (T i10 6) (T i10 4) (T i10 5) (KT i10 0) (KT i10 1) (h.2.1.1 i10 hi11) b (hwok i10 hi11)) rfl ⟨⟨Nat.le_of_ble_eq_true rfl, Nat.le_of_ble_eq_true rfl⟩, Nat.le_of_ble_eq_true rfl, Nat.le_of_ble_eq_true rfl⟩ rfl (Nat.le_of_ble_eq_true rfl) (by decide +kernel) ?_
      refine g_kI (fun v15 G14 hp13 => ?_)
      obtain ⟨rfl, rfl⟩ := hp13
      refine g_seg [(39, .aload_n 1, 1)] 40 [(3, .ref (ad 1 i10)), (2, .ref (ad 2 i4)), (0, .ref x), (1, .ref (ad 3 k))] [.ref (ad 3 k), .int (s_pl (T i10 0) (T i10 1) (T i10 2) (b - (T i10 6))), .ref (ad 2 i4)] C (by decide +kernel) rfl ?_
      refine g_getf (pc := 40) (k := 2) (v := .int (Cu k 2)) C fl_X4_242 (h.2.1.2.2.1 k hk) rfl (by decide +kernel) ?_
      refine g_seg [(43, .iadd, 1), (44, .aload_n 0, 1)] 45 [(3, .ref (ad 1 i10)), (2, .ref (ad 2 i4)), (0, .ref x), (1, .ref (ad 3 k))] [.ref x, .int ((s_pl (T i10 0) (T i10 1) (T i10 2) (b - (T i10 6))) + (Cu k 2)), .ref (ad 2 i4)] C (by decide +kernel) rfl ?_
      refine g_getf (pc := 45) (k := 8) (v := .int b) C fl_X4_53 (h.1.1) rfl (by decide +kernel) ?_
      refine g_seg [(48, .aload_n 1, 1)] 49 [(3, .ref (ad 1 i10)), (2, .ref (ad 2 i4)), (0, .ref x), (1, .ref (ad 3 k))] [.ref (ad 3 k), .int b, .int ((s_pl (T i10 0) (T i10 1) (T i10 2) (b - (T i10 6))) + (Cu k 2)), .ref (ad 2 i4)] C (by decide +kernel) rfl ?_
      refine g_getf (pc := 49) (k := 3) (v := .int (Cu k 3)) C fl_X4_245 (h.2.1.2.2.1 k hk) rfl (by decide +kernel) ?_
      refine g_seg [(52, .iadd, 1)] 53 [(3, .ref (ad 1 i10)), (2, .ref (ad 2 i4)), (0, .ref x), (1, .ref (ad 3 k))] [.int (b + (Cu k 3)), .int ((s_pl (T i10 0) (T i10 1) (T i10 2) (b - (T i10 6))) + (Cu k 2)), .ref (ad 2 i4)] C (by decide +kernel) rfl ?_
      refine g_callV (pc := 53) C mV_X1_flyTo q263 (h.2.1.2.1 i4 hi5) rfl rfl (c_X1_flyTo l D cy G14 (ad 2 i4) (E i4 0) (E i4 1) (E i4 2) (E i4 3) (E i4 4) (KF i4 0) (KF i4 1) (KF i4 2) (KF i4 3) (KF i4 4) ((s_pl (T i10 0) (T i10 1) (T i10 2) (b - (T i10 6))) + (Cu k 2)) (b + (Cu k 3)) (h.2.1.2.1 i4 hi5)) rfl ⟨⟨Nat.le_of_ble_eq_true rfl, Nat.le_of_ble_eq_true rfl⟩, Nat.le_of_ble_eq_true rfl, Nat.le_of_ble_eq_true rfl⟩ rfl (Nat.le_of_ble_eq_true rfl) (by decide +kernel) ?_
      refine g_kV (fun G16 hG17 => ?_)
      have h18 : RX cy x ad b nt nf nc nn T (s_row E i4 2 (-1) ((s_pl (T i10 0) (T i10 1) (T i10 2) (b - (T i10 6))) + (Cu k 2)) (b + (Cu k 3))) Cu N KT KF KC G16 := by rw [hG17]; exact RXF_fly h hi5
      refine g_seg [(56, .iconst 1, 1)] 57 [(3, .ref (ad 1 i10)), (2, .ref (ad 2 i4)), (0, .ref x), (1, .ref (ad 3 k))] [.int 1] C (by decide +kernel) rfl ?_
      exact g_zret (pc := 57) C R (by first | rfl | decide) (⟨_, rfl, Or.inl ⟨rfl, _, by unfold x_go; rw [ixo_some (by have := h.2.2.2.2.1; omega) hi5 hn6]; simp only; rw [ixo_some (by have := h.2.2.2.1; omega) hi11 hn12]; rfl, h18⟩⟩) (Nat.le_of_ble_eq_true rfl) (Nat.le_of_ble_eq_true rfl) (by decide +kernel)
    · refine g_seg [(23, .astore_n 3, 1), (24, .aload_n 3, 1)] 25 [(3, .null), (2, .ref (ad 2 i4)), (0, .ref x), (1, .ref (ad 3 k))] [.null] C (by decide +kernel) rfl ?_
      refine g_ifnonnullN (pc := 25) (off := 5) C (by decide +kernel) ?_
      refine g_seg [(28, .iconst 0, 1)] 29 [(3, .null), (2, .ref (ad 2 i4)), (0, .ref x), (1, .ref (ad 3 k))] [.int 0] C (by decide +kernel) rfl ?_
      exact g_zret (pc := 29) C R (by first | rfl | decide) (⟨_, rfl, Or.inr ⟨rfl, by unfold x_go; rw [ixo_some (by have := h.2.2.2.2.1; omega) hi5 hn6]; simp only; rw [ixo_none hn12], h⟩⟩) (Nat.le_of_ble_eq_true rfl) (Nat.le_of_ble_eq_true rfl) (by decide +kernel)
  · refine g_seg [(8, .astore_n 2, 1), (9, .aload_n 2, 1)] 10 [(2, .null), (0, .ref x), (1, .ref (ad 3 k))] [.null] C (by decide +kernel) rfl ?_
    refine g_ifnonnullN (pc := 10) (off := 5) C (by decide +kernel) ?_
    refine g_seg [(13, .iconst 0, 1)] 14 [(2, .null), (0, .ref x), (1, .ref (ad 3 k))] [.int 0] C (by decide +kernel) rfl ?_
    exact g_zret (pc := 14) C R (by first | rfl | decide) (⟨_, rfl, Or.inr ⟨rfl, by unfold x_go; rw [ixo_none hn6], h⟩⟩) (Nat.le_of_ble_eq_true rfl) (Nat.le_of_ble_eq_true rfl) (by decide +kernel)
set_option maxHeartbeats 4000000 in
set_option maxRecDepth 100000 in
theorem c_X4_callCues (l : Launch) (D : va_G) (cy : Nat → ClassId) {G : GG} {x : Nat} {ad : Nat → Nat → Nat} {b : Int32} {nt nf nc nn : Nat} {T E Cu N KT KF KC : Rw} (h : RX cy x ad b nt nf nc nn T E Cu N KT KF KC G) (hwok : s_wok T nt) : Ctr l D cy yX4_callCues prog_1_method_39_code 5 none kX4_callCues [.ref x] G (pV (fun G' => RX cy x ad b nt nf nc nn T (its (x_cue T nt nf b) (E, Cu) nc).1 (its (x_cue T nt nf b) (E, Cu) nc).2 N KT KF KC G')) := by
  refine Ctr.mk (by decide +kernel) (Nat.le_of_ble_eq_true rfl) ?_
  intro κ C R
  refine g_pc (pc' := 0) rfl ?_
  refine g_seg [(0, .aload_n 0, 1)] 1 [(0, .ref x)] [.ref x] C (by decide +kernel) rfl ?_
  refine g_getf (pc := 1) (k := 2) (v := .ref (ad 0 2)) C fl_X4_23 (h.1.1) rfl (by decide +kernel) ?_
  refine g_seg [(4, .astore_n 1, 1), (5, .aload_n 1, 1)] 6 [(1, .ref (ad 0 2)), (0, .ref x)] [.ref (ad 0 2)] C (by decide +kernel) rfl ?_
  refine g_alenA (pc := 6) (len := 20) (t0 := 3) C (h.1.2.2.2.1) rfl (by decide +kernel) ?_
  refine g_seg [(7, .istore_n 2, 1), (8, .iconst 0, 1), (9, .istore_n 3, 1)] 10 [(3, .int 0), (2, .int (nI 20)), (1, .ref (ad 0 2)), (0, .ref x)] [] C (by decide +kernel) rfl ?_
  refine g_subp [3, 2, 1, 0] (lv' := [(0, .ref x), (1, .ref (ad 0 2)), (2, .int (nI 20)), (3, .int 0)]) rfl ?_
  have lp1 : ∀ (m k : Nat) (E1 C1 : Rw) (G1 : GG) (xk : Int32), 20 + 1 ≤ k + m → k ≤ 20 → xk = nI k → (E1, C1) = its (x_cue T nt nf b) (E, Cu) (min k nc) → RX cy x ad b nt nf nc nn T E1 C1 N KT KF KC G1 → PG κ 5 0 0 G1 [(0, .ref x), (1, .ref (ad 0 2)), (2, .int (nI 20)), (3, .int xk)] 10 [] := by
    intro m
    induction m with
    | zero => intro k E1 C1 G1 xk h1 h2; intros; exact absurd h1 (by omega)
    | succ m ih =>
      intro k E1 C1 G1 xk hm hk hx hs h1
      refine g_seg [(10, .iload_n 3, 1), (11, .iload_n 2, 1)] 12 [(0, .ref x), (1, .ref (ad 0 2)), (2, .int (nI 20)), (3, .int xk)] [.int (nI 20), .int xk] C (by decide +kernel) rfl ?_
      refine g_icmp_ge (pc := 12) (off := 50) 62 C (by decide +kernel) (by decide) (fun c2 => ?_) (fun c2 => ?_)
      · have hk8 : k = 20 := by have := lp_ge hx (by omega) (by decide) c2; omega
        exact g_vret (pc := 62) C R (⟨rfl, by have e9 := its_e hs hk8 (h.2.2.2.2.2.1); rw [← e9]; exact h1⟩) (Nat.le_of_ble_eq_true rfl) (Nat.le_of_ble_eq_true rfl) (by decide +kernel)
      · have hk8 : k < 20 := by have := lp_lt hx (by omega) (by decide) c2; omega
        refine g_seg [(15, .aload_n 1, 1), (16, .iload_n 3, 1)] 17 [(0, .ref x), (1, .ref (ad 0 2)), (2, .int (nI 20)), (3, .int xk)] [.int xk, .ref (ad 0 2)] C (by decide +kernel) rfl ?_
        refine g_aaldA (pc := 17) (len := 20) (t0 := 3) (j := k) C (h1.1.2.2.2.1) rfl (hx) (hk8) (by decide) (by decide +kernel) (fun hi3 => ?_) (fun hi3 => ?_)
        · refine g_seg [(18, .astore 4, 2), (20, .aload 4, 2)] 22 [(4, .ref (ad 3 k)), (0, .ref x), (1, .ref (ad 0 2)), (2, .int (nI 20)), (3, .int xk)] [.ref (ad 3 k)] C (by decide +kernel) rfl ?_
          refine g_ifnull (pc := 22) (off := 34) C (by decide +kernel) ?_
          refine g_seg [(25, .aload 4, 2)] 27 [(4, .ref (ad 3 k)), (0, .ref x), (1, .ref (ad 0 2)), (2, .int (nI 20)), (3, .int xk)] [.ref (ad 3 k)] C (by decide +kernel) rfl ?_
          refine g_getf (pc := 27) (k := 0) (v := .int (C1 k 0)) C fl_X4_238 (h1.2.1.2.2.1 k hi3) rfl (by decide +kernel) ?_
          refine g_seg [(30, .aload_n 0, 1)] 31 [(4, .ref (ad 3 k)), (0, .ref x), (1, .ref (ad 0 2)), (2, .int (nI 20)), (3, .int xk)] [.ref x, .int (C1 k 0)] C (by decide +kernel) rfl ?_
          refine g_getf (pc := 31) (k := 8) (v := .int b) C fl_X4_53 (h1.1.1) rfl (by decide +kernel) ?_
          refine g_icmp_ne (pc := 34) (off := 22) 56 C (by decide +kernel) (by decide) (fun c4 => ?_) (fun c4 => ?_)
          · refine g_seg [(56, .iinc 3 1, 3), (59, .goto (-49), 3)] 10 [(3, .int (xk + 1)), (4, .ref (ad 3 k)), (0, .ref x), (1, .ref (ad 0 2)), (2, .int (nI 20))] [] C (by decide +kernel) rfl ?_
            refine g_subp [2, 3, 4, 0] (lv' := [(0, .ref x), (1, .ref (ad 0 2)), (2, .int (nI 20)), (3, .int (xk + 1))]) rfl ?_
            exact ih (k + 1) E1 C1 G1 (xk + 1) (by omega) (by omega) (lp_s hx) (its_y hs hi3 (by simp only [x_cue]; rw [if_neg c4])) (h1)
          · refine g_seg [(37, .aload 4, 2), (39, .aload_n 0, 1), (40, .aload 4, 2)] 42 [(4, .ref (ad 3 k)), (0, .ref x), (1, .ref (ad 0 2)), (2, .int (nI 20)), (3, .int xk)] [.ref (ad 3 k), .ref x, .ref (ad 3 k)] C (by decide +kernel) rfl ?_
            refine g_callV (pc := 42) C mV_X4_letGo q259 (h1.1.1) rfl rfl (c_X4_letGo l D cy h1 hwok k hi3) rfl ⟨⟨Nat.le_of_ble_eq_true rfl, Nat.le_of_ble_eq_true rfl⟩, Nat.le_of_ble_eq_true rfl, Nat.le_of_ble_eq_true rfl⟩ rfl (Nat.le_of_ble_eq_true rfl) (by decide +kernel) ?_
            refine g_kI (fun v7 G5 hp6 => ?_)
            rcases hp6 with ⟨rfl, E9, hg10, h8⟩ | ⟨rfl, hg10, h8⟩
            · refine g_if_eq (pc := 45) (off := 7) 52 C (by decide +kernel) (by decide) (fun c9 => absurd c9 (by decide)) (fun _ => ?_)
              refine g_seg [(48, .iconst 1, 1), (49, .goto 4, 3)] 53 [(4, .ref (ad 3 k)), (0, .ref x), (1, .ref (ad 0 2)), (2, .int (nI 20)), (3, .int xk)] [.int 1, .ref (ad 3 k)] C (by decide +kernel) rfl ?_
              refine g_putf (pc := 53) (k := 4) (v := .int 1) (ty := .int) C fl_X4_248 fp_X0_4 (h8.2.1.2.2.1 k hi3) (rfl) (by first | rfl | decide) (Nat.le_of_ble_eq_true rfl) (by decide +kernel) ?_
              refine g_abs (P := fun G9 => RX cy x ad b nt nf nc nn T E9 (s_set C1 k 4 1) N KT KF KC G9) (RXC_st h8 hi3) (fun G11 h12 => ?_)
              refine g_seg [(56, .iinc 3 1, 3), (59, .goto (-49), 3)] 10 [(3, .int (xk + 1)), (4, .ref (ad 3 k)), (0, .ref x), (1, .ref (ad 0 2)), (2, .int (nI 20))] [] C (by decide +kernel) rfl ?_
              refine g_subp [2, 3, 4, 0] (lv' := [(0, .ref x), (1, .ref (ad 0 2)), (2, .int (nI 20)), (3, .int (xk + 1))]) rfl ?_
              exact ih (k + 1) E9 (s_set C1 k 4 1) G11 (xk + 1) (by omega) (by omega) (lp_s hx) (its_y hs hi3 (by simp only [x_cue]; rw [if_pos c4, hg10])) (h12)
            · refine g_if_eq (pc := 45) (off := 7) 52 C (by decide +kernel) (by decide) (fun _ => ?_) (fun c9 => absurd (by decide) c9)
              refine g_seg [(52, .iconst 2, 1)] 53 [(4, .ref (ad 3 k)), (0, .ref x), (1, .ref (ad 0 2)), (2, .int (nI 20)), (3, .int xk)] [.int 2, .ref (ad 3 k)] C (by decide +kernel) rfl ?_
              refine g_putf (pc := 53) (k := 4) (v := .int 2) (ty := .int) C fl_X4_248 fp_X0_4 (h8.2.1.2.2.1 k hi3) (rfl) (by first | rfl | decide) (Nat.le_of_ble_eq_true rfl) (by decide +kernel) ?_
              refine g_abs (P := fun G9 => RX cy x ad b nt nf nc nn T E1 (s_set C1 k 4 2) N KT KF KC G9) (RXC_st h8 hi3) (fun G13 h14 => ?_)
              refine g_seg [(56, .iinc 3 1, 3), (59, .goto (-49), 3)] 10 [(3, .int (xk + 1)), (4, .ref (ad 3 k)), (0, .ref x), (1, .ref (ad 0 2)), (2, .int (nI 20))] [] C (by decide +kernel) rfl ?_
              refine g_subp [2, 3, 4, 0] (lv' := [(0, .ref x), (1, .ref (ad 0 2)), (2, .int (nI 20)), (3, .int (xk + 1))]) rfl ?_
              exact ih (k + 1) E1 (s_set C1 k 4 2) G13 (xk + 1) (by omega) (by omega) (lp_s hx) (its_y hs hi3 (by simp only [x_cue]; rw [if_pos c4, hg10])) (h14)
        · refine g_seg [(18, .astore 4, 2), (20, .aload 4, 2)] 22 [(4, .null), (0, .ref x), (1, .ref (ad 0 2)), (2, .int (nI 20)), (3, .int xk)] [.null] C (by decide +kernel) rfl ?_
          refine g_ifnullN (pc := 22) (off := 34) 56 C (by decide +kernel) (by decide) ?_
          refine g_seg [(56, .iinc 3 1, 3), (59, .goto (-49), 3)] 10 [(3, .int (xk + 1)), (4, .null), (0, .ref x), (1, .ref (ad 0 2)), (2, .int (nI 20))] [] C (by decide +kernel) rfl ?_
          refine g_subp [2, 3, 4, 0] (lv' := [(0, .ref x), (1, .ref (ad 0 2)), (2, .int (nI 20)), (3, .int (xk + 1))]) rfl ?_
          exact ih (k + 1) E1 C1 G1 (xk + 1) (by omega) (by omega) (lp_s hx) (its_n hs hi3) (h1)
  exact lp1 (20 + 1) 0 E Cu G 0 (by omega) (by omega) (nI_0.symm) (its_0) (h)
set_option maxHeartbeats 4000000 in
set_option maxRecDepth 100000 in
theorem c_X4_dropFrom (l : Launch) (D : va_G) (cy : Nat → ClassId) {G : GG} {x : Nat} {ad : Nat → Nat → Nat} {b : Int32} {nt nf nc nn : Nat} {T E Cu N KT KF KC : Rw} (h : RX cy x ad b nt nf nc nn T E Cu N KT KF KC G) (n p0 : Int32) : Ctr l D cy yX4_dropFrom prog_1_method_44_code 8 none kX4_dropFrom [.ref x, .int n, .int p0] G (pV (fun G' => RX cy x ad b nt nf nc nn T (its (x_drop N nn n p0) E nf) Cu N KT KF KC G')) := by
  refine Ctr.mk (by decide +kernel) (Nat.le_of_ble_eq_true rfl) ?_
  intro κ C R
  refine g_pc (pc' := 0) rfl ?_
  refine g_seg [(0, .aload_n 0, 1), (1, .iload_n 2, 1)] 2 [(0, .ref x), (1, .int n), (2, .int p0)] [.int p0, .ref x] C (by decide +kernel) rfl ?_
  refine g_callV (pc := 2) C mV_X4_isNetSpreadAt q282 (h.1.1) rfl rfl (c_X4_isNetSpreadAt l D cy h p0) rfl ⟨⟨Nat.le_of_ble_eq_true rfl, Nat.le_of_ble_eq_true rfl⟩, Nat.le_of_ble_eq_true rfl, Nat.le_of_ble_eq_true rfl⟩ rfl (Nat.le_of_ble_eq_true rfl) (by decide +kernel) ?_
  refine g_kI (fun v3 G2 hp1 => ?_)
  obtain ⟨rfl, hp1⟩ := hp1
  rcases hp1 with ⟨rfl, h4⟩ | ⟨rfl, h4⟩
  · refine g_seg [(5, .istore_n 3, 1), (6, .aload_n 0, 1)] 7 [(3, .int 1), (0, .ref x), (1, .int n), (2, .int p0)] [.ref x] C (by decide +kernel) rfl ?_
    refine g_getf (pc := 7) (k := 1) (v := .ref (ad 0 1)) C fl_X4_17 (h.1.1) rfl (by decide +kernel) ?_
    refine g_seg [(10, .astore 4, 2), (12, .aload 4, 2)] 14 [(4, .ref (ad 0 1)), (3, .int 1), (0, .ref x), (1, .int n), (2, .int p0)] [.ref (ad 0 1)] C (by decide +kernel) rfl ?_
    refine g_alenA (pc := 14) (len := 8) (t0 := 2) C (h.1.2.2.1) rfl (by decide +kernel) ?_
    refine g_seg [(15, .istore 5, 2), (17, .iconst 0, 1), (18, .istore 6, 2)] 20 [(6, .int 0), (5, .int (nI 8)), (4, .ref (ad 0 1)), (3, .int 1), (0, .ref x), (1, .int n), (2, .int p0)] [] C (by decide +kernel) rfl ?_
    refine g_subp [4, 5, 6, 3, 2, 1, 0] (lv' := [(0, .ref x), (1, .int n), (2, .int p0), (3, .int 1), (4, .ref (ad 0 1)), (5, .int (nI 8)), (6, .int 0)]) rfl ?_
    have lp5 : ∀ (m k : Nat) (E1 : Rw) (G1 : GG) (xk : Int32), 8 + 1 ≤ k + m → k ≤ 8 → xk = nI k → E1 = its (x_drop N nn n p0) E (min k nf) → RX cy x ad b nt nf nc nn T E1 Cu N KT KF KC G1 → PG κ 8 0 0 G1 [(0, .ref x), (1, .int n), (2, .int p0), (3, .int 1), (4, .ref (ad 0 1)), (5, .int (nI 8)), (6, .int xk)] 20 [] := by
      intro m
      induction m with
      | zero => intro k E1 G1 xk h1 h2; intros; exact absurd h1 (by omega)
      | succ m ih =>
        intro k E1 G1 xk hm hk hx hs h1
        refine g_seg [(20, .iload 6, 2), (22, .iload 5, 2)] 24 [(0, .ref x), (1, .int n), (2, .int p0), (3, .int 1), (4, .ref (ad 0 1)), (5, .int (nI 8)), (6, .int xk)] [.int (nI 8), .int xk] C (by decide +kernel) rfl ?_
        refine g_icmp_ge (pc := 24) (off := 36) 60 C (by decide +kernel) (by decide) (fun c6 => ?_) (fun c6 => ?_)
        · have hk8 : k = 8 := by have := lp_ge hx (by omega) (by decide) c6; omega
          exact g_vret (pc := 60) C R (⟨rfl, by rw [← its_e hs hk8 (h.2.2.2.2.1)]; exact h1⟩) (Nat.le_of_ble_eq_true rfl) (Nat.le_of_ble_eq_true rfl) (by decide +kernel)
        · have hk8 : k < 8 := by have := lp_lt hx (by omega) (by decide) c6; omega
          refine g_seg [(27, .aload 4, 2), (29, .iload 6, 2)] 31 [(0, .ref x), (1, .int n), (2, .int p0), (3, .int 1), (4, .ref (ad 0 1)), (5, .int (nI 8)), (6, .int xk)] [.int xk, .ref (ad 0 1)] C (by decide +kernel) rfl ?_
          refine g_aaldA (pc := 31) (len := 8) (t0 := 2) (j := k) C (h1.1.2.2.1) rfl (hx) (hk8) (by decide) (by decide +kernel) (fun hi7 => ?_) (fun hi7 => ?_)
          · refine g_seg [(32, .astore 7, 2), (34, .aload 7, 2)] 36 [(7, .ref (ad 2 k)), (0, .ref x), (1, .int n), (2, .int p0), (3, .int 1), (4, .ref (ad 0 1)), (5, .int (nI 8)), (6, .int xk)] [.ref (ad 2 k)] C (by decide +kernel) rfl ?_
            refine g_ifnull (pc := 36) (off := 18) C (by decide +kernel) ?_
            refine g_seg [(39, .aload 7, 2), (41, .iload_n 1, 1)] 42 [(7, .ref (ad 2 k)), (0, .ref x), (1, .int n), (2, .int p0), (3, .int 1), (4, .ref (ad 0 1)), (5, .int (nI 8)), (6, .int xk)] [.int n, .ref (ad 2 k)] C (by decide +kernel) rfl ?_
            refine g_callV (pc := 42) C mV_X1_hangsFrom q179 (h1.2.1.2.1 k hi7) rfl rfl (c_X1_hangsFrom l D cy G1 (ad 2 k) (E1 k 0) (E1 k 1) (E1 k 2) (E1 k 3) (E1 k 4) (KF k 0) (KF k 1) (KF k 2) (KF k 3) (KF k 4) n (h1.2.1.2.1 k hi7)) rfl ⟨⟨Nat.le_of_ble_eq_true rfl, Nat.le_of_ble_eq_true rfl⟩, Nat.le_of_ble_eq_true rfl, Nat.le_of_ble_eq_true rfl⟩ rfl (Nat.le_of_ble_eq_true rfl) (by decide +kernel) ?_
            refine g_kI (fun v10 G9 hp8 => ?_)
            obtain ⟨rfl, hp8⟩ := hp8
            rcases hp8 with ⟨rfl, h11⟩ | ⟨rfl, h11⟩
            · refine g_if_eq (pc := 45) (off := 9) 54 C (by decide +kernel) (by decide) (fun c9 => absurd c9 (by decide)) (fun _ => ?_)
              refine g_seg [(48, .aload 7, 2), (50, .iload_n 3, 1)] 51 [(7, .ref (ad 2 k)), (0, .ref x), (1, .int n), (2, .int p0), (3, .int 1), (4, .ref (ad 0 1)), (5, .int (nI 8)), (6, .int xk)] [.int 1, .ref (ad 2 k)] C (by decide +kernel) rfl ?_
              refine g_callV (pc := 51) C mV_X1_fall q286 (h1.2.1.2.1 k hi7) rfl rfl (c_X1_fall l D cy G9 (ad 2 k) (E1 k 0) (E1 k 1) (E1 k 2) (E1 k 3) (E1 k 4) (KF k 0) (KF k 1) (KF k 2) (KF k 3) (KF k 4) 1 (h1.2.1.2.1 k hi7)) rfl ⟨⟨Nat.le_of_ble_eq_true rfl, Nat.le_of_ble_eq_true rfl⟩, Nat.le_of_ble_eq_true rfl, Nat.le_of_ble_eq_true rfl⟩ rfl (Nat.le_of_ble_eq_true rfl) (by decide +kernel) ?_
              refine g_kV (fun G12 hG13 => ?_)
              have h14 : RX cy x ad b nt nf nc nn T (x_st E1 k 3 (-1)) Cu N KT KF KC G12 := by rw [hG13]; exact RXF_st (a := 3) h1 hi7
              refine g_seg [(54, .iinc 6 1, 3), (57, .goto (-37), 3)] 20 [(6, .int (xk + 1)), (7, .ref (ad 2 k)), (0, .ref x), (1, .int n), (2, .int p0), (3, .int 1), (4, .ref (ad 0 1)), (5, .int (nI 8))] [] C (by decide +kernel) rfl ?_
              refine g_subp [2, 3, 4, 5, 6, 7, 0] (lv' := [(0, .ref x), (1, .int n), (2, .int p0), (3, .int 1), (4, .ref (ad 0 1)), (5, .int (nI 8)), (6, .int (xk + 1))]) rfl ?_
              exact ih (k + 1) (x_st E1 k 3 (-1)) G12 (xk + 1) (by omega) (by omega) (lp_s hx) (its_y hs hi7 (by simp only [x_drop, x_fallc]; rw [if_pos h11, if_pos (h4)])) (h14)
            · refine g_if_eq (pc := 45) (off := 9) 54 C (by decide +kernel) (by decide) (fun _ => ?_) (fun c9 => absurd (by decide) c9)
              refine g_seg [(54, .iinc 6 1, 3), (57, .goto (-37), 3)] 20 [(6, .int (xk + 1)), (7, .ref (ad 2 k)), (0, .ref x), (1, .int n), (2, .int p0), (3, .int 1), (4, .ref (ad 0 1)), (5, .int (nI 8))] [] C (by decide +kernel) rfl ?_
              refine g_subp [2, 3, 4, 5, 6, 7, 0] (lv' := [(0, .ref x), (1, .int n), (2, .int p0), (3, .int 1), (4, .ref (ad 0 1)), (5, .int (nI 8)), (6, .int (xk + 1))]) rfl ?_
              exact ih (k + 1) E1 G9 (xk + 1) (by omega) (by omega) (lp_s hx) (its_y hs hi7 (by simp only [x_drop]; rw [if_neg h11])) (h1)
          · refine g_seg [(32, .astore 7, 2), (34, .aload 7, 2)] 36 [(7, .null), (0, .ref x), (1, .int n), (2, .int p0), (3, .int 1), (4, .ref (ad 0 1)), (5, .int (nI 8)), (6, .int xk)] [.null] C (by decide +kernel) rfl ?_
            refine g_ifnullN (pc := 36) (off := 18) 54 C (by decide +kernel) (by decide) ?_
            refine g_seg [(54, .iinc 6 1, 3), (57, .goto (-37), 3)] 20 [(6, .int (xk + 1)), (7, .null), (0, .ref x), (1, .int n), (2, .int p0), (3, .int 1), (4, .ref (ad 0 1)), (5, .int (nI 8))] [] C (by decide +kernel) rfl ?_
            refine g_subp [2, 3, 4, 5, 6, 7, 0] (lv' := [(0, .ref x), (1, .int n), (2, .int p0), (3, .int 1), (4, .ref (ad 0 1)), (5, .int (nI 8)), (6, .int (xk + 1))]) rfl ?_
            exact ih (k + 1) E1 G1 (xk + 1) (by omega) (by omega) (lp_s hx) (its_n hs hi7) (h1)
    exact lp5 (8 + 1) 0 E G2 0 (by omega) (by omega) (nI_0.symm) (its_0) (h)
  · refine g_seg [(5, .istore_n 3, 1), (6, .aload_n 0, 1)] 7 [(3, .int 0), (0, .ref x), (1, .int n), (2, .int p0)] [.ref x] C (by decide +kernel) rfl ?_
    refine g_getf (pc := 7) (k := 1) (v := .ref (ad 0 1)) C fl_X4_17 (h.1.1) rfl (by decide +kernel) ?_
    refine g_seg [(10, .astore 4, 2), (12, .aload 4, 2)] 14 [(4, .ref (ad 0 1)), (3, .int 0), (0, .ref x), (1, .int n), (2, .int p0)] [.ref (ad 0 1)] C (by decide +kernel) rfl ?_
    refine g_alenA (pc := 14) (len := 8) (t0 := 2) C (h.1.2.2.1) rfl (by decide +kernel) ?_
    refine g_seg [(15, .istore 5, 2), (17, .iconst 0, 1), (18, .istore 6, 2)] 20 [(6, .int 0), (5, .int (nI 8)), (4, .ref (ad 0 1)), (3, .int 0), (0, .ref x), (1, .int n), (2, .int p0)] [] C (by decide +kernel) rfl ?_
    refine g_subp [4, 5, 6, 3, 2, 1, 0] (lv' := [(0, .ref x), (1, .int n), (2, .int p0), (3, .int 0), (4, .ref (ad 0 1)), (5, .int (nI 8)), (6, .int 0)]) rfl ?_
    have lp15 : ∀ (m k : Nat) (E1 : Rw) (G1 : GG) (xk : Int32), 8 + 1 ≤ k + m → k ≤ 8 → xk = nI k → E1 = its (x_drop N nn n p0) E (min k nf) → RX cy x ad b nt nf nc nn T E1 Cu N KT KF KC G1 → PG κ 8 0 0 G1 [(0, .ref x), (1, .int n), (2, .int p0), (3, .int 0), (4, .ref (ad 0 1)), (5, .int (nI 8)), (6, .int xk)] 20 [] := by
      intro m
      induction m with
      | zero => intro k E1 G1 xk h1 h2; intros; exact absurd h1 (by omega)
      | succ m ih =>
        intro k E1 G1 xk hm hk hx hs h1
        refine g_seg [(20, .iload 6, 2), (22, .iload 5, 2)] 24 [(0, .ref x), (1, .int n), (2, .int p0), (3, .int 0), (4, .ref (ad 0 1)), (5, .int (nI 8)), (6, .int xk)] [.int (nI 8), .int xk] C (by decide +kernel) rfl ?_
        refine g_icmp_ge (pc := 24) (off := 36) 60 C (by decide +kernel) (by decide) (fun c16 => ?_) (fun c16 => ?_)
        · have hk8 : k = 8 := by have := lp_ge hx (by omega) (by decide) c16; omega
          exact g_vret (pc := 60) C R (⟨rfl, by rw [← its_e hs hk8 (h.2.2.2.2.1)]; exact h1⟩) (Nat.le_of_ble_eq_true rfl) (Nat.le_of_ble_eq_true rfl) (by decide +kernel)
        · have hk8 : k < 8 := by have := lp_lt hx (by omega) (by decide) c16; omega
          refine g_seg [(27, .aload 4, 2), (29, .iload 6, 2)] 31 [(0, .ref x), (1, .int n), (2, .int p0), (3, .int 0), (4, .ref (ad 0 1)), (5, .int (nI 8)), (6, .int xk)] [.int xk, .ref (ad 0 1)] C (by decide +kernel) rfl ?_
          refine g_aaldA (pc := 31) (len := 8) (t0 := 2) (j := k) C (h1.1.2.2.1) rfl (hx) (hk8) (by decide) (by decide +kernel) (fun hi17 => ?_) (fun hi17 => ?_)
          · refine g_seg [(32, .astore 7, 2), (34, .aload 7, 2)] 36 [(7, .ref (ad 2 k)), (0, .ref x), (1, .int n), (2, .int p0), (3, .int 0), (4, .ref (ad 0 1)), (5, .int (nI 8)), (6, .int xk)] [.ref (ad 2 k)] C (by decide +kernel) rfl ?_
            refine g_ifnull (pc := 36) (off := 18) C (by decide +kernel) ?_
            refine g_seg [(39, .aload 7, 2), (41, .iload_n 1, 1)] 42 [(7, .ref (ad 2 k)), (0, .ref x), (1, .int n), (2, .int p0), (3, .int 0), (4, .ref (ad 0 1)), (5, .int (nI 8)), (6, .int xk)] [.int n, .ref (ad 2 k)] C (by decide +kernel) rfl ?_
            refine g_callV (pc := 42) C mV_X1_hangsFrom q179 (h1.2.1.2.1 k hi17) rfl rfl (c_X1_hangsFrom l D cy G1 (ad 2 k) (E1 k 0) (E1 k 1) (E1 k 2) (E1 k 3) (E1 k 4) (KF k 0) (KF k 1) (KF k 2) (KF k 3) (KF k 4) n (h1.2.1.2.1 k hi17)) rfl ⟨⟨Nat.le_of_ble_eq_true rfl, Nat.le_of_ble_eq_true rfl⟩, Nat.le_of_ble_eq_true rfl, Nat.le_of_ble_eq_true rfl⟩ rfl (Nat.le_of_ble_eq_true rfl) (by decide +kernel) ?_
            refine g_kI (fun v20 G19 hp18 => ?_)
            obtain ⟨rfl, hp18⟩ := hp18
            rcases hp18 with ⟨rfl, h21⟩ | ⟨rfl, h21⟩
            · refine g_if_eq (pc := 45) (off := 9) 54 C (by decide +kernel) (by decide) (fun c9 => absurd c9 (by decide)) (fun _ => ?_)
              refine g_seg [(48, .aload 7, 2), (50, .iload_n 3, 1)] 51 [(7, .ref (ad 2 k)), (0, .ref x), (1, .int n), (2, .int p0), (3, .int 0), (4, .ref (ad 0 1)), (5, .int (nI 8)), (6, .int xk)] [.int 0, .ref (ad 2 k)] C (by decide +kernel) rfl ?_
              refine g_callV (pc := 51) C mV_X1_fall q286 (h1.2.1.2.1 k hi17) rfl rfl (c_X1_fall l D cy G19 (ad 2 k) (E1 k 0) (E1 k 1) (E1 k 2) (E1 k 3) (E1 k 4) (KF k 0) (KF k 1) (KF k 2) (KF k 3) (KF k 4) 0 (h1.2.1.2.1 k hi17)) rfl ⟨⟨Nat.le_of_ble_eq_true rfl, Nat.le_of_ble_eq_true rfl⟩, Nat.le_of_ble_eq_true rfl, Nat.le_of_ble_eq_true rfl⟩ rfl (Nat.le_of_ble_eq_true rfl) (by decide +kernel) ?_
              refine g_kV (fun G22 hG23 => ?_)
              have h24 : RX cy x ad b nt nf nc nn T (x_st E1 k 4 (-1)) Cu N KT KF KC G22 := by rw [hG23]; exact RXF_st (a := 4) h1 hi17
              refine g_seg [(54, .iinc 6 1, 3), (57, .goto (-37), 3)] 20 [(6, .int (xk + 1)), (7, .ref (ad 2 k)), (0, .ref x), (1, .int n), (2, .int p0), (3, .int 0), (4, .ref (ad 0 1)), (5, .int (nI 8))] [] C (by decide +kernel) rfl ?_
              refine g_subp [2, 3, 4, 5, 6, 7, 0] (lv' := [(0, .ref x), (1, .int n), (2, .int p0), (3, .int 0), (4, .ref (ad 0 1)), (5, .int (nI 8)), (6, .int (xk + 1))]) rfl ?_
              exact ih (k + 1) (x_st E1 k 4 (-1)) G22 (xk + 1) (by omega) (by omega) (lp_s hx) (its_y hs hi17 (by simp only [x_drop, x_fallc]; rw [if_pos h21, if_neg (by rw [h4]; decide)])) (h24)
            · refine g_if_eq (pc := 45) (off := 9) 54 C (by decide +kernel) (by decide) (fun _ => ?_) (fun c9 => absurd (by decide) c9)
              refine g_seg [(54, .iinc 6 1, 3), (57, .goto (-37), 3)] 20 [(6, .int (xk + 1)), (7, .ref (ad 2 k)), (0, .ref x), (1, .int n), (2, .int p0), (3, .int 0), (4, .ref (ad 0 1)), (5, .int (nI 8))] [] C (by decide +kernel) rfl ?_
              refine g_subp [2, 3, 4, 5, 6, 7, 0] (lv' := [(0, .ref x), (1, .int n), (2, .int p0), (3, .int 0), (4, .ref (ad 0 1)), (5, .int (nI 8)), (6, .int (xk + 1))]) rfl ?_
              exact ih (k + 1) E1 G19 (xk + 1) (by omega) (by omega) (lp_s hx) (its_y hs hi17 (by simp only [x_drop]; rw [if_neg h21])) (h1)
          · refine g_seg [(32, .astore 7, 2), (34, .aload 7, 2)] 36 [(7, .null), (0, .ref x), (1, .int n), (2, .int p0), (3, .int 0), (4, .ref (ad 0 1)), (5, .int (nI 8)), (6, .int xk)] [.null] C (by decide +kernel) rfl ?_
            refine g_ifnullN (pc := 36) (off := 18) 54 C (by decide +kernel) (by decide) ?_
            refine g_seg [(54, .iinc 6 1, 3), (57, .goto (-37), 3)] 20 [(6, .int (xk + 1)), (7, .null), (0, .ref x), (1, .int n), (2, .int p0), (3, .int 0), (4, .ref (ad 0 1)), (5, .int (nI 8))] [] C (by decide +kernel) rfl ?_
            refine g_subp [2, 3, 4, 5, 6, 7, 0] (lv' := [(0, .ref x), (1, .int n), (2, .int p0), (3, .int 0), (4, .ref (ad 0 1)), (5, .int (nI 8)), (6, .int (xk + 1))]) rfl ?_
            exact ih (k + 1) E1 G1 (xk + 1) (by omega) (by omega) (lp_s hx) (its_n hs hi17) (h1)
    exact lp15 (8 + 1) 0 E G2 0 (by omega) (by omega) (nI_0.symm) (its_0) (h)
set_option maxHeartbeats 4000000 in
set_option maxRecDepth 100000 in
theorem c_X4_endFlights (l : Launch) (D : va_G) (cy : Nat → ClassId) {G : GG} {x : Nat} {ad : Nat → Nat → Nat} {b : Int32} {nt nf nc nn : Nat} {T E Cu N KT KF KC : Rw} (h : RX cy x ad b nt nf nc nn T E Cu N KT KF KC G) (hwok : s_wok T nt) : Ctr l D cy yX4_endFlights prog_1_method_41_code 7 (some .int) kX4_endFlights [.ref x] G (pI (fun v G' => v = (its (x_land N nn T nt nf b) (E, 0) nf).2 ∧ RX cy x ad b nt nf nc nn T (its (x_land N nn T nt nf b) (E, 0) nf).1 Cu N KT KF KC G')) := by
  refine Ctr.mk (by decide +kernel) (Nat.le_of_ble_eq_true rfl) ?_
  intro κ C R
  refine g_pc (pc' := 0) rfl ?_
  refine g_seg [(0, .iconst 0, 1), (1, .istore_n 1, 1), (2, .aload_n 0, 1)] 3 [(1, .int 0), (0, .ref x)] [.ref x] C (by decide +kernel) rfl ?_
  refine g_getf (pc := 3) (k := 1) (v := .ref (ad 0 1)) C fl_X4_17 (h.1.1) rfl (by decide +kernel) ?_
  refine g_seg [(6, .astore_n 2, 1), (7, .aload_n 2, 1)] 8 [(2, .ref (ad 0 1)), (1, .int 0), (0, .ref x)] [.ref (ad 0 1)] C (by decide +kernel) rfl ?_
  refine g_alenA (pc := 8) (len := 8) (t0 := 2) C (h.1.2.2.1) rfl (by decide +kernel) ?_
  refine g_seg [(9, .istore_n 3, 1), (10, .iconst 0, 1), (11, .istore 4, 2)] 13 [(4, .int 0), (3, .int (nI 8)), (2, .ref (ad 0 1)), (1, .int 0), (0, .ref x)] [] C (by decide +kernel) rfl ?_
  refine g_subp [4, 3, 2, 1, 0] (lv' := [(0, .ref x), (1, .int 0), (2, .ref (ad 0 1)), (3, .int (nI 8)), (4, .int 0)]) rfl ?_
  have lp1 : ∀ (m k : Nat) (E1 : Rw) (G1 : GG) (kk xk : Int32), 8 + 1 ≤ k + m → k ≤ 8 → xk = nI k → (E1, kk) = its (x_land N nn T nt nf b) (E, 0) (min k nf) → RX cy x ad b nt nf nc nn T E1 Cu N KT KF KC G1 → PG κ 7 0 0 G1 [(0, .ref x), (1, .int kk), (2, .ref (ad 0 1)), (3, .int (nI 8)), (4, .int xk)] 13 [] := by
    intro m
    induction m with
    | zero => intro k E1 G1 kk xk h1 h2; intros; exact absurd h1 (by omega)
    | succ m ih =>
      intro k E1 G1 kk xk hm hk hx hs h1
      refine g_seg [(13, .iload 4, 2), (15, .iload_n 3, 1)] 16 [(0, .ref x), (1, .int kk), (2, .ref (ad 0 1)), (3, .int (nI 8)), (4, .int xk)] [.int (nI 8), .int xk] C (by decide +kernel) rfl ?_
      refine g_icmp_ge (pc := 16) (off := 87) 103 C (by decide +kernel) (by decide) (fun c2 => ?_) (fun c2 => ?_)
      · have hk8 : k = 8 := by have := lp_ge hx (by omega) (by decide) c2; omega
        refine g_seg [(103, .iload_n 1, 1)] 104 [(0, .ref x), (1, .int kk), (2, .ref (ad 0 1)), (3, .int (nI 8)), (4, .int xk)] [.int kk] C (by decide +kernel) rfl ?_
        exact g_iret (pc := 104) C R (⟨_, rfl, by rw [← its_e hs hk8 (h.2.2.2.2.1)], by rw [← its_e hs hk8 (h.2.2.2.2.1)]; exact h1⟩) (Nat.le_of_ble_eq_true rfl) (Nat.le_of_ble_eq_true rfl) (by decide +kernel)
      · have hk8 : k < 8 := by have := lp_lt hx (by omega) (by decide) c2; omega
        refine g_seg [(19, .aload_n 2, 1), (20, .iload 4, 2)] 22 [(0, .ref x), (1, .int kk), (2, .ref (ad 0 1)), (3, .int (nI 8)), (4, .int xk)] [.int xk, .ref (ad 0 1)] C (by decide +kernel) rfl ?_
        refine g_aaldA (pc := 22) (len := 8) (t0 := 2) (j := k) C (h1.1.2.2.1) rfl (hx) (hk8) (by decide) (by decide +kernel) (fun hi3 => ?_) (fun hi3 => ?_)
        · refine g_seg [(23, .astore 5, 2), (25, .aload 5, 2)] 27 [(5, .ref (ad 2 k)), (0, .ref x), (1, .int kk), (2, .ref (ad 0 1)), (3, .int (nI 8)), (4, .int xk)] [.ref (ad 2 k)] C (by decide +kernel) rfl ?_
          refine g_ifnull (pc := 27) (off := 70) C (by decide +kernel) ?_
          refine g_seg [(30, .aload 5, 2), (32, .aload_n 0, 1)] 33 [(5, .ref (ad 2 k)), (0, .ref x), (1, .int kk), (2, .ref (ad 0 1)), (3, .int (nI 8)), (4, .int xk)] [.ref x, .ref (ad 2 k)] C (by decide +kernel) rfl ?_
          refine g_getf (pc := 33) (k := 8) (v := .int b) C fl_X4_53 (h1.1.1) rfl (by decide +kernel) ?_
          refine g_callV (pc := 36) C mV_X1_comesIn q271 (h1.2.1.2.1 k hi3) rfl rfl (c_X1_comesIn l D cy G1 (ad 2 k) (E1 k 0) (E1 k 1) (E1 k 2) (E1 k 3) (E1 k 4) (KF k 0) (KF k 1) (KF k 2) (KF k 3) (KF k 4) b (h1.2.1.2.1 k hi3)) rfl ⟨⟨Nat.le_of_ble_eq_true rfl, Nat.le_of_ble_eq_true rfl⟩, Nat.le_of_ble_eq_true rfl, Nat.le_of_ble_eq_true rfl⟩ rfl (Nat.le_of_ble_eq_true rfl) (by decide +kernel) ?_
          refine g_kI (fun v6 G5 hp4 => ?_)
          obtain ⟨rfl, hp4⟩ := hp4
          rcases hp4 with ⟨rfl, h7⟩ | ⟨rfl, h7⟩
          · refine g_if_eq (pc := 39) (off := 58) 97 C (by decide +kernel) (by decide) (fun c9 => absurd c9 (by decide)) (fun _ => ?_)
            refine g_seg [(42, .aload_n 0, 1), (43, .aload 5, 2)] 45 [(5, .ref (ad 2 k)), (0, .ref x), (1, .int kk), (2, .ref (ad 0 1)), (3, .int (nI 8)), (4, .int xk)] [.ref (ad 2 k), .ref x] C (by decide +kernel) rfl ?_
            refine g_getf (pc := 45) (k := 2) (v := .int (E1 k 2)) C fl_X4_232 (h1.2.1.2.1 k hi3) rfl (by decide +kernel) ?_
            refine g_callV (pc := 48) C mV_X4_catcherAt q275 (h1.1.1) rfl rfl (c_X4_catcherAt l D cy h1 hwok (E1 k 2)) rfl ⟨⟨Nat.le_of_ble_eq_true rfl, Nat.le_of_ble_eq_true rfl⟩, Nat.le_of_ble_eq_true rfl, Nat.le_of_ble_eq_true rfl⟩ rfl (Nat.le_of_ble_eq_true rfl) (by decide +kernel) ?_
            refine g_kI (fun v10 G8 hp9 => ?_)
            obtain ⟨rfl, hp9⟩ := hp9
            rcases hp9 with ⟨t11, ht12, rfl⟩ | ⟨ht12, rfl⟩
            · refine g_seg [(51, .istore 6, 2), (53, .iload 6, 2), (55, .iconst (-1), 1)] 56 [(6, .int (nI t11)), (5, .ref (ad 2 k)), (0, .ref x), (1, .int kk), (2, .ref (ad 0 1)), (3, .int (nI 8)), (4, .int xk)] [.int (-1), .int (nI t11)] C (by decide +kernel) rfl ?_
              refine g_icmp_ne (pc := 56) (off := 20) 76 C (by decide +kernel) (by decide) (fun _ => ?_) (fun c9 => absurd c9 (nI_m1 (t := t11) (by have := (fst_inv ht12).1; have := h.2.2.2.1; omega)))
              refine g_seg [(76, .aload 5, 2), (78, .iload 6, 2)] 80 [(6, .int (nI t11)), (5, .ref (ad 2 k)), (0, .ref x), (1, .int kk), (2, .ref (ad 0 1)), (3, .int (nI 8)), (4, .int xk)] [.int (nI t11), .ref (ad 2 k)] C (by decide +kernel) rfl ?_
              refine g_callV (pc := 80) C mV_X1_hangFrom q290 (h1.2.1.2.1 k hi3) rfl rfl (c_X1_hangFrom l D cy G8 (ad 2 k) (E1 k 0) (E1 k 1) (E1 k 2) (E1 k 3) (E1 k 4) (KF k 0) (KF k 1) (KF k 2) (KF k 3) (KF k 4) (nI t11) (h1.2.1.2.1 k hi3)) rfl ⟨⟨Nat.le_of_ble_eq_true rfl, Nat.le_of_ble_eq_true rfl⟩, Nat.le_of_ble_eq_true rfl, Nat.le_of_ble_eq_true rfl⟩ rfl (Nat.le_of_ble_eq_true rfl) (by decide +kernel) ?_
              refine g_kV (fun G13 hG14 => ?_)
              have h15 : RX cy x ad b nt nf nc nn T (x_st E1 k 1 (nI t11)) Cu N KT KF KC G13 := by rw [hG14]; exact RXF_st h1 hi3
              refine g_seg [(83, .aload 5, 2), (85, .dup, 1)] 86 [(6, .int (nI t11)), (5, .ref (ad 2 k)), (0, .ref x), (1, .int kk), (2, .ref (ad 0 1)), (3, .int (nI 8)), (4, .int xk)] [.ref (ad 2 k), .ref (ad 2 k)] C (by decide +kernel) rfl ?_
              refine g_getf (pc := 86) (k := 4) (v := .int ((x_st E1 k 1 (nI t11)) k 4)) C fl_X4_194 (h15.2.1.2.1 k hi3) rfl (by decide +kernel) ?_
              refine g_seg [(89, .iconst 1, 1), (90, .iadd, 1)] 91 [(6, .int (nI t11)), (5, .ref (ad 2 k)), (0, .ref x), (1, .int kk), (2, .ref (ad 0 1)), (3, .int (nI 8)), (4, .int xk)] [.int (((x_st E1 k 1 (nI t11)) k 4) + 1), .ref (ad 2 k)] C (by decide +kernel) rfl ?_
              refine g_putf (pc := 91) (k := 4) (v := .int (((x_st E1 k 1 (nI t11)) k 4) + 1)) (ty := .int) C fl_X4_194 fp_X1_4 (h15.2.1.2.1 k hi3) (rfl) (by first | rfl | decide) (Nat.le_of_ble_eq_true rfl) (by decide +kernel) ?_
              refine g_abs (P := fun G9 => RX cy x ad b nt nf nc nn T (s_set (x_st E1 k 1 (nI t11)) k 4 (((x_st E1 k 1 (nI t11)) k 4) + 1)) Cu N KT KF KC G9) (RXF_ca h15 hi3) (fun G16 h17 => ?_)
              refine g_seg [(94, .iinc 1 1, 3), (97, .iinc 4 1, 3), (100, .goto (-87), 3)] 13 [(4, .int (xk + 1)), (1, .int (kk + 1)), (6, .int (nI t11)), (5, .ref (ad 2 k)), (0, .ref x), (2, .ref (ad 0 1)), (3, .int (nI 8))] [] C (by decide +kernel) rfl ?_
              refine g_subp [4, 1, 5, 6, 0] (lv' := [(0, .ref x), (1, .int (kk + 1)), (2, .ref (ad 0 1)), (3, .int (nI 8)), (4, .int (xk + 1))]) rfl ?_
              exact ih (k + 1) (s_set (x_st E1 k 1 (nI t11)) k 4 (((x_st E1 k 1 (nI t11)) k 4) + 1)) G16 (kk + 1) (xk + 1) (by omega) (by omega) (lp_s hx) (its_y hs hi3 (by simp only [x_land]; rw [if_pos h7, ht12]; simp [x_st])) (h17)
            · refine g_seg [(51, .istore 6, 2), (53, .iload 6, 2), (55, .iconst (-1), 1)] 56 [(6, .int (-1)), (5, .ref (ad 2 k)), (0, .ref x), (1, .int kk), (2, .ref (ad 0 1)), (3, .int (nI 8)), (4, .int xk)] [.int (-1), .int (-1)] C (by decide +kernel) rfl ?_
              refine g_icmp_ne (pc := 56) (off := 20) 76 C (by decide +kernel) (by decide) (fun c9 => absurd (rfl) c9) (fun _ => ?_)
              refine g_seg [(59, .aload 5, 2), (61, .aload_n 0, 1), (62, .aload 5, 2)] 64 [(6, .int (-1)), (5, .ref (ad 2 k)), (0, .ref x), (1, .int kk), (2, .ref (ad 0 1)), (3, .int (nI 8)), (4, .int xk)] [.ref (ad 2 k), .ref x, .ref (ad 2 k)] C (by decide +kernel) rfl ?_
              refine g_getf (pc := 64) (k := 2) (v := .int (E1 k 2)) C fl_X4_232 (h1.2.1.2.1 k hi3) rfl (by decide +kernel) ?_
              refine g_callV (pc := 67) C mV_X4_isNetSpreadAt q282 (h1.1.1) rfl rfl (c_X4_isNetSpreadAt l D cy h1 (E1 k 2)) rfl ⟨⟨Nat.le_of_ble_eq_true rfl, Nat.le_of_ble_eq_true rfl⟩, Nat.le_of_ble_eq_true rfl, Nat.le_of_ble_eq_true rfl⟩ rfl (Nat.le_of_ble_eq_true rfl) (by decide +kernel) ?_
              refine g_kI (fun v20 G19 hp18 => ?_)
              obtain ⟨rfl, hp18⟩ := hp18
              rcases hp18 with ⟨rfl, h21⟩ | ⟨rfl, h21⟩
              · refine g_callV (pc := 70) C mV_X1_fall q286 (h1.2.1.2.1 k hi3) rfl rfl (c_X1_fall l D cy G19 (ad 2 k) (E1 k 0) (E1 k 1) (E1 k 2) (E1 k 3) (E1 k 4) (KF k 0) (KF k 1) (KF k 2) (KF k 3) (KF k 4) 1 (h1.2.1.2.1 k hi3)) rfl ⟨⟨Nat.le_of_ble_eq_true rfl, Nat.le_of_ble_eq_true rfl⟩, Nat.le_of_ble_eq_true rfl, Nat.le_of_ble_eq_true rfl⟩ rfl (Nat.le_of_ble_eq_true rfl) (by decide +kernel) ?_
                refine g_kV (fun G22 hG23 => ?_)
                have h24 : RX cy x ad b nt nf nc nn T (x_st E1 k 3 (-1)) Cu N KT KF KC G22 := by rw [hG23]; exact RXF_st (a := 3) h1 hi3
                refine g_seg [(73, .goto 24, 3), (97, .iinc 4 1, 3), (100, .goto (-87), 3)] 13 [(4, .int (xk + 1)), (6, .int (-1)), (5, .ref (ad 2 k)), (0, .ref x), (1, .int kk), (2, .ref (ad 0 1)), (3, .int (nI 8))] [] C (by decide +kernel) rfl ?_
                refine g_subp [3, 4, 5, 6, 0] (lv' := [(0, .ref x), (1, .int kk), (2, .ref (ad 0 1)), (3, .int (nI 8)), (4, .int (xk + 1))]) rfl ?_
                exact ih (k + 1) (x_st E1 k 3 (-1)) G22 kk (xk + 1) (by omega) (by omega) (lp_s hx) (its_y hs hi3 (by simp only [x_land, x_fallc]; rw [if_pos h7, ht12]; simp only; rw [if_pos (h21)])) (h24)
              · refine g_callV (pc := 70) C mV_X1_fall q286 (h1.2.1.2.1 k hi3) rfl rfl (c_X1_fall l D cy G19 (ad 2 k) (E1 k 0) (E1 k 1) (E1 k 2) (E1 k 3) (E1 k 4) (KF k 0) (KF k 1) (KF k 2) (KF k 3) (KF k 4) 0 (h1.2.1.2.1 k hi3)) rfl ⟨⟨Nat.le_of_ble_eq_true rfl, Nat.le_of_ble_eq_true rfl⟩, Nat.le_of_ble_eq_true rfl, Nat.le_of_ble_eq_true rfl⟩ rfl (Nat.le_of_ble_eq_true rfl) (by decide +kernel) ?_
                refine g_kV (fun G25 hG26 => ?_)
                have h27 : RX cy x ad b nt nf nc nn T (x_st E1 k 4 (-1)) Cu N KT KF KC G25 := by rw [hG26]; exact RXF_st (a := 4) h1 hi3
                refine g_seg [(73, .goto 24, 3), (97, .iinc 4 1, 3), (100, .goto (-87), 3)] 13 [(4, .int (xk + 1)), (6, .int (-1)), (5, .ref (ad 2 k)), (0, .ref x), (1, .int kk), (2, .ref (ad 0 1)), (3, .int (nI 8))] [] C (by decide +kernel) rfl ?_
                refine g_subp [3, 4, 5, 6, 0] (lv' := [(0, .ref x), (1, .int kk), (2, .ref (ad 0 1)), (3, .int (nI 8)), (4, .int (xk + 1))]) rfl ?_
                exact ih (k + 1) (x_st E1 k 4 (-1)) G25 kk (xk + 1) (by omega) (by omega) (lp_s hx) (its_y hs hi3 (by simp only [x_land, x_fallc]; rw [if_pos h7, ht12]; simp only; rw [if_neg (by rw [h21]; decide)])) (h27)
          · refine g_if_eq (pc := 39) (off := 58) 97 C (by decide +kernel) (by decide) (fun _ => ?_) (fun c9 => absurd (by decide) c9)
            refine g_seg [(97, .iinc 4 1, 3), (100, .goto (-87), 3)] 13 [(4, .int (xk + 1)), (5, .ref (ad 2 k)), (0, .ref x), (1, .int kk), (2, .ref (ad 0 1)), (3, .int (nI 8))] [] C (by decide +kernel) rfl ?_
            refine g_subp [2, 3, 4, 5, 0] (lv' := [(0, .ref x), (1, .int kk), (2, .ref (ad 0 1)), (3, .int (nI 8)), (4, .int (xk + 1))]) rfl ?_
            exact ih (k + 1) E1 G5 kk (xk + 1) (by omega) (by omega) (lp_s hx) (its_y hs hi3 (by simp only [x_land]; rw [if_neg h7])) (h1)
        · refine g_seg [(23, .astore 5, 2), (25, .aload 5, 2)] 27 [(5, .null), (0, .ref x), (1, .int kk), (2, .ref (ad 0 1)), (3, .int (nI 8)), (4, .int xk)] [.null] C (by decide +kernel) rfl ?_
          refine g_ifnullN (pc := 27) (off := 70) 97 C (by decide +kernel) (by decide) ?_
          refine g_seg [(97, .iinc 4 1, 3), (100, .goto (-87), 3)] 13 [(4, .int (xk + 1)), (5, .null), (0, .ref x), (1, .int kk), (2, .ref (ad 0 1)), (3, .int (nI 8))] [] C (by decide +kernel) rfl ?_
          refine g_subp [2, 3, 4, 5, 0] (lv' := [(0, .ref x), (1, .int kk), (2, .ref (ad 0 1)), (3, .int (nI 8)), (4, .int (xk + 1))]) rfl ?_
          exact ih (k + 1) E1 G1 kk (xk + 1) (by omega) (by omega) (lp_s hx) (its_n hs hi3) (h1)
  exact lp1 (8 + 1) 0 E G 0 0 (by omega) (by omega) (nI_0.symm) (its_0) (h)
set_option maxHeartbeats 4000000 in
set_option maxRecDepth 100000 in
theorem c_X4_wearRopes (l : Launch) (D : va_G) (cy : Nat → ClassId) {G : GG} {x : Nat} {ad : Nat → Nat → Nat} {b : Int32} {nt nf nc nn : Nat} {T E Cu N KT KF KC : Rw} (h : RX cy x ad b nt nf nc nn T E Cu N KT KF KC G) (hwok : s_wok T nt) : Ctr l D cy yX4_wearRopes prog_1_method_43_code 3 none kX4_wearRopes [.ref x] G (pV (fun G' => RX cy x ad b nt nf nc nn (its (x_wear N nn nf b) (T, E) nt).1 (its (x_wear N nn nf b) (T, E) nt).2 Cu N KT KF KC G')) := by
  refine Ctr.mk (by decide +kernel) (Nat.le_of_ble_eq_true rfl) ?_
  intro κ C R
  refine g_pc (pc' := 0) rfl ?_
  refine g_seg [(0, .iconst 0, 1), (1, .istore_n 1, 1)] 2 [(1, .int 0), (0, .ref x)] [] C (by decide +kernel) rfl ?_
  refine g_subp [1, 0] (lv' := [(0, .ref x), (1, .int 0)]) rfl ?_
  have lp1 : ∀ (m k : Nat) (T1 E1 : Rw) (G1 : GG) (xk : Int32), 6 + 1 ≤ k + m → k ≤ 6 → xk = nI k → (T1, E1) = its (x_wear N nn nf b) (T, E) (min k nt) → RX cy x ad b nt nf nc nn T1 E1 Cu N KT KF KC G1 → s_wok T1 nt → PG κ 3 0 0 G1 [(0, .ref x), (1, .int xk)] 2 [] := by
    intro m
    induction m with
    | zero => intro k T1 E1 G1 xk h1 h2; intros; exact absurd h1 (by omega)
    | succ m ih =>
      intro k T1 E1 G1 xk hm hk hx hs h1 hw1
      refine g_seg [(2, .iload_n 1, 1), (3, .aload_n 0, 1)] 4 [(0, .ref x), (1, .int xk)] [.ref x, .int xk] C (by decide +kernel) rfl ?_
      refine g_getf (pc := 4) (k := 0) (v := .ref (ad 0 0)) C fl_X4_11 (h1.1.1) rfl (by decide +kernel) ?_
      refine g_alenA (pc := 7) (len := 6) (t0 := 1) C (h1.1.2.1) rfl (by decide +kernel) ?_
      refine g_icmp_ge (pc := 8) (off := 67) 75 C (by decide +kernel) (by decide) (fun c2 => ?_) (fun c2 => ?_)
      · have hk8 : k = 6 := by have := lp_ge hx (by omega) (by decide) c2; omega
        exact g_vret (pc := 75) C R (⟨rfl, by rw [← its_e hs hk8 (h.2.2.2.1)]; exact h1⟩) (Nat.le_of_ble_eq_true rfl) (Nat.le_of_ble_eq_true rfl) (by decide +kernel)
      · have hk8 : k < 6 := by have := lp_lt hx (by omega) (by decide) c2; omega
        refine g_seg [(11, .aload_n 0, 1)] 12 [(0, .ref x), (1, .int xk)] [.ref x] C (by decide +kernel) rfl ?_
        refine g_getf (pc := 12) (k := 0) (v := .ref (ad 0 0)) C fl_X4_11 (h1.1.1) rfl (by decide +kernel) ?_
        refine g_seg [(15, .iload_n 1, 1)] 16 [(0, .ref x), (1, .int xk)] [.int xk, .ref (ad 0 0)] C (by decide +kernel) rfl ?_
        refine g_aaldA (pc := 16) (len := 6) (t0 := 1) (j := k) C (h1.1.2.1) rfl (hx) (hk8) (by decide) (by decide +kernel) (fun hi3 => ?_) (fun hi3 => ?_)
        · refine g_seg [(17, .astore_n 2, 1), (18, .aload_n 2, 1)] 19 [(2, .ref (ad 1 k)), (0, .ref x), (1, .int xk)] [.ref (ad 1 k)] C (by decide +kernel) rfl ?_
          refine g_ifnull (pc := 19) (off := 50) C (by decide +kernel) ?_
          refine g_seg [(22, .aload_n 2, 1)] 23 [(2, .ref (ad 1 k)), (0, .ref x), (1, .int xk)] [.ref (ad 1 k)] C (by decide +kernel) rfl ?_
          refine g_getf (pc := 23) (k := 6) (v := .int (T1 k 5)) C fl_X4_70 (h1.2.1.1 k hi3) rfl (by decide +kernel) ?_
          refine g_if_eq (pc := 26) (off := 43) 69 C (by decide +kernel) (by decide) (fun c4 => ?_) (fun c4 => ?_)
          · refine g_seg [(69, .iinc 1 1, 3), (72, .goto (-70), 3)] 2 [(1, .int (xk + 1)), (2, .ref (ad 1 k)), (0, .ref x)] [] C (by decide +kernel) rfl ?_
            refine g_subp [2, 0] (lv' := [(0, .ref x), (1, .int (xk + 1))]) rfl ?_
            exact ih (k + 1) T1 E1 G1 (xk + 1) (by omega) (by omega) (lp_s hx) (its_y hs hi3 (by simp only [x_wear]; rw [if_neg (fun h9 => h9.1 c4)])) (h1) (hw1)
          · refine g_seg [(29, .aload_n 2, 1), (30, .aload_n 0, 1)] 31 [(2, .ref (ad 1 k)), (0, .ref x), (1, .int xk)] [.ref x, .ref (ad 1 k)] C (by decide +kernel) rfl ?_
            refine g_getf (pc := 31) (k := 8) (v := .int b) C fl_X4_53 (h1.1.1) rfl (by decide +kernel) ?_
            refine g_callV (pc := 34) C mV_X3_isAtLeftEndIn q298 (h1.2.1.1 k hi3) rfl rfl (c_X3_isAtLeftEndIn l D cy G1 (ad 1 k) (T1 k 0) (T1 k 1) (T1 k 3) (T1 k 2) (T1 k 6) (T1 k 4) (T1 k 5) (KT k 0) (KT k 1) (h1.2.1.1 k hi3) b (hw1 k hi3)) rfl ⟨⟨Nat.le_of_ble_eq_true rfl, Nat.le_of_ble_eq_true rfl⟩, Nat.le_of_ble_eq_true rfl, Nat.le_of_ble_eq_true rfl⟩ rfl (Nat.le_of_ble_eq_true rfl) (by decide +kernel) ?_
            refine g_kI (fun v7 G6 hp5 => ?_)
            obtain ⟨rfl, hp5⟩ := hp5
            rcases hp5 with ⟨rfl, h8⟩ | ⟨rfl, h8⟩
            · refine g_if_eq (pc := 37) (off := 32) 69 C (by decide +kernel) (by decide) (fun c9 => absurd c9 (by decide)) (fun _ => ?_)
              refine g_seg [(40, .aload_n 2, 1), (41, .aload_n 0, 1), (42, .iload_n 1, 1)] 43 [(2, .ref (ad 1 k)), (0, .ref x), (1, .int xk)] [.int xk, .ref x, .ref (ad 1 k)] C (by decide +kernel) rfl ?_
              refine g_callV (pc := 43) C mV_X4_hangersOf q175 (h1.1.1) rfl rfl (c_X4_hangersOf l D cy h1 xk) rfl ⟨⟨Nat.le_of_ble_eq_true rfl, Nat.le_of_ble_eq_true rfl⟩, Nat.le_of_ble_eq_true rfl, Nat.le_of_ble_eq_true rfl⟩ rfl (Nat.le_of_ble_eq_true rfl) (by decide +kernel) ?_
              refine g_kI (fun v11 G10 hp9 => ?_)
              obtain ⟨rfl, rfl⟩ := hp9
              refine g_callV (pc := 46) C mV_X3_wear q302 (h1.2.1.1 k hi3) rfl rfl (c_X3_wear l D cy G10 (ad 1 k) (T1 k 0) (T1 k 1) (T1 k 3) (T1 k 2) (T1 k 6) (T1 k 4) (T1 k 5) (KT k 0) (KT k 1) (nI (s_hangE E1 nf xk)) (h1.2.1.1 k hi3)) rfl ⟨⟨Nat.le_of_ble_eq_true rfl, Nat.le_of_ble_eq_true rfl⟩, Nat.le_of_ble_eq_true rfl, Nat.le_of_ble_eq_true rfl⟩ rfl (Nat.le_of_ble_eq_true rfl) (by decide +kernel) ?_
              refine g_kV (fun G12 hG13 => ?_)
              have h14 : RX cy x ad b nt nf nc nn (x_wr T1 E1 nf k) E1 Cu N KT KF KC G12 := by rw [hG13]; exact (by first | exact RXT_wear h1 hi3 | (rw [hx]; exact RXT_wear h1 hi3))
              refine g_seg [(49, .aload_n 2, 1)] 50 [(2, .ref (ad 1 k)), (0, .ref x), (1, .int xk)] [.ref (ad 1 k)] C (by decide +kernel) rfl ?_
              refine g_getf (pc := 50) (k := 6) (v := .int ((x_wr T1 E1 nf k) k 5)) C fl_X4_70 (h14.2.1.1 k hi3) rfl (by decide +kernel) ?_
              refine g_if_ne (pc := 53) (off := 16) 69 C (by decide +kernel) (by decide) (fun c15 => ?_) (fun c15 => ?_)
              · refine g_seg [(69, .iinc 1 1, 3), (72, .goto (-70), 3)] 2 [(1, .int (xk + 1)), (2, .ref (ad 1 k)), (0, .ref x)] [] C (by decide +kernel) rfl ?_
                refine g_subp [2, 0] (lv' := [(0, .ref x), (1, .int (xk + 1))]) rfl ?_
                exact ih (k + 1) (x_wr T1 E1 nf k) E1 G12 (xk + 1) (by omega) (by omega) (lp_s hx) (its_y hs hi3 (by simp only [x_wear]; rw [if_pos ⟨c4, h8⟩, if_neg c15])) (h14) (wok_wr hw1)
              · refine g_seg [(56, .aload_n 0, 1), (57, .iload_n 1, 1), (58, .aload_n 2, 1), (59, .aload_n 0, 1)] 60 [(2, .ref (ad 1 k)), (0, .ref x), (1, .int xk)] [.ref x, .ref (ad 1 k), .int xk, .ref x] C (by decide +kernel) rfl ?_
                refine g_getf (pc := 60) (k := 8) (v := .int b) C fl_X4_53 (h14.1.1) rfl (by decide +kernel) ?_
                refine g_callV (pc := 63) C mV_X3_placeIn q161 (h14.2.1.1 k hi3) rfl rfl (c_X3_placeIn l D cy G12 (ad 1 k) ((x_wr T1 E1 nf k) k 0) ((x_wr T1 E1 nf k) k 1) ((x_wr T1 E1 nf k) k 3) ((x_wr T1 E1 nf k) k 2) ((x_wr T1 E1 nf k) k 6) ((x_wr T1 E1 nf k) k 4) ((x_wr T1 E1 nf k) k 5) (KT k 0) (KT k 1) (h14.2.1.1 k hi3) b (wok_wr hw1 k hi3)) rfl ⟨⟨Nat.le_of_ble_eq_true rfl, Nat.le_of_ble_eq_true rfl⟩, Nat.le_of_ble_eq_true rfl, Nat.le_of_ble_eq_true rfl⟩ rfl (Nat.le_of_ble_eq_true rfl) (by decide +kernel) ?_
                refine g_kI (fun v18 G17 hp16 => ?_)
                obtain ⟨rfl, rfl⟩ := hp16
                refine g_callV (pc := 66) C mV_X4_dropFrom q306 (h14.1.1) rfl rfl (c_X4_dropFrom l D cy h14 xk (s_pl ((x_wr T1 E1 nf k) k 0) ((x_wr T1 E1 nf k) k 1) ((x_wr T1 E1 nf k) k 2) (b - ((x_wr T1 E1 nf k) k 6)))) rfl ⟨⟨Nat.le_of_ble_eq_true rfl, Nat.le_of_ble_eq_true rfl⟩, Nat.le_of_ble_eq_true rfl, Nat.le_of_ble_eq_true rfl⟩ rfl (Nat.le_of_ble_eq_true rfl) (by decide +kernel) ?_
                refine g_kV (fun G19 h20 => ?_)
                refine g_seg [(69, .iinc 1 1, 3), (72, .goto (-70), 3)] 2 [(1, .int (xk + 1)), (2, .ref (ad 1 k)), (0, .ref x)] [] C (by decide +kernel) rfl ?_
                refine g_subp [2, 0] (lv' := [(0, .ref x), (1, .int (xk + 1))]) rfl ?_
                exact ih (k + 1) (x_wr T1 E1 nf k) (its (x_drop N nn (nI k) (s_pl ((x_wr T1 E1 nf k) k 0) ((x_wr T1 E1 nf k) k 1) ((x_wr T1 E1 nf k) k 2) (b - ((x_wr T1 E1 nf k) k 6)))) E1 nf) G19 (xk + 1) (by omega) (by omega) (lp_s hx) (its_y hs hi3 (by simp only [x_wear]; rw [if_pos ⟨c4, h8⟩, if_pos c15] <;> rfl)) (by have e9 := h20; rw [hx] at e9; exact e9) (wok_wr hw1)
            · refine g_if_eq (pc := 37) (off := 32) 69 C (by decide +kernel) (by decide) (fun _ => ?_) (fun c9 => absurd (by decide) c9)
              refine g_seg [(69, .iinc 1 1, 3), (72, .goto (-70), 3)] 2 [(1, .int (xk + 1)), (2, .ref (ad 1 k)), (0, .ref x)] [] C (by decide +kernel) rfl ?_
              refine g_subp [2, 0] (lv' := [(0, .ref x), (1, .int (xk + 1))]) rfl ?_
              exact ih (k + 1) T1 E1 G6 (xk + 1) (by omega) (by omega) (lp_s hx) (its_y hs hi3 (by simp only [x_wear]; rw [if_neg (fun h9 => h8 h9.2)])) (h1) (hw1)
        · refine g_seg [(17, .astore_n 2, 1), (18, .aload_n 2, 1)] 19 [(2, .null), (0, .ref x), (1, .int xk)] [.null] C (by decide +kernel) rfl ?_
          refine g_ifnullN (pc := 19) (off := 50) 69 C (by decide +kernel) (by decide) ?_
          refine g_seg [(69, .iinc 1 1, 3), (72, .goto (-70), 3)] 2 [(1, .int (xk + 1)), (2, .null), (0, .ref x)] [] C (by decide +kernel) rfl ?_
          refine g_subp [2, 0] (lv' := [(0, .ref x), (1, .int (xk + 1))]) rfl ?_
          exact ih (k + 1) T1 E1 G1 (xk + 1) (by omega) (by omega) (lp_s hx) (its_n hs hi3) (h1) (hw1)
  exact lp1 (6 + 1) 0 T E G 0 (by omega) (by omega) (nI_0.symm) (its_0) (h) (hwok)
end
section
theorem wok_wear1 {N : Rw} {nn nf nt t : Nat} {b : Int32} {TE : Rw × Rw} (h : s_wok TE.1 nt) : s_wok (x_wear N nn nf b t TE).1 nt := by
  unfold x_wear
  split
  · split
    · exact wok_wr h
    · exact wok_wr h
  · exact h
theorem wok_wear {N : Rw} {nn nf nt : Nat} {b : Int32} {TE : Rw × Rw} (h : s_wok TE.1 nt) (n : Nat) : s_wok (its (x_wear N nn nf b) TE n).1 nt := by
  induction n with
  | zero => exact h
  | succ n ih => exact wok_wear1 ih
theorem wok_beats {N : Rw} {nn nt nf nc : Nat} {S : Xb} (h : s_wok S.2.1 nt) (n : Nat) : s_wok (x_beats N nn nt nf nc S n).2.1 nt := by
  induction n with
  | zero => exact h
  | succ n ih => exact wok_wear (TE := (_, _)) ih nt

set_option maxHeartbeats 4000000 in
set_option maxRecDepth 100000 in
theorem c_X4_passBeats (l : Launch) (D : va_G) (cy : Nat → ClassId) {G : GG} {x : Nat} {ad : Nat → Nat → Nat} {b : Int32} {nt nf nc nn : Nat} {T E Cu N KT KF KC : Rw} (h : RX cy x ad b nt nf nc nn T E Cu N KT KF KC G) (hwok : s_wok T nt) (n : Nat) (bt : Int32) (hbt : bt = nI n) (hn : n ≤ 200) : Ctr l D cy yX4_passBeats prog_1_method_38_code 4 (some .int) kX4_passBeats [.ref x, .int bt] G (pI (fun v G' => v = (x_beats N nn nt nf nc (b, T, E, Cu, 0) n).2.2.2.2 ∧ RX cy x ad (x_beats N nn nt nf nc (b, T, E, Cu, 0) n).1 nt nf nc nn (x_beats N nn nt nf nc (b, T, E, Cu, 0) n).2.1 (x_beats N nn nt nf nc (b, T, E, Cu, 0) n).2.2.1 (x_beats N nn nt nf nc (b, T, E, Cu, 0) n).2.2.2.1 N KT KF KC G')) := by
  refine Ctr.mk (by decide +kernel) (Nat.le_of_ble_eq_true rfl) ?_
  intro κ C R
  refine g_pc (pc' := 0) rfl ?_
  refine g_seg [(0, .iconst 0, 1), (1, .istore_n 2, 1), (2, .iconst 0, 1), (3, .istore_n 3, 1)] 4 [(3, .int 0), (2, .int 0), (0, .ref x), (1, .int bt)] [] C (by decide +kernel) rfl ?_
  refine g_subp [2, 3, 1, 0] (lv' := [(0, .ref x), (1, .int bt), (2, .int 0), (3, .int 0)]) rfl ?_
  have lp1 : ∀ (m k : Nat) (b1 : Int32) (T1 E1 C1 : Rw) (G1 : GG) (kk xk : Int32), n + 1 ≤ k + m → k ≤ n → xk = nI k → (b1, T1, E1, C1, kk) = x_beats N nn nt nf nc (b, T, E, Cu, 0) k → RX cy x ad b1 nt nf nc nn T1 E1 C1 N KT KF KC G1 → s_wok T1 nt → PG κ 4 0 0 G1 [(0, .ref x), (1, .int bt), (2, .int kk), (3, .int xk)] 4 [] := by
    intro m
    induction m with
    | zero => intro k b1 T1 E1 C1 G1 kk xk h1 h2; intros; exact absurd h1 (by omega)
    | succ m ih =>
      intro k b1 T1 E1 C1 G1 kk xk hm hk hx hs h1 hw1
      refine g_seg [(4, .iload_n 3, 1), (5, .iload_n 1, 1)] 6 [(0, .ref x), (1, .int bt), (2, .int kk), (3, .int xk)] [.int bt, .int xk] C (by decide +kernel) rfl ?_
      refine g_icmp_ge (pc := 6) (off := 34) 40 C (by decide +kernel) (by decide) (fun c2 => ?_) (fun c2 => ?_)
      · have hk8 : k = n := by rw [hbt] at c2; have := lp_ge hx (by omega) (by omega) c2; omega
        refine g_seg [(40, .iload_n 2, 1)] 41 [(0, .ref x), (1, .int bt), (2, .int kk), (3, .int xk)] [.int kk] C (by decide +kernel) rfl ?_
        exact g_iret (pc := 41) C R (⟨_, rfl, by rw [← hk8, ← hs], by rw [← hk8, ← hs]; exact h1⟩) (Nat.le_of_ble_eq_true rfl) (Nat.le_of_ble_eq_true rfl) (by decide +kernel)
      · have hk8 : k < n := by rw [hbt] at c2; exact lp_lt hx (by omega) (by omega) c2
        refine g_seg [(9, .aload_n 0, 1)] 10 [(0, .ref x), (1, .int bt), (2, .int kk), (3, .int xk)] [.ref x] C (by decide +kernel) rfl ?_
        refine g_callV (pc := 10) C mV_X4_callCues q255 (h1.1.1) rfl rfl (c_X4_callCues l D cy h1 hw1) rfl ⟨⟨Nat.le_of_ble_eq_true rfl, Nat.le_of_ble_eq_true rfl⟩, Nat.le_of_ble_eq_true rfl, Nat.le_of_ble_eq_true rfl⟩ rfl (Nat.le_of_ble_eq_true rfl) (by decide +kernel) ?_
        refine g_kV (fun G3 h4 => ?_)
        refine g_seg [(13, .iload_n 2, 1), (14, .aload_n 0, 1)] 15 [(0, .ref x), (1, .int bt), (2, .int kk), (3, .int xk)] [.ref x, .int kk] C (by decide +kernel) rfl ?_
        refine g_callV (pc := 15) C mV_X4_endFlights q267 (h4.1.1) rfl rfl (c_X4_endFlights l D cy h4 hw1) rfl ⟨⟨Nat.le_of_ble_eq_true rfl, Nat.le_of_ble_eq_true rfl⟩, Nat.le_of_ble_eq_true rfl, Nat.le_of_ble_eq_true rfl⟩ rfl (Nat.le_of_ble_eq_true rfl) (by decide +kernel) ?_
        refine g_kI (fun v7 G5 hp6 => ?_)
        obtain ⟨rfl, h8⟩ := hp6
        refine g_seg [(18, .iadd, 1), (19, .istore_n 2, 1), (20, .aload_n 0, 1)] 21 [(2, .int (kk + ((its (x_land N nn T1 nt nf b1) ((its (x_cue T1 nt nf b1) (E1, C1) nc).1, 0) nf).2))), (0, .ref x), (1, .int bt), (3, .int xk)] [.ref x] C (by decide +kernel) rfl ?_
        refine g_callV (pc := 21) C mV_X4_wearRopes q294 (h8.1.1) rfl rfl (c_X4_wearRopes l D cy h8 hw1) rfl ⟨⟨Nat.le_of_ble_eq_true rfl, Nat.le_of_ble_eq_true rfl⟩, Nat.le_of_ble_eq_true rfl, Nat.le_of_ble_eq_true rfl⟩ rfl (Nat.le_of_ble_eq_true rfl) (by decide +kernel) ?_
        refine g_kV (fun G9 h10 => ?_)
        refine g_seg [(24, .aload_n 0, 1), (25, .dup, 1)] 26 [(2, .int (kk + ((its (x_land N nn T1 nt nf b1) ((its (x_cue T1 nt nf b1) (E1, C1) nc).1, 0) nf).2))), (0, .ref x), (1, .int bt), (3, .int xk)] [.ref x, .ref x] C (by decide +kernel) rfl ?_
        refine g_getf (pc := 26) (k := 8) (v := .int b1) C fl_X4_53 (h10.1.1) rfl (by decide +kernel) ?_
        refine g_seg [(29, .iconst 1, 1), (30, .iadd, 1)] 31 [(2, .int (kk + ((its (x_land N nn T1 nt nf b1) ((its (x_cue T1 nt nf b1) (E1, C1) nc).1, 0) nf).2))), (0, .ref x), (1, .int bt), (3, .int xk)] [.int (b1 + 1), .ref x] C (by decide +kernel) rfl ?_
        refine g_putf (pc := 31) (k := 8) (v := .int (b1 + 1)) (ty := .int) C fl_X4_53 fp_X4_8 (h10.1.1) (rfl) (by first | rfl | decide) (Nat.le_of_ble_eq_true rfl) (by decide +kernel) ?_
        refine g_abs (P := fun G9 => RX cy x ad (b1 + 1) nt nf nc nn ((its (x_wear N nn nf b1) (T1, (its (x_land N nn T1 nt nf b1) ((its (x_cue T1 nt nf b1) (E1, C1) nc).1, 0) nf).1) nt).1) ((its (x_wear N nn nf b1) (T1, (its (x_land N nn T1 nt nf b1) ((its (x_cue T1 nt nf b1) (E1, C1) nc).1, 0) nf).1) nt).2) ((its (x_cue T1 nt nf b1) (E1, C1) nc).2) N KT KF KC G9) (RX.setB h10) (fun G11 h12 => ?_)
        refine g_seg [(34, .iinc 3 1, 3), (37, .goto (-33), 3)] 4 [(3, .int (xk + 1)), (2, .int (kk + ((its (x_land N nn T1 nt nf b1) ((its (x_cue T1 nt nf b1) (E1, C1) nc).1, 0) nf).2))), (0, .ref x), (1, .int bt)] [] C (by decide +kernel) rfl ?_
        refine g_subp [2, 3, 1, 0] (lv' := [(0, .ref x), (1, .int bt), (2, .int (kk + ((its (x_land N nn T1 nt nf b1) ((its (x_cue T1 nt nf b1) (E1, C1) nc).1, 0) nf).2))), (3, .int (xk + 1))]) rfl ?_
        exact ih (k + 1) (b1 + 1) ((its (x_wear N nn nf b1) (T1, (its (x_land N nn T1 nt nf b1) ((its (x_cue T1 nt nf b1) (E1, C1) nc).1, 0) nf).1) nt).1) ((its (x_wear N nn nf b1) (T1, (its (x_land N nn T1 nt nf b1) ((its (x_cue T1 nt nf b1) (E1, C1) nc).1, 0) nf).1) nt).2) ((its (x_cue T1 nt nf b1) (E1, C1) nc).2) G11 (kk + ((its (x_land N nn T1 nt nf b1) ((its (x_cue T1 nt nf b1) (E1, C1) nc).1, 0) nf).2)) (xk + 1) (by omega) (by omega) (lp_s hx) (by simp only [x_beats, its] at hs ⊢; rw [← hs]; rfl) (h12) (wok_wear (TE := (_, _)) hw1 nt)
  exact lp1 (n + 1) 0 b T E Cu G 0 0 (by omega) (by omega) (nI_0.symm) (rfl) (h) (hwok)
set_option maxHeartbeats 4000000 in
set_option maxRecDepth 100000 in
theorem c_X4_keepAct (l : Launch) (D : va_G) (cy : Nat → ClassId) {G : GG} {x : Nat} {ad : Nat → Nat → Nat} {b : Int32} {nt nf nc nn : Nat} {T E Cu N KT KF KC : Rw} (h : RX cy x ad b nt nf nc nn T E Cu N KT KF KC G) (hb : ∀ t, t < nt → T t 5 = 0 ∨ T t 5 = 1) : Ctr l D cy yX4_keepAct prog_1_method_45_code 5 none kX4_keepAct [.ref x] G (pV (fun G' => RX cy x ad b nt nf nc nn T E Cu N (mixR (kT T) KT nt) (mixR E KF nf) (mixR (kC Cu) KC nc) G')) := by
  refine Ctr.mk (by decide +kernel) (Nat.le_of_ble_eq_true rfl) ?_
  intro κ C R
  refine g_pc (pc' := 0) rfl ?_
  refine g_seg [(0, .aload_n 0, 1)] 1 [(0, .ref x)] [.ref x] C (by decide +kernel) rfl ?_
  refine g_getf (pc := 1) (k := 0) (v := .ref (ad 0 0)) C fl_X4_11 (h.1.1) rfl (by decide +kernel) ?_
  refine g_seg [(4, .astore_n 1, 1), (5, .aload_n 1, 1)] 6 [(1, .ref (ad 0 0)), (0, .ref x)] [.ref (ad 0 0)] C (by decide +kernel) rfl ?_
  refine g_alenA (pc := 6) (len := 6) (t0 := 1) C (h.1.2.1) rfl (by decide +kernel) ?_
  refine g_seg [(7, .istore_n 2, 1), (8, .iconst 0, 1), (9, .istore_n 3, 1)] 10 [(3, .int 0), (2, .int (nI 6)), (1, .ref (ad 0 0)), (0, .ref x)] [] C (by decide +kernel) rfl ?_
  refine g_subp [3, 2, 1, 0] (lv' := [(0, .ref x), (1, .ref (ad 0 0)), (2, .int (nI 6)), (3, .int 0)]) rfl ?_
  have lp1 : ∀ (m k : Nat) (G1 : GG) (xk : Int32), 6 + 1 ≤ k + m → k ≤ 6 → xk = nI k → RX cy x ad b nt nf nc nn T E Cu N (mixR (kT T) KT (min k nt)) KF KC G1 → PG κ 5 0 0 G1 [(0, .ref x), (1, .ref (ad 0 0)), (2, .int (nI 6)), (3, .int xk)] 10 [] := by
    intro m
    induction m with
    | zero => intro k G1 xk h1 h2; intros; exact absurd h1 (by omega)
    | succ m ih =>
      intro k G1 xk hm hk hx ha
      refine g_seg [(10, .iload_n 3, 1), (11, .iload_n 2, 1)] 12 [(0, .ref x), (1, .ref (ad 0 0)), (2, .int (nI 6)), (3, .int xk)] [.int (nI 6), .int xk] C (by decide +kernel) rfl ?_
      refine g_icmp_ge (pc := 12) (off := 24) 36 C (by decide +kernel) (by decide) (fun c2 => ?_) (fun c2 => ?_)
      · have hk8 : k = 6 := by have := lp_ge hx (by omega) (by decide) c2; omega
        have hax : RX cy x ad b nt nf nc nn T E Cu N (mixR (kT T) KT nt) KF KC G1 := by rw [hk8, Nat.min_eq_right (by have := h.2.2.2.1; omega)] at ha; exact ha
        refine g_seg [(36, .aload_n 0, 1)] 37 [(0, .ref x), (1, .ref (ad 0 0)), (2, .int (nI 6)), (3, .int xk)] [.ref x] C (by decide +kernel) rfl ?_
        refine g_getf (pc := 37) (k := 1) (v := .ref (ad 0 1)) C fl_X4_17 (hax.1.1) rfl (by decide +kernel) ?_
        refine g_seg [(40, .astore_n 1, 1), (41, .aload_n 1, 1)] 42 [(1, .ref (ad 0 1)), (0, .ref x), (2, .int (nI 6)), (3, .int xk)] [.ref (ad 0 1)] C (by decide +kernel) rfl ?_
        refine g_alenA (pc := 42) (len := 8) (t0 := 2) C (hax.1.2.2.1) rfl (by decide +kernel) ?_
        refine g_seg [(43, .istore_n 2, 1), (44, .iconst 0, 1), (45, .istore_n 3, 1)] 46 [(3, .int 0), (2, .int (nI 8)), (1, .ref (ad 0 1)), (0, .ref x)] [] C (by decide +kernel) rfl ?_
        refine g_subp [3, 2, 1, 0] (lv' := [(0, .ref x), (1, .ref (ad 0 1)), (2, .int (nI 8)), (3, .int 0)]) rfl ?_
        have lp3 : ∀ (m k : Nat) (G1 : GG) (xk : Int32), 8 + 1 ≤ k + m → k ≤ 8 → xk = nI k → RX cy x ad b nt nf nc nn T E Cu N (mixR (kT T) KT nt) (mixR E KF (min k nf)) KC G1 → PG κ 5 0 0 G1 [(0, .ref x), (1, .ref (ad 0 1)), (2, .int (nI 8)), (3, .int xk)] 46 [] := by
          intro m
          induction m with
          | zero => intro k G1 xk h1 h2; intros; exact absurd h1 (by omega)
          | succ m ih =>
            intro k G1 xk hm hk hx hb
            refine g_seg [(46, .iload_n 3, 1), (47, .iload_n 2, 1)] 48 [(0, .ref x), (1, .ref (ad 0 1)), (2, .int (nI 8)), (3, .int xk)] [.int (nI 8), .int xk] C (by decide +kernel) rfl ?_
            refine g_icmp_ge (pc := 48) (off := 24) 72 C (by decide +kernel) (by decide) (fun c4 => ?_) (fun c4 => ?_)
            · have hk8 : k = 8 := by have := lp_ge hx (by omega) (by decide) c4; omega
              have hbx : RX cy x ad b nt nf nc nn T E Cu N (mixR (kT T) KT nt) (mixR E KF nf) KC G1 := by rw [hk8, Nat.min_eq_right (by have := h.2.2.2.2.1; omega)] at hb; exact hb
              refine g_seg [(72, .aload_n 0, 1)] 73 [(0, .ref x), (1, .ref (ad 0 1)), (2, .int (nI 8)), (3, .int xk)] [.ref x] C (by decide +kernel) rfl ?_
              refine g_getf (pc := 73) (k := 2) (v := .ref (ad 0 2)) C fl_X4_23 (hbx.1.1) rfl (by decide +kernel) ?_
              refine g_seg [(76, .astore_n 1, 1), (77, .aload_n 1, 1)] 78 [(1, .ref (ad 0 2)), (0, .ref x), (2, .int (nI 8)), (3, .int xk)] [.ref (ad 0 2)] C (by decide +kernel) rfl ?_
              refine g_alenA (pc := 78) (len := 20) (t0 := 3) C (hbx.1.2.2.2.1) rfl (by decide +kernel) ?_
              refine g_seg [(79, .istore_n 2, 1), (80, .iconst 0, 1), (81, .istore_n 3, 1)] 82 [(3, .int 0), (2, .int (nI 20)), (1, .ref (ad 0 2)), (0, .ref x)] [] C (by decide +kernel) rfl ?_
              refine g_subp [3, 2, 1, 0] (lv' := [(0, .ref x), (1, .ref (ad 0 2)), (2, .int (nI 20)), (3, .int 0)]) rfl ?_
              have lp5 : ∀ (m k : Nat) (G1 : GG) (xk : Int32), 20 + 1 ≤ k + m → k ≤ 20 → xk = nI k → RX cy x ad b nt nf nc nn T E Cu N (mixR (kT T) KT nt) (mixR E KF nf) (mixR (kC Cu) KC (min k nc)) G1 → PG κ 5 0 0 G1 [(0, .ref x), (1, .ref (ad 0 2)), (2, .int (nI 20)), (3, .int xk)] 82 [] := by
                intro m
                induction m with
                | zero => intro k G1 xk h1 h2; intros; exact absurd h1 (by omega)
                | succ m ih =>
                  intro k G1 xk hm hk hx hc
                  refine g_seg [(82, .iload_n 3, 1), (83, .iload_n 2, 1)] 84 [(0, .ref x), (1, .ref (ad 0 2)), (2, .int (nI 20)), (3, .int xk)] [.int (nI 20), .int xk] C (by decide +kernel) rfl ?_
                  refine g_icmp_ge (pc := 84) (off := 24) 108 C (by decide +kernel) (by decide) (fun c6 => ?_) (fun c6 => ?_)
                  · have hk8 : k = 20 := by have := lp_ge hx (by omega) (by decide) c6; omega
                    have hcx : RX cy x ad b nt nf nc nn T E Cu N (mixR (kT T) KT nt) (mixR E KF nf) (mixR (kC Cu) KC nc) G1 := by rw [hk8, Nat.min_eq_right (by have := h.2.2.2.2.2.1; omega)] at hc; exact hc
                    exact g_vret (pc := 108) C R (⟨rfl, hcx⟩) (Nat.le_of_ble_eq_true rfl) (Nat.le_of_ble_eq_true rfl) (by decide +kernel)
                  · have hk8 : k < 20 := lp_lt hx (by omega) (by decide) c6
                    refine g_seg [(87, .aload_n 1, 1), (88, .iload_n 3, 1)] 89 [(0, .ref x), (1, .ref (ad 0 2)), (2, .int (nI 20)), (3, .int xk)] [.int xk, .ref (ad 0 2)] C (by decide +kernel) rfl ?_
                    refine g_aaldA (pc := 89) (len := 20) (t0 := 3) (j := k) C (hc.1.2.2.2.1) rfl (hx) (hk8) (by decide) (by decide +kernel) (fun hi7 => ?_) (fun hi7 => ?_)
                    · rw [min_e hi7] at hc
                      refine g_seg [(90, .astore 4, 2), (92, .aload 4, 2)] 94 [(4, .ref (ad 3 k)), (0, .ref x), (1, .ref (ad 0 2)), (2, .int (nI 20)), (3, .int xk)] [.ref (ad 3 k)] C (by decide +kernel) rfl ?_
                      refine g_ifnull (pc := 94) (off := 8) C (by decide +kernel) ?_
                      refine g_seg [(97, .aload 4, 2)] 99 [(4, .ref (ad 3 k)), (0, .ref x), (1, .ref (ad 0 2)), (2, .int (nI 20)), (3, .int xk)] [.ref (ad 3 k)] C (by decide +kernel) rfl ?_
                      refine g_callV (pc := 99) C mV_X0_keep q331 (hc.2.1.2.2.1 k hi7) rfl rfl (c_X0_keep l D cy G1 (ad 3 k) (Cu k 0) (Cu k 1) (Cu k 2) (Cu k 3) (Cu k 4) ((mixR (kC Cu) KC k) k 0)  (hc.2.1.2.2.1 k hi7)) rfl ⟨⟨Nat.le_of_ble_eq_true rfl, Nat.le_of_ble_eq_true rfl⟩, Nat.le_of_ble_eq_true rfl, Nat.le_of_ble_eq_true rfl⟩ rfl (Nat.le_of_ble_eq_true rfl) (by decide +kernel) ?_
                      refine g_kV (fun G8 hG9 => ?_)
                      have h10 : RX cy x ad b nt nf nc nn T E Cu N (mixR (kT T) KT nt) (mixR E KF nf) (mixR (kC Cu) KC (k + 1)) G8 := by rw [hG9]; exact RX_keepC hc hi7
                      refine g_seg [(102, .iinc 3 1, 3), (105, .goto (-23), 3)] 82 [(3, .int (xk + 1)), (4, .ref (ad 3 k)), (0, .ref x), (1, .ref (ad 0 2)), (2, .int (nI 20))] [] C (by decide +kernel) rfl ?_
                      refine g_subp [2, 3, 4, 0] (lv' := [(0, .ref x), (1, .ref (ad 0 2)), (2, .int (nI 20)), (3, .int (xk + 1))]) rfl ?_
                      exact ih (k + 1) G8 (xk + 1) (by omega) (by omega) (lp_s hx) (by rw [min_y hi7, min_e hi7]; exact h10)
                    · refine g_seg [(90, .astore 4, 2), (92, .aload 4, 2)] 94 [(4, .null), (0, .ref x), (1, .ref (ad 0 2)), (2, .int (nI 20)), (3, .int xk)] [.null] C (by decide +kernel) rfl ?_
                      refine g_ifnullN (pc := 94) (off := 8) 102 C (by decide +kernel) (by decide) ?_
                      refine g_seg [(102, .iinc 3 1, 3), (105, .goto (-23), 3)] 82 [(3, .int (xk + 1)), (4, .null), (0, .ref x), (1, .ref (ad 0 2)), (2, .int (nI 20))] [] C (by decide +kernel) rfl ?_
                      refine g_subp [2, 3, 4, 0] (lv' := [(0, .ref x), (1, .ref (ad 0 2)), (2, .int (nI 20)), (3, .int (xk + 1))]) rfl ?_
                      exact ih (k + 1) G1 (xk + 1) (by omega) (by omega) (lp_s hx) (by rw [min_n hi7]; exact hc)
              exact lp5 (20 + 1) 0 G1 0 (by omega) (by omega) (nI_0.symm) (by rw [Nat.zero_min, mix0]; exact hbx)
            · have hk8 : k < 8 := lp_lt hx (by omega) (by decide) c4
              refine g_seg [(51, .aload_n 1, 1), (52, .iload_n 3, 1)] 53 [(0, .ref x), (1, .ref (ad 0 1)), (2, .int (nI 8)), (3, .int xk)] [.int xk, .ref (ad 0 1)] C (by decide +kernel) rfl ?_
              refine g_aaldA (pc := 53) (len := 8) (t0 := 2) (j := k) C (hb.1.2.2.1) rfl (hx) (hk8) (by decide) (by decide +kernel) (fun hi11 => ?_) (fun hi11 => ?_)
              · rw [min_e hi11] at hb
                refine g_seg [(54, .astore 4, 2), (56, .aload 4, 2)] 58 [(4, .ref (ad 2 k)), (0, .ref x), (1, .ref (ad 0 1)), (2, .int (nI 8)), (3, .int xk)] [.ref (ad 2 k)] C (by decide +kernel) rfl ?_
                refine g_ifnull (pc := 58) (off := 8) C (by decide +kernel) ?_
                refine g_seg [(61, .aload 4, 2)] 63 [(4, .ref (ad 2 k)), (0, .ref x), (1, .ref (ad 0 1)), (2, .int (nI 8)), (3, .int xk)] [.ref (ad 2 k)] C (by decide +kernel) rfl ?_
                refine g_callV (pc := 63) C mV_X1_keep q327 (hb.2.1.2.1 k hi11) rfl rfl (c_X1_keep l D cy G1 (ad 2 k) (E k 0) (E k 1) (E k 2) (E k 3) (E k 4) ((mixR E KF k) k 0) ((mixR E KF k) k 1) ((mixR E KF k) k 2) ((mixR E KF k) k 3) ((mixR E KF k) k 4)  (hb.2.1.2.1 k hi11)) rfl ⟨⟨Nat.le_of_ble_eq_true rfl, Nat.le_of_ble_eq_true rfl⟩, Nat.le_of_ble_eq_true rfl, Nat.le_of_ble_eq_true rfl⟩ rfl (Nat.le_of_ble_eq_true rfl) (by decide +kernel) ?_
                refine g_kV (fun G12 hG13 => ?_)
                have h14 : RX cy x ad b nt nf nc nn T E Cu N (mixR (kT T) KT nt) (mixR E KF (k + 1)) KC G12 := by rw [hG13]; exact RX_keepF hb hi11
                refine g_seg [(66, .iinc 3 1, 3), (69, .goto (-23), 3)] 46 [(3, .int (xk + 1)), (4, .ref (ad 2 k)), (0, .ref x), (1, .ref (ad 0 1)), (2, .int (nI 8))] [] C (by decide +kernel) rfl ?_
                refine g_subp [2, 3, 4, 0] (lv' := [(0, .ref x), (1, .ref (ad 0 1)), (2, .int (nI 8)), (3, .int (xk + 1))]) rfl ?_
                exact ih (k + 1) G12 (xk + 1) (by omega) (by omega) (lp_s hx) (by rw [min_y hi11, min_e hi11]; exact h14)
              · refine g_seg [(54, .astore 4, 2), (56, .aload 4, 2)] 58 [(4, .null), (0, .ref x), (1, .ref (ad 0 1)), (2, .int (nI 8)), (3, .int xk)] [.null] C (by decide +kernel) rfl ?_
                refine g_ifnullN (pc := 58) (off := 8) 66 C (by decide +kernel) (by decide) ?_
                refine g_seg [(66, .iinc 3 1, 3), (69, .goto (-23), 3)] 46 [(3, .int (xk + 1)), (4, .null), (0, .ref x), (1, .ref (ad 0 1)), (2, .int (nI 8))] [] C (by decide +kernel) rfl ?_
                refine g_subp [2, 3, 4, 0] (lv' := [(0, .ref x), (1, .ref (ad 0 1)), (2, .int (nI 8)), (3, .int (xk + 1))]) rfl ?_
                exact ih (k + 1) G1 (xk + 1) (by omega) (by omega) (lp_s hx) (by rw [min_n hi11]; exact hb)
        exact lp3 (8 + 1) 0 G1 0 (by omega) (by omega) (nI_0.symm) (by rw [Nat.zero_min, mix0]; exact hax)
      · have hk8 : k < 6 := lp_lt hx (by omega) (by decide) c2
        refine g_seg [(15, .aload_n 1, 1), (16, .iload_n 3, 1)] 17 [(0, .ref x), (1, .ref (ad 0 0)), (2, .int (nI 6)), (3, .int xk)] [.int xk, .ref (ad 0 0)] C (by decide +kernel) rfl ?_
        refine g_aaldA (pc := 17) (len := 6) (t0 := 1) (j := k) C (ha.1.2.1) rfl (hx) (hk8) (by decide) (by decide +kernel) (fun hi15 => ?_) (fun hi15 => ?_)
        · rw [min_e hi15] at ha
          refine g_seg [(18, .astore 4, 2), (20, .aload 4, 2)] 22 [(4, .ref (ad 1 k)), (0, .ref x), (1, .ref (ad 0 0)), (2, .int (nI 6)), (3, .int xk)] [.ref (ad 1 k)] C (by decide +kernel) rfl ?_
          refine g_ifnull (pc := 22) (off := 8) C (by decide +kernel) ?_
          refine g_seg [(25, .aload 4, 2)] 27 [(4, .ref (ad 1 k)), (0, .ref x), (1, .ref (ad 0 0)), (2, .int (nI 6)), (3, .int xk)] [.ref (ad 1 k)] C (by decide +kernel) rfl ?_
          refine g_callV (pc := 27) C mV_X3_keep q323 (ha.2.1.1 k hi15) rfl rfl (c_X3_keep l D cy G1 (ad 1 k) (T k 0) (T k 1) (T k 3) (T k 2) (T k 6) (T k 4) (T k 5) ((mixR (kT T) KT k) k 0) ((mixR (kT T) KT k) k 1)  (ha.2.1.1 k hi15) (hb k hi15)) rfl ⟨⟨Nat.le_of_ble_eq_true rfl, Nat.le_of_ble_eq_true rfl⟩, Nat.le_of_ble_eq_true rfl, Nat.le_of_ble_eq_true rfl⟩ rfl (Nat.le_of_ble_eq_true rfl) (by decide +kernel) ?_
          refine g_kV (fun G16 hG17 => ?_)
          have h18 : RX cy x ad b nt nf nc nn T E Cu N (mixR (kT T) KT (k + 1)) KF KC G16 := by rw [hG17]; exact RX_keepT ha hi15
          refine g_seg [(30, .iinc 3 1, 3), (33, .goto (-23), 3)] 10 [(3, .int (xk + 1)), (4, .ref (ad 1 k)), (0, .ref x), (1, .ref (ad 0 0)), (2, .int (nI 6))] [] C (by decide +kernel) rfl ?_
          refine g_subp [2, 3, 4, 0] (lv' := [(0, .ref x), (1, .ref (ad 0 0)), (2, .int (nI 6)), (3, .int (xk + 1))]) rfl ?_
          exact ih (k + 1) G16 (xk + 1) (by omega) (by omega) (lp_s hx) (by rw [min_y hi15, min_e hi15]; exact h18)
        · refine g_seg [(18, .astore 4, 2), (20, .aload 4, 2)] 22 [(4, .null), (0, .ref x), (1, .ref (ad 0 0)), (2, .int (nI 6)), (3, .int xk)] [.null] C (by decide +kernel) rfl ?_
          refine g_ifnullN (pc := 22) (off := 8) 30 C (by decide +kernel) (by decide) ?_
          refine g_seg [(30, .iinc 3 1, 3), (33, .goto (-23), 3)] 10 [(3, .int (xk + 1)), (4, .null), (0, .ref x), (1, .ref (ad 0 0)), (2, .int (nI 6))] [] C (by decide +kernel) rfl ?_
          refine g_subp [2, 3, 4, 0] (lv' := [(0, .ref x), (1, .ref (ad 0 0)), (2, .int (nI 6)), (3, .int (xk + 1))]) rfl ?_
          exact ih (k + 1) G1 (xk + 1) (by omega) (by omega) (lp_s hx) (by rw [min_n hi15]; exact ha)
  exact lp1 (6 + 1) 0 G 0 (by omega) (by omega) (nI_0.symm) (by rw [Nat.zero_min, mix0]; exact h)
set_option maxHeartbeats 4000000 in
set_option maxRecDepth 100000 in
theorem c_X4_takeActBack (l : Launch) (D : va_G) (cy : Nat → ClassId) {G : GG} {x : Nat} {ad : Nat → Nat → Nat} {b : Int32} {nt nf nc nn : Nat} {T E Cu N KT KF KC : Rw} (h : RX cy x ad b nt nf nc nn T E Cu N KT KF KC G) (hb : ∀ t, t < nt → KT t 1 = 0 ∨ KT t 1 = 1) : Ctr l D cy yX4_takeActBack prog_1_method_46_code 5 none kX4_takeActBack [.ref x] G (pV (fun G' => RX cy x ad b nt nf nc nn (mixR (tT T KT) T nt) (mixR KF E nf) (mixR (tC Cu KC) Cu nc) N KT KF KC G')) := by
  refine Ctr.mk (by decide +kernel) (Nat.le_of_ble_eq_true rfl) ?_
  intro κ C R
  refine g_pc (pc' := 0) rfl ?_
  refine g_seg [(0, .aload_n 0, 1)] 1 [(0, .ref x)] [.ref x] C (by decide +kernel) rfl ?_
  refine g_getf (pc := 1) (k := 0) (v := .ref (ad 0 0)) C fl_X4_11 (h.1.1) rfl (by decide +kernel) ?_
  refine g_seg [(4, .astore_n 1, 1), (5, .aload_n 1, 1)] 6 [(1, .ref (ad 0 0)), (0, .ref x)] [.ref (ad 0 0)] C (by decide +kernel) rfl ?_
  refine g_alenA (pc := 6) (len := 6) (t0 := 1) C (h.1.2.1) rfl (by decide +kernel) ?_
  refine g_seg [(7, .istore_n 2, 1), (8, .iconst 0, 1), (9, .istore_n 3, 1)] 10 [(3, .int 0), (2, .int (nI 6)), (1, .ref (ad 0 0)), (0, .ref x)] [] C (by decide +kernel) rfl ?_
  refine g_subp [3, 2, 1, 0] (lv' := [(0, .ref x), (1, .ref (ad 0 0)), (2, .int (nI 6)), (3, .int 0)]) rfl ?_
  have lp1 : ∀ (m k : Nat) (G1 : GG) (xk : Int32), 6 + 1 ≤ k + m → k ≤ 6 → xk = nI k → RX cy x ad b nt nf nc nn (mixR (tT T KT) T (min k nt)) E Cu N KT KF KC G1 → PG κ 5 0 0 G1 [(0, .ref x), (1, .ref (ad 0 0)), (2, .int (nI 6)), (3, .int xk)] 10 [] := by
    intro m
    induction m with
    | zero => intro k G1 xk h1 h2; intros; exact absurd h1 (by omega)
    | succ m ih =>
      intro k G1 xk hm hk hx ha
      refine g_seg [(10, .iload_n 3, 1), (11, .iload_n 2, 1)] 12 [(0, .ref x), (1, .ref (ad 0 0)), (2, .int (nI 6)), (3, .int xk)] [.int (nI 6), .int xk] C (by decide +kernel) rfl ?_
      refine g_icmp_ge (pc := 12) (off := 24) 36 C (by decide +kernel) (by decide) (fun c2 => ?_) (fun c2 => ?_)
      · have hk8 : k = 6 := by have := lp_ge hx (by omega) (by decide) c2; omega
        have hax : RX cy x ad b nt nf nc nn (mixR (tT T KT) T nt) E Cu N KT KF KC G1 := by rw [hk8, Nat.min_eq_right (by have := h.2.2.2.1; omega)] at ha; exact ha
        refine g_seg [(36, .aload_n 0, 1)] 37 [(0, .ref x), (1, .ref (ad 0 0)), (2, .int (nI 6)), (3, .int xk)] [.ref x] C (by decide +kernel) rfl ?_
        refine g_getf (pc := 37) (k := 1) (v := .ref (ad 0 1)) C fl_X4_17 (hax.1.1) rfl (by decide +kernel) ?_
        refine g_seg [(40, .astore_n 1, 1), (41, .aload_n 1, 1)] 42 [(1, .ref (ad 0 1)), (0, .ref x), (2, .int (nI 6)), (3, .int xk)] [.ref (ad 0 1)] C (by decide +kernel) rfl ?_
        refine g_alenA (pc := 42) (len := 8) (t0 := 2) C (hax.1.2.2.1) rfl (by decide +kernel) ?_
        refine g_seg [(43, .istore_n 2, 1), (44, .iconst 0, 1), (45, .istore_n 3, 1)] 46 [(3, .int 0), (2, .int (nI 8)), (1, .ref (ad 0 1)), (0, .ref x)] [] C (by decide +kernel) rfl ?_
        refine g_subp [3, 2, 1, 0] (lv' := [(0, .ref x), (1, .ref (ad 0 1)), (2, .int (nI 8)), (3, .int 0)]) rfl ?_
        have lp3 : ∀ (m k : Nat) (G1 : GG) (xk : Int32), 8 + 1 ≤ k + m → k ≤ 8 → xk = nI k → RX cy x ad b nt nf nc nn (mixR (tT T KT) T nt) (mixR KF E (min k nf)) Cu N KT KF KC G1 → PG κ 5 0 0 G1 [(0, .ref x), (1, .ref (ad 0 1)), (2, .int (nI 8)), (3, .int xk)] 46 [] := by
          intro m
          induction m with
          | zero => intro k G1 xk h1 h2; intros; exact absurd h1 (by omega)
          | succ m ih =>
            intro k G1 xk hm hk hx hb
            refine g_seg [(46, .iload_n 3, 1), (47, .iload_n 2, 1)] 48 [(0, .ref x), (1, .ref (ad 0 1)), (2, .int (nI 8)), (3, .int xk)] [.int (nI 8), .int xk] C (by decide +kernel) rfl ?_
            refine g_icmp_ge (pc := 48) (off := 24) 72 C (by decide +kernel) (by decide) (fun c4 => ?_) (fun c4 => ?_)
            · have hk8 : k = 8 := by have := lp_ge hx (by omega) (by decide) c4; omega
              have hbx : RX cy x ad b nt nf nc nn (mixR (tT T KT) T nt) (mixR KF E nf) Cu N KT KF KC G1 := by rw [hk8, Nat.min_eq_right (by have := h.2.2.2.2.1; omega)] at hb; exact hb
              refine g_seg [(72, .aload_n 0, 1)] 73 [(0, .ref x), (1, .ref (ad 0 1)), (2, .int (nI 8)), (3, .int xk)] [.ref x] C (by decide +kernel) rfl ?_
              refine g_getf (pc := 73) (k := 2) (v := .ref (ad 0 2)) C fl_X4_23 (hbx.1.1) rfl (by decide +kernel) ?_
              refine g_seg [(76, .astore_n 1, 1), (77, .aload_n 1, 1)] 78 [(1, .ref (ad 0 2)), (0, .ref x), (2, .int (nI 8)), (3, .int xk)] [.ref (ad 0 2)] C (by decide +kernel) rfl ?_
              refine g_alenA (pc := 78) (len := 20) (t0 := 3) C (hbx.1.2.2.2.1) rfl (by decide +kernel) ?_
              refine g_seg [(79, .istore_n 2, 1), (80, .iconst 0, 1), (81, .istore_n 3, 1)] 82 [(3, .int 0), (2, .int (nI 20)), (1, .ref (ad 0 2)), (0, .ref x)] [] C (by decide +kernel) rfl ?_
              refine g_subp [3, 2, 1, 0] (lv' := [(0, .ref x), (1, .ref (ad 0 2)), (2, .int (nI 20)), (3, .int 0)]) rfl ?_
              have lp5 : ∀ (m k : Nat) (G1 : GG) (xk : Int32), 20 + 1 ≤ k + m → k ≤ 20 → xk = nI k → RX cy x ad b nt nf nc nn (mixR (tT T KT) T nt) (mixR KF E nf) (mixR (tC Cu KC) Cu (min k nc)) N KT KF KC G1 → PG κ 5 0 0 G1 [(0, .ref x), (1, .ref (ad 0 2)), (2, .int (nI 20)), (3, .int xk)] 82 [] := by
                intro m
                induction m with
                | zero => intro k G1 xk h1 h2; intros; exact absurd h1 (by omega)
                | succ m ih =>
                  intro k G1 xk hm hk hx hc
                  refine g_seg [(82, .iload_n 3, 1), (83, .iload_n 2, 1)] 84 [(0, .ref x), (1, .ref (ad 0 2)), (2, .int (nI 20)), (3, .int xk)] [.int (nI 20), .int xk] C (by decide +kernel) rfl ?_
                  refine g_icmp_ge (pc := 84) (off := 24) 108 C (by decide +kernel) (by decide) (fun c6 => ?_) (fun c6 => ?_)
                  · have hk8 : k = 20 := by have := lp_ge hx (by omega) (by decide) c6; omega
                    have hcx : RX cy x ad b nt nf nc nn (mixR (tT T KT) T nt) (mixR KF E nf) (mixR (tC Cu KC) Cu nc) N KT KF KC G1 := by rw [hk8, Nat.min_eq_right (by have := h.2.2.2.2.2.1; omega)] at hc; exact hc
                    exact g_vret (pc := 108) C R (⟨rfl, hcx⟩) (Nat.le_of_ble_eq_true rfl) (Nat.le_of_ble_eq_true rfl) (by decide +kernel)
                  · have hk8 : k < 20 := lp_lt hx (by omega) (by decide) c6
                    refine g_seg [(87, .aload_n 1, 1), (88, .iload_n 3, 1)] 89 [(0, .ref x), (1, .ref (ad 0 2)), (2, .int (nI 20)), (3, .int xk)] [.int xk, .ref (ad 0 2)] C (by decide +kernel) rfl ?_
                    refine g_aaldA (pc := 89) (len := 20) (t0 := 3) (j := k) C (hc.1.2.2.2.1) rfl (hx) (hk8) (by decide) (by decide +kernel) (fun hi7 => ?_) (fun hi7 => ?_)
                    · rw [min_e hi7] at hc
                      refine g_seg [(90, .astore 4, 2), (92, .aload 4, 2)] 94 [(4, .ref (ad 3 k)), (0, .ref x), (1, .ref (ad 0 2)), (2, .int (nI 20)), (3, .int xk)] [.ref (ad 3 k)] C (by decide +kernel) rfl ?_
                      refine g_ifnull (pc := 94) (off := 8) C (by decide +kernel) ?_
                      refine g_seg [(97, .aload 4, 2)] 99 [(4, .ref (ad 3 k)), (0, .ref x), (1, .ref (ad 0 2)), (2, .int (nI 20)), (3, .int xk)] [.ref (ad 3 k)] C (by decide +kernel) rfl ?_
                      refine g_callV (pc := 99) C mV_X0_takeBack q347 (hc.2.1.2.2.1 k hi7) rfl rfl (c_X0_takeBack l D cy G1 (ad 3 k) ((mixR (tC Cu KC) Cu k) k 0) ((mixR (tC Cu KC) Cu k) k 1) ((mixR (tC Cu KC) Cu k) k 2) ((mixR (tC Cu KC) Cu k) k 3) ((mixR (tC Cu KC) Cu k) k 4) (KC k 0)  (hc.2.1.2.2.1 k hi7)) rfl ⟨⟨Nat.le_of_ble_eq_true rfl, Nat.le_of_ble_eq_true rfl⟩, Nat.le_of_ble_eq_true rfl, Nat.le_of_ble_eq_true rfl⟩ rfl (Nat.le_of_ble_eq_true rfl) (by decide +kernel) ?_
                      refine g_kV (fun G8 hG9 => ?_)
                      have h10 : RX cy x ad b nt nf nc nn (mixR (tT T KT) T nt) (mixR KF E nf) (mixR (tC Cu KC) Cu (k + 1)) N KT KF KC G8 := by rw [hG9]; exact RX_backC hc hi7
                      refine g_seg [(102, .iinc 3 1, 3), (105, .goto (-23), 3)] 82 [(3, .int (xk + 1)), (4, .ref (ad 3 k)), (0, .ref x), (1, .ref (ad 0 2)), (2, .int (nI 20))] [] C (by decide +kernel) rfl ?_
                      refine g_subp [2, 3, 4, 0] (lv' := [(0, .ref x), (1, .ref (ad 0 2)), (2, .int (nI 20)), (3, .int (xk + 1))]) rfl ?_
                      exact ih (k + 1) G8 (xk + 1) (by omega) (by omega) (lp_s hx) (by rw [min_y hi7, min_e hi7]; exact h10)
                    · refine g_seg [(90, .astore 4, 2), (92, .aload 4, 2)] 94 [(4, .null), (0, .ref x), (1, .ref (ad 0 2)), (2, .int (nI 20)), (3, .int xk)] [.null] C (by decide +kernel) rfl ?_
                      refine g_ifnullN (pc := 94) (off := 8) 102 C (by decide +kernel) (by decide) ?_
                      refine g_seg [(102, .iinc 3 1, 3), (105, .goto (-23), 3)] 82 [(3, .int (xk + 1)), (4, .null), (0, .ref x), (1, .ref (ad 0 2)), (2, .int (nI 20))] [] C (by decide +kernel) rfl ?_
                      refine g_subp [2, 3, 4, 0] (lv' := [(0, .ref x), (1, .ref (ad 0 2)), (2, .int (nI 20)), (3, .int (xk + 1))]) rfl ?_
                      exact ih (k + 1) G1 (xk + 1) (by omega) (by omega) (lp_s hx) (by rw [min_n hi7]; exact hc)
              exact lp5 (20 + 1) 0 G1 0 (by omega) (by omega) (nI_0.symm) (by rw [Nat.zero_min, mix0]; exact hbx)
            · have hk8 : k < 8 := lp_lt hx (by omega) (by decide) c4
              refine g_seg [(51, .aload_n 1, 1), (52, .iload_n 3, 1)] 53 [(0, .ref x), (1, .ref (ad 0 1)), (2, .int (nI 8)), (3, .int xk)] [.int xk, .ref (ad 0 1)] C (by decide +kernel) rfl ?_
              refine g_aaldA (pc := 53) (len := 8) (t0 := 2) (j := k) C (hb.1.2.2.1) rfl (hx) (hk8) (by decide) (by decide +kernel) (fun hi11 => ?_) (fun hi11 => ?_)
              · rw [min_e hi11] at hb
                refine g_seg [(54, .astore 4, 2), (56, .aload 4, 2)] 58 [(4, .ref (ad 2 k)), (0, .ref x), (1, .ref (ad 0 1)), (2, .int (nI 8)), (3, .int xk)] [.ref (ad 2 k)] C (by decide +kernel) rfl ?_
                refine g_ifnull (pc := 58) (off := 8) C (by decide +kernel) ?_
                refine g_seg [(61, .aload 4, 2)] 63 [(4, .ref (ad 2 k)), (0, .ref x), (1, .ref (ad 0 1)), (2, .int (nI 8)), (3, .int xk)] [.ref (ad 2 k)] C (by decide +kernel) rfl ?_
                refine g_callV (pc := 63) C mV_X1_takeBack q343 (hb.2.1.2.1 k hi11) rfl rfl (c_X1_takeBack l D cy G1 (ad 2 k) ((mixR KF E k) k 0) ((mixR KF E k) k 1) ((mixR KF E k) k 2) ((mixR KF E k) k 3) ((mixR KF E k) k 4) (KF k 0) (KF k 1) (KF k 2) (KF k 3) (KF k 4)  (hb.2.1.2.1 k hi11)) rfl ⟨⟨Nat.le_of_ble_eq_true rfl, Nat.le_of_ble_eq_true rfl⟩, Nat.le_of_ble_eq_true rfl, Nat.le_of_ble_eq_true rfl⟩ rfl (Nat.le_of_ble_eq_true rfl) (by decide +kernel) ?_
                refine g_kV (fun G12 hG13 => ?_)
                have h14 : RX cy x ad b nt nf nc nn (mixR (tT T KT) T nt) (mixR KF E (k + 1)) Cu N KT KF KC G12 := by rw [hG13]; exact RX_backF hb hi11
                refine g_seg [(66, .iinc 3 1, 3), (69, .goto (-23), 3)] 46 [(3, .int (xk + 1)), (4, .ref (ad 2 k)), (0, .ref x), (1, .ref (ad 0 1)), (2, .int (nI 8))] [] C (by decide +kernel) rfl ?_
                refine g_subp [2, 3, 4, 0] (lv' := [(0, .ref x), (1, .ref (ad 0 1)), (2, .int (nI 8)), (3, .int (xk + 1))]) rfl ?_
                exact ih (k + 1) G12 (xk + 1) (by omega) (by omega) (lp_s hx) (by rw [min_y hi11, min_e hi11]; exact h14)
              · refine g_seg [(54, .astore 4, 2), (56, .aload 4, 2)] 58 [(4, .null), (0, .ref x), (1, .ref (ad 0 1)), (2, .int (nI 8)), (3, .int xk)] [.null] C (by decide +kernel) rfl ?_
                refine g_ifnullN (pc := 58) (off := 8) 66 C (by decide +kernel) (by decide) ?_
                refine g_seg [(66, .iinc 3 1, 3), (69, .goto (-23), 3)] 46 [(3, .int (xk + 1)), (4, .null), (0, .ref x), (1, .ref (ad 0 1)), (2, .int (nI 8))] [] C (by decide +kernel) rfl ?_
                refine g_subp [2, 3, 4, 0] (lv' := [(0, .ref x), (1, .ref (ad 0 1)), (2, .int (nI 8)), (3, .int (xk + 1))]) rfl ?_
                exact ih (k + 1) G1 (xk + 1) (by omega) (by omega) (lp_s hx) (by rw [min_n hi11]; exact hb)
        exact lp3 (8 + 1) 0 G1 0 (by omega) (by omega) (nI_0.symm) (by rw [Nat.zero_min, mix0]; exact hax)
      · have hk8 : k < 6 := lp_lt hx (by omega) (by decide) c2
        refine g_seg [(15, .aload_n 1, 1), (16, .iload_n 3, 1)] 17 [(0, .ref x), (1, .ref (ad 0 0)), (2, .int (nI 6)), (3, .int xk)] [.int xk, .ref (ad 0 0)] C (by decide +kernel) rfl ?_
        refine g_aaldA (pc := 17) (len := 6) (t0 := 1) (j := k) C (ha.1.2.1) rfl (hx) (hk8) (by decide) (by decide +kernel) (fun hi15 => ?_) (fun hi15 => ?_)
        · rw [min_e hi15] at ha
          refine g_seg [(18, .astore 4, 2), (20, .aload 4, 2)] 22 [(4, .ref (ad 1 k)), (0, .ref x), (1, .ref (ad 0 0)), (2, .int (nI 6)), (3, .int xk)] [.ref (ad 1 k)] C (by decide +kernel) rfl ?_
          refine g_ifnull (pc := 22) (off := 8) C (by decide +kernel) ?_
          refine g_seg [(25, .aload 4, 2)] 27 [(4, .ref (ad 1 k)), (0, .ref x), (1, .ref (ad 0 0)), (2, .int (nI 6)), (3, .int xk)] [.ref (ad 1 k)] C (by decide +kernel) rfl ?_
          refine g_callV (pc := 27) C mV_X3_takeBack q339 (ha.2.1.1 k hi15) rfl rfl (c_X3_takeBack l D cy G1 (ad 1 k) ((mixR (tT T KT) T k) k 0) ((mixR (tT T KT) T k) k 1) ((mixR (tT T KT) T k) k 3) ((mixR (tT T KT) T k) k 2) ((mixR (tT T KT) T k) k 6) ((mixR (tT T KT) T k) k 4) ((mixR (tT T KT) T k) k 5) (KT k 0) (KT k 1)  (ha.2.1.1 k hi15) (hb k hi15)) rfl ⟨⟨Nat.le_of_ble_eq_true rfl, Nat.le_of_ble_eq_true rfl⟩, Nat.le_of_ble_eq_true rfl, Nat.le_of_ble_eq_true rfl⟩ rfl (Nat.le_of_ble_eq_true rfl) (by decide +kernel) ?_
          refine g_kV (fun G16 hG17 => ?_)
          have h18 : RX cy x ad b nt nf nc nn (mixR (tT T KT) T (k + 1)) E Cu N KT KF KC G16 := by rw [hG17]; exact RX_backT ha hi15
          refine g_seg [(30, .iinc 3 1, 3), (33, .goto (-23), 3)] 10 [(3, .int (xk + 1)), (4, .ref (ad 1 k)), (0, .ref x), (1, .ref (ad 0 0)), (2, .int (nI 6))] [] C (by decide +kernel) rfl ?_
          refine g_subp [2, 3, 4, 0] (lv' := [(0, .ref x), (1, .ref (ad 0 0)), (2, .int (nI 6)), (3, .int (xk + 1))]) rfl ?_
          exact ih (k + 1) G16 (xk + 1) (by omega) (by omega) (lp_s hx) (by rw [min_y hi15, min_e hi15]; exact h18)
        · refine g_seg [(18, .astore 4, 2), (20, .aload 4, 2)] 22 [(4, .null), (0, .ref x), (1, .ref (ad 0 0)), (2, .int (nI 6)), (3, .int xk)] [.null] C (by decide +kernel) rfl ?_
          refine g_ifnullN (pc := 22) (off := 8) 30 C (by decide +kernel) (by decide) ?_
          refine g_seg [(30, .iinc 3 1, 3), (33, .goto (-23), 3)] 10 [(3, .int (xk + 1)), (4, .null), (0, .ref x), (1, .ref (ad 0 0)), (2, .int (nI 6))] [] C (by decide +kernel) rfl ?_
          refine g_subp [2, 3, 4, 0] (lv' := [(0, .ref x), (1, .ref (ad 0 0)), (2, .int (nI 6)), (3, .int (xk + 1))]) rfl ?_
          exact ih (k + 1) G1 (xk + 1) (by omega) (by omega) (lp_s hx) (by rw [min_n hi15]; exact ha)
  exact lp1 (6 + 1) 0 G 0 (by omega) (by omega) (nI_0.symm) (by rw [Nat.zero_min, mix0]; exact h)
end
section
def g_strs : List (Nat × String) := [(136, "no such trapeze, or what is not 0 to 7"), (142, "no such flyer, or what is not 0 to 4"), (148, "no such cue, or what is not 0 to 4"), (154, "what is not 0 to 8"), (65, "no such trapeze"), (159, "beats is not 0 to 500"), (168, "beats is not 1 to 200"), (186, "what is not 4 to 8"), (39, "no such trapeze can be made"), (50, "there are 6 trapezes"), (68, "weight is not 0 to 10"), (74, "the trapeze is broken"), (101, "there are 8 flyers"), (108, "no such flyer or trapeze"), (118, "the flyer can't mount, or the trapeze is broken or full"), (89, "no net can be spread so"), (94, "there are 3 nets"), (124, "no such flyer"), (126, "no cue can be given so"), (131, "the beat has gone by, or there are 20 cues")]
def g_STR (U : State) : Prop := ∀ q ∈ g_strs, ∃ a, vk_R "CircusLines" q.1 q.2 a U
def g_NG (U : State) : Prop := va_Nw (.declares ⟨"java/lang/RuntimeException", "<init>", "(Ljava/lang/String;)V"⟩) U ∧ va_Nw (.declares ⟨"java/lang/Exception", "<init>", "(Ljava/lang/String;)V"⟩) U ∧ va_Nw (.declares ⟨"java/lang/Throwable", "<init>", "(Ljava/lang/String;)V"⟩) U ∧ va_Nw (.castable "java/lang/IndexOutOfBoundsException" "java/lang/IndexOutOfBoundsException") U ∧ va_Nw (.castable "java/lang/IllegalArgumentException" "java/lang/IllegalArgumentException") U ∧ va_Nw (.castable "java/lang/IllegalStateException" "java/lang/IllegalStateException") U ∧ va_Nw (.methodLinkNest "CircusLines" 103 ⟨"CircusLines$Flyer", "<init>", "()V"⟩ "CircusLines") U ∧ va_Nw (.methodLinkNest "CircusLinesLaw" 75 ⟨"CircusLinesLaw$Sim", "<init>", "()V"⟩ "CircusLinesLaw") U
theorem g_NG.same {u U : State} (hv : u.vm = U.vm) (h : g_NG u) : g_NG U := ⟨va_Nw.same rfl hv h.1, va_Nw.same rfl hv h.2.1, va_Nw.same rfl hv h.2.2.1, va_Nw.same rfl hv h.2.2.2.1, va_Nw.same rfl hv h.2.2.2.2.1, va_Nw.same rfl hv h.2.2.2.2.2.1, va_Nw.same rfl hv h.2.2.2.2.2.2.1, va_Nw.same rfl hv h.2.2.2.2.2.2.2⟩
theorem g_NG.warm {s U : State} (hW : s.WarmedH U.vm) (h : g_NG s) : g_NG U := ⟨va_Nw.warmD hW h.1, va_Nw.warmD hW h.2.1, va_Nw.warmD hW h.2.2.1, va_Nw.warmC hW h.2.2.2.1, va_Nw.warmC hW h.2.2.2.2.1, va_Nw.warmC hW h.2.2.2.2.2.1, va_Nw.warmM hW h.2.2.2.2.2.2.1, va_Nw.warmM hW h.2.2.2.2.2.2.2⟩
theorem g_STR.same {u U : State} (hv : u.vm = U.vm) (h : g_STR u) : g_STR U := fun q hq => by obtain ⟨a, ha⟩ := h q hq; exact ⟨a, vk_R.same hv.symm ha⟩
theorem g_STR.warm {s U : State} (hW : s.WarmedH U.vm) (h : g_STR s) : g_STR U := fun q hq => by obtain ⟨a, ha⟩ := h q hq; exact ⟨a, vk_R.warm hW ha⟩
def g_ZZ (A : Nat → Prop) (U : State) (H : Heap) : Prop := vx_Zq Bundle.tN "UNASSIGNED_STACK" Bundle.steD A U H ∧ vx_Zq Bundle.tN "SUPPRESSED_SENTINEL" Bundle.listD A U H
/-- what a throwing method needs beside the tables -/
def g_XF (l : Launch) (A : Nat → Prop) (U : State) (H : Heap) : Prop := l.stackTraces = false ∧ g_NG U ∧ g_STR U ∧ g_ZZ A U H
def g_names : List String := ["java/lang/RuntimeException", "java/lang/Exception"]

set_option maxRecDepth 100000 in
theorem at_IAE {args : Array Value} {s : State} (hT : ∀ w ∈ lw_T, w.before args s = true) (hN : g_NG s) : ∀ w ∈ vx_atS "CircusLines" 41 "java/lang/IllegalArgumentException" g_names, w.before args s = true := by
  have h1 : ((vx_atS "CircusLines" 41 "java/lang/IllegalArgumentException" g_names).filter goodWord).all (fun w => decide (w ∈ lw_tbl)) = true := by decide +kernel
  have h2 : ((vx_atS "CircusLines" 41 "java/lang/IllegalArgumentException" g_names).filter (fun w => !goodWord w)).all (fun w => decide (w ∈ ([.declares ⟨"java/lang/RuntimeException", "<init>", "(Ljava/lang/String;)V"⟩, .declares ⟨"java/lang/Exception", "<init>", "(Ljava/lang/String;)V"⟩, .declares ⟨"java/lang/Throwable", "<init>", "(Ljava/lang/String;)V"⟩, .castable "java/lang/IllegalArgumentException" "java/lang/IllegalArgumentException"] : List Cond))) = true := by decide +kernel
  refine vx_hat (fun w hw => ?_) (fun w hw => ?_) (B := [.declares ⟨"java/lang/RuntimeException", "<init>", "(Ljava/lang/String;)V"⟩, .declares ⟨"java/lang/Exception", "<init>", "(Ljava/lang/String;)V"⟩, .declares ⟨"java/lang/Throwable", "<init>", "(Ljava/lang/String;)V"⟩, .castable "java/lang/IllegalArgumentException" "java/lang/IllegalArgumentException"]) (vx_c (va_Nw.use rfl hN.1) (vx_c (va_Nw.use rfl hN.2.1) (vx_c (va_Nw.use rfl hN.2.2.1) (vx_c (va_Nw.use rfl hN.2.2.2.2.1) vx_n))))
  · have h3 := List.all_eq_true.mp h1 w hw
    simp only [decide_eq_true_eq] at h3
    exact hT w (List.mem_filter.mpr ⟨h3, (List.mem_filter.mp hw).2⟩)
  · have h3 := List.all_eq_true.mp h2 w hw
    simpa only [decide_eq_true_eq] using h3
set_option maxRecDepth 100000 in
theorem ot_IAE : ∀ w ∈ Cond.classLink "CircusLines" 37 "java/lang/IllegalArgumentException" :: Cond.initialized "java/lang/IllegalArgumentException" :: vx_atS "CircusLines" 41 "java/lang/IllegalArgumentException" g_names, vx_ot w = true := by
  have h1 : (Cond.classLink "CircusLines" 37 "java/lang/IllegalArgumentException" :: Cond.initialized "java/lang/IllegalArgumentException" :: vx_atS "CircusLines" 41 "java/lang/IllegalArgumentException" g_names).all vx_ot = true := by decide +kernel
  exact List.all_eq_true.mp h1
set_option maxRecDepth 100000 in
theorem at_ISE {args : Array Value} {s : State} (hT : ∀ w ∈ lw_T, w.before args s = true) (hN : g_NG s) : ∀ w ∈ vx_atS "CircusLines" 52 "java/lang/IllegalStateException" g_names, w.before args s = true := by
  have h1 : ((vx_atS "CircusLines" 52 "java/lang/IllegalStateException" g_names).filter goodWord).all (fun w => decide (w ∈ lw_tbl)) = true := by decide +kernel
  have h2 : ((vx_atS "CircusLines" 52 "java/lang/IllegalStateException" g_names).filter (fun w => !goodWord w)).all (fun w => decide (w ∈ ([.declares ⟨"java/lang/RuntimeException", "<init>", "(Ljava/lang/String;)V"⟩, .declares ⟨"java/lang/Exception", "<init>", "(Ljava/lang/String;)V"⟩, .declares ⟨"java/lang/Throwable", "<init>", "(Ljava/lang/String;)V"⟩, .castable "java/lang/IllegalStateException" "java/lang/IllegalStateException"] : List Cond))) = true := by decide +kernel
  refine vx_hat (fun w hw => ?_) (fun w hw => ?_) (B := [.declares ⟨"java/lang/RuntimeException", "<init>", "(Ljava/lang/String;)V"⟩, .declares ⟨"java/lang/Exception", "<init>", "(Ljava/lang/String;)V"⟩, .declares ⟨"java/lang/Throwable", "<init>", "(Ljava/lang/String;)V"⟩, .castable "java/lang/IllegalStateException" "java/lang/IllegalStateException"]) (vx_c (va_Nw.use rfl hN.1) (vx_c (va_Nw.use rfl hN.2.1) (vx_c (va_Nw.use rfl hN.2.2.1) (vx_c (va_Nw.use rfl hN.2.2.2.2.2.1) vx_n))))
  · have h3 := List.all_eq_true.mp h1 w hw
    simp only [decide_eq_true_eq] at h3
    exact hT w (List.mem_filter.mpr ⟨h3, (List.mem_filter.mp hw).2⟩)
  · have h3 := List.all_eq_true.mp h2 w hw
    simpa only [decide_eq_true_eq] using h3
set_option maxRecDepth 100000 in
theorem ot_ISE : ∀ w ∈ Cond.classLink "CircusLines" 48 "java/lang/IllegalStateException" :: Cond.initialized "java/lang/IllegalStateException" :: vx_atS "CircusLines" 52 "java/lang/IllegalStateException" g_names, vx_ot w = true := by
  have h1 : (Cond.classLink "CircusLines" 48 "java/lang/IllegalStateException" :: Cond.initialized "java/lang/IllegalStateException" :: vx_atS "CircusLines" 52 "java/lang/IllegalStateException" g_names).all vx_ot = true := by decide +kernel
  exact List.all_eq_true.mp h1
set_option maxRecDepth 100000 in
theorem at_IOE {args : Array Value} {s : State} (hT : ∀ w ∈ lw_T, w.before args s = true) (hN : g_NG s) : ∀ w ∈ vx_atS "CircusLines" 67 "java/lang/IndexOutOfBoundsException" g_names, w.before args s = true := by
  have h1 : ((vx_atS "CircusLines" 67 "java/lang/IndexOutOfBoundsException" g_names).filter goodWord).all (fun w => decide (w ∈ lw_tbl)) = true := by decide +kernel
  have h2 : ((vx_atS "CircusLines" 67 "java/lang/IndexOutOfBoundsException" g_names).filter (fun w => !goodWord w)).all (fun w => decide (w ∈ ([.declares ⟨"java/lang/RuntimeException", "<init>", "(Ljava/lang/String;)V"⟩, .declares ⟨"java/lang/Exception", "<init>", "(Ljava/lang/String;)V"⟩, .declares ⟨"java/lang/Throwable", "<init>", "(Ljava/lang/String;)V"⟩, .castable "java/lang/IndexOutOfBoundsException" "java/lang/IndexOutOfBoundsException"] : List Cond))) = true := by decide +kernel
  refine vx_hat (fun w hw => ?_) (fun w hw => ?_) (B := [.declares ⟨"java/lang/RuntimeException", "<init>", "(Ljava/lang/String;)V"⟩, .declares ⟨"java/lang/Exception", "<init>", "(Ljava/lang/String;)V"⟩, .declares ⟨"java/lang/Throwable", "<init>", "(Ljava/lang/String;)V"⟩, .castable "java/lang/IndexOutOfBoundsException" "java/lang/IndexOutOfBoundsException"]) (vx_c (va_Nw.use rfl hN.1) (vx_c (va_Nw.use rfl hN.2.1) (vx_c (va_Nw.use rfl hN.2.2.1) (vx_c (va_Nw.use rfl hN.2.2.2.1) vx_n))))
  · have h3 := List.all_eq_true.mp h1 w hw
    simp only [decide_eq_true_eq] at h3
    exact hT w (List.mem_filter.mpr ⟨h3, (List.mem_filter.mp hw).2⟩)
  · have h3 := List.all_eq_true.mp h2 w hw
    simpa only [decide_eq_true_eq] using h3
set_option maxRecDepth 100000 in
theorem ot_IOE : ∀ w ∈ Cond.classLink "CircusLines" 63 "java/lang/IndexOutOfBoundsException" :: Cond.initialized "java/lang/IndexOutOfBoundsException" :: vx_atS "CircusLines" 67 "java/lang/IndexOutOfBoundsException" g_names, vx_ot w = true := by
  have h1 : (Cond.classLink "CircusLines" 63 "java/lang/IndexOutOfBoundsException" :: Cond.initialized "java/lang/IndexOutOfBoundsException" :: vx_atS "CircusLines" 67 "java/lang/IndexOutOfBoundsException" g_names).all vx_ot = true := by decide +kernel
  exact List.all_eq_true.mp h1
theorem g_namesOK : ∀ n ∈ g_names, Bundle.fit n = true := by
  have h1 : g_names.all (fun n => Bundle.fit n) = true := by decide +kernel
  exact List.all_eq_true.mp h1
/-- what a throw of an exception class needs of the tables, by its two numbers -/
def g_ex (ik ic : Nat) (cls : String) : Prop := (∀ (args : Array Value) (s : State), (∀ w ∈ lw_T, w.before args s = true) → g_NG s → ∀ w ∈ vx_atS "CircusLines" ic cls g_names, w.before args s = true) ∧ (∀ w ∈ Cond.classLink "CircusLines" ik cls :: Cond.initialized cls :: vx_atS "CircusLines" ic cls g_names, vx_ot w = true) ∧ Bundle.fit cls = true ∧ Cond.classLink "CircusLines" ik cls ∈ lw_T ∧ Cond.initialized cls ∈ lw_T

theorem ex_IAE : g_ex 37 41 "java/lang/IllegalArgumentException" := ⟨fun _ _ => at_IAE, ot_IAE, by decide +kernel, q230, q26⟩
theorem ex_ISE : g_ex 48 52 "java/lang/IllegalStateException" := ⟨fun _ _ => at_ISE, ot_ISE, by decide +kernel, q416, q27⟩
theorem ex_IOE : g_ex 63 67 "java/lang/IndexOutOfBoundsException" := ⟨fun _ _ => at_IOE, ot_IOE, by decide +kernel, q89, q29⟩
/-! contracts that may throw -/
def g_PcX (l : Launch) (D : va_G) (cy : Nat → ClassId) (G : GG) (sz : Nat) (av : List Value) : Array Value → State → Prop := va_Pc av (fun U => U.heap.size = sz ∧ (∀ a e, G a = some e → va_at D vwCl (a, e) U.heap) ∧ g_K D cy U ∧ g_XF l (g_A G sz) U U.heap)
def g_XC (D : va_G) (A : Nat → Prop) (px : String → GG → Prop) : String → State → State → Prop := fun E st t => ∃ G', px E G' ∧ (∀ a e, G' a = some e → va_at D vwCl (a, e) t.heap ∧ A a) ∧ va_F A st t
def CtrX (l : Launch) (D : va_G) (cy : Nat → ClassId) (y : MethodName) (b : ByteArray) (n : Nat) (ret : Option FieldType) (rm : Room) (av : List Value) (G : GG) (post : Option Value → GG → Prop) (px : String → GG → Prop) : Prop :=
  ∀ sz, vx_Met l y (wsU y b n ret) rm (g_PcX l D cy G sz av) (g_Qc D (g_A G sz) post) (g_XC D (g_A G sz) px) rm.cells rm.slots (g_A G sz)
def g_RTX (κ : Kx) (post : Option Value → GG → Prop) (px : String → GG → Prop) (rm : Room) : Prop :=
  match κ with
  | (_, l, _, _, s, _, args, below, _, c, D, _, A, H0, Q) => Q = vx_MQ below (g_Qc D A post) (g_XC D A px) args s rm.cells rm.slots A ∧ H0 = s.heap ∧ g_XF l A s s.heap ∧ ∀ x ∈ c.exceptionTable.toList, False
theorem g_XF.moved {l : Launch} {A B : Nat → Prop} {s U : State} {H H1 : Heap} (hW : s.WarmedH U.vm) (hq : ∀ a : Nat, a < H.size → ¬ A a → H1[a]? = H[a]?) (hAB : ∀ q, B q → A q) (h : g_XF l A s H) : g_XF l B U H1 :=
  ⟨h.1, h.2.1.warm hW, h.2.2.1.warm hW, ((h.2.2.2.1.kept hq).moved hW.alike).narrow hAB, ((h.2.2.2.2.kept hq).moved hW.alike).narrow hAB⟩
theorem g_XF.same {l : Launch} {A : Nat → Prop} {u U : State} {H : Heap} (hv : u.vm = U.vm) (h : g_XF l A u H) : g_XF l A U H := by
  have ha : u.vm.Alike U.vm := by rw [hv]; exact Vm.Alike.refl _
  exact ⟨h.1, h.2.1.same hv, h.2.2.1.same hv, h.2.2.2.1.moved ha, h.2.2.2.2.moved ha⟩
theorem g_blindX (l : Launch) (D : va_G) (cy : Nat → ClassId) (G : GG) (sz : Nat) (av : List Value) : FrameBlind (g_PcX l D cy G sz av) := by
  intro a U g mk h
  obtain ⟨h0, h1, h2, h3, h4⟩ := h
  exact ⟨h0, h1, h2, g_K.moved (u := U) (U := U.calling g mk a) (Vm.Alike.refl U.vm) h3, g_XF.same (u := U) (U := U.calling g mk a) rfl h4⟩
theorem CtrX.mk {l : Launch} {D : va_G} {cy : Nat → ClassId} {y : MethodName} {b : ByteArray} {n : Nat} {ret : Option FieldType} {rm : Room} {av : List Value} {G : GG} {post : Option Value → GG → Prop} {px : String → GG → Prop}
    (hy : plainName y.cls = true) (hn : (lg_sl av).length ≤ n)
    (body : ∀ κ : Kx, g_OK κ l D cy y n b rm ret → g_RTX κ post px rm → PG κ n 0 0 G (lv_args 0 av) 0 []) : CtrX l D cy y b n ret rm av G post px := by
  intro sz
  refine vx_ofW (cc := b) (maxL := n) (ret := ret) hy rfl ?_
  intro p e s m args below meth c s₁ B hml hx hv
  obtain ⟨rfl, hsz, hP, hK, hF⟩ := hv
  have hts := atoms_spec (ws := wsU y b n ret) B.pre
  subst hsz
  have hb := body (p, l, e, rm, s, m, av.toArray, below, meth, c, D, cy, g_A G s.heap.size, s.heap, vx_MQ below (g_Qc D (g_A G s.heap.size) post) (g_XC D (g_A G s.heap.size) px) av.toArray s rm.cells rm.slots (g_A G s.heap.size))
    ⟨⟨rfl, rfl, rfl⟩, B.exec, B.bytes, hml, findClass_of_methodNamed B.named, fun w hw => hts w (List.mem_cons_of_mem _ hw), hK, fun q h => Or.inr h, rfl, B.returns, B.notSynchronized, (name_of_methodNamed B.named B.method).1⟩ ⟨rfl, rfl, hF, hx⟩
  have hl := lv_entry av hn
  rw [lg_entry_eq]
  exact hb s.heap [] _ ⟨fun a e h => ⟨hP a e h, Or.inl ⟨e, h⟩⟩, va_S.rf⟩ hl
section PGX
variable {κ : Kx} {l0 : Launch} {D0 : va_G} {cy0 : Nat → ClassId} {y y' : MethodName} {nL ce sl n' index k : Nat} {cc b' : ByteArray} {rm rm' : Room} {ret ret' : Option FieldType} {G : GG} {lv : LV} {pc : Nat} {st rest As : List Value} {a : Nat} {post : Option Value → GG → Prop} {px : String → GG → Prop}
theorem g_throw {ik is ic : Nat} {cls text : String} (C : g_OK κ l0 D0 cy0 y nL cc rm ret) (hR : g_RTX κ post px rm) (hy : y.cls = "CircusLines") (hE : g_ex ik ic cls) (hs : (is, text) ∈ g_strs) (hp : px cls G)
    (hfr : 5 < rm.frames) (hlo : (rest.map fun v => v.category).sum + 82 ≤ rm.locals) (hc : ce + 1 ≤ rm.cells) (hsl : sl + 6 ≤ rm.slots)
    (d0 : decode cc pc = .ok (.new ik, 3)) (d3 : decode cc (pc + 3) = .ok (.dup, 1)) (d4 : decode cc (pc + 4) = .ok (.ldc is, 2)) (d6 : decode cc (pc + 6) = .ok (.invokespecial ic, 3)) (d9 : decode cc (pc + 9) = .ok (.athrow, 1)) : PG κ nL ce sl G lv pc rest := by
  obtain ⟨p, l, e, R, s, m, args, below, meth, c, D, cy, A, H0, Q⟩ := κ
  obtain ⟨rfl, hH, hF, htab⟩ := hR
  subst hH
  obtain ⟨⟨rfl, rfl, rfl⟩, h0, hb, hml, hown, hT, hK, hA, rfl, hr, hlocks, -⟩ := C
  obtain ⟨hat, hot, hfit, hk, hini⟩ := hE
  obtain ⟨hl, hN, hS, hU, hSup⟩ := hF
  rw [hy] at hown
  obtain ⟨sa, hsa⟩ := hS (is, text) hs
  intro H locs ls hw hlv
  exact vx_throwS (A := A) (names := g_names) h0 hb hl hown hfit g_namesOK (hT _ hk) (hT _ hini) hsa (hat args s hT hN) hot hU hSup hw.2 (hlv.1.trans hml.symm) d0 d3 d4 d6 d9 (fun x hx => (htab x hx).elim) hfr hlo hc hsl hlocks
    (fun t ht hz hq => ⟨G, hp, fun a e he => ⟨((hw.1 a e he).1).kept (hq a (hw.1 a e he).1.lt), (hw.1 a e he).2⟩, Nat.le_trans hw.2.1 hz, fun q h1 h2 => (hq q (Nat.lt_of_lt_of_le h1 hw.2.1)).trans (hw.2.2.1 q h1 h2)⟩) hw.2.2.2 hc hsl
theorem g_iretX {v : Int32} (C : g_OK κ l0 D0 cy0 y nL cc rm (some .int)) (hR : g_RTX κ post px rm) (hp : post (some (.int v)) G) (hc : ce ≤ rm.cells) (hs : sl ≤ rm.slots) (hd : decode cc pc = .ok (.ireturn, 1)) : PG κ nL ce sl G lv pc [.int v] := by
  obtain ⟨p, l, e, R, s, m, args, below, meth, c, D, cy, A, H0, Q⟩ := κ
  obtain ⟨rfl, hH, -⟩ := hR
  subst hH
  obtain ⟨-, h0, hb, hml, hown, hT, hK, hA, -, hr, hlocks, -⟩ := C
  intro H locs ls hw hl
  refine vx_ret (W.widen hc hs (W.iret h0 hb hr ?_ hw.2.2.2 hd hlocks))
  intro t ht hW
  exact ⟨⟨_, G, rfl, hp, fun a e h => by rw [ht]; exact hw.1 a e h⟩, hw.2.F ht⟩
/-- a nest mate's own constructor -/
theorem g_callIN {host : String} (C : g_OK κ l0 D0 cy0 y nL cc rm ret) (hR : g_RTX κ (post := post) px rm) (hm : g_mI y' b' n' k) {post' : Option Value → GG → Prop} (hlink : ∀ U, g_NG U → va_Nw (.methodLinkNest y.cls index y' host) U) (hM : Ctr l0 D0 cy0 y' b' n' none rm' (.ref a :: As) G post') (hn : As.length = k) (hr : g_room rm rm' n' ce sl) (hst : st = As.reverse ++ .ref a :: rest) (hcat : (rest.map fun v => v.category).sum ≤ 8) (hd : decode cc pc = .ok (.invokespecial index, 3))
    (kk : ∀ r G', post' r G' → PG κ nL (ce + rm'.cells) (sl + rm'.slots) G' lv (pc + 3) (r.toList ++ rest)) : PG κ nL ce sl G lv pc st := by
  obtain ⟨p, l, e, R, s, m, args, below, meth, c, D, cy, A, H0, Q⟩ := κ
  obtain ⟨rfl, hH, hF, htab⟩ := hR
  obtain ⟨⟨rfl, rfl, rfl⟩, h0, hb, hml, hown, hT, hK, hA, rfl, -⟩ := C
  obtain ⟨m1, m2, m3, m4, m5, m6⟩ := hm
  intro H locs ls hw hl
  exact g_fin hA hw (va_runIN (As := As) (b := a) ⟨h0, hb, hml, hown, hT⟩ (hM H.size) ⟨⟨⟨rfl, rfl, hr.1.1, hr.1.2, pay_in hT (g_wsU m1), List.mem_cons_self⟩, hT _ m1, hT _ m2, m3, fun sig h => by rw [h] at m4; exact (Option.some.inj m4).symm, va_Nw.use rfl (hlink s hF.2.1)⟩, m6, hT _ m5⟩ ⟨g_blind D cy G H.size _, fun U hU hW => ⟨rfl, by rw [hU], fun a e h => by rw [hU]; exact (hw.1 a e h).1, g_K.moved hW.alike hK⟩⟩ rfl hn hl.1 hst (lv_room hcat) hd hr.2) (fun r G' hp H1 locs1 hw1 => kk r G' hp H1 locs1 ls hw1 hl)
end PGX
end
section
/-! what the class's public methods do to the ring -/
def s_add (T : Rw) (n : Nat) (r : Nat → Int32) : Rw := fun i => if i = n then r else T i
def adU (ad : Nat → Nat → Nat) (k n q : Nat) : Nat → Nat → Nat := fun a i => if a = k ∧ i = n then q else ad a i
def z0 : Nat → Int32 := fun _ => 0
def rowT (mid wid wt st b : Int32) : Nat → Int32 := fun k => match k with | 0 => mid | 1 => wid | 2 => wt | 3 => st | 4 => 0 | 5 => 1 | _ => b
def rowF : Nat → Int32 := fun k => match k with | 1 => -1 | _ => 0
def rowC (bt f r t : Int32) : Nat → Int32 := fun k => match k with | 0 => bt | 1 => f | 2 => r | 3 => t | _ => 0
def rowN (a c : Int32) : Nat → Int32 := fun k => match k with | 0 => a | _ => c
def okR (mid wid wt st : Int32) : Prop := (0 ≤ mid ∧ mid ≤ 99) ∧ (1 ≤ wid ∧ wid ≤ 20) ∧ (0 ≤ wt ∧ wt ≤ 10) ∧ (1 ≤ st ∧ st ≤ 99)
def okN (a c : Int32) : Prop := (-50 ≤ a ∧ a ≤ 150) ∧ (-50 ≤ c ∧ c ≤ 150) ∧ a ≤ c
def okC (bt r t : Int32) : Prop := (-20 ≤ r ∧ r ≤ 20) ∧ (1 ≤ t ∧ t ≤ 6) ∧ bt ≤ 9999
theorem cap_y {n k : Nat} (hk : 0 < k) (hk2 : k < 1000) (hn : n < 1000) (h : 0 ≤ nI n ∧ nI n ≤ nI k - 1) : n < k := by
  obtain ⟨j, hj, e⟩ := in_ix hk hk2 h
  have := (nI_eq (by omega) (by omega)).mp e
  omega
theorem cap_n {n k : Nat} (hk : 0 < k) (hk2 : k < 1000) (h : ¬ (0 ≤ nI n ∧ nI n ≤ nI k - 1)) : ¬ n < k := fun h9 => in_nix hk hk2 h n h9 rfl
section RXA
variable {cy : Nat → ClassId} {x : Nat} {ad : Nat → Nat → Nat} {b : Int32} {nt nf nc nn : Nat} {T E C N KT KF KC : Rw} {G : GG} {q : Nat} {e : va_E}
theorem g_fresh {a : Nat} {e0 : va_E} (hq : G q = none) (ha : G a = some e0) : a ≠ q := fun h => by rw [h, hq] at ha; cases ha
theorem RX.nw (h : RX cy x ad b nt nf nc nn T E C N KT KF KC G) (hq : G q = none) : RX cy x ad b nt nf nc nn T E C N KT KF KC (g_up G q e) := by
  obtain ⟨⟨h1, h2, h3, h4, h5⟩, ⟨k1, k2, k3, k4⟩, hi, hb⟩ := h
  exact ⟨⟨by rw [g_up_ne (g_fresh hq h1)]; exact h1, by rw [g_up_ne (g_fresh hq h2)]; exact h2, by rw [g_up_ne (g_fresh hq h3)]; exact h3, by rw [g_up_ne (g_fresh hq h4)]; exact h4, by rw [g_up_ne (g_fresh hq h5)]; exact h5⟩, ⟨fun i hi => by rw [g_up_ne (g_fresh hq (k1 i hi))]; exact k1 i hi, fun i hi => by rw [g_up_ne (g_fresh hq (k2 i hi))]; exact k2 i hi, fun i hi => by rw [g_up_ne (g_fresh hq (k3 i hi))]; exact k3 i hi, fun i hi => by rw [g_up_ne (g_fresh hq (k4 i hi))]; exact k4 i hi⟩, hi, hb⟩
theorem va_up_add {ad0 : Nat → Nat} {n q : Nat} (hn : n < 1000) : va_up (fun i => if i < n then some (ad0 i) else none) (nI n).toNatClampNeg (some q) = (fun i => if i < n + 1 then some (if i = n then q else ad0 i) else none) := by
  rw [nI_clamp (by omega)]
  funext i
  unfold va_up
  by_cases h : i = n
  · subst h; simp
  · rw [if_neg h, if_neg h]
    dsimp only
    by_cases h1 : i < n
    · rw [if_pos h1, if_pos (by omega)]
    · rw [if_neg h1, if_neg (by omega)]
theorem RX_addT {r kr : Nat → Int32} (h : RX cy x ad b nt nf nc nn T E C N KT KF KC G) (hq : G q = none) (hn : nt < 6) : RX cy x (adU ad 1 nt q) b (nt + 1) nf nc nn (s_add T nt r) E C N (s_add KT nt kr) KF KC (g_up (g_up (g_up G q (oT (s_add T nt r) (s_add KT nt kr) nt)) (ad 0 0) (.inl (cy 1, 6, .inr (.inr (.inr (.inr (va_up (fun i => if i < nt then some (ad 1 i) else none) (nI nt).toNatClampNeg (some q)))))))) x (.inr (4, [.ref (ad 0 0), .ref (ad 0 1), .ref (ad 0 2), .ref (ad 0 3), .int (nI nt + 1), .int (nI nf), .int (nI nc), .int (nI nn), .int b]))) := by
  have hw := RX.nw (e := oT (s_add T nt r) (s_add KT nt kr) nt) h hq
  obtain ⟨⟨h1, h2, h3, h4, h5⟩, ⟨k1, k2, k3, k4⟩, ⟨i1, i2, i3⟩, hb⟩ := hw
  have hqq : g_up G q (oT (s_add T nt r) (s_add KT nt kr) nt) q = some (oT (s_add T nt r) (s_add KT nt kr) nt) := g_up_self ..
  have e1 : (.inl (cy 1, 6, .inr (.inr (.inr (.inr (va_up (fun i => if i < nt then some (ad 1 i) else none) (nI nt).toNatClampNeg (some q)))))) : va_E) = oA (cy 1) 6 (adU ad 1 nt q 1) (nt + 1) := by
    rw [va_up_add (by omega)]
    simp only [oA]
    congr 2
    simp [adU]
  have e2 : (.inr (4, [.ref (ad 0 0), .ref (ad 0 1), .ref (ad 0 2), .ref (ad 0 3), .int (nI nt + 1), .int (nI nf), .int (nI nc), .int (nI nn), .int b]) : va_E) = oX (adU ad 1 nt q) b (nt + 1) nf nc nn := by
    simp [oX, adU, nI_1]
  rw [e1, e2]
  have ax : ad 0 0 ≠ x := fun h9 => by rw [h9, h1] at h2; cases h2
  have old : ∀ (a : Nat) (e0 : va_E), g_up G q (oT (s_add T nt r) (s_add KT nt kr) nt) a = some e0 → a ≠ ad 0 0 → a ≠ x → ∀ {ar ob : va_E}, g_up (g_up (g_up G q (oT (s_add T nt r) (s_add KT nt kr) nt)) (ad 0 0) ar) x ob a = some e0 := fun a e0 ha n1 n2 => by intro ar ob; rw [g_up_ne n2, g_up_ne n1]; exact ha
  have ne : ∀ (a : Nat) (e0 e9 : va_E) (a9 : Nat), g_up G q (oT (s_add T nt r) (s_add KT nt kr) nt) a = some e0 → g_up G q (oT (s_add T nt r) (s_add KT nt kr) nt) a9 = some e9 → e0 ≠ e9 → a ≠ a9 := fun a e0 e9 a9 ha h9 hne h8 => hne (Option.some.inj (by rw [← ha, ← h9, h8]))
  have h0 := h.2.1.1
  exact ⟨⟨g_up_self .., by rw [show adU ad 1 nt q 0 0 = ad 0 0 by simp [adU], g_up_ne ax, g_up_self], by rw [show adU ad 1 nt q 0 1 = ad 0 1 by simp [adU], show oA (cy 2) 8 (adU ad 1 nt q 2) nf = oA (cy 2) 8 (ad 2) nf by simp [oA, adU]]; exact old _ _ h3 (ne _ _ _ _ h3 h2 (by simp [oA])) (ne _ _ _ _ h3 h1 (by simp [oA, oX])), by rw [show adU ad 1 nt q 0 2 = ad 0 2 by simp [adU], show oA (cy 3) 20 (adU ad 1 nt q 3) nc = oA (cy 3) 20 (ad 3) nc by simp [oA, adU]]; exact old _ _ h4 (ne _ _ _ _ h4 h2 (by simp [oA])) (ne _ _ _ _ h4 h1 (by simp [oA, oX])), by rw [show adU ad 1 nt q 0 3 = ad 0 3 by simp [adU], show oA (cy 4) 3 (adU ad 1 nt q 4) nn = oA (cy 4) 3 (ad 4) nn by simp [oA, adU]]; exact old _ _ h5 (ne _ _ _ _ h5 h2 (by simp [oA])) (ne _ _ _ _ h5 h1 (by simp [oA, oX]))⟩, ⟨fun i hi => by
    by_cases hin : i = nt
    · subst hin
      rw [show adU ad 1 i q 1 i = q by simp [adU]]
      exact old _ _ hqq (ne _ _ _ _ hqq h2 (by simp [oA, oT])) (ne _ _ _ _ hqq h1 (by simp [oX, oT]))
    · have hi2 : i < nt := by omega
      rw [show adU ad 1 nt q 1 i = ad 1 i by simp [adU, hin]]
      have e4 : oT (s_add T nt r) (s_add KT nt kr) i = oT T KT i := by simp [oT, s_add, hin]
      rw [e4]
      exact old _ _ (k1 i hi2) (ne _ _ _ _ (k1 i hi2) h2 (by simp [oA, oT])) (ne _ _ _ _ (k1 i hi2) h1 (by simp [oX, oT])),
  fun i hi => by rw [show adU ad 1 nt q 2 i = ad 2 i by simp [adU]]; exact old _ _ (k2 i hi) (ne _ _ _ _ (k2 i hi) h2 (by simp [oA, oF])) (ne _ _ _ _ (k2 i hi) h1 (by simp [oX, oF])),
  fun i hi => by rw [show adU ad 1 nt q 3 i = ad 3 i by simp [adU]]; exact old _ _ (k3 i hi) (ne _ _ _ _ (k3 i hi) h2 (by simp [oA, oC])) (ne _ _ _ _ (k3 i hi) h1 (by simp [oX, oC])),
  fun i hi => by rw [show adU ad 1 nt q 4 i = ad 4 i by simp [adU]]; exact old _ _ (k4 i hi) (ne _ _ _ _ (k4 i hi) h2 (by simp [oA, oN])) (ne _ _ _ _ (k4 i hi) h1 (by simp [oX, oN]))⟩, ⟨fun i j hi hj hij => by
    by_cases hin : i = nt
    · by_cases hjn : j = nt
      · omega
      · rw [show adU ad 1 nt q 1 i = q by simp [adU, hin], show adU ad 1 nt q 1 j = ad 1 j by simp [adU, hjn]] at hij
        exact absurd hij.symm (g_fresh hq (h0 j (by omega)))
    · by_cases hjn : j = nt
      · rw [show adU ad 1 nt q 1 j = q by simp [adU, hjn], show adU ad 1 nt q 1 i = ad 1 i by simp [adU, hin]] at hij
        exact absurd hij (g_fresh hq (h0 i (by omega)))
      · rw [show adU ad 1 nt q 1 i = ad 1 i by simp [adU, hin], show adU ad 1 nt q 1 j = ad 1 j by simp [adU, hjn]] at hij
        exact i1 i j (by omega) (by omega) hij,
  fun i j hi hj hij => by rw [show adU ad 1 nt q 2 i = ad 2 i by simp [adU], show adU ad 1 nt q 2 j = ad 2 j by simp [adU]] at hij; exact i2 i j hi hj hij,
  fun i j hi hj hij => by rw [show adU ad 1 nt q 3 i = ad 3 i by simp [adU], show adU ad 1 nt q 3 j = ad 3 j by simp [adU]] at hij; exact i3 i j hi hj hij⟩, by omega⟩
theorem RX_addF {r kr : Nat → Int32} (h : RX cy x ad b nt nf nc nn T E C N KT KF KC G) (hq : G q = none) (hn : nf < 8) : RX cy x (adU ad 2 nf q) b nt (nf + 1) nc nn T (s_add E nf r) C N KT (s_add KF nf kr) KC (g_up (g_up (g_up G q (oF (s_add E nf r) (s_add KF nf kr) nf)) (ad 0 1) (.inl (cy 2, 8, .inr (.inr (.inr (.inr (va_up (fun i => if i < nf then some (ad 2 i) else none) (nI nf).toNatClampNeg (some q)))))))) x (.inr (4, [.ref (ad 0 0), .ref (ad 0 1), .ref (ad 0 2), .ref (ad 0 3), .int (nI nt), .int (nI nf + 1), .int (nI nc), .int (nI nn), .int b]))) := by
  have hw := RX.nw (e := oF (s_add E nf r) (s_add KF nf kr) nf) h hq
  obtain ⟨⟨h1, h2, h3, h4, h5⟩, ⟨k1, k2, k3, k4⟩, ⟨i1, i2, i3⟩, hb⟩ := hw
  have hqq : g_up G q (oF (s_add E nf r) (s_add KF nf kr) nf) q = some (oF (s_add E nf r) (s_add KF nf kr) nf) := g_up_self ..
  have e1 : (.inl (cy 2, 8, .inr (.inr (.inr (.inr (va_up (fun i => if i < nf then some (ad 2 i) else none) (nI nf).toNatClampNeg (some q)))))) : va_E) = oA (cy 2) 8 (adU ad 2 nf q 2) (nf + 1) := by
    rw [va_up_add (by omega)]
    simp only [oA]
    congr 2
    simp [adU]
  have e2 : (.inr (4, [.ref (ad 0 0), .ref (ad 0 1), .ref (ad 0 2), .ref (ad 0 3), .int (nI nt), .int (nI nf + 1), .int (nI nc), .int (nI nn), .int b]) : va_E) = oX (adU ad 2 nf q) b nt (nf + 1) nc nn := by
    simp [oX, adU, nI_1]
  rw [e1, e2]
  have ax : ad 0 1 ≠ x := fun h9 => by rw [h9, h1] at h3; cases h3
  have old : ∀ (a : Nat) (e0 : va_E), g_up G q (oF (s_add E nf r) (s_add KF nf kr) nf) a = some e0 → a ≠ ad 0 1 → a ≠ x → ∀ {ar ob : va_E}, g_up (g_up (g_up G q (oF (s_add E nf r) (s_add KF nf kr) nf)) (ad 0 1) ar) x ob a = some e0 := fun a e0 ha n1 n2 => by intro ar ob; rw [g_up_ne n2, g_up_ne n1]; exact ha
  have ne : ∀ (a : Nat) (e0 e9 : va_E) (a9 : Nat), g_up G q (oF (s_add E nf r) (s_add KF nf kr) nf) a = some e0 → g_up G q (oF (s_add E nf r) (s_add KF nf kr) nf) a9 = some e9 → e0 ≠ e9 → a ≠ a9 := fun a e0 e9 a9 ha h9 hne h8 => hne (Option.some.inj (by rw [← ha, ← h9, h8]))
  have h0 := h.2.1.2.1
  exact ⟨⟨g_up_self .., by rw [show adU ad 2 nf q 0 0 = ad 0 0 by simp [adU], show oA (cy 1) 6 (adU ad 2 nf q 1) nt = oA (cy 1) 6 (ad 1) nt by simp [oA, adU]]; exact old _ _ h2 (ne _ _ _ _ h2 h3 (by simp [oA])) (ne _ _ _ _ h2 h1 (by simp [oA, oX])), by rw [show adU ad 2 nf q 0 1 = ad 0 1 by simp [adU], g_up_ne ax, g_up_self], by rw [show adU ad 2 nf q 0 2 = ad 0 2 by simp [adU], show oA (cy 3) 20 (adU ad 2 nf q 3) nc = oA (cy 3) 20 (ad 3) nc by simp [oA, adU]]; exact old _ _ h4 (ne _ _ _ _ h4 h3 (by simp [oA])) (ne _ _ _ _ h4 h1 (by simp [oA, oX])), by rw [show adU ad 2 nf q 0 3 = ad 0 3 by simp [adU], show oA (cy 4) 3 (adU ad 2 nf q 4) nn = oA (cy 4) 3 (ad 4) nn by simp [oA, adU]]; exact old _ _ h5 (ne _ _ _ _ h5 h3 (by simp [oA])) (ne _ _ _ _ h5 h1 (by simp [oA, oX]))⟩, ⟨fun i hi => by rw [show adU ad 2 nf q 1 i = ad 1 i by simp [adU]]; exact old _ _ (k1 i hi) (ne _ _ _ _ (k1 i hi) h3 (by simp [oA, oT])) (ne _ _ _ _ (k1 i hi) h1 (by simp [oX, oT])),
  fun i hi => by
    by_cases hin : i = nf
    · subst hin
      rw [show adU ad 2 i q 2 i = q by simp [adU]]
      exact old _ _ hqq (ne _ _ _ _ hqq h3 (by simp [oA, oF])) (ne _ _ _ _ hqq h1 (by simp [oX, oF]))
    · have hi2 : i < nf := by omega
      rw [show adU ad 2 nf q 2 i = ad 2 i by simp [adU, hin]]
      have e4 : oF (s_add E nf r) (s_add KF nf kr) i = oF E KF i := by simp [oF, s_add, hin]
      rw [e4]
      exact old _ _ (k2 i hi2) (ne _ _ _ _ (k2 i hi2) h3 (by simp [oA, oF])) (ne _ _ _ _ (k2 i hi2) h1 (by simp [oX, oF])),
  fun i hi => by rw [show adU ad 2 nf q 3 i = ad 3 i by simp [adU]]; exact old _ _ (k3 i hi) (ne _ _ _ _ (k3 i hi) h3 (by simp [oA, oC])) (ne _ _ _ _ (k3 i hi) h1 (by simp [oX, oC])),
  fun i hi => by rw [show adU ad 2 nf q 4 i = ad 4 i by simp [adU]]; exact old _ _ (k4 i hi) (ne _ _ _ _ (k4 i hi) h3 (by simp [oA, oN])) (ne _ _ _ _ (k4 i hi) h1 (by simp [oX, oN]))⟩, ⟨fun i j hi hj hij => by rw [show adU ad 2 nf q 1 i = ad 1 i by simp [adU], show adU ad 2 nf q 1 j = ad 1 j by simp [adU]] at hij; exact i1 i j hi hj hij,
  fun i j hi hj hij => by
    by_cases hin : i = nf
    · by_cases hjn : j = nf
      · omega
      · rw [show adU ad 2 nf q 2 i = q by simp [adU, hin], show adU ad 2 nf q 2 j = ad 2 j by simp [adU, hjn]] at hij
        exact absurd hij.symm (g_fresh hq (h0 j (by omega)))
    · by_cases hjn : j = nf
      · rw [show adU ad 2 nf q 2 j = q by simp [adU, hjn], show adU ad 2 nf q 2 i = ad 2 i by simp [adU, hin]] at hij
        exact absurd hij (g_fresh hq (h0 i (by omega)))
      · rw [show adU ad 2 nf q 2 i = ad 2 i by simp [adU, hin], show adU ad 2 nf q 2 j = ad 2 j by simp [adU, hjn]] at hij
        exact i2 i j (by omega) (by omega) hij,
  fun i j hi hj hij => by rw [show adU ad 2 nf q 3 i = ad 3 i by simp [adU], show adU ad 2 nf q 3 j = ad 3 j by simp [adU]] at hij; exact i3 i j hi hj hij⟩, by omega⟩
theorem RX_addC {r kr : Nat → Int32} (h : RX cy x ad b nt nf nc nn T E C N KT KF KC G) (hq : G q = none) (hn : nc < 20) : RX cy x (adU ad 3 nc q) b nt nf (nc + 1) nn T E (s_add C nc r) N KT KF (s_add KC nc kr) (g_up (g_up (g_up G q (oC (s_add C nc r) (s_add KC nc kr) nc)) (ad 0 2) (.inl (cy 3, 20, .inr (.inr (.inr (.inr (va_up (fun i => if i < nc then some (ad 3 i) else none) (nI nc).toNatClampNeg (some q)))))))) x (.inr (4, [.ref (ad 0 0), .ref (ad 0 1), .ref (ad 0 2), .ref (ad 0 3), .int (nI nt), .int (nI nf), .int (nI nc + 1), .int (nI nn), .int b]))) := by
  have hw := RX.nw (e := oC (s_add C nc r) (s_add KC nc kr) nc) h hq
  obtain ⟨⟨h1, h2, h3, h4, h5⟩, ⟨k1, k2, k3, k4⟩, ⟨i1, i2, i3⟩, hb⟩ := hw
  have hqq : g_up G q (oC (s_add C nc r) (s_add KC nc kr) nc) q = some (oC (s_add C nc r) (s_add KC nc kr) nc) := g_up_self ..
  have e1 : (.inl (cy 3, 20, .inr (.inr (.inr (.inr (va_up (fun i => if i < nc then some (ad 3 i) else none) (nI nc).toNatClampNeg (some q)))))) : va_E) = oA (cy 3) 20 (adU ad 3 nc q 3) (nc + 1) := by
    rw [va_up_add (by omega)]
    simp only [oA]
    congr 2
    simp [adU]
  have e2 : (.inr (4, [.ref (ad 0 0), .ref (ad 0 1), .ref (ad 0 2), .ref (ad 0 3), .int (nI nt), .int (nI nf), .int (nI nc + 1), .int (nI nn), .int b]) : va_E) = oX (adU ad 3 nc q) b nt nf (nc + 1) nn := by
    simp [oX, adU, nI_1]
  rw [e1, e2]
  have ax : ad 0 2 ≠ x := fun h9 => by rw [h9, h1] at h4; cases h4
  have old : ∀ (a : Nat) (e0 : va_E), g_up G q (oC (s_add C nc r) (s_add KC nc kr) nc) a = some e0 → a ≠ ad 0 2 → a ≠ x → ∀ {ar ob : va_E}, g_up (g_up (g_up G q (oC (s_add C nc r) (s_add KC nc kr) nc)) (ad 0 2) ar) x ob a = some e0 := fun a e0 ha n1 n2 => by intro ar ob; rw [g_up_ne n2, g_up_ne n1]; exact ha
  have ne : ∀ (a : Nat) (e0 e9 : va_E) (a9 : Nat), g_up G q (oC (s_add C nc r) (s_add KC nc kr) nc) a = some e0 → g_up G q (oC (s_add C nc r) (s_add KC nc kr) nc) a9 = some e9 → e0 ≠ e9 → a ≠ a9 := fun a e0 e9 a9 ha h9 hne h8 => hne (Option.some.inj (by rw [← ha, ← h9, h8]))
  have h0 := h.2.1.2.2.1
  exact ⟨⟨g_up_self .., by rw [show adU ad 3 nc q 0 0 = ad 0 0 by simp [adU], show oA (cy 1) 6 (adU ad 3 nc q 1) nt = oA (cy 1) 6 (ad 1) nt by simp [oA, adU]]; exact old _ _ h2 (ne _ _ _ _ h2 h4 (by simp [oA])) (ne _ _ _ _ h2 h1 (by simp [oA, oX])), by rw [show adU ad 3 nc q 0 1 = ad 0 1 by simp [adU], show oA (cy 2) 8 (adU ad 3 nc q 2) nf = oA (cy 2) 8 (ad 2) nf by simp [oA, adU]]; exact old _ _ h3 (ne _ _ _ _ h3 h4 (by simp [oA])) (ne _ _ _ _ h3 h1 (by simp [oA, oX])), by rw [show adU ad 3 nc q 0 2 = ad 0 2 by simp [adU], g_up_ne ax, g_up_self], by rw [show adU ad 3 nc q 0 3 = ad 0 3 by simp [adU], show oA (cy 4) 3 (adU ad 3 nc q 4) nn = oA (cy 4) 3 (ad 4) nn by simp [oA, adU]]; exact old _ _ h5 (ne _ _ _ _ h5 h4 (by simp [oA])) (ne _ _ _ _ h5 h1 (by simp [oA, oX]))⟩, ⟨fun i hi => by rw [show adU ad 3 nc q 1 i = ad 1 i by simp [adU]]; exact old _ _ (k1 i hi) (ne _ _ _ _ (k1 i hi) h4 (by simp [oA, oT])) (ne _ _ _ _ (k1 i hi) h1 (by simp [oX, oT])),
  fun i hi => by rw [show adU ad 3 nc q 2 i = ad 2 i by simp [adU]]; exact old _ _ (k2 i hi) (ne _ _ _ _ (k2 i hi) h4 (by simp [oA, oF])) (ne _ _ _ _ (k2 i hi) h1 (by simp [oX, oF])),
  fun i hi => by
    by_cases hin : i = nc
    · subst hin
      rw [show adU ad 3 i q 3 i = q by simp [adU]]
      exact old _ _ hqq (ne _ _ _ _ hqq h4 (by simp [oA, oC])) (ne _ _ _ _ hqq h1 (by simp [oX, oC]))
    · have hi2 : i < nc := by omega
      rw [show adU ad 3 nc q 3 i = ad 3 i by simp [adU, hin]]
      have e4 : oC (s_add C nc r) (s_add KC nc kr) i = oC C KC i := by simp [oC, s_add, hin]
      rw [e4]
      exact old _ _ (k3 i hi2) (ne _ _ _ _ (k3 i hi2) h4 (by simp [oA, oC])) (ne _ _ _ _ (k3 i hi2) h1 (by simp [oX, oC])),
  fun i hi => by rw [show adU ad 3 nc q 4 i = ad 4 i by simp [adU]]; exact old _ _ (k4 i hi) (ne _ _ _ _ (k4 i hi) h4 (by simp [oA, oN])) (ne _ _ _ _ (k4 i hi) h1 (by simp [oX, oN]))⟩, ⟨fun i j hi hj hij => by rw [show adU ad 3 nc q 1 i = ad 1 i by simp [adU], show adU ad 3 nc q 1 j = ad 1 j by simp [adU]] at hij; exact i1 i j hi hj hij,
  fun i j hi hj hij => by rw [show adU ad 3 nc q 2 i = ad 2 i by simp [adU], show adU ad 3 nc q 2 j = ad 2 j by simp [adU]] at hij; exact i2 i j hi hj hij,
  fun i j hi hj hij => by
    by_cases hin : i = nc
    · by_cases hjn : j = nc
      · omega
      · rw [show adU ad 3 nc q 3 i = q by simp [adU, hin], show adU ad 3 nc q 3 j = ad 3 j by simp [adU, hjn]] at hij
        exact absurd hij.symm (g_fresh hq (h0 j (by omega)))
    · by_cases hjn : j = nc
      · rw [show adU ad 3 nc q 3 j = q by simp [adU, hjn], show adU ad 3 nc q 3 i = ad 3 i by simp [adU, hin]] at hij
        exact absurd hij (g_fresh hq (h0 i (by omega)))
      · rw [show adU ad 3 nc q 3 i = ad 3 i by simp [adU, hin], show adU ad 3 nc q 3 j = ad 3 j by simp [adU, hjn]] at hij
        exact i3 i j (by omega) (by omega) hij⟩, by omega⟩
theorem RX_addN {r : Nat → Int32} (h : RX cy x ad b nt nf nc nn T E C N KT KF KC G) (hq : G q = none) (hn : nn < 3) : RX cy x (adU ad 4 nn q) b nt nf nc (nn + 1) T E C (s_add N nn r) KT KF KC (g_up (g_up (g_up G q (oN (s_add N nn r)  nn)) (ad 0 3) (.inl (cy 4, 3, .inr (.inr (.inr (.inr (va_up (fun i => if i < nn then some (ad 4 i) else none) (nI nn).toNatClampNeg (some q)))))))) x (.inr (4, [.ref (ad 0 0), .ref (ad 0 1), .ref (ad 0 2), .ref (ad 0 3), .int (nI nt), .int (nI nf), .int (nI nc), .int (nI nn + 1), .int b]))) := by
  have hw := RX.nw (e := oN (s_add N nn r)  nn) h hq
  obtain ⟨⟨h1, h2, h3, h4, h5⟩, ⟨k1, k2, k3, k4⟩, ⟨i1, i2, i3⟩, hb⟩ := hw
  have hqq : g_up G q (oN (s_add N nn r)  nn) q = some (oN (s_add N nn r)  nn) := g_up_self ..
  have e1 : (.inl (cy 4, 3, .inr (.inr (.inr (.inr (va_up (fun i => if i < nn then some (ad 4 i) else none) (nI nn).toNatClampNeg (some q)))))) : va_E) = oA (cy 4) 3 (adU ad 4 nn q 4) (nn + 1) := by
    rw [va_up_add (by omega)]
    simp only [oA]
    congr 2
    simp [adU]
  have e2 : (.inr (4, [.ref (ad 0 0), .ref (ad 0 1), .ref (ad 0 2), .ref (ad 0 3), .int (nI nt), .int (nI nf), .int (nI nc), .int (nI nn + 1), .int b]) : va_E) = oX (adU ad 4 nn q) b nt nf nc (nn + 1) := by
    simp [oX, adU, nI_1]
  rw [e1, e2]
  have ax : ad 0 3 ≠ x := fun h9 => by rw [h9, h1] at h5; cases h5
  have old : ∀ (a : Nat) (e0 : va_E), g_up G q (oN (s_add N nn r)  nn) a = some e0 → a ≠ ad 0 3 → a ≠ x → ∀ {ar ob : va_E}, g_up (g_up (g_up G q (oN (s_add N nn r)  nn)) (ad 0 3) ar) x ob a = some e0 := fun a e0 ha n1 n2 => by intro ar ob; rw [g_up_ne n2, g_up_ne n1]; exact ha
  have ne : ∀ (a : Nat) (e0 e9 : va_E) (a9 : Nat), g_up G q (oN (s_add N nn r)  nn) a = some e0 → g_up G q (oN (s_add N nn r)  nn) a9 = some e9 → e0 ≠ e9 → a ≠ a9 := fun a e0 e9 a9 ha h9 hne h8 => hne (Option.some.inj (by rw [← ha, ← h9, h8]))
  exact ⟨⟨g_up_self .., by rw [show adU ad 4 nn q 0 0 = ad 0 0 by simp [adU], show oA (cy 1) 6 (adU ad 4 nn q 1) nt = oA (cy 1) 6 (ad 1) nt by simp [oA, adU]]; exact old _ _ h2 (ne _ _ _ _ h2 h5 (by simp [oA])) (ne _ _ _ _ h2 h1 (by simp [oA, oX])), by rw [show adU ad 4 nn q 0 1 = ad 0 1 by simp [adU], show oA (cy 2) 8 (adU ad 4 nn q 2) nf = oA (cy 2) 8 (ad 2) nf by simp [oA, adU]]; exact old _ _ h3 (ne _ _ _ _ h3 h5 (by simp [oA])) (ne _ _ _ _ h3 h1 (by simp [oA, oX])), by rw [show adU ad 4 nn q 0 2 = ad 0 2 by simp [adU], show oA (cy 3) 20 (adU ad 4 nn q 3) nc = oA (cy 3) 20 (ad 3) nc by simp [oA, adU]]; exact old _ _ h4 (ne _ _ _ _ h4 h5 (by simp [oA])) (ne _ _ _ _ h4 h1 (by simp [oA, oX])), by rw [show adU ad 4 nn q 0 3 = ad 0 3 by simp [adU], g_up_ne ax, g_up_self]⟩, ⟨fun i hi => by rw [show adU ad 4 nn q 1 i = ad 1 i by simp [adU]]; exact old _ _ (k1 i hi) (ne _ _ _ _ (k1 i hi) h5 (by simp [oA, oT])) (ne _ _ _ _ (k1 i hi) h1 (by simp [oX, oT])),
  fun i hi => by rw [show adU ad 4 nn q 2 i = ad 2 i by simp [adU]]; exact old _ _ (k2 i hi) (ne _ _ _ _ (k2 i hi) h5 (by simp [oA, oF])) (ne _ _ _ _ (k2 i hi) h1 (by simp [oX, oF])),
  fun i hi => by rw [show adU ad 4 nn q 3 i = ad 3 i by simp [adU]]; exact old _ _ (k3 i hi) (ne _ _ _ _ (k3 i hi) h5 (by simp [oA, oC])) (ne _ _ _ _ (k3 i hi) h1 (by simp [oX, oC])),
  fun i hi => by
    by_cases hin : i = nn
    · subst hin
      rw [show adU ad 4 i q 4 i = q by simp [adU]]
      exact old _ _ hqq (ne _ _ _ _ hqq h5 (by simp [oA, oN])) (ne _ _ _ _ hqq h1 (by simp [oX, oN]))
    · have hi2 : i < nn := by omega
      rw [show adU ad 4 nn q 4 i = ad 4 i by simp [adU, hin]]
      have e4 : oN (s_add N nn r)  i = oN N  i := by simp [oN, s_add, hin]
      rw [e4]
      exact old _ _ (k4 i hi2) (ne _ _ _ _ (k4 i hi2) h5 (by simp [oA, oN])) (ne _ _ _ _ (k4 i hi2) h1 (by simp [oX, oN]))⟩, ⟨fun i j hi hj hij => by rw [show adU ad 4 nn q 1 i = ad 1 i by simp [adU], show adU ad 4 nn q 1 j = ad 1 j by simp [adU]] at hij; exact i1 i j hi hj hij,
  fun i j hi hj hij => by rw [show adU ad 4 nn q 2 i = ad 2 i by simp [adU], show adU ad 4 nn q 2 j = ad 2 j by simp [adU]] at hij; exact i2 i j hi hj hij,
  fun i j hi hj hij => by rw [show adU ad 4 nn q 3 i = ad 3 i by simp [adU], show adU ad 4 nn q 3 j = ad 3 j by simp [adU]] at hij; exact i3 i j hi hj hij⟩, by omega⟩
end RXA
end
section
set_option maxHeartbeats 4000000 in
set_option maxRecDepth 100000 in
theorem c_X4_rig (l : Launch) (D : va_G) (cy : Nat → ClassId) {G : GG} {x : Nat} {ad : Nat → Nat → Nat} {b : Int32} {nt nf nc nn : Nat} {T E Cu N KT KF KC : Rw} (h : RX cy x ad b nt nf nc nn T E Cu N KT KF KC G) (mid wid wt sg : Int32) : CtrX l D cy yX4_rig prog_1_method_2_code 6 (some .int) kX4_rig [.ref x, .int mid, .int wid, .int wt, .int sg] G (pI (fun v G' => okR mid wid wt sg ∧ nt < 6 ∧ v = nI nt ∧ ∃ ad', RX cy x ad' b (nt + 1) nf nc nn (s_add T nt (rowT mid wid wt sg b)) E Cu N (s_add KT nt z0) KF KC G')) (fun e G' => RX cy x ad b nt nf nc nn T E Cu N KT KF KC G' ∧ ((e = "java/lang/IllegalArgumentException" ∧ ¬ okR mid wid wt sg) ∨ (e = "java/lang/IllegalStateException" ∧ okR mid wid wt sg ∧ ¬ nt < 6))) := by
  refine CtrX.mk (by decide +kernel) (Nat.le_of_ble_eq_true rfl) ?_
  intro κ C R
  refine g_pc (pc' := 0) rfl ?_
  refine g_seg [(0, .iload_n 1, 1), (1, .iconst 0, 1), (2, .bipush 99, 2)] 4 [(0, .ref x), (1, .int mid), (2, .int wid), (3, .int wt), (4, .int sg)] [.int 99, .int 0, .int mid] C (by decide +kernel) rfl ?_
  refine g_callS (pc := 4) C mS_X4_isWithin q86 (c_X4_isWithin l D cy G mid 0 99) rfl ⟨⟨Nat.le_of_ble_eq_true rfl, Nat.le_of_ble_eq_true rfl⟩, Nat.le_of_ble_eq_true rfl, Nat.le_of_ble_eq_true rfl⟩ rfl (Nat.le_of_ble_eq_true rfl) (by decide +kernel) ?_
  refine g_kI (fun v3 G2 hp1 => ?_)
  obtain ⟨rfl, hp1⟩ := hp1
  rcases hp1 with ⟨rfl, h4⟩ | ⟨rfl, h4⟩
  · refine g_if_eq (pc := 7) (off := 34) 41 C (by decide +kernel) (by decide) (fun c9 => absurd c9 (by decide)) (fun _ => ?_)
    refine g_seg [(10, .iload_n 2, 1), (11, .iconst 1, 1), (12, .bipush 20, 2)] 14 [(0, .ref x), (1, .int mid), (2, .int wid), (3, .int wt), (4, .int sg)] [.int 20, .int 1, .int wid] C (by decide +kernel) rfl ?_
    refine g_callS (pc := 14) C mS_X4_isWithin q86 (c_X4_isWithin l D cy G2 wid 1 20) rfl ⟨⟨Nat.le_of_ble_eq_true rfl, Nat.le_of_ble_eq_true rfl⟩, Nat.le_of_ble_eq_true rfl, Nat.le_of_ble_eq_true rfl⟩ rfl (Nat.le_of_ble_eq_true rfl) (by decide +kernel) ?_
    refine g_kI (fun v7 G6 hp5 => ?_)
    obtain ⟨rfl, hp5⟩ := hp5
    rcases hp5 with ⟨rfl, h8⟩ | ⟨rfl, h8⟩
    · refine g_if_eq (pc := 17) (off := 24) 41 C (by decide +kernel) (by decide) (fun c9 => absurd c9 (by decide)) (fun _ => ?_)
      refine g_seg [(20, .iload_n 3, 1), (21, .iconst 0, 1), (22, .bipush 10, 2)] 24 [(0, .ref x), (1, .int mid), (2, .int wid), (3, .int wt), (4, .int sg)] [.int 10, .int 0, .int wt] C (by decide +kernel) rfl ?_
      refine g_callS (pc := 24) C mS_X4_isWithin q86 (c_X4_isWithin l D cy G6 wt 0 10) rfl ⟨⟨Nat.le_of_ble_eq_true rfl, Nat.le_of_ble_eq_true rfl⟩, Nat.le_of_ble_eq_true rfl, Nat.le_of_ble_eq_true rfl⟩ rfl (Nat.le_of_ble_eq_true rfl) (by decide +kernel) ?_
      refine g_kI (fun v11 G10 hp9 => ?_)
      obtain ⟨rfl, hp9⟩ := hp9
      rcases hp9 with ⟨rfl, h12⟩ | ⟨rfl, h12⟩
      · refine g_if_eq (pc := 27) (off := 14) 41 C (by decide +kernel) (by decide) (fun c9 => absurd c9 (by decide)) (fun _ => ?_)
        refine g_seg [(30, .iload 4, 2), (32, .iconst 1, 1), (33, .bipush 99, 2)] 35 [(0, .ref x), (1, .int mid), (2, .int wid), (3, .int wt), (4, .int sg)] [.int 99, .int 1, .int sg] C (by decide +kernel) rfl ?_
        refine g_callS (pc := 35) C mS_X4_isWithin q86 (c_X4_isWithin l D cy G10 sg 1 99) rfl ⟨⟨Nat.le_of_ble_eq_true rfl, Nat.le_of_ble_eq_true rfl⟩, Nat.le_of_ble_eq_true rfl, Nat.le_of_ble_eq_true rfl⟩ rfl (Nat.le_of_ble_eq_true rfl) (by decide +kernel) ?_
        refine g_kI (fun v15 G14 hp13 => ?_)
        obtain ⟨rfl, hp13⟩ := hp13
        rcases hp13 with ⟨rfl, h16⟩ | ⟨rfl, h16⟩
        · refine g_if_ne (pc := 38) (off := 13) 51 C (by decide +kernel) (by decide) (fun _ => ?_) (fun c9 => absurd c9 (by decide))
          refine g_seg [(51, .aload_n 0, 1)] 52 [(0, .ref x), (1, .int mid), (2, .int wid), (3, .int wt), (4, .int sg)] [.ref x] C (by decide +kernel) rfl ?_
          refine g_getf (pc := 52) (k := 4) (v := .int (nI nt)) C fl_X4_44 (h.1.1) rfl (by decide +kernel) ?_
          refine g_seg [(55, .istore 5, 2), (57, .iload 5, 2), (59, .iconst 0, 1), (60, .aload_n 0, 1)] 61 [(5, .int (nI nt)), (0, .ref x), (1, .int mid), (2, .int wid), (3, .int wt), (4, .int sg)] [.ref x, .int 0, .int (nI nt)] C (by decide +kernel) rfl ?_
          refine g_getf (pc := 61) (k := 0) (v := .ref (ad 0 0)) C fl_X4_11 (h.1.1) rfl (by decide +kernel) ?_
          refine g_alenA (pc := 64) (len := 6) (t0 := 1) C (h.1.2.1) rfl (by decide +kernel) ?_
          refine g_seg [(65, .iconst 1, 1), (66, .isub, 1)] 67 [(5, .int (nI nt)), (0, .ref x), (1, .int mid), (2, .int wid), (3, .int wt), (4, .int sg)] [.int ((nI 6) - 1), .int 0, .int (nI nt)] C (by decide +kernel) rfl ?_
          refine g_callS (pc := 67) C mS_X4_isWithin q86 (c_X4_isWithin l D cy G14 (nI nt) 0 ((nI 6) - 1)) rfl ⟨⟨Nat.le_of_ble_eq_true rfl, Nat.le_of_ble_eq_true rfl⟩, Nat.le_of_ble_eq_true rfl, Nat.le_of_ble_eq_true rfl⟩ rfl (Nat.le_of_ble_eq_true rfl) (by decide +kernel) ?_
          refine g_kI (fun v19 G18 hp17 => ?_)
          obtain ⟨rfl, hp17⟩ := hp17
          rcases hp17 with ⟨rfl, h20⟩ | ⟨rfl, h20⟩
          · refine g_if_ne (pc := 70) (off := 13) 83 C (by decide +kernel) (by decide) (fun _ => ?_) (fun c9 => absurd c9 (by decide))
            refine g_seg [(83, .aload_n 0, 1)] 84 [(5, .int (nI nt)), (0, .ref x), (1, .int mid), (2, .int wid), (3, .int wt), (4, .int sg)] [.ref x] C (by decide +kernel) rfl ?_
            refine g_getf (pc := 84) (k := 0) (v := .ref (ad 0 0)) C fl_X4_11 (h.1.1) rfl (by decide +kernel) ?_
            refine g_seg [(87, .iload 5, 2)] 89 [(5, .int (nI nt)), (0, .ref x), (1, .int mid), (2, .int wid), (3, .int wt), (4, .int sg)] [.int (nI nt), .ref (ad 0 0)] C (by decide +kernel) rfl ?_
            refine g_new (pc := 89) (ci := 3) (fs := [.int 0, .int 0, .int 0, .int 0, .int 0, .int 0, .int 0, .int 0, .int 0]) C rfl inX3 tyX3_ok q42 q432 q28 (fun j hj => by rcases (show j = 0 ∨ j = 1 ∨ j = 2 ∨ j = 3 ∨ j = 4 ∨ j = 5 ∨ j = 6 ∨ j = 7 ∨ j = 8 by omega) with rfl | rfl | rfl | rfl | rfl | rfl | rfl | rfl | rfl <;> rfl) (Nat.le_of_ble_eq_true rfl) (Nat.le_of_ble_eq_true rfl) (by decide +kernel) (fun q21 hq22 => ?_)
            refine g_seg [(92, .dup, 1), (93, .iload_n 1, 1), (94, .iload_n 2, 1), (95, .iload_n 3, 1), (96, .iload 4, 2), (98, .aload_n 0, 1)] 99 [(5, .int (nI nt)), (0, .ref x), (1, .int mid), (2, .int wid), (3, .int wt), (4, .int sg)] [.ref x, .int sg, .int wt, .int wid, .int mid, .ref q21, .ref q21, .int (nI nt), .ref (ad 0 0)] C (by decide +kernel) rfl ?_
            refine g_getf (pc := 99) (k := 8) (v := .int b) C fl_X4_53 ((RX.nw h hq22).1.1) rfl (by decide +kernel) ?_
            refine g_callI (pc := 102) C mI_X3_init q433 (c_X3_init l D cy (g_up G18 q21 (.inr (3, [.int 0, .int 0, .int 0, .int 0, .int 0, .int 0, .int 0, .int 0, .int 0]))) q21 mid wid wt sg b (g_up_self ..)) rfl ⟨⟨Nat.le_of_ble_eq_true rfl, Nat.le_of_ble_eq_true rfl⟩, Nat.le_of_ble_eq_true rfl, Nat.le_of_ble_eq_true rfl⟩ rfl (Nat.le_of_ble_eq_true rfl) (by decide +kernel) ?_
            refine g_kV (fun G23 hG24 => ?_)
            rw [g_up_up] at hG24
            subst hG24
            refine g_aast (pc := 105) (n := 6) (t0 := 1) (ci := 3) C ((RX.nw h hq22).1.2.1) rfl (g_up_self ..) rfl (vp_in_nI ((cap_y (by decide) (by decide) (by have := h.2.2.2.1; omega) h20)) (by decide)) (by decide +kernel) ?_
            refine g_seg [(106, .aload_n 0, 1), (107, .iload 5, 2), (109, .iconst 1, 1), (110, .iadd, 1)] 111 [(5, .int (nI nt)), (0, .ref x), (1, .int mid), (2, .int wid), (3, .int wt), (4, .int sg)] [.int ((nI nt) + 1), .ref x] C (by decide +kernel) rfl ?_
            refine g_putf (pc := 111) (k := 4) (v := .int ((nI nt) + 1)) (ty := .int) C fl_X4_44 fp_X4_4 ((g_oth (RX.nw h hq22).1.1 (RX.nw h hq22).1.2.1 (by simp [oX, oA]))) (rfl) (by first | rfl | decide) (Nat.le_of_ble_eq_true rfl) (by decide +kernel) ?_
            refine g_abs (P := fun G9 => RX cy x (adU ad 1 nt q21) b (nt + 1) nf nc nn (s_add T nt (rowT mid wid wt sg b)) E Cu N (s_add KT nt z0) KF KC G9) (by rw [show (.inr (3, [.int mid, .int wid, .int sg, .int wt, .int b, .int 0, .int 1, .int 0, .int 0]) : va_E) = oT (s_add T nt (rowT mid wid wt sg b)) (s_add KT nt z0) nt by simp [oT, oF, oC, oN, s_add, rowT, rowF, rowC, rowN, z0]]; exact RX_addT (r := rowT mid wid wt sg b) (kr := z0) h hq22 (cap_y (by decide) (by decide) (by have := h.2.2.2.1; omega) h20)) (fun G25 h26 => ?_)
            refine g_seg [(114, .iload 5, 2)] 116 [(5, .int (nI nt)), (0, .ref x), (1, .int mid), (2, .int wid), (3, .int wt), (4, .int sg)] [.int (nI nt)] C (by decide +kernel) rfl ?_
            exact g_iretX (pc := 116) C R (⟨_, rfl, ⟨h4, h8, h12, h16⟩, (cap_y (by decide) (by decide) (by have := h.2.2.2.1; omega) h20), rfl, _, h26⟩) (Nat.le_of_ble_eq_true rfl) (Nat.le_of_ble_eq_true rfl) (by decide +kernel)
          · refine g_if_ne (pc := 70) (off := 13) 83 C (by decide +kernel) (by decide) (fun c9 => absurd (by decide) c9) (fun _ => ?_)
            exact g_throw (pc := 73) (is := 50) (text := "there are 6 trapezes") C R rfl ex_ISE (by decide +kernel) (⟨h, Or.inr (⟨rfl, ⟨h4, h8, h12, h16⟩, cap_n (by decide) (by decide) h20⟩)⟩) (Nat.le_of_ble_eq_true rfl) (Nat.le_of_ble_eq_true rfl) (Nat.le_of_ble_eq_true rfl) (Nat.le_of_ble_eq_true rfl) (by decide +kernel) (by decide +kernel) (by decide +kernel) (by decide +kernel) (by decide +kernel)
        · refine g_if_ne (pc := 38) (off := 13) 51 C (by decide +kernel) (by decide) (fun c9 => absurd (by decide) c9) (fun _ => ?_)
          exact g_throw (pc := 41) (is := 39) (text := "no such trapeze can be made") C R rfl ex_IAE (by decide +kernel) (⟨h, Or.inl ⟨rfl, fun h9 => h16 h9.2.2.2⟩⟩) (Nat.le_of_ble_eq_true rfl) (Nat.le_of_ble_eq_true rfl) (Nat.le_of_ble_eq_true rfl) (Nat.le_of_ble_eq_true rfl) (by decide +kernel) (by decide +kernel) (by decide +kernel) (by decide +kernel) (by decide +kernel)
      · refine g_if_eq (pc := 27) (off := 14) 41 C (by decide +kernel) (by decide) (fun _ => ?_) (fun c9 => absurd (by decide) c9)
        exact g_throw (pc := 41) (is := 39) (text := "no such trapeze can be made") C R rfl ex_IAE (by decide +kernel) (⟨h, Or.inl ⟨rfl, fun h9 => h12 h9.2.2.1⟩⟩) (Nat.le_of_ble_eq_true rfl) (Nat.le_of_ble_eq_true rfl) (Nat.le_of_ble_eq_true rfl) (Nat.le_of_ble_eq_true rfl) (by decide +kernel) (by decide +kernel) (by decide +kernel) (by decide +kernel) (by decide +kernel)
    · refine g_if_eq (pc := 17) (off := 24) 41 C (by decide +kernel) (by decide) (fun _ => ?_) (fun c9 => absurd (by decide) c9)
      exact g_throw (pc := 41) (is := 39) (text := "no such trapeze can be made") C R rfl ex_IAE (by decide +kernel) (⟨h, Or.inl ⟨rfl, fun h9 => h8 h9.2.1⟩⟩) (Nat.le_of_ble_eq_true rfl) (Nat.le_of_ble_eq_true rfl) (Nat.le_of_ble_eq_true rfl) (Nat.le_of_ble_eq_true rfl) (by decide +kernel) (by decide +kernel) (by decide +kernel) (by decide +kernel) (by decide +kernel)
  · refine g_if_eq (pc := 7) (off := 34) 41 C (by decide +kernel) (by decide) (fun _ => ?_) (fun c9 => absurd (by decide) c9)
    exact g_throw (pc := 41) (is := 39) (text := "no such trapeze can be made") C R rfl ex_IAE (by decide +kernel) (⟨h, Or.inl ⟨rfl, fun h9 => h4 h9.1⟩⟩) (Nat.le_of_ble_eq_true rfl) (Nat.le_of_ble_eq_true rfl) (Nat.le_of_ble_eq_true rfl) (Nat.le_of_ble_eq_true rfl) (by decide +kernel) (by decide +kernel) (by decide +kernel) (by decide +kernel) (by decide +kernel)
set_option maxHeartbeats 4000000 in
set_option maxRecDepth 100000 in
theorem c_X4_spread (l : Launch) (D : va_G) (cy : Nat → ClassId) {G : GG} {x : Nat} {ad : Nat → Nat → Nat} {b : Int32} {nt nf nc nn : Nat} {T E Cu N KT KF KC : Rw} (h : RX cy x ad b nt nf nc nn T E Cu N KT KF KC G) (p0 p1 : Int32) : CtrX l D cy yX4_spread prog_1_method_5_code 4 (some .int) kX4_spread [.ref x, .int p0, .int p1] G (pI (fun v G' => okN p0 p1 ∧ nn < 3 ∧ v = nI (nn + 1) ∧ ∃ ad', RX cy x ad' b nt nf nc (nn + 1) T E Cu (s_add N nn (rowN p0 p1)) KT KF KC G')) (fun e G' => RX cy x ad b nt nf nc nn T E Cu N KT KF KC G' ∧ ((e = "java/lang/IllegalArgumentException" ∧ ¬ okN p0 p1) ∨ (e = "java/lang/IllegalStateException" ∧ okN p0 p1 ∧ ¬ nn < 3))) := by
  refine CtrX.mk (by decide +kernel) (Nat.le_of_ble_eq_true rfl) ?_
  intro κ C R
  refine g_pc (pc' := 0) rfl ?_
  refine g_seg [(0, .iload_n 1, 1), (1, .bipush (-50), 2), (3, .sipush 150, 3)] 6 [(0, .ref x), (1, .int p0), (2, .int p1)] [.int 150, .int (-50), .int p0] C (by decide +kernel) rfl ?_
  refine g_callS (pc := 6) C mS_X4_isWithin q86 (c_X4_isWithin l D cy G p0 (-50) 150) rfl ⟨⟨Nat.le_of_ble_eq_true rfl, Nat.le_of_ble_eq_true rfl⟩, Nat.le_of_ble_eq_true rfl, Nat.le_of_ble_eq_true rfl⟩ rfl (Nat.le_of_ble_eq_true rfl) (by decide +kernel) ?_
  refine g_kI (fun v3 G2 hp1 => ?_)
  obtain ⟨rfl, hp1⟩ := hp1
  rcases hp1 with ⟨rfl, h4⟩ | ⟨rfl, h4⟩
  · refine g_if_eq (pc := 9) (off := 20) 29 C (by decide +kernel) (by decide) (fun c9 => absurd c9 (by decide)) (fun _ => ?_)
    refine g_seg [(12, .iload_n 2, 1), (13, .bipush (-50), 2), (15, .sipush 150, 3)] 18 [(0, .ref x), (1, .int p0), (2, .int p1)] [.int 150, .int (-50), .int p1] C (by decide +kernel) rfl ?_
    refine g_callS (pc := 18) C mS_X4_isWithin q86 (c_X4_isWithin l D cy G2 p1 (-50) 150) rfl ⟨⟨Nat.le_of_ble_eq_true rfl, Nat.le_of_ble_eq_true rfl⟩, Nat.le_of_ble_eq_true rfl, Nat.le_of_ble_eq_true rfl⟩ rfl (Nat.le_of_ble_eq_true rfl) (by decide +kernel) ?_
    refine g_kI (fun v7 G6 hp5 => ?_)
    obtain ⟨rfl, hp5⟩ := hp5
    rcases hp5 with ⟨rfl, h8⟩ | ⟨rfl, h8⟩
    · refine g_if_eq (pc := 21) (off := 8) 29 C (by decide +kernel) (by decide) (fun c9 => absurd c9 (by decide)) (fun _ => ?_)
      refine g_seg [(24, .iload_n 1, 1), (25, .iload_n 2, 1)] 26 [(0, .ref x), (1, .int p0), (2, .int p1)] [.int p1, .int p0] C (by decide +kernel) rfl ?_
      refine g_icmp_le (pc := 26) (off := 13) 39 C (by decide +kernel) (by decide) (fun c9 => ?_) (fun c9 => ?_)
      · refine g_seg [(39, .aload_n 0, 1)] 40 [(0, .ref x), (1, .int p0), (2, .int p1)] [.ref x] C (by decide +kernel) rfl ?_
        refine g_getf (pc := 40) (k := 7) (v := .int (nI nn)) C fl_X4_91 (h.1.1) rfl (by decide +kernel) ?_
        refine g_seg [(43, .istore_n 3, 1), (44, .iload_n 3, 1), (45, .iconst 0, 1), (46, .aload_n 0, 1)] 47 [(3, .int (nI nn)), (0, .ref x), (1, .int p0), (2, .int p1)] [.ref x, .int 0, .int (nI nn)] C (by decide +kernel) rfl ?_
        refine g_getf (pc := 47) (k := 3) (v := .ref (ad 0 3)) C fl_X4_29 (h.1.1) rfl (by decide +kernel) ?_
        refine g_alenA (pc := 50) (len := 3) (t0 := 4) C (h.1.2.2.2.2) rfl (by decide +kernel) ?_
        refine g_seg [(51, .iconst 1, 1), (52, .isub, 1)] 53 [(3, .int (nI nn)), (0, .ref x), (1, .int p0), (2, .int p1)] [.int ((nI 3) - 1), .int 0, .int (nI nn)] C (by decide +kernel) rfl ?_
        refine g_callS (pc := 53) C mS_X4_isWithin q86 (c_X4_isWithin l D cy G6 (nI nn) 0 ((nI 3) - 1)) rfl ⟨⟨Nat.le_of_ble_eq_true rfl, Nat.le_of_ble_eq_true rfl⟩, Nat.le_of_ble_eq_true rfl, Nat.le_of_ble_eq_true rfl⟩ rfl (Nat.le_of_ble_eq_true rfl) (by decide +kernel) ?_
        refine g_kI (fun v12 G11 hp10 => ?_)
        obtain ⟨rfl, hp10⟩ := hp10
        rcases hp10 with ⟨rfl, h13⟩ | ⟨rfl, h13⟩
        · refine g_if_ne (pc := 56) (off := 13) 69 C (by decide +kernel) (by decide) (fun _ => ?_) (fun c9 => absurd c9 (by decide))
          refine g_seg [(69, .aload_n 0, 1)] 70 [(3, .int (nI nn)), (0, .ref x), (1, .int p0), (2, .int p1)] [.ref x] C (by decide +kernel) rfl ?_
          refine g_getf (pc := 70) (k := 3) (v := .ref (ad 0 3)) C fl_X4_29 (h.1.1) rfl (by decide +kernel) ?_
          refine g_seg [(73, .iload_n 3, 1)] 74 [(3, .int (nI nn)), (0, .ref x), (1, .int p0), (2, .int p1)] [.int (nI nn), .ref (ad 0 3)] C (by decide +kernel) rfl ?_
          refine g_new (pc := 74) (ci := 2) (fs := [.int 0, .int 0]) C rfl inX2 tyX2_ok q48 q556 q32 (fun j hj => by rcases (show j = 0 ∨ j = 1 by omega) with rfl | rfl <;> rfl) (Nat.le_of_ble_eq_true rfl) (Nat.le_of_ble_eq_true rfl) (by decide +kernel) (fun q14 hq15 => ?_)
          refine g_seg [(77, .dup, 1), (78, .iload_n 1, 1), (79, .iload_n 2, 1)] 80 [(3, .int (nI nn)), (0, .ref x), (1, .int p0), (2, .int p1)] [.int p1, .int p0, .ref q14, .ref q14, .int (nI nn), .ref (ad 0 3)] C (by decide +kernel) rfl ?_
          refine g_callI (pc := 80) C mI_X2_init q557 (c_X2_init l D cy (g_up G11 q14 (.inr (2, [.int 0, .int 0]))) q14 p0 p1 (g_up_self ..)) rfl ⟨⟨Nat.le_of_ble_eq_true rfl, Nat.le_of_ble_eq_true rfl⟩, Nat.le_of_ble_eq_true rfl, Nat.le_of_ble_eq_true rfl⟩ rfl (Nat.le_of_ble_eq_true rfl) (by decide +kernel) ?_
          refine g_kV (fun G16 hG17 => ?_)
          rw [g_up_up] at hG17
          subst hG17
          refine g_aast (pc := 83) (n := 3) (t0 := 4) (ci := 2) C ((RX.nw h hq15).1.2.2.2.2) rfl (g_up_self ..) rfl (vp_in_nI ((cap_y (by decide) (by decide) (by have := h.2.2.2.2.2.2; omega) h13)) (by decide)) (by decide +kernel) ?_
          refine g_seg [(84, .aload_n 0, 1), (85, .iload_n 3, 1), (86, .iconst 1, 1), (87, .iadd, 1)] 88 [(3, .int (nI nn)), (0, .ref x), (1, .int p0), (2, .int p1)] [.int ((nI nn) + 1), .ref x] C (by decide +kernel) rfl ?_
          refine g_putf (pc := 88) (k := 7) (v := .int ((nI nn) + 1)) (ty := .int) C fl_X4_91 fp_X4_7 ((g_oth (RX.nw h hq15).1.1 (RX.nw h hq15).1.2.2.2.2 (by simp [oX, oA]))) (rfl) (by first | rfl | decide) (Nat.le_of_ble_eq_true rfl) (by decide +kernel) ?_
          refine g_abs (P := fun G9 => RX cy x (adU ad 4 nn q14) b nt nf nc (nn + 1) T E Cu (s_add N nn (rowN p0 p1)) KT KF KC G9) (by rw [show (.inr (2, [.int p0, .int p1]) : va_E) = oN (s_add N nn (rowN p0 p1)) nn by simp [oT, oF, oC, oN, s_add, rowT, rowF, rowC, rowN, z0]]; exact RX_addN (r := rowN p0 p1) h hq15 (cap_y (by decide) (by decide) (by have := h.2.2.2.2.2.2; omega) h13)) (fun G18 h19 => ?_)
          refine g_seg [(91, .aload_n 0, 1)] 92 [(3, .int (nI nn)), (0, .ref x), (1, .int p0), (2, .int p1)] [.ref x] C (by decide +kernel) rfl ?_
          refine g_getf (pc := 92) (k := 7) (v := .int (nI (nn + 1))) C fl_X4_91 (h19.1.1) rfl (by decide +kernel) ?_
          exact g_iretX (pc := 95) C R (⟨_, rfl, ⟨h4, h8, c9⟩, (cap_y (by decide) (by decide) (by have := h.2.2.2.2.2.2; omega) h13), rfl, _, h19⟩) (Nat.le_of_ble_eq_true rfl) (Nat.le_of_ble_eq_true rfl) (by decide +kernel)
        · refine g_if_ne (pc := 56) (off := 13) 69 C (by decide +kernel) (by decide) (fun c9 => absurd (by decide) c9) (fun _ => ?_)
          exact g_throw (pc := 59) (is := 94) (text := "there are 3 nets") C R rfl ex_ISE (by decide +kernel) (⟨h, Or.inr (⟨rfl, ⟨h4, h8, c9⟩, cap_n (by decide) (by decide) h13⟩)⟩) (Nat.le_of_ble_eq_true rfl) (Nat.le_of_ble_eq_true rfl) (Nat.le_of_ble_eq_true rfl) (Nat.le_of_ble_eq_true rfl) (by decide +kernel) (by decide +kernel) (by decide +kernel) (by decide +kernel) (by decide +kernel)
      · exact g_throw (pc := 29) (is := 89) (text := "no net can be spread so") C R rfl ex_IAE (by decide +kernel) (⟨h, Or.inl ⟨rfl, fun h9 => c9 h9.2.2⟩⟩) (Nat.le_of_ble_eq_true rfl) (Nat.le_of_ble_eq_true rfl) (Nat.le_of_ble_eq_true rfl) (Nat.le_of_ble_eq_true rfl) (by decide +kernel) (by decide +kernel) (by decide +kernel) (by decide +kernel) (by decide +kernel)
    · refine g_if_eq (pc := 21) (off := 8) 29 C (by decide +kernel) (by decide) (fun _ => ?_) (fun c9 => absurd (by decide) c9)
      exact g_throw (pc := 29) (is := 89) (text := "no net can be spread so") C R rfl ex_IAE (by decide +kernel) (⟨h, Or.inl ⟨rfl, fun h9 => h8 h9.2.1⟩⟩) (Nat.le_of_ble_eq_true rfl) (Nat.le_of_ble_eq_true rfl) (Nat.le_of_ble_eq_true rfl) (Nat.le_of_ble_eq_true rfl) (by decide +kernel) (by decide +kernel) (by decide +kernel) (by decide +kernel) (by decide +kernel)
  · refine g_if_eq (pc := 9) (off := 20) 29 C (by decide +kernel) (by decide) (fun _ => ?_) (fun c9 => absurd (by decide) c9)
    exact g_throw (pc := 29) (is := 89) (text := "no net can be spread so") C R rfl ex_IAE (by decide +kernel) (⟨h, Or.inl ⟨rfl, fun h9 => h4 h9.1⟩⟩) (Nat.le_of_ble_eq_true rfl) (Nat.le_of_ble_eq_true rfl) (Nat.le_of_ble_eq_true rfl) (Nat.le_of_ble_eq_true rfl) (by decide +kernel) (by decide +kernel) (by decide +kernel) (by decide +kernel) (by decide +kernel)
set_option maxHeartbeats 4000000 in
set_option maxRecDepth 100000 in
theorem c_X4_join (l : Launch) (D : va_G) (cy : Nat → ClassId) {G : GG} {x : Nat} {ad : Nat → Nat → Nat} {b : Int32} {nt nf nc nn : Nat} {T E Cu N KT KF KC : Rw} (h : RX cy x ad b nt nf nc nn T E Cu N KT KF KC G) : CtrX l D cy yX4_join prog_1_method_6_code 2 (some .int) kX4_join [.ref x] G (pI (fun v G' => nf < 8 ∧ v = nI nf ∧ ∃ ad', RX cy x ad' b nt (nf + 1) nc nn T (s_add E nf rowF) Cu N KT (s_add KF nf z0) KC G')) (fun e G' => RX cy x ad b nt nf nc nn T E Cu N KT KF KC G' ∧ ((e = "java/lang/IllegalStateException" ∧ ¬ nf < 8))) := by
  refine CtrX.mk (by decide +kernel) (Nat.le_of_ble_eq_true rfl) ?_
  intro κ C R
  refine g_pc (pc' := 0) rfl ?_
  refine g_seg [(0, .aload_n 0, 1)] 1 [(0, .ref x)] [.ref x] C (by decide +kernel) rfl ?_
  refine g_getf (pc := 1) (k := 5) (v := .int (nI nf)) C fl_X4_98 (h.1.1) rfl (by decide +kernel) ?_
  refine g_seg [(4, .istore_n 1, 1), (5, .iload_n 1, 1), (6, .iconst 0, 1), (7, .aload_n 0, 1)] 8 [(1, .int (nI nf)), (0, .ref x)] [.ref x, .int 0, .int (nI nf)] C (by decide +kernel) rfl ?_
  refine g_getf (pc := 8) (k := 1) (v := .ref (ad 0 1)) C fl_X4_17 (h.1.1) rfl (by decide +kernel) ?_
  refine g_alenA (pc := 11) (len := 8) (t0 := 2) C (h.1.2.2.1) rfl (by decide +kernel) ?_
  refine g_seg [(12, .iconst 1, 1), (13, .isub, 1)] 14 [(1, .int (nI nf)), (0, .ref x)] [.int ((nI 8) - 1), .int 0, .int (nI nf)] C (by decide +kernel) rfl ?_
  refine g_callS (pc := 14) C mS_X4_isWithin q86 (c_X4_isWithin l D cy G (nI nf) 0 ((nI 8) - 1)) rfl ⟨⟨Nat.le_of_ble_eq_true rfl, Nat.le_of_ble_eq_true rfl⟩, Nat.le_of_ble_eq_true rfl, Nat.le_of_ble_eq_true rfl⟩ rfl (Nat.le_of_ble_eq_true rfl) (by decide +kernel) ?_
  refine g_kI (fun v3 G2 hp1 => ?_)
  obtain ⟨rfl, hp1⟩ := hp1
  rcases hp1 with ⟨rfl, h4⟩ | ⟨rfl, h4⟩
  · refine g_if_ne (pc := 17) (off := 13) 30 C (by decide +kernel) (by decide) (fun _ => ?_) (fun c9 => absurd c9 (by decide))
    refine g_seg [(30, .aload_n 0, 1)] 31 [(1, .int (nI nf)), (0, .ref x)] [.ref x] C (by decide +kernel) rfl ?_
    refine g_getf (pc := 31) (k := 1) (v := .ref (ad 0 1)) C fl_X4_17 (h.1.1) rfl (by decide +kernel) ?_
    refine g_seg [(34, .iload_n 1, 1)] 35 [(1, .int (nI nf)), (0, .ref x)] [.int (nI nf), .ref (ad 0 1)] C (by decide +kernel) rfl ?_
    refine g_new (pc := 35) (ci := 1) (fs := [.int 0, .int 0, .int 0, .int 0, .int 0, .int 0, .int 0, .int 0, .int 0, .int 0]) C rfl inX1 tyX1_ok q44 q494 q30 (fun j hj => by rcases (show j = 0 ∨ j = 1 ∨ j = 2 ∨ j = 3 ∨ j = 4 ∨ j = 5 ∨ j = 6 ∨ j = 7 ∨ j = 8 ∨ j = 9 by omega) with rfl | rfl | rfl | rfl | rfl | rfl | rfl | rfl | rfl | rfl <;> rfl) (Nat.le_of_ble_eq_true rfl) (Nat.le_of_ble_eq_true rfl) (by decide +kernel) (fun q5 hq6 => ?_)
    refine g_seg [(38, .dup, 1)] 39 [(1, .int (nI nf)), (0, .ref x)] [.ref q5, .ref q5, .int (nI nf), .ref (ad 0 1)] C (by decide +kernel) rfl ?_
    refine g_callIN (pc := 39) (host := "CircusLines") C R mI_X1_init (fun U h9 => h9.2.2.2.2.2.2.1) (c_X1_init l D cy (g_up G2 q5 (.inr (1, [.int 0, .int 0, .int 0, .int 0, .int 0, .int 0, .int 0, .int 0, .int 0, .int 0]))) q5  (g_up_self ..)) rfl ⟨⟨Nat.le_of_ble_eq_true rfl, Nat.le_of_ble_eq_true rfl⟩, Nat.le_of_ble_eq_true rfl, Nat.le_of_ble_eq_true rfl⟩ rfl (Nat.le_of_ble_eq_true rfl) (by decide +kernel) ?_
    refine g_kV (fun G7 hG8 => ?_)
    rw [g_up_up] at hG8
    subst hG8
    refine g_aast (pc := 42) (n := 8) (t0 := 2) (ci := 1) C ((RX.nw h hq6).1.2.2.1) rfl (g_up_self ..) rfl (vp_in_nI ((cap_y (by decide) (by decide) (by have := h.2.2.2.2.1; omega) h4)) (by decide)) (by decide +kernel) ?_
    refine g_seg [(43, .aload_n 0, 1), (44, .iload_n 1, 1), (45, .iconst 1, 1), (46, .iadd, 1)] 47 [(1, .int (nI nf)), (0, .ref x)] [.int ((nI nf) + 1), .ref x] C (by decide +kernel) rfl ?_
    refine g_putf (pc := 47) (k := 5) (v := .int ((nI nf) + 1)) (ty := .int) C fl_X4_98 fp_X4_5 ((g_oth (RX.nw h hq6).1.1 (RX.nw h hq6).1.2.2.1 (by simp [oX, oA]))) (rfl) (by first | rfl | decide) (Nat.le_of_ble_eq_true rfl) (by decide +kernel) ?_
    refine g_abs (P := fun G9 => RX cy x (adU ad 2 nf q5) b nt (nf + 1) nc nn T (s_add E nf rowF) Cu N KT (s_add KF nf z0) KC G9) (by rw [show (.inr (1, [.int 0, .int (-1), .int 0, .int 0, .int 0, .int 0, .int 0, .int 0, .int 0, .int 0]) : va_E) = oF (s_add E nf rowF) (s_add KF nf z0) nf by simp [oT, oF, oC, oN, s_add, rowT, rowF, rowC, rowN, z0]]; exact RX_addF (r := rowF) (kr := z0) h hq6 (cap_y (by decide) (by decide) (by have := h.2.2.2.2.1; omega) h4)) (fun G9 h10 => ?_)
    refine g_seg [(50, .iload_n 1, 1)] 51 [(1, .int (nI nf)), (0, .ref x)] [.int (nI nf)] C (by decide +kernel) rfl ?_
    exact g_iretX (pc := 51) C R (⟨_, rfl, (cap_y (by decide) (by decide) (by have := h.2.2.2.2.1; omega) h4), rfl, _, h10⟩) (Nat.le_of_ble_eq_true rfl) (Nat.le_of_ble_eq_true rfl) (by decide +kernel)
  · refine g_if_ne (pc := 17) (off := 13) 30 C (by decide +kernel) (by decide) (fun c9 => absurd (by decide) c9) (fun _ => ?_)
    exact g_throw (pc := 20) (is := 101) (text := "there are 8 flyers") C R rfl ex_ISE (by decide +kernel) (⟨h, rfl, cap_n (by decide) (by decide) h4⟩) (Nat.le_of_ble_eq_true rfl) (Nat.le_of_ble_eq_true rfl) (Nat.le_of_ble_eq_true rfl) (Nat.le_of_ble_eq_true rfl) (by decide +kernel) (by decide +kernel) (by decide +kernel) (by decide +kernel) (by decide +kernel)
set_option maxHeartbeats 4000000 in
set_option maxRecDepth 100000 in
theorem c_X4_cue (l : Launch) (D : va_G) (cy : Nat → ClassId) {G : GG} {x : Nat} {ad : Nat → Nat → Nat} {b : Int32} {nt nf nc nn : Nat} {T E Cu N KT KF KC : Rw} (h : RX cy x ad b nt nf nc nn T E Cu N KT KF KC G) (bt f r tm : Int32) : CtrX l D cy yX4_cue prog_1_method_8_code 6 (some .int) kX4_cue [.ref x, .int bt, .int f, .int r, .int tm] G (pI (fun v G' => (∃ i, i < nf ∧ f = nI i) ∧ okC bt r tm ∧ ¬ bt < b ∧ nc < 20 ∧ v = nI nc ∧ ∃ ad', RX cy x ad' b nt nf (nc + 1) nn T E (s_add Cu nc (rowC bt f r tm)) N KT KF (s_add KC nc z0) G')) (fun e G' => RX cy x ad b nt nf nc nn T E Cu N KT KF KC G' ∧ ((e = "java/lang/IndexOutOfBoundsException" ∧ (∀ i, i < nf → f ≠ nI i)) ∨ (e = "java/lang/IllegalArgumentException" ∧ (∃ i, i < nf ∧ f = nI i) ∧ ¬ okC bt r tm) ∨ (e = "java/lang/IllegalStateException" ∧ (∃ i, i < nf ∧ f = nI i) ∧ okC bt r tm ∧ (bt < b ∨ bt < 0 ∨ ¬ nc < 20)))) := by
  refine CtrX.mk (by decide +kernel) (Nat.le_of_ble_eq_true rfl) ?_
  intro κ C R
  refine g_pc (pc' := 0) rfl ?_
  refine g_seg [(0, .aload_n 0, 1), (1, .iload_n 2, 1)] 2 [(0, .ref x), (1, .int bt), (2, .int f), (3, .int r), (4, .int tm)] [.int f, .ref x] C (by decide +kernel) rfl ?_
  refine g_callV (pc := 2) C mV_X4_flyerNumbered q187 (h.1.1) rfl rfl (c_X4_flyerNumbered l D cy h f) rfl ⟨⟨Nat.le_of_ble_eq_true rfl, Nat.le_of_ble_eq_true rfl⟩, Nat.le_of_ble_eq_true rfl, Nat.le_of_ble_eq_true rfl⟩ rfl (Nat.le_of_ble_eq_true rfl) (by decide +kernel) ?_
  refine g_kA (fun v3 G2 hp1 => ?_)
  obtain ⟨rfl, hp1⟩ := hp1
  rcases hp1 with ⟨i4, hi5, hn6, rfl⟩ | ⟨hn6, rfl⟩
  · refine g_ifnonnull (pc := 5) (off := 13) 18 C (by decide +kernel) (by decide) ?_
    refine g_seg [(18, .iload_n 3, 1), (19, .bipush (-20), 2), (21, .bipush 20, 2)] 23 [(0, .ref x), (1, .int bt), (2, .int f), (3, .int r), (4, .int tm)] [.int 20, .int (-20), .int r] C (by decide +kernel) rfl ?_
    refine g_callS (pc := 23) C mS_X4_isWithin q86 (c_X4_isWithin l D cy G2 r (-20) 20) rfl ⟨⟨Nat.le_of_ble_eq_true rfl, Nat.le_of_ble_eq_true rfl⟩, Nat.le_of_ble_eq_true rfl, Nat.le_of_ble_eq_true rfl⟩ rfl (Nat.le_of_ble_eq_true rfl) (by decide +kernel) ?_
    refine g_kI (fun v9 G8 hp7 => ?_)
    obtain ⟨rfl, hp7⟩ := hp7
    rcases hp7 with ⟨rfl, h10⟩ | ⟨rfl, h10⟩
    · refine g_if_eq (pc := 26) (off := 21) 47 C (by decide +kernel) (by decide) (fun c9 => absurd c9 (by decide)) (fun _ => ?_)
      refine g_seg [(29, .iload 4, 2), (31, .iconst 1, 1), (32, .bipush 6, 2)] 34 [(0, .ref x), (1, .int bt), (2, .int f), (3, .int r), (4, .int tm)] [.int 6, .int 1, .int tm] C (by decide +kernel) rfl ?_
      refine g_callS (pc := 34) C mS_X4_isWithin q86 (c_X4_isWithin l D cy G8 tm 1 6) rfl ⟨⟨Nat.le_of_ble_eq_true rfl, Nat.le_of_ble_eq_true rfl⟩, Nat.le_of_ble_eq_true rfl, Nat.le_of_ble_eq_true rfl⟩ rfl (Nat.le_of_ble_eq_true rfl) (by decide +kernel) ?_
      refine g_kI (fun v13 G12 hp11 => ?_)
      obtain ⟨rfl, hp11⟩ := hp11
      rcases hp11 with ⟨rfl, h14⟩ | ⟨rfl, h14⟩
      · refine g_if_eq (pc := 37) (off := 10) 47 C (by decide +kernel) (by decide) (fun c9 => absurd c9 (by decide)) (fun _ => ?_)
        refine g_seg [(40, .iload_n 1, 1), (41, .sipush 9999, 3)] 44 [(0, .ref x), (1, .int bt), (2, .int f), (3, .int r), (4, .int tm)] [.int 9999, .int bt] C (by decide +kernel) rfl ?_
        refine g_icmp_le (pc := 44) (off := 13) 57 C (by decide +kernel) (by decide) (fun c15 => ?_) (fun c15 => ?_)
        · refine g_seg [(57, .aload_n 0, 1)] 58 [(0, .ref x), (1, .int bt), (2, .int f), (3, .int r), (4, .int tm)] [.ref x] C (by decide +kernel) rfl ?_
          refine g_getf (pc := 58) (k := 6) (v := .int (nI nc)) C fl_X4_128 (h.1.1) rfl (by decide +kernel) ?_
          refine g_seg [(61, .istore 5, 2), (63, .iload_n 1, 1), (64, .aload_n 0, 1)] 65 [(5, .int (nI nc)), (0, .ref x), (1, .int bt), (2, .int f), (3, .int r), (4, .int tm)] [.ref x, .int bt] C (by decide +kernel) rfl ?_
          refine g_getf (pc := 65) (k := 8) (v := .int b) C fl_X4_53 (h.1.1) rfl (by decide +kernel) ?_
          refine g_icmp_lt (pc := 68) (off := 23) 91 C (by decide +kernel) (by decide) (fun c16 => ?_) (fun c16 => ?_)
          · exact g_throw (pc := 91) (is := 131) (text := "the beat has gone by, or there are 20 cues") C R rfl ex_ISE (by decide +kernel) (⟨h, Or.inr (Or.inr (⟨rfl, ⟨i4, hi5, hn6⟩, ⟨h10, h14, c15⟩, Or.inl c16⟩))⟩) (Nat.le_of_ble_eq_true rfl) (Nat.le_of_ble_eq_true rfl) (Nat.le_of_ble_eq_true rfl) (Nat.le_of_ble_eq_true rfl) (by decide +kernel) (by decide +kernel) (by decide +kernel) (by decide +kernel) (by decide +kernel)
          · refine g_seg [(71, .iload_n 1, 1)] 72 [(5, .int (nI nc)), (0, .ref x), (1, .int bt), (2, .int f), (3, .int r), (4, .int tm)] [.int bt] C (by decide +kernel) rfl ?_
            refine g_if_lt (pc := 72) (off := 19) 91 C (by decide +kernel) (by decide) (fun c17 => ?_) (fun c17 => ?_)
            · exact g_throw (pc := 91) (is := 131) (text := "the beat has gone by, or there are 20 cues") C R rfl ex_ISE (by decide +kernel) (⟨h, Or.inr (Or.inr (⟨rfl, ⟨i4, hi5, hn6⟩, ⟨h10, h14, c15⟩, Or.inr (Or.inl c17)⟩))⟩) (Nat.le_of_ble_eq_true rfl) (Nat.le_of_ble_eq_true rfl) (Nat.le_of_ble_eq_true rfl) (Nat.le_of_ble_eq_true rfl) (by decide +kernel) (by decide +kernel) (by decide +kernel) (by decide +kernel) (by decide +kernel)
            · refine g_seg [(75, .iload 5, 2), (77, .iconst 0, 1), (78, .aload_n 0, 1)] 79 [(5, .int (nI nc)), (0, .ref x), (1, .int bt), (2, .int f), (3, .int r), (4, .int tm)] [.ref x, .int 0, .int (nI nc)] C (by decide +kernel) rfl ?_
              refine g_getf (pc := 79) (k := 2) (v := .ref (ad 0 2)) C fl_X4_23 (h.1.1) rfl (by decide +kernel) ?_
              refine g_alenA (pc := 82) (len := 20) (t0 := 3) C (h.1.2.2.2.1) rfl (by decide +kernel) ?_
              refine g_seg [(83, .iconst 1, 1), (84, .isub, 1)] 85 [(5, .int (nI nc)), (0, .ref x), (1, .int bt), (2, .int f), (3, .int r), (4, .int tm)] [.int ((nI 20) - 1), .int 0, .int (nI nc)] C (by decide +kernel) rfl ?_
              refine g_callS (pc := 85) C mS_X4_isWithin q86 (c_X4_isWithin l D cy G12 (nI nc) 0 ((nI 20) - 1)) rfl ⟨⟨Nat.le_of_ble_eq_true rfl, Nat.le_of_ble_eq_true rfl⟩, Nat.le_of_ble_eq_true rfl, Nat.le_of_ble_eq_true rfl⟩ rfl (Nat.le_of_ble_eq_true rfl) (by decide +kernel) ?_
              refine g_kI (fun v20 G19 hp18 => ?_)
              obtain ⟨rfl, hp18⟩ := hp18
              rcases hp18 with ⟨rfl, h21⟩ | ⟨rfl, h21⟩
              · refine g_if_ne (pc := 88) (off := 13) 101 C (by decide +kernel) (by decide) (fun _ => ?_) (fun c9 => absurd c9 (by decide))
                refine g_seg [(101, .aload_n 0, 1)] 102 [(5, .int (nI nc)), (0, .ref x), (1, .int bt), (2, .int f), (3, .int r), (4, .int tm)] [.ref x] C (by decide +kernel) rfl ?_
                refine g_getf (pc := 102) (k := 2) (v := .ref (ad 0 2)) C fl_X4_23 (h.1.1) rfl (by decide +kernel) ?_
                refine g_seg [(105, .iload 5, 2)] 107 [(5, .int (nI nc)), (0, .ref x), (1, .int bt), (2, .int f), (3, .int r), (4, .int tm)] [.int (nI nc), .ref (ad 0 2)] C (by decide +kernel) rfl ?_
                refine g_new (pc := 107) (ci := 0) (fs := [.int 0, .int 0, .int 0, .int 0, .int 0, .int 0]) C rfl inX0 tyX0_ok q46 q577 q33 (fun j hj => by rcases (show j = 0 ∨ j = 1 ∨ j = 2 ∨ j = 3 ∨ j = 4 ∨ j = 5 by omega) with rfl | rfl | rfl | rfl | rfl | rfl <;> rfl) (Nat.le_of_ble_eq_true rfl) (Nat.le_of_ble_eq_true rfl) (by decide +kernel) (fun q22 hq23 => ?_)
                refine g_seg [(110, .dup, 1), (111, .iload_n 1, 1), (112, .iload_n 2, 1), (113, .iload_n 3, 1), (114, .iload 4, 2)] 116 [(5, .int (nI nc)), (0, .ref x), (1, .int bt), (2, .int f), (3, .int r), (4, .int tm)] [.int tm, .int r, .int f, .int bt, .ref q22, .ref q22, .int (nI nc), .ref (ad 0 2)] C (by decide +kernel) rfl ?_
                refine g_callI (pc := 116) C mI_X0_init q578 (c_X0_init l D cy (g_up G19 q22 (.inr (0, [.int 0, .int 0, .int 0, .int 0, .int 0, .int 0]))) q22 bt f r tm (g_up_self ..)) rfl ⟨⟨Nat.le_of_ble_eq_true rfl, Nat.le_of_ble_eq_true rfl⟩, Nat.le_of_ble_eq_true rfl, Nat.le_of_ble_eq_true rfl⟩ rfl (Nat.le_of_ble_eq_true rfl) (by decide +kernel) ?_
                refine g_kV (fun G24 hG25 => ?_)
                rw [g_up_up] at hG25
                subst hG25
                refine g_aast (pc := 119) (n := 20) (t0 := 3) (ci := 0) C ((RX.nw h hq23).1.2.2.2.1) rfl (g_up_self ..) rfl (vp_in_nI ((cap_y (by decide) (by decide) (by have := h.2.2.2.2.2.1; omega) h21)) (by decide)) (by decide +kernel) ?_
                refine g_seg [(120, .aload_n 0, 1), (121, .iload 5, 2), (123, .iconst 1, 1), (124, .iadd, 1)] 125 [(5, .int (nI nc)), (0, .ref x), (1, .int bt), (2, .int f), (3, .int r), (4, .int tm)] [.int ((nI nc) + 1), .ref x] C (by decide +kernel) rfl ?_
                refine g_putf (pc := 125) (k := 6) (v := .int ((nI nc) + 1)) (ty := .int) C fl_X4_128 fp_X4_6 ((g_oth (RX.nw h hq23).1.1 (RX.nw h hq23).1.2.2.2.1 (by simp [oX, oA]))) (rfl) (by first | rfl | decide) (Nat.le_of_ble_eq_true rfl) (by decide +kernel) ?_
                refine g_abs (P := fun G9 => RX cy x (adU ad 3 nc q22) b nt nf (nc + 1) nn T E (s_add Cu nc (rowC bt f r tm)) N KT KF (s_add KC nc z0) G9) (by rw [show (.inr (0, [.int bt, .int f, .int r, .int tm, .int 0, .int 0]) : va_E) = oC (s_add Cu nc (rowC bt f r tm)) (s_add KC nc z0) nc by simp [oT, oF, oC, oN, s_add, rowT, rowF, rowC, rowN, z0]]; exact RX_addC (r := rowC bt f r tm) (kr := z0) h hq23 (cap_y (by decide) (by decide) (by have := h.2.2.2.2.2.1; omega) h21)) (fun G26 h27 => ?_)
                refine g_seg [(128, .iload 5, 2)] 130 [(5, .int (nI nc)), (0, .ref x), (1, .int bt), (2, .int f), (3, .int r), (4, .int tm)] [.int (nI nc)] C (by decide +kernel) rfl ?_
                exact g_iretX (pc := 130) C R (⟨_, rfl, ⟨i4, hi5, hn6⟩, ⟨h10, h14, c15⟩, c16, (cap_y (by decide) (by decide) (by have := h.2.2.2.2.2.1; omega) h21), rfl, _, h27⟩) (Nat.le_of_ble_eq_true rfl) (Nat.le_of_ble_eq_true rfl) (by decide +kernel)
              · refine g_if_ne (pc := 88) (off := 13) 101 C (by decide +kernel) (by decide) (fun c9 => absurd (by decide) c9) (fun _ => ?_)
                exact g_throw (pc := 91) (is := 131) (text := "the beat has gone by, or there are 20 cues") C R rfl ex_ISE (by decide +kernel) (⟨h, Or.inr (Or.inr (⟨rfl, ⟨i4, hi5, hn6⟩, ⟨h10, h14, c15⟩, Or.inr (Or.inr (cap_n (by decide) (by decide) h21))⟩))⟩) (Nat.le_of_ble_eq_true rfl) (Nat.le_of_ble_eq_true rfl) (Nat.le_of_ble_eq_true rfl) (Nat.le_of_ble_eq_true rfl) (by decide +kernel) (by decide +kernel) (by decide +kernel) (by decide +kernel) (by decide +kernel)
        · exact g_throw (pc := 47) (is := 126) (text := "no cue can be given so") C R rfl ex_IAE (by decide +kernel) (⟨h, Or.inr (Or.inl ⟨rfl, ⟨i4, hi5, hn6⟩, fun h9 => c15 h9.2.2⟩)⟩) (Nat.le_of_ble_eq_true rfl) (Nat.le_of_ble_eq_true rfl) (Nat.le_of_ble_eq_true rfl) (Nat.le_of_ble_eq_true rfl) (by decide +kernel) (by decide +kernel) (by decide +kernel) (by decide +kernel) (by decide +kernel)
      · refine g_if_eq (pc := 37) (off := 10) 47 C (by decide +kernel) (by decide) (fun _ => ?_) (fun c9 => absurd (by decide) c9)
        exact g_throw (pc := 47) (is := 126) (text := "no cue can be given so") C R rfl ex_IAE (by decide +kernel) (⟨h, Or.inr (Or.inl ⟨rfl, ⟨i4, hi5, hn6⟩, fun h9 => h14 h9.2.1⟩)⟩) (Nat.le_of_ble_eq_true rfl) (Nat.le_of_ble_eq_true rfl) (Nat.le_of_ble_eq_true rfl) (Nat.le_of_ble_eq_true rfl) (by decide +kernel) (by decide +kernel) (by decide +kernel) (by decide +kernel) (by decide +kernel)
    · refine g_if_eq (pc := 26) (off := 21) 47 C (by decide +kernel) (by decide) (fun _ => ?_) (fun c9 => absurd (by decide) c9)
      exact g_throw (pc := 47) (is := 126) (text := "no cue can be given so") C R rfl ex_IAE (by decide +kernel) (⟨h, Or.inr (Or.inl ⟨rfl, ⟨i4, hi5, hn6⟩, fun h9 => h10 h9.1⟩)⟩) (Nat.le_of_ble_eq_true rfl) (Nat.le_of_ble_eq_true rfl) (Nat.le_of_ble_eq_true rfl) (Nat.le_of_ble_eq_true rfl) (by decide +kernel) (by decide +kernel) (by decide +kernel) (by decide +kernel) (by decide +kernel)
  · refine g_ifnonnullN (pc := 5) (off := 13) C (by decide +kernel) ?_
    exact g_throw (pc := 8) (is := 124) (text := "no such flyer") C R rfl ex_IOE (by decide +kernel) (⟨h, Or.inl ⟨rfl, hn6⟩⟩) (Nat.le_of_ble_eq_true rfl) (Nat.le_of_ble_eq_true rfl) (Nat.le_of_ble_eq_true rfl) (Nat.le_of_ble_eq_true rfl) (by decide +kernel) (by decide +kernel) (by decide +kernel) (by decide +kernel) (by decide +kernel)
end
section
section RXW
variable {cy : Nat → ClassId} {x : Nat} {ad : Nat → Nat → Nat} {b : Int32} {nt nf nc nn : Nat} {T E Cu N KT KF KC : Rw} {G : GG} {t : Nat}
theorem RXT_weigh {p0 : Int32} (h : RX cy x ad b nt nf nc nn T E Cu N KT KF KC G) (ht : t < nt) : RX cy x ad b nt nf nc nn (s_set (s_set T t 2 p0) t 6 b) E Cu N KT KF KC (g_up G (ad 1 t) (.inr (3, [.int (T t 0), .int (T t 1), .int (T t 3), .int p0, .int b, .int (T t 4), .int (T t 5), .int (KT t 0), .int (KT t 1)]))) := by
  have := RX.setT (T' := s_set (s_set T t 2 p0) t 6 b) (KT' := KT) h ht (fun j hj hne => by simp [oT, s_set, hne])
  have e : oT (s_set (s_set T t 2 p0) t 6 b) KT t = .inr (3, [.int (T t 0), .int (T t 1), .int (T t 3), .int p0, .int b, .int (T t 4), .int (T t 5), .int (KT t 0), .int (KT t 1)]) := by simp [oT, s_set]
  rw [e] at this; exact this
theorem RXT_mend (h : RX cy x ad b nt nf nc nn T E Cu N KT KF KC G) (ht : t < nt) : RX cy x ad b nt nf nc nn (s_set (s_set T t 4 0) t 5 1) E Cu N KT KF KC (g_up G (ad 1 t) (.inr (3, [.int (T t 0), .int (T t 1), .int (T t 3), .int (T t 2), .int (T t 6), .int 0, .int 1, .int (KT t 0), .int (KT t 1)]))) := by
  have := RX.setT (T' := s_set (s_set T t 4 0) t 5 1) (KT' := KT) h ht (fun j hj hne => by simp [oT, s_set, hne])
  have e : oT (s_set (s_set T t 4 0) t 5 1) KT t = .inr (3, [.int (T t 0), .int (T t 1), .int (T t 3), .int (T t 2), .int (T t 6), .int 0, .int 1, .int (KT t 0), .int (KT t 1)]) := by simp [oT, s_set]
  rw [e] at this; exact this
end RXW
theorem in_200 {n : Int32} (h : 1 ≤ n ∧ n ≤ 200) : ∃ k, k ≤ 200 ∧ n = nI k := by
  obtain ⟨h1, h2⟩ := h
  have e1 : (1 : Int32).toInt = 1 := by decide
  have e2 : (200 : Int32).toInt = 200 := by decide
  rw [Int32.le_iff_toInt_le, e1] at h1
  rw [Int32.le_iff_toInt_le, e2] at h2
  obtain ⟨j, hj, rfl⟩ := nI_of (x := n) (by rw [Int32.lt_iff_toInt_lt, Int32.toInt_zero]; omega)
  rw [nI_toInt hj] at h2
  exact ⟨j, by omega, rfl⟩
/-- the first beat at which two places are near -/
def s_meet (T : Rw) (i j : Nat) (b : Int32) : Int32 :=
  match fst (fun k => s_near (s_at T i (b + nI k)) (s_at T j (b + nI k))) 201 with
  | some k => nI k
  | none => -1
def s_fl (T : Rw) (j : Nat) (b fr : Int32) (k : Nat) : Option Nat := fst (fun r => s_near (fr + (nI r - 20)) (s_at T j (b + nI (k + 1)))) 41
def s_pick (n : Nat) (g : Nat → Option Nat) (c : Nat → Nat → Int32) : Int32 :=
  match fst (fun k => (g k).isSome) n with
  | some k => (match g k with
    | some r => c k r
    | none => -1)
  | none => -1
theorem pick_y {n k r : Nat} {g : Nat → Option Nat} {c : Nat → Nat → Int32} (hk : k < n) (e : g k = some r) (hs : ∀ u, u < k → g u = none) : s_pick n g c = c k r := by
  unfold s_pick
  rw [fst_some (t := k) hk (by simp only [e]; rfl) (fun u hu => by simp only [hs u hu]; rfl)]
  simp only [e]
theorem pick_n {n : Nat} {g : Nat → Option Nat} {c : Nat → Nat → Int32} (hs : ∀ u, u < n → g u = none) : s_pick n g c = -1 := by
  unfold s_pick
  rw [fst_none (fun u hu => by simp only [hs u hu]; rfl)]
def s_flight (T : Rw) (j : Nat) (b fr : Int32) : Int32 := s_pick 6 (s_fl T j b fr) (fun k r => 100 * nI (k + 1) + (nI r - 20) + 20)
def s_ad (T : Rw) (i j : Nat) (b : Int32) (k : Nat) : Option Nat := fst (fun w => s_near (s_pl (T i 0) (T i 1) (nI w) (nI k)) (s_at T j (b + nI k))) 11
def s_advise (T : Rw) (i j : Nat) (b : Int32) : Int32 := s_pick 201 (s_ad T i j b) (fun _ w => nI w)
theorem fst_n_in {p : Nat → Bool} {n : Nat} (h : fst p n = none) : ∀ t, t < n → p t = false := by
  intro t ht
  cases hp : p t with
  | false => rfl
  | true =>
    exfalso
    have hx : ∀ m, t < m → fst p m ≠ none := by
      intro m
      induction m with
      | zero => intro h; omega
      | succ m ihm =>
        intro hm
        simp only [fst]
        by_cases hlt : t < m
        · cases hf : fst p m with
          | none => exact absurd hf (ihm hlt)
          | some v => simp
        · have : t = m := by omega
          subst this
          cases hf : fst p t with
          | none => simp [hp]
          | some v => simp
    exact hx n ht h
theorem meet_y {T : Rw} {i j k : Nat} {b : Int32} (hk : k < 201) (hp : s_near (s_at T i (b + nI k)) (s_at T j (b + nI k)) = true) (hs : ∀ u, u < k → s_near (s_at T i (b + nI u)) (s_at T j (b + nI u)) = false) : s_meet T i j b = nI k := by
  unfold s_meet; rw [fst_some hk hp hs]
theorem meet_n {T : Rw} {i j : Nat} {b : Int32} (hs : ∀ u, u < 201 → s_near (s_at T i (b + nI u)) (s_at T j (b + nI u)) = false) : s_meet T i j b = -1 := by
  unfold s_meet; rw [fst_none hs]
theorem no_f2 {p : Nat → Bool} {k : Nat} (hs : ∀ t, t < k → p t = false) (hp : p k = false) : ∀ t, t < k + 1 → p t = false := fun t h1 => by
  by_cases h : t = k
  · subst h; exact hp
  · exact hs t (by omega)
theorem fl_y {T : Rw} {j k r : Nat} {b fr : Int32} (hk : k < 6) (hr : r < 41) (hp : s_near (fr + (nI r - 20)) (s_at T j (b + nI (k + 1))) = true) (hs2 : ∀ u, u < r → s_near (fr + (nI u - 20)) (s_at T j (b + nI (k + 1))) = false) (hs : ∀ u, u < k → s_fl T j b fr u = none) : s_flight T j b fr = 100 * nI (k + 1) + (nI r - 20) + 20 :=
  pick_y (c := fun k r => 100 * nI (k + 1) + (nI r - 20) + 20) hk (show s_fl T j b fr k = some r from by unfold s_fl; exact fst_some hr hp hs2) hs
theorem fl_n {T : Rw} {j : Nat} {b fr : Int32} (hs : ∀ u, u < 6 → s_fl T j b fr u = none) : s_flight T j b fr = -1 := pick_n hs
theorem fl_0 {T : Rw} {j k : Nat} {b fr : Int32} (hs2 : ∀ u, u < 41 → s_near (fr + (nI u - 20)) (s_at T j (b + nI (k + 1))) = false) : s_fl T j b fr k = none := by unfold s_fl; exact fst_none hs2
theorem ad_y {T : Rw} {i j k w : Nat} {b : Int32} (hk : k < 201) (hw : w < 11) (hp : s_near (s_pl (T i 0) (T i 1) (nI w) (nI k)) (s_at T j (b + nI k)) = true) (hs2 : ∀ u, u < w → s_near (s_pl (T i 0) (T i 1) (nI u) (nI k)) (s_at T j (b + nI k)) = false) (hs : ∀ u, u < k → s_ad T i j b u = none) : s_advise T i j b = nI w :=
  pick_y (c := fun _ w => nI w) hk (show s_ad T i j b k = some w from by unfold s_ad; exact fst_some hw hp hs2) hs
theorem ad_n {T : Rw} {i j : Nat} {b : Int32} (hs : ∀ u, u < 201 → s_ad T i j b u = none) : s_advise T i j b = -1 := pick_n hs
theorem ad_0 {T : Rw} {i j k : Nat} {b : Int32} (hs2 : ∀ u, u < 11 → s_near (s_pl (T i 0) (T i 1) (nI u) (nI k)) (s_at T j (b + nI k)) = false) : s_ad T i j b k = none := by unfold s_ad; exact fst_none hs2
theorem nonex {f : Nat → Option Nat} {k : Nat} (hs : ∀ t, t < k → f t = none) (hp : f k = none) : ∀ t, t < k + 1 → f t = none := fun t h1 => by
  by_cases h : t = k
  · subst h; exact hp
  · exact hs t (by omega)
theorem sub_s {r : Nat} {x : Int32} (h : x = nI r - 20) : x + 1 = nI (r + 1) - 20 := by
  rw [h, ← nI_1]; simp only [Int32.sub_eq_add_neg]; rw [Int32.add_assoc, Int32.add_comm (-20) 1, ← Int32.add_assoc]
theorem sub_0 : (-20 : Int32) = nI 0 - 20 := by decide
theorem sub_T {r : Nat} (hr : r < 1000) : (nI r - 20).toInt = (r : Int) - 20 := by
  have := pk_sub_toInt (a := r) (b := 20) (by omega) (by omega)
  exact this
theorem sub_gt {r : Nat} {x : Int32} (h : x = nI r - 20) (hr : r < 1000) (hc : (20 : Int32) < x) : 40 < r := by
  rw [h, Int32.lt_iff_toInt_lt, sub_T hr] at hc
  have e : (20 : Int32).toInt = 20 := by decide
  omega
theorem sub_ngt {r : Nat} {x : Int32} (h : x = nI r - 20) (hr : r < 1000) (hc : ¬ (20 : Int32) < x) : r < 41 := by
  rw [h, Int32.lt_iff_toInt_lt, sub_T hr] at hc
  have e : (20 : Int32).toInt = 20 := by decide
  omega
/-! what beats leave as it is -/
theorem xw_T {N : Rw} {nn nf t : Nat} {b : Int32} {TE : Rw × Rw} {i k : Nat} (h4 : k ≠ 4) (h5 : k ≠ 5) : (x_wear N nn nf b t TE).1 i k = TE.1 i k := by
  have hw : ∀ (T E : Rw), x_wr T E nf t i k = T i k := fun T E => by simp [x_wr, s_set, h4, h5]
  unfold x_wear
  split
  · split <;> exact hw _ _
  · rfl
theorem xws_T {N : Rw} {nn nf : Nat} {b : Int32} {TE : Rw × Rw} {i k : Nat} (h4 : k ≠ 4) (h5 : k ≠ 5) (n : Nat) : (its (x_wear N nn nf b) TE n).1 i k = TE.1 i k := by
  induction n with
  | zero => rfl
  | succ n ih => exact (xw_T h4 h5).trans ih
theorem xb_T {N : Rw} {nn nt nf nc : Nat} {S : Xb} {i k : Nat} (h4 : k ≠ 4) (h5 : k ≠ 5) (n : Nat) : (x_beats N nn nt nf nc S n).2.1 i k = S.2.1 i k := by
  induction n with
  | zero => rfl
  | succ n ih => exact (xws_T (TE := (_, _)) h4 h5 nt).trans ih
theorem xc_C {T : Rw} {nt nf c : Nat} {b : Int32} {EC : Rw × Rw} {i k : Nat} (h4 : k ≠ 4) : (x_cue T nt nf b c EC).2 i k = EC.2 i k := by
  unfold x_cue
  split
  · split <;> simp [s_set, h4]
  · rfl
theorem xcs_C {T : Rw} {nt nf : Nat} {b : Int32} {EC : Rw × Rw} {i k : Nat} (h4 : k ≠ 4) (n : Nat) : (its (x_cue T nt nf b) EC n).2 i k = EC.2 i k := by
  induction n with
  | zero => rfl
  | succ n ih => exact (xc_C h4).trans ih
theorem xb_C {N : Rw} {nn nt nf nc : Nat} {S : Xb} {i k : Nat} (h4 : k ≠ 4) (n : Nat) : (x_beats N nn nt nf nc S n).2.2.2.1 i k = S.2.2.2.1 i k := by
  induction n with
  | zero => rfl
  | succ n ih => exact (xcs_C (EC := (_, _)) h4 nc).trans ih
theorem fore_ext {cy : Nat → ClassId} {x : Nat} {ad : Nat → Nat → Nat} {b : Int32} {nt nf nc nn : Nat} {T E Cu N T1 E1 C1 KT KF KC : Rw} {G : GG} (hT : ∀ i k, k ≠ 4 → k ≠ 5 → T1 i k = T i k) (hC : ∀ i k, k ≠ 4 → C1 i k = Cu i k)
    (h : RX cy x ad b nt nf nc nn (mixR (tT T1 (mixR (kT T) KT nt)) T1 nt) (mixR (mixR E KF nf) E1 nf) (mixR (tC C1 (mixR (kC Cu) KC nc)) C1 nc) N (mixR (kT T) KT nt) (mixR E KF nf) (mixR (kC Cu) KC nc) G) : RX cy x ad b nt nf nc nn T E Cu N (mixR (kT T) KT nt) (mixR E KF nf) (mixR (kC Cu) KC nc) G := by
  refine h.ext (fun i hi => ?_) (fun i hi => ?_) (fun i hi => ?_)
  · simp [oT, mixR, hi, tT, kT, hT]
  · simp [oF, mixR, hi]
  · simp [oC, mixR, hi, tC, kC, hC]
theorem dn_fin {a : UInt64} (h : FP.Core.DFin a) : FP.Core.dIsNaN a = false := by
  rw [FP.Core.fin_bits] at h
  rw [← Bool.not_eq_true, FP.Core.isNaN_bits]
  omega
theorem dn_ok {a c : Int32} (hc : c ≠ 0) : vf_n64 (FP.ddiv (FP.i2d a) (FP.i2d c)) := by
  have h1 : FP.Core.dIsNaN (FP.Core.ddiv (FP.Core.i2d a) (FP.Core.i2d c)) = false := FP.Core.ddiv_out (dn_fin (FP.Core.i2d_fin a)) (FP.Core.i2d_fin c) (by rw [FP.Core.zero_bits2]; exact FP.Core.i2d_ne_zero hc)
  rw [← Bool.not_eq_true, FP.Core.isNaN_bits] at h1
  show FP.Core.ddiv (FP.Core.i2d a) (FP.Core.i2d c) &&& 0x7fffffffffffffff ≤ 0x7ff0000000000000
  rw [UInt64.le_iff_toNat_le, UInt64.toNat_and]
  have e1 : (0x7fffffffffffffff : UInt64).toNat = 2 ^ 63 - 1 := by decide
  have e2 : (0x7ff0000000000000 : UInt64).toNat = 9218868437227405312 := by decide
  rw [e1, e2, Nat.and_two_pow_sub_one_eq_mod]
  omega
def s_mean (F : Rw) (nf : Nat) : UInt64 := if nf = 0 then FP.dconst0 else FP.ddiv (FP.i2d (s_caught F nf)) (FP.i2d (nI nf))

set_option maxHeartbeats 4000000 in
set_option maxRecDepth 100000 in
theorem c_X4_weigh (l : Launch) (D : va_G) (cy : Nat → ClassId) {G : GG} {x : Nat} {ad : Nat → Nat → Nat} {b : Int32} {nt nf nc nn : Nat} {T E Cu N KT KF KC : Rw} (h : RX cy x ad b nt nf nc nn T E Cu N KT KF KC G) (t p0 : Int32) : CtrX l D cy yX4_weigh prog_1_method_3_code 5 (some .int) kX4_weigh [.ref x, .int t, .int p0] G (pI (fun v G' => ∃ i, i < nt ∧ t = nI i ∧ (0 ≤ p0 ∧ p0 ≤ 10) ∧ ¬ T i 5 = 0 ∧ v = T i 2 ∧ RX cy x ad b nt nf nc nn (s_set (s_set T i 2 p0) i 6 b) E Cu N KT KF KC G')) (fun e G' => RX cy x ad b nt nf nc nn T E Cu N KT KF KC G' ∧ ((e = "java/lang/IndexOutOfBoundsException" ∧ (∀ i, i < nt → t ≠ nI i)) ∨ (e = "java/lang/IllegalArgumentException" ∧ (∃ i, i < nt ∧ t = nI i) ∧ ¬ (0 ≤ p0 ∧ p0 ≤ 10)) ∨ (e = "java/lang/IllegalStateException" ∧ ∃ i, i < nt ∧ t = nI i ∧ (0 ≤ p0 ∧ p0 ≤ 10) ∧ T i 5 = 0))) := by
  refine CtrX.mk (by decide +kernel) (Nat.le_of_ble_eq_true rfl) ?_
  intro κ C R
  refine g_pc (pc' := 0) rfl ?_
  refine g_seg [(0, .aload_n 0, 1), (1, .iload_n 1, 1)] 2 [(0, .ref x), (1, .int t), (2, .int p0)] [.int t, .ref x] C (by decide +kernel) rfl ?_
  refine g_callV (pc := 2) C mV_X4_trapezeNumbered q82 (h.1.1) rfl rfl (c_X4_trapezeNumbered l D cy h t) rfl ⟨⟨Nat.le_of_ble_eq_true rfl, Nat.le_of_ble_eq_true rfl⟩, Nat.le_of_ble_eq_true rfl, Nat.le_of_ble_eq_true rfl⟩ rfl (Nat.le_of_ble_eq_true rfl) (by decide +kernel) ?_
  refine g_kA (fun v3 G2 hp1 => ?_)
  obtain ⟨rfl, hp1⟩ := hp1
  rcases hp1 with ⟨i4, hi5, hn6, rfl⟩ | ⟨hn6, rfl⟩
  · refine g_seg [(5, .astore_n 3, 1), (6, .aload_n 3, 1)] 7 [(3, .ref (ad 1 i4)), (0, .ref x), (1, .int t), (2, .int p0)] [.ref (ad 1 i4)] C (by decide +kernel) rfl ?_
    refine g_ifnonnull (pc := 7) (off := 13) 20 C (by decide +kernel) (by decide) ?_
    refine g_seg [(20, .iload_n 2, 1), (21, .iconst 0, 1), (22, .bipush 10, 2)] 24 [(3, .ref (ad 1 i4)), (0, .ref x), (1, .int t), (2, .int p0)] [.int 10, .int 0, .int p0] C (by decide +kernel) rfl ?_
    refine g_callS (pc := 24) C mS_X4_isWithin q86 (c_X4_isWithin l D cy G2 p0 0 10) rfl ⟨⟨Nat.le_of_ble_eq_true rfl, Nat.le_of_ble_eq_true rfl⟩, Nat.le_of_ble_eq_true rfl, Nat.le_of_ble_eq_true rfl⟩ rfl (Nat.le_of_ble_eq_true rfl) (by decide +kernel) ?_
    refine g_kI (fun v9 G8 hp7 => ?_)
    obtain ⟨rfl, hp7⟩ := hp7
    rcases hp7 with ⟨rfl, h10⟩ | ⟨rfl, h10⟩
    · refine g_if_ne (pc := 27) (off := 13) 40 C (by decide +kernel) (by decide) (fun _ => ?_) (fun c9 => absurd c9 (by decide))
      refine g_seg [(40, .aload_n 3, 1)] 41 [(3, .ref (ad 1 i4)), (0, .ref x), (1, .int t), (2, .int p0)] [.ref (ad 1 i4)] C (by decide +kernel) rfl ?_
      refine g_getf (pc := 41) (k := 6) (v := .int (T i4 5)) C fl_X4_70 (h.2.1.1 i4 hi5) rfl (by decide +kernel) ?_
      refine g_if_ne (pc := 44) (off := 13) 57 C (by decide +kernel) (by decide) (fun c11 => ?_) (fun c11 => ?_)
      · refine g_seg [(57, .aload_n 3, 1)] 58 [(3, .ref (ad 1 i4)), (0, .ref x), (1, .int t), (2, .int p0)] [.ref (ad 1 i4)] C (by decide +kernel) rfl ?_
        refine g_getf (pc := 58) (k := 3) (v := .int (T i4 2)) C fl_X4_76 (h.2.1.1 i4 hi5) rfl (by decide +kernel) ?_
        refine g_seg [(61, .istore 4, 2), (63, .aload_n 3, 1), (64, .iload_n 2, 1), (65, .aload_n 0, 1)] 66 [(4, .int (T i4 2)), (3, .ref (ad 1 i4)), (0, .ref x), (1, .int t), (2, .int p0)] [.ref x, .int p0, .ref (ad 1 i4)] C (by decide +kernel) rfl ?_
        refine g_getf (pc := 66) (k := 8) (v := .int b) C fl_X4_53 (h.1.1) rfl (by decide +kernel) ?_
        refine g_callV (pc := 69) C mV_X3_setWeight q477 (h.2.1.1 i4 hi5) rfl rfl (c_X3_setWeight l D cy G8 (ad 1 i4) (T i4 0) (T i4 1) (T i4 3) (T i4 2) (T i4 6) (T i4 4) (T i4 5) (KT i4 0) (KT i4 1) p0 b (h.2.1.1 i4 hi5)) rfl ⟨⟨Nat.le_of_ble_eq_true rfl, Nat.le_of_ble_eq_true rfl⟩, Nat.le_of_ble_eq_true rfl, Nat.le_of_ble_eq_true rfl⟩ rfl (Nat.le_of_ble_eq_true rfl) (by decide +kernel) ?_
        refine g_kV (fun G12 hG13 => ?_)
        have h14 : RX cy x ad b nt nf nc nn (s_set (s_set T i4 2 p0) i4 6 b) E Cu N KT KF KC G12 := by rw [hG13]; exact RXT_weigh h hi5
        refine g_seg [(72, .iload 4, 2)] 74 [(4, .int (T i4 2)), (3, .ref (ad 1 i4)), (0, .ref x), (1, .int t), (2, .int p0)] [.int (T i4 2)] C (by decide +kernel) rfl ?_
        exact g_iretX (pc := 74) C R (⟨_, rfl, i4, hi5, hn6, h10, c11, rfl, h14⟩) (Nat.le_of_ble_eq_true rfl) (Nat.le_of_ble_eq_true rfl) (by decide +kernel)
      · exact g_throw (pc := 47) (is := 74) (text := "the trapeze is broken") C R rfl ex_ISE (by decide +kernel) (⟨h, Or.inr (Or.inr (⟨rfl, i4, hi5, hn6, h10, c11⟩))⟩) (Nat.le_of_ble_eq_true rfl) (Nat.le_of_ble_eq_true rfl) (Nat.le_of_ble_eq_true rfl) (Nat.le_of_ble_eq_true rfl) (by decide +kernel) (by decide +kernel) (by decide +kernel) (by decide +kernel) (by decide +kernel)
    · refine g_if_ne (pc := 27) (off := 13) 40 C (by decide +kernel) (by decide) (fun c9 => absurd (by decide) c9) (fun _ => ?_)
      exact g_throw (pc := 30) (is := 68) (text := "weight is not 0 to 10") C R rfl ex_IAE (by decide +kernel) (⟨h, Or.inr (Or.inl ⟨rfl, ⟨i4, hi5, hn6⟩, h10⟩)⟩) (Nat.le_of_ble_eq_true rfl) (Nat.le_of_ble_eq_true rfl) (Nat.le_of_ble_eq_true rfl) (Nat.le_of_ble_eq_true rfl) (by decide +kernel) (by decide +kernel) (by decide +kernel) (by decide +kernel) (by decide +kernel)
  · refine g_seg [(5, .astore_n 3, 1), (6, .aload_n 3, 1)] 7 [(3, .null), (0, .ref x), (1, .int t), (2, .int p0)] [.null] C (by decide +kernel) rfl ?_
    refine g_ifnonnullN (pc := 7) (off := 13) C (by decide +kernel) ?_
    exact g_throw (pc := 10) (is := 65) (text := "no such trapeze") C R rfl ex_IOE (by decide +kernel) (⟨h, Or.inl ⟨rfl, hn6⟩⟩) (Nat.le_of_ble_eq_true rfl) (Nat.le_of_ble_eq_true rfl) (Nat.le_of_ble_eq_true rfl) (Nat.le_of_ble_eq_true rfl) (by decide +kernel) (by decide +kernel) (by decide +kernel) (by decide +kernel) (by decide +kernel)
set_option maxHeartbeats 4000000 in
set_option maxRecDepth 100000 in
theorem c_X4_mend (l : Launch) (D : va_G) (cy : Nat → ClassId) {G : GG} {x : Nat} {ad : Nat → Nat → Nat} {b : Int32} {nt nf nc nn : Nat} {T E Cu N KT KF KC : Rw} (h : RX cy x ad b nt nf nc nn T E Cu N KT KF KC G) (t : Int32) : CtrX l D cy yX4_mend prog_1_method_4_code 4 (some .int) kX4_mend [.ref x, .int t] G (pI (fun v G' => ∃ i, i < nt ∧ t = nI i ∧ v = T i 4 ∧ RX cy x ad b nt nf nc nn (s_set (s_set T i 4 0) i 5 1) E Cu N KT KF KC G')) (fun e G' => RX cy x ad b nt nf nc nn T E Cu N KT KF KC G' ∧ ((e = "java/lang/IndexOutOfBoundsException" ∧ (∀ i, i < nt → t ≠ nI i)))) := by
  refine CtrX.mk (by decide +kernel) (Nat.le_of_ble_eq_true rfl) ?_
  intro κ C R
  refine g_pc (pc' := 0) rfl ?_
  refine g_seg [(0, .aload_n 0, 1), (1, .iload_n 1, 1)] 2 [(0, .ref x), (1, .int t)] [.int t, .ref x] C (by decide +kernel) rfl ?_
  refine g_callV (pc := 2) C mV_X4_trapezeNumbered q82 (h.1.1) rfl rfl (c_X4_trapezeNumbered l D cy h t) rfl ⟨⟨Nat.le_of_ble_eq_true rfl, Nat.le_of_ble_eq_true rfl⟩, Nat.le_of_ble_eq_true rfl, Nat.le_of_ble_eq_true rfl⟩ rfl (Nat.le_of_ble_eq_true rfl) (by decide +kernel) ?_
  refine g_kA (fun v3 G2 hp1 => ?_)
  obtain ⟨rfl, hp1⟩ := hp1
  rcases hp1 with ⟨i4, hi5, hn6, rfl⟩ | ⟨hn6, rfl⟩
  · refine g_seg [(5, .astore_n 2, 1), (6, .aload_n 2, 1)] 7 [(2, .ref (ad 1 i4)), (0, .ref x), (1, .int t)] [.ref (ad 1 i4)] C (by decide +kernel) rfl ?_
    refine g_ifnonnull (pc := 7) (off := 13) 20 C (by decide +kernel) (by decide) ?_
    refine g_seg [(20, .aload_n 2, 1)] 21 [(2, .ref (ad 1 i4)), (0, .ref x), (1, .int t)] [.ref (ad 1 i4)] C (by decide +kernel) rfl ?_
    refine g_getf (pc := 21) (k := 5) (v := .int (T i4 4)) C fl_X4_83 (h.2.1.1 i4 hi5) rfl (by decide +kernel) ?_
    refine g_seg [(24, .istore_n 3, 1), (25, .aload_n 2, 1)] 26 [(3, .int (T i4 4)), (2, .ref (ad 1 i4)), (0, .ref x), (1, .int t)] [.ref (ad 1 i4)] C (by decide +kernel) rfl ?_
    refine g_callV (pc := 26) C mV_X3_renewRope q485 (h.2.1.1 i4 hi5) rfl rfl (c_X3_renewRope l D cy G2 (ad 1 i4) (T i4 0) (T i4 1) (T i4 3) (T i4 2) (T i4 6) (T i4 4) (T i4 5) (KT i4 0) (KT i4 1)  (h.2.1.1 i4 hi5)) rfl ⟨⟨Nat.le_of_ble_eq_true rfl, Nat.le_of_ble_eq_true rfl⟩, Nat.le_of_ble_eq_true rfl, Nat.le_of_ble_eq_true rfl⟩ rfl (Nat.le_of_ble_eq_true rfl) (by decide +kernel) ?_
    refine g_kV (fun G7 hG8 => ?_)
    have h9 : RX cy x ad b nt nf nc nn (s_set (s_set T i4 4 0) i4 5 1) E Cu N KT KF KC G7 := by rw [hG8]; exact RXT_mend h hi5
    refine g_seg [(29, .iload_n 3, 1)] 30 [(3, .int (T i4 4)), (2, .ref (ad 1 i4)), (0, .ref x), (1, .int t)] [.int (T i4 4)] C (by decide +kernel) rfl ?_
    exact g_iretX (pc := 30) C R (⟨_, rfl, i4, hi5, hn6, rfl, h9⟩) (Nat.le_of_ble_eq_true rfl) (Nat.le_of_ble_eq_true rfl) (by decide +kernel)
  · refine g_seg [(5, .astore_n 2, 1), (6, .aload_n 2, 1)] 7 [(2, .null), (0, .ref x), (1, .int t)] [.null] C (by decide +kernel) rfl ?_
    refine g_ifnonnullN (pc := 7) (off := 13) C (by decide +kernel) ?_
    exact g_throw (pc := 10) (is := 65) (text := "no such trapeze") C R rfl ex_IOE (by decide +kernel) (⟨h, rfl, hn6⟩) (Nat.le_of_ble_eq_true rfl) (Nat.le_of_ble_eq_true rfl) (Nat.le_of_ble_eq_true rfl) (Nat.le_of_ble_eq_true rfl) (by decide +kernel) (by decide +kernel) (by decide +kernel) (by decide +kernel) (by decide +kernel)
set_option maxHeartbeats 4000000 in
set_option maxRecDepth 100000 in
theorem c_X4_mount (l : Launch) (D : va_G) (cy : Nat → ClassId) {G : GG} {x : Nat} {ad : Nat → Nat → Nat} {b : Int32} {nt nf nc nn : Nat} {T E Cu N KT KF KC : Rw} (h : RX cy x ad b nt nf nc nn T E Cu N KT KF KC G) (f t : Int32) : CtrX l D cy yX4_mount prog_1_method_7_code 6 (some .int) kX4_mount [.ref x, .int f, .int t] G (pI (fun v G' => ∃ i j, i < nf ∧ f = nI i ∧ j < nt ∧ t = nI j ∧ ((E i 0 = 0 ∨ E i 0 = 3) ∧ ¬ T j 5 = 0 ∧ nI (s_hangE E nf t) < 2) ∧ v = nI (s_hangE E nf t) + 1 ∧ RX cy x ad b nt nf nc nn T (x_st E i 1 t) Cu N KT KF KC G')) (fun e G' => RX cy x ad b nt nf nc nn T E Cu N KT KF KC G' ∧ ((e = "java/lang/IndexOutOfBoundsException" ∧ ((∀ i, i < nf → f ≠ nI i) ∨ (∀ i, i < nt → t ≠ nI i))) ∨ (e = "java/lang/IllegalStateException" ∧ ∃ i j, i < nf ∧ f = nI i ∧ j < nt ∧ t = nI j ∧ ¬ ((E i 0 = 0 ∨ E i 0 = 3) ∧ ¬ T j 5 = 0 ∧ nI (s_hangE E nf t) < 2)))) := by
  refine CtrX.mk (by decide +kernel) (Nat.le_of_ble_eq_true rfl) ?_
  intro κ C R
  refine g_pc (pc' := 0) rfl ?_
  refine g_seg [(0, .aload_n 0, 1), (1, .iload_n 1, 1)] 2 [(0, .ref x), (1, .int f), (2, .int t)] [.int f, .ref x] C (by decide +kernel) rfl ?_
  refine g_callV (pc := 2) C mV_X4_flyerNumbered q187 (h.1.1) rfl rfl (c_X4_flyerNumbered l D cy h f) rfl ⟨⟨Nat.le_of_ble_eq_true rfl, Nat.le_of_ble_eq_true rfl⟩, Nat.le_of_ble_eq_true rfl, Nat.le_of_ble_eq_true rfl⟩ rfl (Nat.le_of_ble_eq_true rfl) (by decide +kernel) ?_
  refine g_kA (fun v3 G2 hp1 => ?_)
  obtain ⟨rfl, hp1⟩ := hp1
  rcases hp1 with ⟨i4, hi5, hn6, rfl⟩ | ⟨hn6, rfl⟩
  · refine g_seg [(5, .astore_n 3, 1), (6, .aload_n 0, 1), (7, .iload_n 2, 1)] 8 [(3, .ref (ad 2 i4)), (0, .ref x), (1, .int f), (2, .int t)] [.int t, .ref x] C (by decide +kernel) rfl ?_
    refine g_callV (pc := 8) C mV_X4_trapezeNumbered q82 (h.1.1) rfl rfl (c_X4_trapezeNumbered l D cy h t) rfl ⟨⟨Nat.le_of_ble_eq_true rfl, Nat.le_of_ble_eq_true rfl⟩, Nat.le_of_ble_eq_true rfl, Nat.le_of_ble_eq_true rfl⟩ rfl (Nat.le_of_ble_eq_true rfl) (by decide +kernel) ?_
    refine g_kA (fun v9 G8 hp7 => ?_)
    obtain ⟨rfl, hp7⟩ := hp7
    rcases hp7 with ⟨i10, hi11, hn12, rfl⟩ | ⟨hn12, rfl⟩
    · refine g_seg [(11, .astore 4, 2), (13, .aload_n 3, 1)] 14 [(4, .ref (ad 1 i10)), (3, .ref (ad 2 i4)), (0, .ref x), (1, .int f), (2, .int t)] [.ref (ad 2 i4)] C (by decide +kernel) rfl ?_
      refine g_ifnull (pc := 14) (off := 8) C (by decide +kernel) ?_
      refine g_seg [(17, .aload 4, 2)] 19 [(4, .ref (ad 1 i10)), (3, .ref (ad 2 i4)), (0, .ref x), (1, .int f), (2, .int t)] [.ref (ad 1 i10)] C (by decide +kernel) rfl ?_
      refine g_ifnonnull (pc := 19) (off := 13) 32 C (by decide +kernel) (by decide) ?_
      refine g_seg [(32, .aload_n 0, 1), (33, .iload_n 2, 1)] 34 [(4, .ref (ad 1 i10)), (3, .ref (ad 2 i4)), (0, .ref x), (1, .int f), (2, .int t)] [.int t, .ref x] C (by decide +kernel) rfl ?_
      refine g_callV (pc := 34) C mV_X4_hangersOf q175 (h.1.1) rfl rfl (c_X4_hangersOf l D cy h t) rfl ⟨⟨Nat.le_of_ble_eq_true rfl, Nat.le_of_ble_eq_true rfl⟩, Nat.le_of_ble_eq_true rfl, Nat.le_of_ble_eq_true rfl⟩ rfl (Nat.le_of_ble_eq_true rfl) (by decide +kernel) ?_
      refine g_kI (fun v15 G14 hp13 => ?_)
      obtain ⟨rfl, rfl⟩ := hp13
      refine g_seg [(37, .istore 5, 2), (39, .aload_n 3, 1)] 40 [(5, .int (nI (s_hangE E nf t))), (4, .ref (ad 1 i10)), (3, .ref (ad 2 i4)), (0, .ref x), (1, .int f), (2, .int t)] [.ref (ad 2 i4)] C (by decide +kernel) rfl ?_
      refine g_callV (pc := 40) C mV_X1_canMount q542 (h.2.1.2.1 i4 hi5) rfl rfl (c_X1_canMount l D cy G14 (ad 2 i4) (E i4 0) (E i4 1) (E i4 2) (E i4 3) (E i4 4) (KF i4 0) (KF i4 1) (KF i4 2) (KF i4 3) (KF i4 4)  (h.2.1.2.1 i4 hi5)) rfl ⟨⟨Nat.le_of_ble_eq_true rfl, Nat.le_of_ble_eq_true rfl⟩, Nat.le_of_ble_eq_true rfl, Nat.le_of_ble_eq_true rfl⟩ rfl (Nat.le_of_ble_eq_true rfl) (by decide +kernel) ?_
      refine g_kI (fun v18 G17 hp16 => ?_)
      obtain ⟨rfl, hp16⟩ := hp16
      rcases hp16 with ⟨rfl, h19⟩ | ⟨rfl, h19⟩
      · refine g_if_eq (pc := 43) (off := 17) 60 C (by decide +kernel) (by decide) (fun c9 => absurd c9 (by decide)) (fun _ => ?_)
        refine g_seg [(46, .aload 4, 2)] 48 [(5, .int (nI (s_hangE E nf t))), (4, .ref (ad 1 i10)), (3, .ref (ad 2 i4)), (0, .ref x), (1, .int f), (2, .int t)] [.ref (ad 1 i10)] C (by decide +kernel) rfl ?_
        refine g_getf (pc := 48) (k := 6) (v := .int (T i10 5)) C fl_X4_70 (h.2.1.1 i10 hi11) rfl (by decide +kernel) ?_
        refine g_if_eq (pc := 51) (off := 9) 60 C (by decide +kernel) (by decide) (fun c20 => ?_) (fun c20 => ?_)
        · exact g_throw (pc := 60) (is := 118) (text := "the flyer can't mount, or the trapeze is broken or full") C R rfl ex_ISE (by decide +kernel) (⟨h, Or.inr (⟨rfl, i4, i10, hi5, hn6, hi11, hn12, fun h9 => h9.2.1 c20⟩)⟩) (Nat.le_of_ble_eq_true rfl) (Nat.le_of_ble_eq_true rfl) (Nat.le_of_ble_eq_true rfl) (Nat.le_of_ble_eq_true rfl) (by decide +kernel) (by decide +kernel) (by decide +kernel) (by decide +kernel) (by decide +kernel)
        · refine g_seg [(54, .iload 5, 2), (56, .iconst 2, 1)] 57 [(5, .int (nI (s_hangE E nf t))), (4, .ref (ad 1 i10)), (3, .ref (ad 2 i4)), (0, .ref x), (1, .int f), (2, .int t)] [.int 2, .int (nI (s_hangE E nf t))] C (by decide +kernel) rfl ?_
          refine g_icmp_lt (pc := 57) (off := 13) 70 C (by decide +kernel) (by decide) (fun c21 => ?_) (fun c21 => ?_)
          · refine g_seg [(70, .aload_n 3, 1), (71, .iload_n 2, 1)] 72 [(5, .int (nI (s_hangE E nf t))), (4, .ref (ad 1 i10)), (3, .ref (ad 2 i4)), (0, .ref x), (1, .int f), (2, .int t)] [.int t, .ref (ad 2 i4)] C (by decide +kernel) rfl ?_
            refine g_callV (pc := 72) C mV_X1_hangFrom q290 (h.2.1.2.1 i4 hi5) rfl rfl (c_X1_hangFrom l D cy G17 (ad 2 i4) (E i4 0) (E i4 1) (E i4 2) (E i4 3) (E i4 4) (KF i4 0) (KF i4 1) (KF i4 2) (KF i4 3) (KF i4 4) t (h.2.1.2.1 i4 hi5)) rfl ⟨⟨Nat.le_of_ble_eq_true rfl, Nat.le_of_ble_eq_true rfl⟩, Nat.le_of_ble_eq_true rfl, Nat.le_of_ble_eq_true rfl⟩ rfl (Nat.le_of_ble_eq_true rfl) (by decide +kernel) ?_
            refine g_kV (fun G22 hG23 => ?_)
            have h24 : RX cy x ad b nt nf nc nn T (x_st E i4 1 t) Cu N KT KF KC G22 := by rw [hG23]; exact RXF_st h hi5
            refine g_seg [(75, .iload 5, 2), (77, .iconst 1, 1), (78, .iadd, 1)] 79 [(5, .int (nI (s_hangE E nf t))), (4, .ref (ad 1 i10)), (3, .ref (ad 2 i4)), (0, .ref x), (1, .int f), (2, .int t)] [.int ((nI (s_hangE E nf t)) + 1)] C (by decide +kernel) rfl ?_
            exact g_iretX (pc := 79) C R (⟨_, rfl, i4, i10, hi5, hn6, hi11, hn12, ⟨h19, c20, c21⟩, rfl, h24⟩) (Nat.le_of_ble_eq_true rfl) (Nat.le_of_ble_eq_true rfl) (by decide +kernel)
          · exact g_throw (pc := 60) (is := 118) (text := "the flyer can't mount, or the trapeze is broken or full") C R rfl ex_ISE (by decide +kernel) (⟨h, Or.inr (⟨rfl, i4, i10, hi5, hn6, hi11, hn12, fun h9 => c21 h9.2.2⟩)⟩) (Nat.le_of_ble_eq_true rfl) (Nat.le_of_ble_eq_true rfl) (Nat.le_of_ble_eq_true rfl) (Nat.le_of_ble_eq_true rfl) (by decide +kernel) (by decide +kernel) (by decide +kernel) (by decide +kernel) (by decide +kernel)
      · refine g_if_eq (pc := 43) (off := 17) 60 C (by decide +kernel) (by decide) (fun _ => ?_) (fun c9 => absurd (by decide) c9)
        exact g_throw (pc := 60) (is := 118) (text := "the flyer can't mount, or the trapeze is broken or full") C R rfl ex_ISE (by decide +kernel) (⟨h, Or.inr (⟨rfl, i4, i10, hi5, hn6, hi11, hn12, fun h9 => h19 h9.1⟩)⟩) (Nat.le_of_ble_eq_true rfl) (Nat.le_of_ble_eq_true rfl) (Nat.le_of_ble_eq_true rfl) (Nat.le_of_ble_eq_true rfl) (by decide +kernel) (by decide +kernel) (by decide +kernel) (by decide +kernel) (by decide +kernel)
    · refine g_seg [(11, .astore 4, 2), (13, .aload_n 3, 1)] 14 [(4, .null), (3, .ref (ad 2 i4)), (0, .ref x), (1, .int f), (2, .int t)] [.ref (ad 2 i4)] C (by decide +kernel) rfl ?_
      refine g_ifnull (pc := 14) (off := 8) C (by decide +kernel) ?_
      refine g_seg [(17, .aload 4, 2)] 19 [(4, .null), (3, .ref (ad 2 i4)), (0, .ref x), (1, .int f), (2, .int t)] [.null] C (by decide +kernel) rfl ?_
      refine g_ifnonnullN (pc := 19) (off := 13) C (by decide +kernel) ?_
      exact g_throw (pc := 22) (is := 108) (text := "no such flyer or trapeze") C R rfl ex_IOE (by decide +kernel) (⟨h, Or.inl ⟨rfl, Or.inr hn12⟩⟩) (Nat.le_of_ble_eq_true rfl) (Nat.le_of_ble_eq_true rfl) (Nat.le_of_ble_eq_true rfl) (Nat.le_of_ble_eq_true rfl) (by decide +kernel) (by decide +kernel) (by decide +kernel) (by decide +kernel) (by decide +kernel)
  · refine g_seg [(5, .astore_n 3, 1), (6, .aload_n 0, 1), (7, .iload_n 2, 1)] 8 [(3, .null), (0, .ref x), (1, .int f), (2, .int t)] [.int t, .ref x] C (by decide +kernel) rfl ?_
    refine g_callV (pc := 8) C mV_X4_trapezeNumbered q82 (h.1.1) rfl rfl (c_X4_trapezeNumbered l D cy h t) rfl ⟨⟨Nat.le_of_ble_eq_true rfl, Nat.le_of_ble_eq_true rfl⟩, Nat.le_of_ble_eq_true rfl, Nat.le_of_ble_eq_true rfl⟩ rfl (Nat.le_of_ble_eq_true rfl) (by decide +kernel) ?_
    refine g_kA (fun v27 G26 hp25 => ?_)
    obtain ⟨rfl, hp25⟩ := hp25
    rcases hp25 with ⟨i28, hi29, hn30, rfl⟩ | ⟨hn30, rfl⟩
    · refine g_seg [(11, .astore 4, 2), (13, .aload_n 3, 1)] 14 [(4, .ref (ad 1 i28)), (3, .null), (0, .ref x), (1, .int f), (2, .int t)] [.null] C (by decide +kernel) rfl ?_
      refine g_ifnullN (pc := 14) (off := 8) 22 C (by decide +kernel) (by decide) ?_
      exact g_throw (pc := 22) (is := 108) (text := "no such flyer or trapeze") C R rfl ex_IOE (by decide +kernel) (⟨h, Or.inl ⟨rfl, Or.inl hn6⟩⟩) (Nat.le_of_ble_eq_true rfl) (Nat.le_of_ble_eq_true rfl) (Nat.le_of_ble_eq_true rfl) (Nat.le_of_ble_eq_true rfl) (by decide +kernel) (by decide +kernel) (by decide +kernel) (by decide +kernel) (by decide +kernel)
    · refine g_seg [(11, .astore 4, 2), (13, .aload_n 3, 1)] 14 [(4, .null), (3, .null), (0, .ref x), (1, .int f), (2, .int t)] [.null] C (by decide +kernel) rfl ?_
      refine g_ifnullN (pc := 14) (off := 8) 22 C (by decide +kernel) (by decide) ?_
      exact g_throw (pc := 22) (is := 108) (text := "no such flyer or trapeze") C R rfl ex_IOE (by decide +kernel) (⟨h, Or.inl ⟨rfl, Or.inl hn6⟩⟩) (Nat.le_of_ble_eq_true rfl) (Nat.le_of_ble_eq_true rfl) (Nat.le_of_ble_eq_true rfl) (Nat.le_of_ble_eq_true rfl) (by decide +kernel) (by decide +kernel) (by decide +kernel) (by decide +kernel) (by decide +kernel)
set_option maxHeartbeats 4000000 in
set_option maxRecDepth 100000 in
theorem c_X4_trapeze (l : Launch) (D : va_G) (cy : Nat → ClassId) {G : GG} {x : Nat} {ad : Nat → Nat → Nat} {b : Int32} {nt nf nc nn : Nat} {T E Cu N KT KF KC : Rw} (h : RX cy x ad b nt nf nc nn T E Cu N KT KF KC G) (hwok : s_wok T nt) (t w : Int32) : CtrX l D cy yX4_trapeze prog_1_method_9_code 4 (some .int) kX4_trapeze [.ref x, .int t, .int w] G (pI (fun v G' => ∃ i, i < nt ∧ t = nI i ∧ (0 ≤ w ∧ w ≤ 7) ∧ v = s_toldX T E nf b i w ∧ RX cy x ad b nt nf nc nn T E Cu N KT KF KC G')) (fun e G' => RX cy x ad b nt nf nc nn T E Cu N KT KF KC G' ∧ ((e = "java/lang/IndexOutOfBoundsException" ∧ ((∀ i, i < nt → t ≠ nI i) ∨ ¬ (0 ≤ w ∧ w ≤ 7))))) := by
  refine CtrX.mk (by decide +kernel) (Nat.le_of_ble_eq_true rfl) ?_
  intro κ C R
  refine g_pc (pc' := 0) rfl ?_
  refine g_seg [(0, .aload_n 0, 1), (1, .iload_n 1, 1)] 2 [(0, .ref x), (1, .int t), (2, .int w)] [.int t, .ref x] C (by decide +kernel) rfl ?_
  refine g_callV (pc := 2) C mV_X4_trapezeNumbered q82 (h.1.1) rfl rfl (c_X4_trapezeNumbered l D cy h t) rfl ⟨⟨Nat.le_of_ble_eq_true rfl, Nat.le_of_ble_eq_true rfl⟩, Nat.le_of_ble_eq_true rfl, Nat.le_of_ble_eq_true rfl⟩ rfl (Nat.le_of_ble_eq_true rfl) (by decide +kernel) ?_
  refine g_kA (fun v3 G2 hp1 => ?_)
  obtain ⟨rfl, hp1⟩ := hp1
  rcases hp1 with ⟨i4, hi5, hn6, rfl⟩ | ⟨hn6, rfl⟩
  · refine g_seg [(5, .astore_n 3, 1), (6, .aload_n 3, 1)] 7 [(3, .ref (ad 1 i4)), (0, .ref x), (1, .int t), (2, .int w)] [.ref (ad 1 i4)] C (by decide +kernel) rfl ?_
    refine g_ifnull (pc := 7) (off := 13) C (by decide +kernel) ?_
    refine g_seg [(10, .iload_n 2, 1), (11, .iconst 0, 1), (12, .bipush 7, 2)] 14 [(3, .ref (ad 1 i4)), (0, .ref x), (1, .int t), (2, .int w)] [.int 7, .int 0, .int w] C (by decide +kernel) rfl ?_
    refine g_callS (pc := 14) C mS_X4_isWithin q86 (c_X4_isWithin l D cy G2 w 0 7) rfl ⟨⟨Nat.le_of_ble_eq_true rfl, Nat.le_of_ble_eq_true rfl⟩, Nat.le_of_ble_eq_true rfl, Nat.le_of_ble_eq_true rfl⟩ rfl (Nat.le_of_ble_eq_true rfl) (by decide +kernel) ?_
    refine g_kI (fun v9 G8 hp7 => ?_)
    obtain ⟨rfl, hp7⟩ := hp7
    rcases hp7 with ⟨rfl, h10⟩ | ⟨rfl, h10⟩
    · refine g_if_ne (pc := 17) (off := 13) 30 C (by decide +kernel) (by decide) (fun _ => ?_) (fun c9 => absurd c9 (by decide))
      refine g_seg [(30, .aload_n 0, 1), (31, .aload_n 3, 1), (32, .iload_n 1, 1), (33, .iload_n 2, 1)] 34 [(3, .ref (ad 1 i4)), (0, .ref x), (1, .int t), (2, .int w)] [.int w, .int t, .ref (ad 1 i4), .ref x] C (by decide +kernel) rfl ?_
      refine g_callV (pc := 34) C mV_X4_ofTrapeze q157 (h.1.1) rfl rfl (c_X4_ofTrapeze l D cy h i4 hi5 hwok t w hn6) rfl ⟨⟨Nat.le_of_ble_eq_true rfl, Nat.le_of_ble_eq_true rfl⟩, Nat.le_of_ble_eq_true rfl, Nat.le_of_ble_eq_true rfl⟩ rfl (Nat.le_of_ble_eq_true rfl) (by decide +kernel) ?_
      refine g_kI (fun v13 G12 hp11 => ?_)
      obtain ⟨rfl, rfl⟩ := hp11
      exact g_iretX (pc := 37) C R (⟨_, rfl, i4, hi5, hn6, h10, rfl, h⟩) (Nat.le_of_ble_eq_true rfl) (Nat.le_of_ble_eq_true rfl) (by decide +kernel)
    · refine g_if_ne (pc := 17) (off := 13) 30 C (by decide +kernel) (by decide) (fun c9 => absurd (by decide) c9) (fun _ => ?_)
      exact g_throw (pc := 20) (is := 136) (text := "no such trapeze, or what is not 0 to 7") C R rfl ex_IOE (by decide +kernel) (⟨h, rfl, Or.inr h10⟩) (Nat.le_of_ble_eq_true rfl) (Nat.le_of_ble_eq_true rfl) (Nat.le_of_ble_eq_true rfl) (Nat.le_of_ble_eq_true rfl) (by decide +kernel) (by decide +kernel) (by decide +kernel) (by decide +kernel) (by decide +kernel)
  · refine g_seg [(5, .astore_n 3, 1), (6, .aload_n 3, 1)] 7 [(3, .null), (0, .ref x), (1, .int t), (2, .int w)] [.null] C (by decide +kernel) rfl ?_
    refine g_ifnullN (pc := 7) (off := 13) 20 C (by decide +kernel) (by decide) ?_
    exact g_throw (pc := 20) (is := 136) (text := "no such trapeze, or what is not 0 to 7") C R rfl ex_IOE (by decide +kernel) (⟨h, rfl, Or.inl hn6⟩) (Nat.le_of_ble_eq_true rfl) (Nat.le_of_ble_eq_true rfl) (Nat.le_of_ble_eq_true rfl) (Nat.le_of_ble_eq_true rfl) (by decide +kernel) (by decide +kernel) (by decide +kernel) (by decide +kernel) (by decide +kernel)
set_option maxHeartbeats 4000000 in
set_option maxRecDepth 100000 in
theorem c_X4_flyer (l : Launch) (D : va_G) (cy : Nat → ClassId) {G : GG} {x : Nat} {ad : Nat → Nat → Nat} {b : Int32} {nt nf nc nn : Nat} {T E Cu N KT KF KC : Rw} (h : RX cy x ad b nt nf nc nn T E Cu N KT KF KC G) (t w : Int32) : CtrX l D cy yX4_flyer prog_1_method_10_code 4 (some .int) kX4_flyer [.ref x, .int t, .int w] G (pI (fun v G' => ∃ i, i < nf ∧ t = nI i ∧ (0 ≤ w ∧ w ≤ 4) ∧ v = s_toldFX E b i w ∧ RX cy x ad b nt nf nc nn T E Cu N KT KF KC G')) (fun e G' => RX cy x ad b nt nf nc nn T E Cu N KT KF KC G' ∧ ((e = "java/lang/IndexOutOfBoundsException" ∧ ((∀ i, i < nf → t ≠ nI i) ∨ ¬ (0 ≤ w ∧ w ≤ 4))))) := by
  refine CtrX.mk (by decide +kernel) (Nat.le_of_ble_eq_true rfl) ?_
  intro κ C R
  refine g_pc (pc' := 0) rfl ?_
  refine g_seg [(0, .aload_n 0, 1), (1, .iload_n 1, 1)] 2 [(0, .ref x), (1, .int t), (2, .int w)] [.int t, .ref x] C (by decide +kernel) rfl ?_
  refine g_callV (pc := 2) C mV_X4_flyerNumbered q187 (h.1.1) rfl rfl (c_X4_flyerNumbered l D cy h t) rfl ⟨⟨Nat.le_of_ble_eq_true rfl, Nat.le_of_ble_eq_true rfl⟩, Nat.le_of_ble_eq_true rfl, Nat.le_of_ble_eq_true rfl⟩ rfl (Nat.le_of_ble_eq_true rfl) (by decide +kernel) ?_
  refine g_kA (fun v3 G2 hp1 => ?_)
  obtain ⟨rfl, hp1⟩ := hp1
  rcases hp1 with ⟨i4, hi5, hn6, rfl⟩ | ⟨hn6, rfl⟩
  · refine g_seg [(5, .astore_n 3, 1), (6, .aload_n 3, 1)] 7 [(3, .ref (ad 2 i4)), (0, .ref x), (1, .int t), (2, .int w)] [.ref (ad 2 i4)] C (by decide +kernel) rfl ?_
    refine g_ifnull (pc := 7) (off := 12) C (by decide +kernel) ?_
    refine g_seg [(10, .iload_n 2, 1), (11, .iconst 0, 1), (12, .iconst 4, 1)] 13 [(3, .ref (ad 2 i4)), (0, .ref x), (1, .int t), (2, .int w)] [.int 4, .int 0, .int w] C (by decide +kernel) rfl ?_
    refine g_callS (pc := 13) C mS_X4_isWithin q86 (c_X4_isWithin l D cy G2 w 0 4) rfl ⟨⟨Nat.le_of_ble_eq_true rfl, Nat.le_of_ble_eq_true rfl⟩, Nat.le_of_ble_eq_true rfl, Nat.le_of_ble_eq_true rfl⟩ rfl (Nat.le_of_ble_eq_true rfl) (by decide +kernel) ?_
    refine g_kI (fun v9 G8 hp7 => ?_)
    obtain ⟨rfl, hp7⟩ := hp7
    rcases hp7 with ⟨rfl, h10⟩ | ⟨rfl, h10⟩
    · refine g_if_ne (pc := 16) (off := 13) 29 C (by decide +kernel) (by decide) (fun _ => ?_) (fun c9 => absurd c9 (by decide))
      refine g_seg [(29, .aload_n 0, 1), (30, .aload_n 3, 1), (31, .iload_n 2, 1)] 32 [(3, .ref (ad 2 i4)), (0, .ref x), (1, .int t), (2, .int w)] [.int w, .ref (ad 2 i4), .ref x] C (by decide +kernel) rfl ?_
      refine g_callV (pc := 32) C mV_X4_ofFlyer q192 (h.1.1) rfl rfl (c_X4_ofFlyer l D cy h i4 hi5 w) rfl ⟨⟨Nat.le_of_ble_eq_true rfl, Nat.le_of_ble_eq_true rfl⟩, Nat.le_of_ble_eq_true rfl, Nat.le_of_ble_eq_true rfl⟩ rfl (Nat.le_of_ble_eq_true rfl) (by decide +kernel) ?_
      refine g_kI (fun v13 G12 hp11 => ?_)
      obtain ⟨rfl, rfl⟩ := hp11
      exact g_iretX (pc := 35) C R (⟨_, rfl, i4, hi5, hn6, h10, rfl, h⟩) (Nat.le_of_ble_eq_true rfl) (Nat.le_of_ble_eq_true rfl) (by decide +kernel)
    · refine g_if_ne (pc := 16) (off := 13) 29 C (by decide +kernel) (by decide) (fun c9 => absurd (by decide) c9) (fun _ => ?_)
      exact g_throw (pc := 19) (is := 142) (text := "no such flyer, or what is not 0 to 4") C R rfl ex_IOE (by decide +kernel) (⟨h, rfl, Or.inr h10⟩) (Nat.le_of_ble_eq_true rfl) (Nat.le_of_ble_eq_true rfl) (Nat.le_of_ble_eq_true rfl) (Nat.le_of_ble_eq_true rfl) (by decide +kernel) (by decide +kernel) (by decide +kernel) (by decide +kernel) (by decide +kernel)
  · refine g_seg [(5, .astore_n 3, 1), (6, .aload_n 3, 1)] 7 [(3, .null), (0, .ref x), (1, .int t), (2, .int w)] [.null] C (by decide +kernel) rfl ?_
    refine g_ifnullN (pc := 7) (off := 12) 19 C (by decide +kernel) (by decide) ?_
    exact g_throw (pc := 19) (is := 142) (text := "no such flyer, or what is not 0 to 4") C R rfl ex_IOE (by decide +kernel) (⟨h, rfl, Or.inl hn6⟩) (Nat.le_of_ble_eq_true rfl) (Nat.le_of_ble_eq_true rfl) (Nat.le_of_ble_eq_true rfl) (Nat.le_of_ble_eq_true rfl) (by decide +kernel) (by decide +kernel) (by decide +kernel) (by decide +kernel) (by decide +kernel)
set_option maxHeartbeats 4000000 in
set_option maxRecDepth 100000 in
theorem c_X4_called (l : Launch) (D : va_G) (cy : Nat → ClassId) {G : GG} {x : Nat} {ad : Nat → Nat → Nat} {b : Int32} {nt nf nc nn : Nat} {T E Cu N KT KF KC : Rw} (h : RX cy x ad b nt nf nc nn T E Cu N KT KF KC G) (t w : Int32) : CtrX l D cy yX4_called prog_1_method_11_code 4 (some .int) kX4_called [.ref x, .int t, .int w] G (pI (fun v G' => ∃ i, i < nc ∧ t = nI i ∧ (0 ≤ w ∧ w ≤ 4) ∧ v = s_toldC Cu i w ∧ RX cy x ad b nt nf nc nn T E Cu N KT KF KC G')) (fun e G' => RX cy x ad b nt nf nc nn T E Cu N KT KF KC G' ∧ ((e = "java/lang/IndexOutOfBoundsException" ∧ ((∀ i, i < nc → t ≠ nI i) ∨ ¬ (0 ≤ w ∧ w ≤ 4))))) := by
  refine CtrX.mk (by decide +kernel) (Nat.le_of_ble_eq_true rfl) ?_
  intro κ C R
  refine g_pc (pc' := 0) rfl ?_
  refine g_seg [(0, .iload_n 1, 1), (1, .iconst 0, 1), (2, .aload_n 0, 1)] 3 [(0, .ref x), (1, .int t), (2, .int w)] [.ref x, .int 0, .int t] C (by decide +kernel) rfl ?_
  refine g_getf (pc := 3) (k := 2) (v := .ref (ad 0 2)) C fl_X4_23 (h.1.1) rfl (by decide +kernel) ?_
  refine g_alenA (pc := 6) (len := 20) (t0 := 3) C (h.1.2.2.2.1) rfl (by decide +kernel) ?_
  refine g_seg [(7, .iconst 1, 1), (8, .isub, 1)] 9 [(0, .ref x), (1, .int t), (2, .int w)] [.int ((nI 20) - 1), .int 0, .int t] C (by decide +kernel) rfl ?_
  refine g_callS (pc := 9) C mS_X4_isWithin q86 (c_X4_isWithin l D cy G t 0 ((nI 20) - 1)) rfl ⟨⟨Nat.le_of_ble_eq_true rfl, Nat.le_of_ble_eq_true rfl⟩, Nat.le_of_ble_eq_true rfl, Nat.le_of_ble_eq_true rfl⟩ rfl (Nat.le_of_ble_eq_true rfl) (by decide +kernel) ?_
  refine g_kI (fun v3 G2 hp1 => ?_)
  obtain ⟨rfl, hp1⟩ := hp1
  rcases hp1 with ⟨rfl, h4⟩ | ⟨rfl, h4⟩
  · refine g_if_eq (pc := 12) (off := 12) 24 C (by decide +kernel) (by decide) (fun c9 => absurd c9 (by decide)) (fun _ => ?_)
    refine g_seg [(15, .aload_n 0, 1)] 16 [(0, .ref x), (1, .int t), (2, .int w)] [.ref x] C (by decide +kernel) rfl ?_
    refine g_getf (pc := 16) (k := 2) (v := .ref (ad 0 2)) C fl_X4_23 (h.1.1) rfl (by decide +kernel) ?_
    refine g_seg [(19, .iload_n 1, 1)] 20 [(0, .ref x), (1, .int t), (2, .int w)] [.int t, .ref (ad 0 2)] C (by decide +kernel) rfl ?_
    obtain ⟨j, hj, hn⟩ := in_ix (by decide) (by decide) h4
    refine g_aaldA (pc := 20) (len := 20) (t0 := 3) (j := j) C (h.1.2.2.2.1) rfl (hn) (hj) (by decide) (by decide +kernel) (fun hi5 => ?_) (fun hi5 => ?_)
    · refine g_seg [(21, .goto 4, 3), (25, .astore_n 3, 1), (26, .aload_n 3, 1)] 27 [(3, .ref (ad 3 j)), (0, .ref x), (1, .int t), (2, .int w)] [.ref (ad 3 j)] C (by decide +kernel) rfl ?_
      refine g_ifnull (pc := 27) (off := 12) C (by decide +kernel) ?_
      refine g_seg [(30, .iload_n 2, 1), (31, .iconst 0, 1), (32, .iconst 4, 1)] 33 [(3, .ref (ad 3 j)), (0, .ref x), (1, .int t), (2, .int w)] [.int 4, .int 0, .int w] C (by decide +kernel) rfl ?_
      refine g_callS (pc := 33) C mS_X4_isWithin q86 (c_X4_isWithin l D cy G2 w 0 4) rfl ⟨⟨Nat.le_of_ble_eq_true rfl, Nat.le_of_ble_eq_true rfl⟩, Nat.le_of_ble_eq_true rfl, Nat.le_of_ble_eq_true rfl⟩ rfl (Nat.le_of_ble_eq_true rfl) (by decide +kernel) ?_
      refine g_kI (fun v8 G7 hp6 => ?_)
      obtain ⟨rfl, hp6⟩ := hp6
      rcases hp6 with ⟨rfl, h9⟩ | ⟨rfl, h9⟩
      · refine g_if_ne (pc := 36) (off := 13) 49 C (by decide +kernel) (by decide) (fun _ => ?_) (fun c9 => absurd c9 (by decide))
        refine g_seg [(49, .aload_n 3, 1), (50, .iload_n 2, 1)] 51 [(3, .ref (ad 3 j)), (0, .ref x), (1, .int t), (2, .int w)] [.int w, .ref (ad 3 j)] C (by decide +kernel) rfl ?_
        refine g_callS (pc := 51) C mS_X4_ofCue q201 (c_X4_ofCue l D cy h j hi5 w) rfl ⟨⟨Nat.le_of_ble_eq_true rfl, Nat.le_of_ble_eq_true rfl⟩, Nat.le_of_ble_eq_true rfl, Nat.le_of_ble_eq_true rfl⟩ rfl (Nat.le_of_ble_eq_true rfl) (by decide +kernel) ?_
        refine g_kI (fun v12 G11 hp10 => ?_)
        obtain ⟨rfl, rfl⟩ := hp10
        exact g_iretX (pc := 54) C R (⟨_, rfl, j, hi5, hn, h9, rfl, h⟩) (Nat.le_of_ble_eq_true rfl) (Nat.le_of_ble_eq_true rfl) (by decide +kernel)
      · refine g_if_ne (pc := 36) (off := 13) 49 C (by decide +kernel) (by decide) (fun c9 => absurd (by decide) c9) (fun _ => ?_)
        exact g_throw (pc := 39) (is := 148) (text := "no such cue, or what is not 0 to 4") C R rfl ex_IOE (by decide +kernel) (⟨h, rfl, Or.inr h9⟩) (Nat.le_of_ble_eq_true rfl) (Nat.le_of_ble_eq_true rfl) (Nat.le_of_ble_eq_true rfl) (Nat.le_of_ble_eq_true rfl) (by decide +kernel) (by decide +kernel) (by decide +kernel) (by decide +kernel) (by decide +kernel)
    · refine g_seg [(21, .goto 4, 3), (25, .astore_n 3, 1), (26, .aload_n 3, 1)] 27 [(3, .null), (0, .ref x), (1, .int t), (2, .int w)] [.null] C (by decide +kernel) rfl ?_
      refine g_ifnullN (pc := 27) (off := 12) 39 C (by decide +kernel) (by decide) ?_
      exact g_throw (pc := 39) (is := 148) (text := "no such cue, or what is not 0 to 4") C R rfl ex_IOE (by decide +kernel) (⟨h, rfl, Or.inl (nix2 hn (by omega) hi5 (by have := h.2.2.2.2.2.1; omega))⟩) (Nat.le_of_ble_eq_true rfl) (Nat.le_of_ble_eq_true rfl) (Nat.le_of_ble_eq_true rfl) (Nat.le_of_ble_eq_true rfl) (by decide +kernel) (by decide +kernel) (by decide +kernel) (by decide +kernel) (by decide +kernel)
  · refine g_if_eq (pc := 12) (off := 12) 24 C (by decide +kernel) (by decide) (fun _ => ?_) (fun c9 => absurd (by decide) c9)
    refine g_seg [(24, .aconst_null, 1), (25, .astore_n 3, 1), (26, .aload_n 3, 1)] 27 [(3, .null), (0, .ref x), (1, .int t), (2, .int w)] [.null] C (by decide +kernel) rfl ?_
    refine g_ifnullN (pc := 27) (off := 12) 39 C (by decide +kernel) (by decide) ?_
    exact g_throw (pc := 39) (is := 148) (text := "no such cue, or what is not 0 to 4") C R rfl ex_IOE (by decide +kernel) (⟨h, rfl, Or.inl (fun i hi => in_nix (by decide) (by decide) h4 i (by have := h.2.2.2.2.2.1; omega))⟩) (Nat.le_of_ble_eq_true rfl) (Nat.le_of_ble_eq_true rfl) (Nat.le_of_ble_eq_true rfl) (Nat.le_of_ble_eq_true rfl) (by decide +kernel) (by decide +kernel) (by decide +kernel) (by decide +kernel) (by decide +kernel)
set_option maxHeartbeats 4000000 in
set_option maxRecDepth 100000 in
theorem c_X4_count (l : Launch) (D : va_G) (cy : Nat → ClassId) {G : GG} {x : Nat} {ad : Nat → Nat → Nat} {b : Int32} {nt nf nc nn : Nat} {T E Cu N KT KF KC : Rw} (h : RX cy x ad b nt nf nc nn T E Cu N KT KF KC G) (w : Int32) : CtrX l D cy yX4_count prog_1_method_12_code 2 (some .int) kX4_count [.ref x, .int w] G (pI (fun v G' => (0 ≤ w ∧ w ≤ 8) ∧ v = s_countX b nt nf nc T E Cu w ∧ RX cy x ad b nt nf nc nn T E Cu N KT KF KC G')) (fun e G' => RX cy x ad b nt nf nc nn T E Cu N KT KF KC G' ∧ ((e = "java/lang/IndexOutOfBoundsException" ∧ ¬ (0 ≤ w ∧ w ≤ 8)))) := by
  refine CtrX.mk (by decide +kernel) (Nat.le_of_ble_eq_true rfl) ?_
  intro κ C R
  refine g_pc (pc' := 0) rfl ?_
  refine g_seg [(0, .iload_n 1, 1), (1, .iconst 0, 1), (2, .bipush 8, 2)] 4 [(0, .ref x), (1, .int w)] [.int 8, .int 0, .int w] C (by decide +kernel) rfl ?_
  refine g_callS (pc := 4) C mS_X4_isWithin q86 (c_X4_isWithin l D cy G w 0 8) rfl ⟨⟨Nat.le_of_ble_eq_true rfl, Nat.le_of_ble_eq_true rfl⟩, Nat.le_of_ble_eq_true rfl, Nat.le_of_ble_eq_true rfl⟩ rfl (Nat.le_of_ble_eq_true rfl) (by decide +kernel) ?_
  refine g_kI (fun v3 G2 hp1 => ?_)
  obtain ⟨rfl, hp1⟩ := hp1
  rcases hp1 with ⟨rfl, h4⟩ | ⟨rfl, h4⟩
  · refine g_if_ne (pc := 7) (off := 13) 20 C (by decide +kernel) (by decide) (fun _ => ?_) (fun c9 => absurd c9 (by decide))
    refine g_seg [(20, .aload_n 0, 1), (21, .iload_n 1, 1)] 22 [(0, .ref x), (1, .int w)] [.int w, .ref x] C (by decide +kernel) rfl ?_
    refine g_callV (pc := 22) C mV_X4_tally q209 (h.1.1) rfl rfl (c_X4_tally l D cy h w) rfl ⟨⟨Nat.le_of_ble_eq_true rfl, Nat.le_of_ble_eq_true rfl⟩, Nat.le_of_ble_eq_true rfl, Nat.le_of_ble_eq_true rfl⟩ rfl (Nat.le_of_ble_eq_true rfl) (by decide +kernel) ?_
    refine g_kI (fun v7 G6 hp5 => ?_)
    obtain ⟨rfl, rfl⟩ := hp5
    exact g_iretX (pc := 25) C R (⟨_, rfl, h4, rfl, h⟩) (Nat.le_of_ble_eq_true rfl) (Nat.le_of_ble_eq_true rfl) (by decide +kernel)
  · refine g_if_ne (pc := 7) (off := 13) 20 C (by decide +kernel) (by decide) (fun c9 => absurd (by decide) c9) (fun _ => ?_)
    exact g_throw (pc := 10) (is := 154) (text := "what is not 0 to 8") C R rfl ex_IOE (by decide +kernel) (⟨h, rfl, h4⟩) (Nat.le_of_ble_eq_true rfl) (Nat.le_of_ble_eq_true rfl) (Nat.le_of_ble_eq_true rfl) (Nat.le_of_ble_eq_true rfl) (by decide +kernel) (by decide +kernel) (by decide +kernel) (by decide +kernel) (by decide +kernel)
set_option maxHeartbeats 4000000 in
set_option maxRecDepth 100000 in
theorem c_X4_place (l : Launch) (D : va_G) (cy : Nat → ClassId) {G : GG} {x : Nat} {ad : Nat → Nat → Nat} {b : Int32} {nt nf nc nn : Nat} {T E Cu N KT KF KC : Rw} (h : RX cy x ad b nt nf nc nn T E Cu N KT KF KC G) (hwok : s_wok T nt) (t n : Int32) : CtrX l D cy yX4_place prog_1_method_13_code 4 (some .int) kX4_place [.ref x, .int t, .int n] G (pI (fun v G' => ∃ i, i < nt ∧ t = nI i ∧ (0 ≤ n ∧ n ≤ 500) ∧ v = s_at T i (b + n) ∧ RX cy x ad b nt nf nc nn T E Cu N KT KF KC G')) (fun e G' => RX cy x ad b nt nf nc nn T E Cu N KT KF KC G' ∧ ((e = "java/lang/IndexOutOfBoundsException" ∧ (∀ i, i < nt → t ≠ nI i)) ∨ (e = "java/lang/IllegalArgumentException" ∧ (∃ i, i < nt ∧ t = nI i) ∧ ¬ (0 ≤ n ∧ n ≤ 500)))) := by
  refine CtrX.mk (by decide +kernel) (Nat.le_of_ble_eq_true rfl) ?_
  intro κ C R
  refine g_pc (pc' := 0) rfl ?_
  refine g_seg [(0, .aload_n 0, 1), (1, .iload_n 1, 1)] 2 [(0, .ref x), (1, .int t), (2, .int n)] [.int t, .ref x] C (by decide +kernel) rfl ?_
  refine g_callV (pc := 2) C mV_X4_trapezeNumbered q82 (h.1.1) rfl rfl (c_X4_trapezeNumbered l D cy h t) rfl ⟨⟨Nat.le_of_ble_eq_true rfl, Nat.le_of_ble_eq_true rfl⟩, Nat.le_of_ble_eq_true rfl, Nat.le_of_ble_eq_true rfl⟩ rfl (Nat.le_of_ble_eq_true rfl) (by decide +kernel) ?_
  refine g_kA (fun v3 G2 hp1 => ?_)
  obtain ⟨rfl, hp1⟩ := hp1
  rcases hp1 with ⟨i4, hi5, hn6, rfl⟩ | ⟨hn6, rfl⟩
  · refine g_seg [(5, .astore_n 3, 1), (6, .aload_n 3, 1)] 7 [(3, .ref (ad 1 i4)), (0, .ref x), (1, .int t), (2, .int n)] [.ref (ad 1 i4)] C (by decide +kernel) rfl ?_
    refine g_ifnonnull (pc := 7) (off := 13) 20 C (by decide +kernel) (by decide) ?_
    refine g_seg [(20, .iload_n 2, 1), (21, .iconst 0, 1), (22, .sipush 500, 3)] 25 [(3, .ref (ad 1 i4)), (0, .ref x), (1, .int t), (2, .int n)] [.int 500, .int 0, .int n] C (by decide +kernel) rfl ?_
    refine g_callS (pc := 25) C mS_X4_isWithin q86 (c_X4_isWithin l D cy G2 n 0 500) rfl ⟨⟨Nat.le_of_ble_eq_true rfl, Nat.le_of_ble_eq_true rfl⟩, Nat.le_of_ble_eq_true rfl, Nat.le_of_ble_eq_true rfl⟩ rfl (Nat.le_of_ble_eq_true rfl) (by decide +kernel) ?_
    refine g_kI (fun v9 G8 hp7 => ?_)
    obtain ⟨rfl, hp7⟩ := hp7
    rcases hp7 with ⟨rfl, h10⟩ | ⟨rfl, h10⟩
    · refine g_if_ne (pc := 28) (off := 13) 41 C (by decide +kernel) (by decide) (fun _ => ?_) (fun c9 => absurd c9 (by decide))
      refine g_seg [(41, .aload_n 3, 1), (42, .aload_n 0, 1)] 43 [(3, .ref (ad 1 i4)), (0, .ref x), (1, .int t), (2, .int n)] [.ref x, .ref (ad 1 i4)] C (by decide +kernel) rfl ?_
      refine g_getf (pc := 43) (k := 8) (v := .int b) C fl_X4_53 (h.1.1) rfl (by decide +kernel) ?_
      refine g_seg [(46, .iload_n 2, 1), (47, .iadd, 1)] 48 [(3, .ref (ad 1 i4)), (0, .ref x), (1, .int t), (2, .int n)] [.int (b + n), .ref (ad 1 i4)] C (by decide +kernel) rfl ?_
      refine g_callV (pc := 48) C mV_X3_placeIn q161 (h.2.1.1 i4 hi5) rfl rfl (c_X3_placeIn l D cy G8 (ad 1 i4) (T i4 0) (T i4 1) (T i4 3) (T i4 2) (T i4 6) (T i4 4) (T i4 5) (KT i4 0) (KT i4 1) (h.2.1.1 i4 hi5) (b + n) (hwok i4 hi5)) rfl ⟨⟨Nat.le_of_ble_eq_true rfl, Nat.le_of_ble_eq_true rfl⟩, Nat.le_of_ble_eq_true rfl, Nat.le_of_ble_eq_true rfl⟩ rfl (Nat.le_of_ble_eq_true rfl) (by decide +kernel) ?_
      refine g_kI (fun v13 G12 hp11 => ?_)
      obtain ⟨rfl, rfl⟩ := hp11
      exact g_iretX (pc := 51) C R (⟨_, rfl, i4, hi5, hn6, h10, rfl, h⟩) (Nat.le_of_ble_eq_true rfl) (Nat.le_of_ble_eq_true rfl) (by decide +kernel)
    · refine g_if_ne (pc := 28) (off := 13) 41 C (by decide +kernel) (by decide) (fun c9 => absurd (by decide) c9) (fun _ => ?_)
      exact g_throw (pc := 31) (is := 159) (text := "beats is not 0 to 500") C R rfl ex_IAE (by decide +kernel) (⟨h, Or.inr (⟨rfl, ⟨i4, hi5, hn6⟩, h10⟩)⟩) (Nat.le_of_ble_eq_true rfl) (Nat.le_of_ble_eq_true rfl) (Nat.le_of_ble_eq_true rfl) (Nat.le_of_ble_eq_true rfl) (by decide +kernel) (by decide +kernel) (by decide +kernel) (by decide +kernel) (by decide +kernel)
  · refine g_seg [(5, .astore_n 3, 1), (6, .aload_n 3, 1)] 7 [(3, .null), (0, .ref x), (1, .int t), (2, .int n)] [.null] C (by decide +kernel) rfl ?_
    refine g_ifnonnullN (pc := 7) (off := 13) C (by decide +kernel) ?_
    exact g_throw (pc := 10) (is := 65) (text := "no such trapeze") C R rfl ex_IOE (by decide +kernel) (⟨h, Or.inl ⟨rfl, hn6⟩⟩) (Nat.le_of_ble_eq_true rfl) (Nat.le_of_ble_eq_true rfl) (Nat.le_of_ble_eq_true rfl) (Nat.le_of_ble_eq_true rfl) (by decide +kernel) (by decide +kernel) (by decide +kernel) (by decide +kernel) (by decide +kernel)

set_option maxHeartbeats 4000000 in
set_option maxRecDepth 100000 in
theorem c_X4_go (l : Launch) (D : va_G) (cy : Nat → ClassId) {G : GG} {x : Nat} {ad : Nat → Nat → Nat} {b : Int32} {nt nf nc nn : Nat} {T E Cu N KT KF KC : Rw} (h : RX cy x ad b nt nf nc nn T E Cu N KT KF KC G) (hwok : s_wok T nt) (n : Int32) : CtrX l D cy yX4_go prog_1_method_15_code 2 (some .int) kX4_go [.ref x, .int n] G (pI (fun v G' => ∃ k, (1 ≤ n ∧ n ≤ 200) ∧ k ≤ 200 ∧ n = nI k ∧ v = (x_beats N nn nt nf nc (b, T, E, Cu, 0) k).2.2.2.2 ∧ RX cy x ad (x_beats N nn nt nf nc (b, T, E, Cu, 0) k).1 nt nf nc nn (x_beats N nn nt nf nc (b, T, E, Cu, 0) k).2.1 (x_beats N nn nt nf nc (b, T, E, Cu, 0) k).2.2.1 (x_beats N nn nt nf nc (b, T, E, Cu, 0) k).2.2.2.1 N KT KF KC G')) (fun e G' => RX cy x ad b nt nf nc nn T E Cu N KT KF KC G' ∧ ((e = "java/lang/IllegalArgumentException" ∧ ¬ (1 ≤ n ∧ n ≤ 200)))) := by
  refine CtrX.mk (by decide +kernel) (Nat.le_of_ble_eq_true rfl) ?_
  intro κ C R
  refine g_pc (pc' := 0) rfl ?_
  refine g_seg [(0, .iload_n 1, 1), (1, .iconst 1, 1), (2, .sipush 200, 3)] 5 [(0, .ref x), (1, .int n)] [.int 200, .int 1, .int n] C (by decide +kernel) rfl ?_
  refine g_callS (pc := 5) C mS_X4_isWithin q86 (c_X4_isWithin l D cy G n 1 200) rfl ⟨⟨Nat.le_of_ble_eq_true rfl, Nat.le_of_ble_eq_true rfl⟩, Nat.le_of_ble_eq_true rfl, Nat.le_of_ble_eq_true rfl⟩ rfl (Nat.le_of_ble_eq_true rfl) (by decide +kernel) ?_
  refine g_kI (fun v3 G2 hp1 => ?_)
  obtain ⟨rfl, hp1⟩ := hp1
  rcases hp1 with ⟨rfl, h4⟩ | ⟨rfl, h4⟩
  · refine g_if_ne (pc := 8) (off := 13) 21 C (by decide +kernel) (by decide) (fun _ => ?_) (fun c9 => absurd c9 (by decide))
    refine g_seg [(21, .aload_n 0, 1), (22, .iload_n 1, 1)] 23 [(0, .ref x), (1, .int n)] [.int n, .ref x] C (by decide +kernel) rfl ?_
    obtain ⟨kb, hkb, hnb⟩ := in_200 h4
    refine g_callV (pc := 23) C mV_X4_passBeats q251 (h.1.1) rfl rfl (c_X4_passBeats l D cy h hwok kb n hnb hkb) rfl ⟨⟨Nat.le_of_ble_eq_true rfl, Nat.le_of_ble_eq_true rfl⟩, Nat.le_of_ble_eq_true rfl, Nat.le_of_ble_eq_true rfl⟩ rfl (Nat.le_of_ble_eq_true rfl) (by decide +kernel) ?_
    refine g_kI (fun v7 G5 hp6 => ?_)
    obtain ⟨rfl, h8⟩ := hp6
    exact g_iretX (pc := 26) C R (⟨_, rfl, kb, h4, hkb, hnb, rfl, h8⟩) (Nat.le_of_ble_eq_true rfl) (Nat.le_of_ble_eq_true rfl) (by decide +kernel)
  · refine g_if_ne (pc := 8) (off := 13) 21 C (by decide +kernel) (by decide) (fun c9 => absurd (by decide) c9) (fun _ => ?_)
    exact g_throw (pc := 11) (is := 168) (text := "beats is not 1 to 200") C R rfl ex_IAE (by decide +kernel) (⟨h, rfl, h4⟩) (Nat.le_of_ble_eq_true rfl) (Nat.le_of_ble_eq_true rfl) (Nat.le_of_ble_eq_true rfl) (Nat.le_of_ble_eq_true rfl) (by decide +kernel) (by decide +kernel) (by decide +kernel) (by decide +kernel) (by decide +kernel)
set_option maxHeartbeats 4000000 in
set_option maxRecDepth 100000 in
theorem c_X4_foresee (l : Launch) (D : va_G) (cy : Nat → ClassId) {G : GG} {x : Nat} {ad : Nat → Nat → Nat} {b : Int32} {nt nf nc nn : Nat} {T E Cu N KT KF KC : Rw} (h : RX cy x ad b nt nf nc nn T E Cu N KT KF KC G) (hwok : s_wok T nt) (hb5 : ∀ t, t < nt → T t 5 = 0 ∨ T t 5 = 1) (n w : Int32) : CtrX l D cy yX4_foresee prog_1_method_19_code 5 (some .int) kX4_foresee [.ref x, .int n, .int w] G (pI (fun v G' => ∃ k, (1 ≤ n ∧ n ≤ 200) ∧ (4 ≤ w ∧ w ≤ 8) ∧ k ≤ 200 ∧ n = nI k ∧ v = s_countX (x_beats N nn nt nf nc (b, T, E, Cu, 0) k).1 nt nf nc (x_beats N nn nt nf nc (b, T, E, Cu, 0) k).2.1 (x_beats N nn nt nf nc (b, T, E, Cu, 0) k).2.2.1 (x_beats N nn nt nf nc (b, T, E, Cu, 0) k).2.2.2.1 w ∧ ∃ KT' KF' KC', RX cy x ad b nt nf nc nn T E Cu N KT' KF' KC' G')) (fun e G' => RX cy x ad b nt nf nc nn T E Cu N KT KF KC G' ∧ ((e = "java/lang/IllegalArgumentException" ∧ ¬ (1 ≤ n ∧ n ≤ 200)) ∨ (e = "java/lang/IndexOutOfBoundsException" ∧ (1 ≤ n ∧ n ≤ 200) ∧ ¬ (4 ≤ w ∧ w ≤ 8)))) := by
  refine CtrX.mk (by decide +kernel) (Nat.le_of_ble_eq_true rfl) ?_
  intro κ C R
  refine g_pc (pc' := 0) rfl ?_
  refine g_seg [(0, .iload_n 1, 1), (1, .iconst 1, 1), (2, .sipush 200, 3)] 5 [(0, .ref x), (1, .int n), (2, .int w)] [.int 200, .int 1, .int n] C (by decide +kernel) rfl ?_
  refine g_callS (pc := 5) C mS_X4_isWithin q86 (c_X4_isWithin l D cy G n 1 200) rfl ⟨⟨Nat.le_of_ble_eq_true rfl, Nat.le_of_ble_eq_true rfl⟩, Nat.le_of_ble_eq_true rfl, Nat.le_of_ble_eq_true rfl⟩ rfl (Nat.le_of_ble_eq_true rfl) (by decide +kernel) ?_
  refine g_kI (fun v3 G2 hp1 => ?_)
  obtain ⟨rfl, hp1⟩ := hp1
  rcases hp1 with ⟨rfl, h4⟩ | ⟨rfl, h4⟩
  · refine g_if_ne (pc := 8) (off := 13) 21 C (by decide +kernel) (by decide) (fun _ => ?_) (fun c9 => absurd c9 (by decide))
    refine g_seg [(21, .iload_n 2, 1), (22, .iconst 4, 1), (23, .bipush 8, 2)] 25 [(0, .ref x), (1, .int n), (2, .int w)] [.int 8, .int 4, .int w] C (by decide +kernel) rfl ?_
    refine g_callS (pc := 25) C mS_X4_isWithin q86 (c_X4_isWithin l D cy G2 w 4 8) rfl ⟨⟨Nat.le_of_ble_eq_true rfl, Nat.le_of_ble_eq_true rfl⟩, Nat.le_of_ble_eq_true rfl, Nat.le_of_ble_eq_true rfl⟩ rfl (Nat.le_of_ble_eq_true rfl) (by decide +kernel) ?_
    refine g_kI (fun v7 G6 hp5 => ?_)
    obtain ⟨rfl, hp5⟩ := hp5
    rcases hp5 with ⟨rfl, h8⟩ | ⟨rfl, h8⟩
    · refine g_if_ne (pc := 28) (off := 13) 41 C (by decide +kernel) (by decide) (fun _ => ?_) (fun c9 => absurd c9 (by decide))
      refine g_seg [(41, .aload_n 0, 1)] 42 [(0, .ref x), (1, .int n), (2, .int w)] [.ref x] C (by decide +kernel) rfl ?_
      refine g_getf (pc := 42) (k := 8) (v := .int b) C fl_X4_53 (h.1.1) rfl (by decide +kernel) ?_
      refine g_seg [(45, .istore_n 3, 1), (46, .aload_n 0, 1)] 47 [(3, .int b), (0, .ref x), (1, .int n), (2, .int w)] [.ref x] C (by decide +kernel) rfl ?_
      refine g_callV (pc := 47) C mV_X4_keepAct q319 (h.1.1) rfl rfl (c_X4_keepAct l D cy h hb5) rfl ⟨⟨Nat.le_of_ble_eq_true rfl, Nat.le_of_ble_eq_true rfl⟩, Nat.le_of_ble_eq_true rfl, Nat.le_of_ble_eq_true rfl⟩ rfl (Nat.le_of_ble_eq_true rfl) (by decide +kernel) ?_
      refine g_kV (fun G9 h10 => ?_)
      refine g_seg [(50, .aload_n 0, 1), (51, .iload_n 1, 1)] 52 [(3, .int b), (0, .ref x), (1, .int n), (2, .int w)] [.int n, .ref x] C (by decide +kernel) rfl ?_
      obtain ⟨kb, hkb, hnb⟩ := in_200 h4
      refine g_callV (pc := 52) C mV_X4_passBeats q251 (h10.1.1) rfl rfl (c_X4_passBeats l D cy h10 hwok kb n hnb hkb) rfl ⟨⟨Nat.le_of_ble_eq_true rfl, Nat.le_of_ble_eq_true rfl⟩, Nat.le_of_ble_eq_true rfl, Nat.le_of_ble_eq_true rfl⟩ rfl (Nat.le_of_ble_eq_true rfl) (by decide +kernel) ?_
      refine g_kI (fun v13 G11 hp12 => ?_)
      obtain ⟨rfl, h14⟩ := hp12
      refine g_seg [(55, .pop, 1), (56, .aload_n 0, 1), (57, .iload_n 2, 1)] 58 [(3, .int b), (0, .ref x), (1, .int n), (2, .int w)] [.int w, .ref x] C (by decide +kernel) rfl ?_
      refine g_callV (pc := 58) C mV_X4_tally q209 (h14.1.1) rfl rfl (c_X4_tally l D cy h14 w) rfl ⟨⟨Nat.le_of_ble_eq_true rfl, Nat.le_of_ble_eq_true rfl⟩, Nat.le_of_ble_eq_true rfl, Nat.le_of_ble_eq_true rfl⟩ rfl (Nat.le_of_ble_eq_true rfl) (by decide +kernel) ?_
      refine g_kI (fun v17 G16 hp15 => ?_)
      obtain ⟨rfl, rfl⟩ := hp15
      refine g_seg [(61, .istore 4, 2), (63, .aload_n 0, 1)] 64 [(4, .int (s_countX ((x_beats N nn nt nf nc (b, T, E, Cu, 0) kb).1) nt nf nc ((x_beats N nn nt nf nc (b, T, E, Cu, 0) kb).2.1) ((x_beats N nn nt nf nc (b, T, E, Cu, 0) kb).2.2.1) ((x_beats N nn nt nf nc (b, T, E, Cu, 0) kb).2.2.2.1) w)), (3, .int b), (0, .ref x), (1, .int n), (2, .int w)] [.ref x] C (by decide +kernel) rfl ?_
      refine g_callV (pc := 64) C mV_X4_takeActBack q335 (h14.1.1) rfl rfl (c_X4_takeActBack l D cy h14 (fun t ht => by rw [mix_in ht]; exact hb5 t ht)) rfl ⟨⟨Nat.le_of_ble_eq_true rfl, Nat.le_of_ble_eq_true rfl⟩, Nat.le_of_ble_eq_true rfl, Nat.le_of_ble_eq_true rfl⟩ rfl (Nat.le_of_ble_eq_true rfl) (by decide +kernel) ?_
      refine g_kV (fun G18 h19 => ?_)
      refine g_seg [(67, .aload_n 0, 1), (68, .iload_n 3, 1)] 69 [(4, .int (s_countX ((x_beats N nn nt nf nc (b, T, E, Cu, 0) kb).1) nt nf nc ((x_beats N nn nt nf nc (b, T, E, Cu, 0) kb).2.1) ((x_beats N nn nt nf nc (b, T, E, Cu, 0) kb).2.2.1) ((x_beats N nn nt nf nc (b, T, E, Cu, 0) kb).2.2.2.1) w)), (3, .int b), (0, .ref x), (1, .int n), (2, .int w)] [.int b, .ref x] C (by decide +kernel) rfl ?_
      refine g_putf (pc := 69) (k := 8) (v := .int b) (ty := .int) C fl_X4_53 fp_X4_8 (h19.1.1) (rfl) (by first | rfl | decide) (Nat.le_of_ble_eq_true rfl) (by decide +kernel) ?_
      refine g_abs (P := fun G9 => RX cy x ad b nt nf nc nn (mixR (tT ((x_beats N nn nt nf nc (b, T, E, Cu, 0) kb).2.1) (mixR (kT T) KT nt)) ((x_beats N nn nt nf nc (b, T, E, Cu, 0) kb).2.1) nt) (mixR (mixR E KF nf) ((x_beats N nn nt nf nc (b, T, E, Cu, 0) kb).2.2.1) nf) (mixR (tC ((x_beats N nn nt nf nc (b, T, E, Cu, 0) kb).2.2.2.1) (mixR (kC Cu) KC nc)) ((x_beats N nn nt nf nc (b, T, E, Cu, 0) kb).2.2.2.1) nc) N (mixR (kT T) KT nt) (mixR E KF nf) (mixR (kC Cu) KC nc) G9) (RX.setB h19) (fun G20 h21 => ?_)
      refine g_seg [(72, .iload 4, 2)] 74 [(4, .int (s_countX ((x_beats N nn nt nf nc (b, T, E, Cu, 0) kb).1) nt nf nc ((x_beats N nn nt nf nc (b, T, E, Cu, 0) kb).2.1) ((x_beats N nn nt nf nc (b, T, E, Cu, 0) kb).2.2.1) ((x_beats N nn nt nf nc (b, T, E, Cu, 0) kb).2.2.2.1) w)), (3, .int b), (0, .ref x), (1, .int n), (2, .int w)] [.int (s_countX ((x_beats N nn nt nf nc (b, T, E, Cu, 0) kb).1) nt nf nc ((x_beats N nn nt nf nc (b, T, E, Cu, 0) kb).2.1) ((x_beats N nn nt nf nc (b, T, E, Cu, 0) kb).2.2.1) ((x_beats N nn nt nf nc (b, T, E, Cu, 0) kb).2.2.2.1) w)] C (by decide +kernel) rfl ?_
      exact g_iretX (pc := 74) C R (⟨_, rfl, kb, h4, h8, hkb, hnb, rfl, _, _, _, fore_ext (fun i k h4 h5 => xb_T h4 h5 kb) (fun i k h4 => xb_C h4 kb) h21⟩) (Nat.le_of_ble_eq_true rfl) (Nat.le_of_ble_eq_true rfl) (by decide +kernel)
    · refine g_if_ne (pc := 28) (off := 13) 41 C (by decide +kernel) (by decide) (fun c9 => absurd (by decide) c9) (fun _ => ?_)
      exact g_throw (pc := 31) (is := 186) (text := "what is not 4 to 8") C R rfl ex_IOE (by decide +kernel) (⟨h, Or.inr (⟨rfl, h4, h8⟩)⟩) (Nat.le_of_ble_eq_true rfl) (Nat.le_of_ble_eq_true rfl) (Nat.le_of_ble_eq_true rfl) (Nat.le_of_ble_eq_true rfl) (by decide +kernel) (by decide +kernel) (by decide +kernel) (by decide +kernel) (by decide +kernel)
  · refine g_if_ne (pc := 8) (off := 13) 21 C (by decide +kernel) (by decide) (fun c9 => absurd (by decide) c9) (fun _ => ?_)
    exact g_throw (pc := 11) (is := 168) (text := "beats is not 1 to 200") C R rfl ex_IAE (by decide +kernel) (⟨h, Or.inl ⟨rfl, h4⟩⟩) (Nat.le_of_ble_eq_true rfl) (Nat.le_of_ble_eq_true rfl) (Nat.le_of_ble_eq_true rfl) (Nat.le_of_ble_eq_true rfl) (by decide +kernel) (by decide +kernel) (by decide +kernel) (by decide +kernel) (by decide +kernel)
end
section
def s_digest (b : Int32) (nt nf nc nn : Nat) (T E C N : Rw) : Int64 :=
  its (fun k d => (d * 31 + (N k 0).toInt64) * 31 + (N k 1).toInt64)
    (its (fun t d => s_dig (fun w => s_toldC C t (nI w)) d 5)
      (its (fun t d => s_dig (fun w => s_toldFX E b t (nI w)) d 5)
        (its (fun t d => s_dig (fun w => s_toldX T E nf b t (nI w)) d 8)
          (s_dig (fun w => s_countX b nt nf nc T E C (nI w)) 1061 9) nt) nf) nc) nn
theorem mean_0 {E : Rw} {nf : Nat} (hn : nf ≤ 8) (h : nI nf ≤ 0) : FP.dconst0 = s_mean E nf := by
  have : nf = 0 := by
    rcases Nat.eq_zero_or_pos nf with h1 | h1
    · exact h1
    · exact absurd h (nI_nle h1 (by omega))
  unfold s_mean; rw [if_pos this]
theorem mean_1 {E : Rw} {nf : Nat} {s : Int32} (hs : s = s_caught E nf) (h : ¬ nI nf ≤ 0) : FP.ddiv (FP.i2d s) (FP.i2d (nI nf)) = s_mean E nf := by
  have : ¬ nf = 0 := fun e => h (by rw [e]; decide)
  unfold s_mean; rw [if_neg this, hs]
section PGN
variable {κ : Kx} {l0 : Launch} {D0 : va_G} {cy0 : Nat → ClassId} {y : MethodName} {nL ce sl index : Nat} {cc : ByteArray} {rm : Room} {ret : Option FieldType} {G : GG} {lv : LV} {pc : Nat} {st rest : List Value}
/-- a new array of references, all null -/
theorem g_anew {C1 : String} {t0 N' : Nat} {cA : ClassId} {n : Int32} (C : g_OK κ l0 D0 cy0 y nL cc rm ret) (hcl : Cond.classLink y.cls index C1 ∈ lw_T) (hao : ∀ U, g_KA U → va_Nw (.arrayOver (.object C1)) U) (ht : (g_tys cy0)[t0]? = some (cA, .object C1)) (hn : ¬ n < 0) (hN : n.toNatClampNeg = N') (hbytes : N' * 4 ≤ 536870912) (hcells : ce + 1 ≤ rm.cells) (hslots : sl + N' ≤ rm.slots) (hd : decode cc pc = .ok (.anewarray index, 3))
    (kk : ∀ q, G q = none → PG κ nL (ce + 1) (sl + N') (g_up G q (.inl (cA, N', .inr (.inr (.inr (.inr (fun _ => none))))))) lv (pc + 3) (.ref q :: rest)) : PG κ nL ce sl G lv pc (.int n :: rest) := by
  obtain ⟨p, l, e, R, s, m, args, below, meth, c, D, cy, A, H0, Q⟩ := κ
  obtain ⟨⟨-, rfl, rfl⟩, h0, hb, hml, hown, hT, hK, hA, rfl, -⟩ := C
  subst hN
  intro H locs ls hw hl
  have hover : (Cond.arrayOver (.object C1)).before args s = true := va_AO.use (hao s hK.2)
  refine W.anew h0 hb hown (hT _ hcl) hover rfl hd rfl hn hbytes hcells hslots fun cA1 kA comp f1 f2 f3 f4 => ?_
  obtain ⟨kA2, comp2, -, -, -, r4⟩ := (hK.1.2 t0 _ ht).2
  cases Option.some.inj (f1.symm.trans r4)
  generalize hH1 : H.push ({ cls := cA, slots := Array.replicate n.toNatClampNeg .null, vm := .none } : Cell) = H1
  have z1 : H1.size = H.size + 1 := by rw [← hH1, Array.size_push]
  have e1 : H1[H.size]? = some (arrV cA n.toNatClampNeg (fun _ => .null)) := by rw [← hH1, Array.getElem?_push_size, ← arrV_new]
  have o1 : ∀ q : Nat, q < H.size → H1[q]? = H[q]? := fun q hq => by rw [← hH1, Array.getElem?_push, if_neg (Nat.ne_of_lt hq)]
  have he : va_at D vwCl (H.size, .inl (cA, n.toNatClampNeg, .inr (.inr (.inr (.inr (fun _ => none)))))) H1 := by
    show H1[H.size]? = some (vp_cell _ _)
    rw [vp_cell_q]
    exact e1
  obtain ⟨hn0, hw1⟩ := g_wnew hA hw he z1 o1
  exact kk H.size hn0 H1 locs ls hw1 hl
/-- a new int array, all 0 -/
theorem g_newi {N' : Nat} {n : Int32} (C : g_OK κ l0 D0 cy0 y nL cc rm ret) (hcl : Cond.arrayClass .int ∈ lw_T) (hn : ¬ n < 0) (hN : n.toNatClampNeg = N') (hbytes : N' * 4 ≤ 536870912) (hcells : ce + 1 ≤ rm.cells) (hslots : sl + N' ≤ rm.slots) (hd : decode cc pc = .ok (.newarray .int, 2))
    (kk : ∀ q, G q = none → PG κ nL (ce + 1) (sl + N') (g_up G q (.inl (cy0 0, N', .inl (fun _ => 0)))) lv (pc + 2) (.ref q :: rest)) : PG κ nL ce sl G lv pc (.int n :: rest) := by
  obtain ⟨p, l, e, R, s, m, args, below, meth, c, D, cy, A, H0, Q⟩ := κ
  obtain ⟨⟨-, rfl, rfl⟩, h0, hb, hml, hown, hT, hK, hA, rfl, -⟩ := C
  intro H locs ls hw hl
  refine va_newaK (atype := .int) h0 hb (hT _ hcl) rfl hd rfl hn hN hbytes hcells hslots rfl fun H1 cA e1 z1 o1 hAr hNm => ?_
  have r4 : s.vm.findClass ("[" ++ FieldType.int.toString) = some (cy 0) := (hK.1.2 0 _ rfl).2
  cases Option.some.inj (hNm.symm.trans r4)
  have he : va_at D vwCl (H.size, .inl (cy 0, N', .inl (fun _ => 0))) H1 := e1
  obtain ⟨hn0, hw1⟩ := g_wnew hA hw he z1 o1
  exact kk H.size hn0 H1 locs ls hw1 hl
end PGN
def zR : Rw := fun _ _ => 0
def ad4 (q0 q1 q2 q3 : Nat) : Nat → Nat → Nat := fun k i => if k = 0 then (match i with | 0 => q0 | 1 => q1 | 2 => q2 | _ => q3) else 0
theorem RX_zero {cy : Nat → ClassId} {x q0 q1 q2 q3 : Nat} {G : GG} (h : G x = some (.inr (4, [.ref q0, .ref q1, .ref q2, .ref q3, .int 0, .int 0, .int 0, .int 0, .int 0]))) (h0 : G q0 = some (.inl (cy 1, 6, .inr (.inr (.inr (.inr (fun _ => none))))))) (h1 : G q1 = some (.inl (cy 2, 8, .inr (.inr (.inr (.inr (fun _ => none))))))) (h2 : G q2 = some (.inl (cy 3, 20, .inr (.inr (.inr (.inr (fun _ => none))))))) (h3 : G q3 = some (.inl (cy 4, 3, .inr (.inr (.inr (.inr (fun _ => none))))))) : RX cy x (ad4 q0 q1 q2 q3) 0 0 0 0 0 zR zR zR zR zR zR zR G := by
  refine ⟨⟨h, ?_, ?_, ?_, ?_⟩, ⟨fun i hi => absurd hi (by omega), fun i hi => absurd hi (by omega), fun i hi => absurd hi (by omega), fun i hi => absurd hi (by omega)⟩, ⟨fun i j hi => absurd hi (by omega), fun i j hi => absurd hi (by omega), fun i j hi => absurd hi (by omega)⟩, by omega⟩
  · show G q0 = _; rw [h0]; simp [oA]
  · show G q1 = _; rw [h1]; simp [oA]
  · show G q2 = _; rw [h2]; simp [oA]
  · show G q3 = _; rw [h3]; simp [oA]

set_option maxHeartbeats 4000000 in
set_option maxRecDepth 100000 in
theorem c_X4_meets (l : Launch) (D : va_G) (cy : Nat → ClassId) {G : GG} {x : Nat} {ad : Nat → Nat → Nat} {b : Int32} {nt nf nc nn : Nat} {T E Cu N KT KF KC : Rw} (h : RX cy x ad b nt nf nc nn T E Cu N KT KF KC G) (hwok : s_wok T nt) (t1 t2 : Int32) : CtrX l D cy yX4_meets prog_1_method_16_code 6 (some .int) kX4_meets [.ref x, .int t1, .int t2] G (pI (fun v G' => ∃ i j, i < nt ∧ t1 = nI i ∧ j < nt ∧ t2 = nI j ∧ (((T i 5 = 0 ∨ T j 5 = 0) ∧ v = -1) ∨ (¬ T i 5 = 0 ∧ ¬ T j 5 = 0 ∧ v = s_meet T i j b)) ∧ RX cy x ad b nt nf nc nn T E Cu N KT KF KC G')) (fun e G' => RX cy x ad b nt nf nc nn T E Cu N KT KF KC G' ∧ ((e = "java/lang/IndexOutOfBoundsException" ∧ ((∀ i, i < nt → t1 ≠ nI i) ∨ (∀ i, i < nt → t2 ≠ nI i))))) := by
  refine CtrX.mk (by decide +kernel) (Nat.le_of_ble_eq_true rfl) ?_
  intro κ C R
  refine g_pc (pc' := 0) rfl ?_
  refine g_seg [(0, .aload_n 0, 1), (1, .iload_n 1, 1)] 2 [(0, .ref x), (1, .int t1), (2, .int t2)] [.int t1, .ref x] C (by decide +kernel) rfl ?_
  refine g_callV (pc := 2) C mV_X4_trapezeNumbered q82 (h.1.1) rfl rfl (c_X4_trapezeNumbered l D cy h t1) rfl ⟨⟨Nat.le_of_ble_eq_true rfl, Nat.le_of_ble_eq_true rfl⟩, Nat.le_of_ble_eq_true rfl, Nat.le_of_ble_eq_true rfl⟩ rfl (Nat.le_of_ble_eq_true rfl) (by decide +kernel) ?_
  refine g_kA (fun v3 G2 hp1 => ?_)
  obtain ⟨rfl, hp1⟩ := hp1
  rcases hp1 with ⟨i4, hi5, hn6, rfl⟩ | ⟨hn6, rfl⟩
  · refine g_seg [(5, .astore_n 3, 1), (6, .aload_n 0, 1), (7, .iload_n 2, 1)] 8 [(3, .ref (ad 1 i4)), (0, .ref x), (1, .int t1), (2, .int t2)] [.int t2, .ref x] C (by decide +kernel) rfl ?_
    refine g_callV (pc := 8) C mV_X4_trapezeNumbered q82 (h.1.1) rfl rfl (c_X4_trapezeNumbered l D cy h t2) rfl ⟨⟨Nat.le_of_ble_eq_true rfl, Nat.le_of_ble_eq_true rfl⟩, Nat.le_of_ble_eq_true rfl, Nat.le_of_ble_eq_true rfl⟩ rfl (Nat.le_of_ble_eq_true rfl) (by decide +kernel) ?_
    refine g_kA (fun v9 G8 hp7 => ?_)
    obtain ⟨rfl, hp7⟩ := hp7
    rcases hp7 with ⟨i10, hi11, hn12, rfl⟩ | ⟨hn12, rfl⟩
    · refine g_seg [(11, .astore 4, 2), (13, .aload_n 3, 1)] 14 [(4, .ref (ad 1 i10)), (3, .ref (ad 1 i4)), (0, .ref x), (1, .int t1), (2, .int t2)] [.ref (ad 1 i4)] C (by decide +kernel) rfl ?_
      refine g_ifnull (pc := 14) (off := 8) C (by decide +kernel) ?_
      refine g_seg [(17, .aload 4, 2)] 19 [(4, .ref (ad 1 i10)), (3, .ref (ad 1 i4)), (0, .ref x), (1, .int t1), (2, .int t2)] [.ref (ad 1 i10)] C (by decide +kernel) rfl ?_
      refine g_ifnonnull (pc := 19) (off := 13) 32 C (by decide +kernel) (by decide) ?_
      refine g_seg [(32, .aload_n 3, 1)] 33 [(4, .ref (ad 1 i10)), (3, .ref (ad 1 i4)), (0, .ref x), (1, .int t1), (2, .int t2)] [.ref (ad 1 i4)] C (by decide +kernel) rfl ?_
      refine g_getf (pc := 33) (k := 6) (v := .int (T i4 5)) C fl_X4_70 (h.2.1.1 i4 hi5) rfl (by decide +kernel) ?_
      refine g_if_eq (pc := 36) (off := 11) 47 C (by decide +kernel) (by decide) (fun c13 => ?_) (fun c13 => ?_)
      · refine g_seg [(47, .iconst (-1), 1)] 48 [(4, .ref (ad 1 i10)), (3, .ref (ad 1 i4)), (0, .ref x), (1, .int t1), (2, .int t2)] [.int (-1)] C (by decide +kernel) rfl ?_
        exact g_iretX (pc := 48) C R (⟨_, rfl, i4, i10, hi5, hn6, hi11, hn12, Or.inl ⟨Or.inl c13, rfl⟩, h⟩) (Nat.le_of_ble_eq_true rfl) (Nat.le_of_ble_eq_true rfl) (by decide +kernel)
      · refine g_seg [(39, .aload 4, 2)] 41 [(4, .ref (ad 1 i10)), (3, .ref (ad 1 i4)), (0, .ref x), (1, .int t1), (2, .int t2)] [.ref (ad 1 i10)] C (by decide +kernel) rfl ?_
        refine g_getf (pc := 41) (k := 6) (v := .int (T i10 5)) C fl_X4_70 (h.2.1.1 i10 hi11) rfl (by decide +kernel) ?_
        refine g_if_ne (pc := 44) (off := 5) 49 C (by decide +kernel) (by decide) (fun c14 => ?_) (fun c14 => ?_)
        · refine g_seg [(49, .iconst 0, 1), (50, .istore 5, 2)] 52 [(5, .int 0), (4, .ref (ad 1 i10)), (3, .ref (ad 1 i4)), (0, .ref x), (1, .int t1), (2, .int t2)] [] C (by decide +kernel) rfl ?_
          refine g_subp [3, 2, 1, 0] (lv' := [(0, .ref x), (3, .ref (ad 1 i4)), (4, .ref (ad 1 i10)), (5, .int 0)]) rfl ?_
          have lp15 : ∀ (m k : Nat) (xk : Int32), 201 + 1 ≤ k + m → k ≤ 201 → xk = nI k → (∀ u, u < k → s_near (s_at T i4 (b + nI u)) (s_at T i10 (b + nI u)) = false) → PG κ 6 0 0 G8 [(0, .ref x), (3, .ref (ad 1 i4)), (4, .ref (ad 1 i10)), (5, .int xk)] 52 [] := by
            intro m
            induction m with
            | zero => intro k xk h1 h2; intros; exact absurd h1 (by omega)
            | succ m ih =>
              intro k xk hm hk hx hs
              refine g_seg [(52, .iload 5, 2), (54, .sipush 200, 3)] 57 [(0, .ref x), (3, .ref (ad 1 i4)), (4, .ref (ad 1 i10)), (5, .int xk)] [.int 200, .int xk] C (by decide +kernel) rfl ?_
              refine g_icmp_gt (pc := 57) (off := 41) 98 C (by decide +kernel) (by decide) (fun c16 => ?_) (fun c16 => ?_)
              · have hk8 : k = 201 := by have := lp_gt hx (by omega) (n := 200) (by decide) c16; omega
                refine g_seg [(98, .iconst (-1), 1)] 99 [(0, .ref x), (3, .ref (ad 1 i4)), (4, .ref (ad 1 i10)), (5, .int xk)] [.int (-1)] C (by decide +kernel) rfl ?_
                exact g_iretX (pc := 99) C R (⟨_, rfl, i4, i10, hi5, hn6, hi11, hn12, Or.inr ⟨c13, c14, (meet_n (by rw [hk8] at hs; exact hs)).symm⟩, h⟩) (Nat.le_of_ble_eq_true rfl) (Nat.le_of_ble_eq_true rfl) (by decide +kernel)
              · have hk8 : k < 201 := by have := lp_ngt hx (by omega) (n := 200) (by decide) c16; omega
                refine g_seg [(60, .aload_n 3, 1), (61, .aload_n 0, 1)] 62 [(0, .ref x), (3, .ref (ad 1 i4)), (4, .ref (ad 1 i10)), (5, .int xk)] [.ref x, .ref (ad 1 i4)] C (by decide +kernel) rfl ?_
                refine g_getf (pc := 62) (k := 8) (v := .int b) C fl_X4_53 (h.1.1) rfl (by decide +kernel) ?_
                refine g_seg [(65, .iload 5, 2), (67, .iadd, 1)] 68 [(0, .ref x), (3, .ref (ad 1 i4)), (4, .ref (ad 1 i10)), (5, .int xk)] [.int (b + xk), .ref (ad 1 i4)] C (by decide +kernel) rfl ?_
                refine g_callV (pc := 68) C mV_X3_placeIn q161 (h.2.1.1 i4 hi5) rfl rfl (c_X3_placeIn l D cy G8 (ad 1 i4) (T i4 0) (T i4 1) (T i4 3) (T i4 2) (T i4 6) (T i4 4) (T i4 5) (KT i4 0) (KT i4 1) (h.2.1.1 i4 hi5) (b + xk) (hwok i4 hi5)) rfl ⟨⟨Nat.le_of_ble_eq_true rfl, Nat.le_of_ble_eq_true rfl⟩, Nat.le_of_ble_eq_true rfl, Nat.le_of_ble_eq_true rfl⟩ rfl (Nat.le_of_ble_eq_true rfl) (by decide +kernel) ?_
                refine g_kI (fun v19 G18 hp17 => ?_)
                obtain ⟨rfl, rfl⟩ := hp17
                refine g_seg [(71, .aload 4, 2), (73, .aload_n 0, 1)] 74 [(0, .ref x), (3, .ref (ad 1 i4)), (4, .ref (ad 1 i10)), (5, .int xk)] [.ref x, .ref (ad 1 i10), .int (s_pl (T i4 0) (T i4 1) (T i4 2) ((b + xk) - (T i4 6)))] C (by decide +kernel) rfl ?_
                refine g_getf (pc := 74) (k := 8) (v := .int b) C fl_X4_53 (h.1.1) rfl (by decide +kernel) ?_
                refine g_seg [(77, .iload 5, 2), (79, .iadd, 1)] 80 [(0, .ref x), (3, .ref (ad 1 i4)), (4, .ref (ad 1 i10)), (5, .int xk)] [.int (b + xk), .ref (ad 1 i10), .int (s_pl (T i4 0) (T i4 1) (T i4 2) ((b + xk) - (T i4 6)))] C (by decide +kernel) rfl ?_
                refine g_callV (pc := 80) C mV_X3_placeIn q161 (h.2.1.1 i10 hi11) rfl rfl (c_X3_placeIn l D cy G18 (ad 1 i10) (T i10 0) (T i10 1) (T i10 3) (T i10 2) (T i10 6) (T i10 4) (T i10 5) (KT i10 0) (KT i10 1) (h.2.1.1 i10 hi11) (b + xk) (hwok i10 hi11)) rfl ⟨⟨Nat.le_of_ble_eq_true rfl, Nat.le_of_ble_eq_true rfl⟩, Nat.le_of_ble_eq_true rfl, Nat.le_of_ble_eq_true rfl⟩ rfl (Nat.le_of_ble_eq_true rfl) (by decide +kernel) ?_
                refine g_kI (fun v22 G21 hp20 => ?_)
                obtain ⟨rfl, rfl⟩ := hp20
                refine g_callS (pc := 83) C mS_X4_isNear q279 (c_X4_isNear l D cy G21 (s_pl (T i4 0) (T i4 1) (T i4 2) ((b + xk) - (T i4 6))) (s_pl (T i10 0) (T i10 1) (T i10 2) ((b + xk) - (T i10 6)))) rfl ⟨⟨Nat.le_of_ble_eq_true rfl, Nat.le_of_ble_eq_true rfl⟩, Nat.le_of_ble_eq_true rfl, Nat.le_of_ble_eq_true rfl⟩ rfl (Nat.le_of_ble_eq_true rfl) (by decide +kernel) ?_
                refine g_kI (fun v25 G24 hp23 => ?_)
                obtain ⟨rfl, hp23⟩ := hp23
                rcases hp23 with ⟨rfl, h26⟩ | ⟨rfl, h26⟩
                · refine g_if_eq (pc := 86) (off := 6) 92 C (by decide +kernel) (by decide) (fun c9 => absurd c9 (by decide)) (fun _ => ?_)
                  refine g_seg [(89, .iload 5, 2)] 91 [(0, .ref x), (3, .ref (ad 1 i4)), (4, .ref (ad 1 i10)), (5, .int xk)] [.int xk] C (by decide +kernel) rfl ?_
                  exact g_iretX (pc := 91) C R (⟨_, rfl, i4, i10, hi5, hn6, hi11, hn12, Or.inr ⟨c13, c14, hx.trans (meet_y hk8 (by rw [← hx]; exact h26) hs).symm⟩, h⟩) (Nat.le_of_ble_eq_true rfl) (Nat.le_of_ble_eq_true rfl) (by decide +kernel)
                · refine g_if_eq (pc := 86) (off := 6) 92 C (by decide +kernel) (by decide) (fun _ => ?_) (fun c9 => absurd (by decide) c9)
                  refine g_seg [(92, .iinc 5 1, 3), (95, .goto (-43), 3)] 52 [(5, .int (xk + 1)), (0, .ref x), (3, .ref (ad 1 i4)), (4, .ref (ad 1 i10))] [] C (by decide +kernel) rfl ?_
                  refine g_subp [1, 2, 3, 0] (lv' := [(0, .ref x), (3, .ref (ad 1 i4)), (4, .ref (ad 1 i10)), (5, .int (xk + 1))]) rfl ?_
                  exact ih (k + 1) (xk + 1) (by omega) (by omega) (lp_s hx) (no_f2 hs (by rw [← hx]; exact h26))
          exact lp15 (201 + 1) 0 0 (by omega) (by omega) (nI_0.symm) (fun u h1 => absurd h1 (by omega))
        · refine g_seg [(47, .iconst (-1), 1)] 48 [(4, .ref (ad 1 i10)), (3, .ref (ad 1 i4)), (0, .ref x), (1, .int t1), (2, .int t2)] [.int (-1)] C (by decide +kernel) rfl ?_
          exact g_iretX (pc := 48) C R (⟨_, rfl, i4, i10, hi5, hn6, hi11, hn12, Or.inl ⟨Or.inr c14, rfl⟩, h⟩) (Nat.le_of_ble_eq_true rfl) (Nat.le_of_ble_eq_true rfl) (by decide +kernel)
    · refine g_seg [(11, .astore 4, 2), (13, .aload_n 3, 1)] 14 [(4, .null), (3, .ref (ad 1 i4)), (0, .ref x), (1, .int t1), (2, .int t2)] [.ref (ad 1 i4)] C (by decide +kernel) rfl ?_
      refine g_ifnull (pc := 14) (off := 8) C (by decide +kernel) ?_
      refine g_seg [(17, .aload 4, 2)] 19 [(4, .null), (3, .ref (ad 1 i4)), (0, .ref x), (1, .int t1), (2, .int t2)] [.null] C (by decide +kernel) rfl ?_
      refine g_ifnonnullN (pc := 19) (off := 13) C (by decide +kernel) ?_
      exact g_throw (pc := 22) (is := 65) (text := "no such trapeze") C R rfl ex_IOE (by decide +kernel) (⟨h, rfl, Or.inr hn12⟩) (Nat.le_of_ble_eq_true rfl) (Nat.le_of_ble_eq_true rfl) (Nat.le_of_ble_eq_true rfl) (Nat.le_of_ble_eq_true rfl) (by decide +kernel) (by decide +kernel) (by decide +kernel) (by decide +kernel) (by decide +kernel)
  · refine g_seg [(5, .astore_n 3, 1), (6, .aload_n 0, 1), (7, .iload_n 2, 1)] 8 [(3, .null), (0, .ref x), (1, .int t1), (2, .int t2)] [.int t2, .ref x] C (by decide +kernel) rfl ?_
    refine g_callV (pc := 8) C mV_X4_trapezeNumbered q82 (h.1.1) rfl rfl (c_X4_trapezeNumbered l D cy h t2) rfl ⟨⟨Nat.le_of_ble_eq_true rfl, Nat.le_of_ble_eq_true rfl⟩, Nat.le_of_ble_eq_true rfl, Nat.le_of_ble_eq_true rfl⟩ rfl (Nat.le_of_ble_eq_true rfl) (by decide +kernel) ?_
    refine g_kA (fun v29 G28 hp27 => ?_)
    obtain ⟨rfl, hp27⟩ := hp27
    rcases hp27 with ⟨i30, hi31, hn32, rfl⟩ | ⟨hn32, rfl⟩
    · refine g_seg [(11, .astore 4, 2), (13, .aload_n 3, 1)] 14 [(4, .ref (ad 1 i30)), (3, .null), (0, .ref x), (1, .int t1), (2, .int t2)] [.null] C (by decide +kernel) rfl ?_
      refine g_ifnullN (pc := 14) (off := 8) 22 C (by decide +kernel) (by decide) ?_
      exact g_throw (pc := 22) (is := 65) (text := "no such trapeze") C R rfl ex_IOE (by decide +kernel) (⟨h, rfl, Or.inl hn6⟩) (Nat.le_of_ble_eq_true rfl) (Nat.le_of_ble_eq_true rfl) (Nat.le_of_ble_eq_true rfl) (Nat.le_of_ble_eq_true rfl) (by decide +kernel) (by decide +kernel) (by decide +kernel) (by decide +kernel) (by decide +kernel)
    · refine g_seg [(11, .astore 4, 2), (13, .aload_n 3, 1)] 14 [(4, .null), (3, .null), (0, .ref x), (1, .int t1), (2, .int t2)] [.null] C (by decide +kernel) rfl ?_
      refine g_ifnullN (pc := 14) (off := 8) 22 C (by decide +kernel) (by decide) ?_
      exact g_throw (pc := 22) (is := 65) (text := "no such trapeze") C R rfl ex_IOE (by decide +kernel) (⟨h, rfl, Or.inl hn6⟩) (Nat.le_of_ble_eq_true rfl) (Nat.le_of_ble_eq_true rfl) (Nat.le_of_ble_eq_true rfl) (Nat.le_of_ble_eq_true rfl) (by decide +kernel) (by decide +kernel) (by decide +kernel) (by decide +kernel) (by decide +kernel)


set_option maxHeartbeats 4000000 in
set_option maxRecDepth 100000 in
theorem c_X4_mean (l : Launch) (D : va_G) (cy : Nat → ClassId) {G : GG} {x : Nat} {ad : Nat → Nat → Nat} {b : Int32} {nt nf nc nn : Nat} {T E Cu N KT KF KC : Rw} (h : RX cy x ad b nt nf nc nn T E Cu N KT KF KC G) : Ctr l D cy yX4_mean prog_1_method_20_code 6 (some .double) kX4_mean [.ref x] G (pD (fun v G' => v = s_mean E nf ∧ RX cy x ad b nt nf nc nn T E Cu N KT KF KC G')) := by
  refine Ctr.mk (by decide +kernel) (Nat.le_of_ble_eq_true rfl) ?_
  intro κ C R
  refine g_pc (pc' := 0) rfl ?_
  refine g_seg [(0, .iconst 0, 1), (1, .istore_n 1, 1), (2, .aload_n 0, 1)] 3 [(1, .int 0), (0, .ref x)] [.ref x] C (by decide +kernel) rfl ?_
  refine g_getf (pc := 3) (k := 1) (v := .ref (ad 0 1)) C fl_X4_17 (h.1.1) rfl (by decide +kernel) ?_
  refine g_seg [(6, .astore_n 2, 1), (7, .aload_n 2, 1)] 8 [(2, .ref (ad 0 1)), (1, .int 0), (0, .ref x)] [.ref (ad 0 1)] C (by decide +kernel) rfl ?_
  refine g_alenA (pc := 8) (len := 8) (t0 := 2) C (h.1.2.2.1) rfl (by decide +kernel) ?_
  refine g_seg [(9, .istore_n 3, 1), (10, .iconst 0, 1), (11, .istore 4, 2)] 13 [(4, .int 0), (3, .int (nI 8)), (2, .ref (ad 0 1)), (1, .int 0), (0, .ref x)] [] C (by decide +kernel) rfl ?_
  refine g_subp [4, 3, 2, 1, 0] (lv' := [(0, .ref x), (1, .int 0), (2, .ref (ad 0 1)), (3, .int (nI 8)), (4, .int 0)]) rfl ?_
  have lp1 : ∀ (m k : Nat) (s xk : Int32), 8 + 1 ≤ k + m → k ≤ 8 → xk = nI k → s = its (fun f s => s + E f 4) 0 (min k nf) → PG κ 6 0 0 G [(0, .ref x), (1, .int s), (2, .ref (ad 0 1)), (3, .int (nI 8)), (4, .int xk)] 13 [] := by
    intro m
    induction m with
    | zero => intro k s xk h1 h2; intros; exact absurd h1 (by omega)
    | succ m ih =>
      intro k s xk hm hk hx hs
      refine g_seg [(13, .iload 4, 2), (15, .iload_n 3, 1)] 16 [(0, .ref x), (1, .int s), (2, .ref (ad 0 1)), (3, .int (nI 8)), (4, .int xk)] [.int (nI 8), .int xk] C (by decide +kernel) rfl ?_
      refine g_icmp_ge (pc := 16) (off := 28) 44 C (by decide +kernel) (by decide) (fun c2 => ?_) (fun c2 => ?_)
      · have hk8 : k = 8 := by have := lp_ge hx (by omega) (by decide) c2; omega
        refine g_seg [(44, .aload_n 0, 1)] 45 [(0, .ref x), (1, .int s), (2, .ref (ad 0 1)), (3, .int (nI 8)), (4, .int xk)] [.ref x] C (by decide +kernel) rfl ?_
        refine g_getf (pc := 45) (k := 5) (v := .int (nI nf)) C fl_X4_98 (h.1.1) rfl (by decide +kernel) ?_
        refine g_if_le (pc := 48) (off := 14) 62 C (by decide +kernel) (by decide) (fun c3 => ?_) (fun c3 => ?_)
        · refine g_seg [(62, .dconst 0, 1)] 63 [(0, .ref x), (1, .int s), (2, .ref (ad 0 1)), (3, .int (nI 8)), (4, .int xk)] [.double FP.dconst0] C (by decide +kernel) rfl ?_
          exact g_dret (pc := 63) C R (⟨_, rfl, mean_0 (h.2.2.2.2.1) c3, h⟩) (Nat.le_of_ble_eq_true rfl) (Nat.le_of_ble_eq_true rfl) (by decide +kernel)
        · refine g_seg [(51, .iload_n 1, 1), (52, .i2d, 1), (53, .aload_n 0, 1)] 54 [(0, .ref x), (1, .int s), (2, .ref (ad 0 1)), (3, .int (nI 8)), (4, .int xk)] [.ref x, .double (FP.i2d s)] C (by decide +kernel) rfl ?_
          refine g_getf (pc := 54) (k := 5) (v := .int (nI nf)) C fl_X4_98 (h.1.1) rfl (by decide +kernel) ?_
          refine g_seg [(57, .i2d, 1)] 58 [(0, .ref x), (1, .int s), (2, .ref (ad 0 1)), (3, .int (nI 8)), (4, .int xk)] [.double (FP.i2d (nI nf)), .double (FP.i2d s)] C (by decide +kernel) rfl ?_
          refine g_ddiv (pc := 58) C (by decide +kernel) (dn_ok (fun h9 => c3 (by rw [h9]; decide))) ?_
          refine g_seg [(59, .goto 4, 3)] 63 [(0, .ref x), (1, .int s), (2, .ref (ad 0 1)), (3, .int (nI 8)), (4, .int xk)] [.double (FP.ddiv (FP.i2d s) (FP.i2d (nI nf)))] C (by decide +kernel) rfl ?_
          exact g_dret (pc := 63) C R (⟨_, rfl, mean_1 (its_e hs hk8 (h.2.2.2.2.1)) c3, h⟩) (Nat.le_of_ble_eq_true rfl) (Nat.le_of_ble_eq_true rfl) (by decide +kernel)
      · have hk8 : k < 8 := by have := lp_lt hx (by omega) (by decide) c2; omega
        refine g_seg [(19, .aload_n 2, 1), (20, .iload 4, 2)] 22 [(0, .ref x), (1, .int s), (2, .ref (ad 0 1)), (3, .int (nI 8)), (4, .int xk)] [.int xk, .ref (ad 0 1)] C (by decide +kernel) rfl ?_
        refine g_aaldA (pc := 22) (len := 8) (t0 := 2) (j := k) C (h.1.2.2.1) rfl (hx) (hk8) (by decide) (by decide +kernel) (fun hi4 => ?_) (fun hi4 => ?_)
        · refine g_seg [(23, .astore 5, 2), (25, .aload 5, 2)] 27 [(5, .ref (ad 2 k)), (0, .ref x), (1, .int s), (2, .ref (ad 0 1)), (3, .int (nI 8)), (4, .int xk)] [.ref (ad 2 k)] C (by decide +kernel) rfl ?_
          refine g_ifnull (pc := 27) (off := 11) C (by decide +kernel) ?_
          refine g_seg [(30, .iload_n 1, 1), (31, .aload 5, 2)] 33 [(5, .ref (ad 2 k)), (0, .ref x), (1, .int s), (2, .ref (ad 0 1)), (3, .int (nI 8)), (4, .int xk)] [.ref (ad 2 k), .int s] C (by decide +kernel) rfl ?_
          refine g_getf (pc := 33) (k := 4) (v := .int (E k 4)) C fl_X4_194 (h.2.1.2.1 k hi4) rfl (by decide +kernel) ?_
          refine g_seg [(36, .iadd, 1), (37, .istore_n 1, 1), (38, .iinc 4 1, 3), (41, .goto (-28), 3)] 13 [(4, .int (xk + 1)), (1, .int (s + (E k 4))), (5, .ref (ad 2 k)), (0, .ref x), (2, .ref (ad 0 1)), (3, .int (nI 8))] [] C (by decide +kernel) rfl ?_
          refine g_subp [3, 1, 4, 5, 0] (lv' := [(0, .ref x), (1, .int (s + (E k 4))), (2, .ref (ad 0 1)), (3, .int (nI 8)), (4, .int (xk + 1))]) rfl ?_
          exact ih (k + 1) (s + (E k 4)) (xk + 1) (by omega) (by omega) (lp_s hx) (its_y hs hi4 rfl)
        · refine g_seg [(23, .astore 5, 2), (25, .aload 5, 2)] 27 [(5, .null), (0, .ref x), (1, .int s), (2, .ref (ad 0 1)), (3, .int (nI 8)), (4, .int xk)] [.null] C (by decide +kernel) rfl ?_
          refine g_ifnullN (pc := 27) (off := 11) 38 C (by decide +kernel) (by decide) ?_
          refine g_seg [(38, .iinc 4 1, 3), (41, .goto (-28), 3)] 13 [(4, .int (xk + 1)), (5, .null), (0, .ref x), (1, .int s), (2, .ref (ad 0 1)), (3, .int (nI 8))] [] C (by decide +kernel) rfl ?_
          refine g_subp [2, 3, 4, 5, 0] (lv' := [(0, .ref x), (1, .int s), (2, .ref (ad 0 1)), (3, .int (nI 8)), (4, .int (xk + 1))]) rfl ?_
          exact ih (k + 1) s (xk + 1) (by omega) (by omega) (lp_s hx) (its_n hs hi4)
  exact lp1 (8 + 1) 0 0 0 (by omega) (by omega) (nI_0.symm) (its_0)

set_option maxHeartbeats 4000000 in
set_option maxRecDepth 100000 in
theorem c_X4_init (l : Launch) (D : va_G) (cy : Nat → ClassId) (G : GG) (x : Nat) (hX0 : G x = some (.inr (4, [.null, .null, .null, .null, .int 0, .int 0, .int 0, .int 0, .int 0]))) : Ctr l D cy yX4_init prog_1_method_1_code 1 none kX4_init [.ref x] G (pV (fun G' => ∃ ad, RX cy x ad 0 0 0 0 0 zR zR zR zR zR zR zR G')) := by
  refine Ctr.mk (by decide +kernel) (Nat.le_of_ble_eq_true rfl) ?_
  intro κ C R
  refine g_pc (pc' := 0) rfl ?_
  refine g_seg [(0, .aload_n 0, 1)] 1 [(0, .ref x)] [.ref x] C (by decide +kernel) rfl ?_
  refine g_obj (pc := 1) C q39 q40 q41 (Nat.le_of_ble_eq_true rfl) (Nat.le_of_ble_eq_true rfl) (by decide +kernel) ?_
  refine g_seg [(4, .aload_n 0, 1), (5, .bipush 6, 2)] 7 [(0, .ref x)] [.int 6, .ref x] C (by decide +kernel) rfl ?_
  refine g_anew (pc := 7) (t0 := 1) (N' := 6) C q42 (fun U h9 => h9.1) rfl (by decide) (by decide) (Nat.le_of_ble_eq_true rfl) (Nat.le_of_ble_eq_true rfl) (Nat.le_of_ble_eq_true rfl) (by decide +kernel) (fun q0 hq0 => ?_)
  refine g_abs (P := fun G9 => G9 x = some (.inr (4, [.null, .null, .null, .null, .int 0, .int 0, .int 0, .int 0, .int 0])) ∧ G9 q0 = some (.inl (cy 1, 6, .inr (.inr (.inr (.inr (fun _ => none))))))) ⟨by rw [g_up_ne (g_fresh hq0 hX0)]; exact hX0, g_up_self ..⟩ (fun Ga1 hg => ?_)
  obtain ⟨hY1, hz1_0⟩ := hg
  refine g_putF (pc := 10) (k := 0) (v := .ref q0) (ty := (.array (.object "CircusLines$Trapeze"))) C fl_X4_11 fp_X4_0 rfl (fun q hq => by cases hq; rfl) (hY1) rfl (by first | rfl | decide) (Nat.le_of_ble_eq_true rfl) (by decide +kernel) ?_
  refine g_abs (P := fun G9 => G9 x = some (.inr (4, [.ref q0, .null, .null, .null, .int 0, .int 0, .int 0, .int 0, .int 0])) ∧ G9 q0 = some (.inl (cy 1, 6, .inr (.inr (.inr (.inr (fun _ => none))))))) ⟨g_up_self .., g_oth hz1_0 hY1 (by simp)⟩ (fun Gb1 hg => ?_)
  obtain ⟨hX1, hw1_0⟩ := hg
  refine g_seg [(13, .aload_n 0, 1), (14, .bipush 8, 2)] 16 [(0, .ref x)] [.int 8, .ref x] C (by decide +kernel) rfl ?_
  refine g_anew (pc := 16) (t0 := 2) (N' := 8) C q44 (fun U h9 => h9.2.1) rfl (by decide) (by decide) (Nat.le_of_ble_eq_true rfl) (Nat.le_of_ble_eq_true rfl) (Nat.le_of_ble_eq_true rfl) (by decide +kernel) (fun q1 hq1 => ?_)
  refine g_abs (P := fun G9 => G9 x = some (.inr (4, [.ref q0, .null, .null, .null, .int 0, .int 0, .int 0, .int 0, .int 0])) ∧ G9 q0 = some (.inl (cy 1, 6, .inr (.inr (.inr (.inr (fun _ => none)))))) ∧ G9 q1 = some (.inl (cy 2, 8, .inr (.inr (.inr (.inr (fun _ => none))))))) ⟨by rw [g_up_ne (g_fresh hq1 hX1)]; exact hX1, by rw [g_up_ne (g_fresh hq1 hw1_0)]; exact hw1_0, g_up_self ..⟩ (fun Ga2 hg => ?_)
  obtain ⟨hY2, hz2_0, hz2_1⟩ := hg
  refine g_putF (pc := 19) (k := 1) (v := .ref q1) (ty := (.array (.object "CircusLines$Flyer"))) C fl_X4_17 fp_X4_1 rfl (fun q hq => by cases hq; rfl) (hY2) rfl (by first | rfl | decide) (Nat.le_of_ble_eq_true rfl) (by decide +kernel) ?_
  refine g_abs (P := fun G9 => G9 x = some (.inr (4, [.ref q0, .ref q1, .null, .null, .int 0, .int 0, .int 0, .int 0, .int 0])) ∧ G9 q0 = some (.inl (cy 1, 6, .inr (.inr (.inr (.inr (fun _ => none)))))) ∧ G9 q1 = some (.inl (cy 2, 8, .inr (.inr (.inr (.inr (fun _ => none))))))) ⟨g_up_self .., g_oth hz2_0 hY2 (by simp), g_oth hz2_1 hY2 (by simp)⟩ (fun Gb2 hg => ?_)
  obtain ⟨hX2, hw2_0, hw2_1⟩ := hg
  refine g_seg [(22, .aload_n 0, 1), (23, .bipush 20, 2)] 25 [(0, .ref x)] [.int 20, .ref x] C (by decide +kernel) rfl ?_
  refine g_anew (pc := 25) (t0 := 3) (N' := 20) C q46 (fun U h9 => h9.2.2.1) rfl (by decide) (by decide) (Nat.le_of_ble_eq_true rfl) (Nat.le_of_ble_eq_true rfl) (Nat.le_of_ble_eq_true rfl) (by decide +kernel) (fun q2 hq2 => ?_)
  refine g_abs (P := fun G9 => G9 x = some (.inr (4, [.ref q0, .ref q1, .null, .null, .int 0, .int 0, .int 0, .int 0, .int 0])) ∧ G9 q0 = some (.inl (cy 1, 6, .inr (.inr (.inr (.inr (fun _ => none)))))) ∧ G9 q1 = some (.inl (cy 2, 8, .inr (.inr (.inr (.inr (fun _ => none)))))) ∧ G9 q2 = some (.inl (cy 3, 20, .inr (.inr (.inr (.inr (fun _ => none))))))) ⟨by rw [g_up_ne (g_fresh hq2 hX2)]; exact hX2, by rw [g_up_ne (g_fresh hq2 hw2_0)]; exact hw2_0, by rw [g_up_ne (g_fresh hq2 hw2_1)]; exact hw2_1, g_up_self ..⟩ (fun Ga3 hg => ?_)
  obtain ⟨hY3, hz3_0, hz3_1, hz3_2⟩ := hg
  refine g_putF (pc := 28) (k := 2) (v := .ref q2) (ty := (.array (.object "CircusLines$Cue"))) C fl_X4_23 fp_X4_2 rfl (fun q hq => by cases hq; rfl) (hY3) rfl (by first | rfl | decide) (Nat.le_of_ble_eq_true rfl) (by decide +kernel) ?_
  refine g_abs (P := fun G9 => G9 x = some (.inr (4, [.ref q0, .ref q1, .ref q2, .null, .int 0, .int 0, .int 0, .int 0, .int 0])) ∧ G9 q0 = some (.inl (cy 1, 6, .inr (.inr (.inr (.inr (fun _ => none)))))) ∧ G9 q1 = some (.inl (cy 2, 8, .inr (.inr (.inr (.inr (fun _ => none)))))) ∧ G9 q2 = some (.inl (cy 3, 20, .inr (.inr (.inr (.inr (fun _ => none))))))) ⟨g_up_self .., g_oth hz3_0 hY3 (by simp), g_oth hz3_1 hY3 (by simp), g_oth hz3_2 hY3 (by simp)⟩ (fun Gb3 hg => ?_)
  obtain ⟨hX3, hw3_0, hw3_1, hw3_2⟩ := hg
  refine g_seg [(31, .aload_n 0, 1), (32, .iconst 3, 1)] 33 [(0, .ref x)] [.int 3, .ref x] C (by decide +kernel) rfl ?_
  refine g_anew (pc := 33) (t0 := 4) (N' := 3) C q48 (fun U h9 => h9.2.2.2.1) rfl (by decide) (by decide) (Nat.le_of_ble_eq_true rfl) (Nat.le_of_ble_eq_true rfl) (Nat.le_of_ble_eq_true rfl) (by decide +kernel) (fun q3 hq3 => ?_)
  refine g_abs (P := fun G9 => G9 x = some (.inr (4, [.ref q0, .ref q1, .ref q2, .null, .int 0, .int 0, .int 0, .int 0, .int 0])) ∧ G9 q0 = some (.inl (cy 1, 6, .inr (.inr (.inr (.inr (fun _ => none)))))) ∧ G9 q1 = some (.inl (cy 2, 8, .inr (.inr (.inr (.inr (fun _ => none)))))) ∧ G9 q2 = some (.inl (cy 3, 20, .inr (.inr (.inr (.inr (fun _ => none)))))) ∧ G9 q3 = some (.inl (cy 4, 3, .inr (.inr (.inr (.inr (fun _ => none))))))) ⟨by rw [g_up_ne (g_fresh hq3 hX3)]; exact hX3, by rw [g_up_ne (g_fresh hq3 hw3_0)]; exact hw3_0, by rw [g_up_ne (g_fresh hq3 hw3_1)]; exact hw3_1, by rw [g_up_ne (g_fresh hq3 hw3_2)]; exact hw3_2, g_up_self ..⟩ (fun Ga4 hg => ?_)
  obtain ⟨hY4, hz4_0, hz4_1, hz4_2, hz4_3⟩ := hg
  refine g_putF (pc := 36) (k := 3) (v := .ref q3) (ty := (.array (.object "CircusLines$Net"))) C fl_X4_29 fp_X4_3 rfl (fun q hq => by cases hq; rfl) (hY4) rfl (by first | rfl | decide) (Nat.le_of_ble_eq_true rfl) (by decide +kernel) ?_
  refine g_abs (P := fun G9 => G9 x = some (.inr (4, [.ref q0, .ref q1, .ref q2, .ref q3, .int 0, .int 0, .int 0, .int 0, .int 0])) ∧ G9 q0 = some (.inl (cy 1, 6, .inr (.inr (.inr (.inr (fun _ => none)))))) ∧ G9 q1 = some (.inl (cy 2, 8, .inr (.inr (.inr (.inr (fun _ => none)))))) ∧ G9 q2 = some (.inl (cy 3, 20, .inr (.inr (.inr (.inr (fun _ => none)))))) ∧ G9 q3 = some (.inl (cy 4, 3, .inr (.inr (.inr (.inr (fun _ => none))))))) ⟨g_up_self .., g_oth hz4_0 hY4 (by simp), g_oth hz4_1 hY4 (by simp), g_oth hz4_2 hY4 (by simp), g_oth hz4_3 hY4 (by simp)⟩ (fun Gb4 hg => ?_)
  obtain ⟨hX4, hw4_0, hw4_1, hw4_2, hw4_3⟩ := hg
  exact g_vret (pc := 39) C R (⟨rfl, _, RX_zero hX4 hw4_0 hw4_1 hw4_2 hw4_3⟩) (Nat.le_of_ble_eq_true rfl) (Nat.le_of_ble_eq_true rfl) (by decide +kernel)
end
section
theorem nI_ge0 {n : Nat} (h : n < 100000) : ¬ nI n < 0 := Int32.not_lt.mpr (nI_pos' (by omega))
/-! rows that the law of its own wants beside the class's -/
section PGM
variable {κ : Kx} {l0 : Launch} {D0 : va_G} {cy0 : Nat → ClassId} {y y' : MethodName} {nL ce sl n' index k : Nat} {cc b' : ByteArray} {rm rm' : Room} {ret ret' : Option FieldType} {G : GG} {lv : LV} {pc : Nat} {st rest As : List Value} {a : Nat} {post : Option Value → GG → Prop}
theorem g_ialdM {n : Nat} {f : Nat → Int32} {x : Int32} (j : Nat) (v : Int32) (C : g_OK κ l0 D0 cy0 y nL cc rm ret) (ha : G a = some (.inl (cy0 0, n, .inl f))) (hx : x = nI j) (hj : j < n) (hn : n < 2 ^ 31) (hv : f j = v) (hd : decode cc pc = .ok (.iaload, 1)) (kk : PG κ nL ce sl G lv (pc + 1) (.int v :: rest)) : PG κ nL ce sl G lv pc (.int x :: .ref a :: rest) := by
  refine g_iald C ha (by rw [hx]; exact vp_in_nI hj hn) hd ?_
  rw [hx, nI_clamp (by omega), hv]
  exact kk
theorem g_iastM {n : Nat} {f : Nat → Int32} {x z : Int32} (j : Nat) (f' : Nat → Int32) (C : g_OK κ l0 D0 cy0 y nL cc rm ret) (ha : G a = some (.inl (cy0 0, n, .inl f))) (hx : x = nI j) (hj : j < n) (hn : n < 2 ^ 31) (hv : upd f j z = f') (hd : decode cc pc = .ok (.iastore, 1)) (kk : PG κ nL ce sl (g_up G a (.inl (cy0 0, n, .inl f'))) lv (pc + 1) rest) : PG κ nL ce sl G lv pc (.int z :: .int x :: .ref a :: rest) := by
  refine g_iast C ha (by rw [hx]; exact vp_in_nI hj hn) hd ?_
  rw [hx, nI_clamp (by omega), hv]
  exact kk
theorem g_anewA {N' : Nat} {n : Int32} (C : g_OK κ l0 D0 cy0 y nL cc rm ret) (hcl : Cond.classLink y.cls index "[I" ∈ lw_T) (hn : ¬ n < 0) (hN : n.toNatClampNeg = N') (hbytes : N' * 4 ≤ 536870912) (hcells : ce + 1 ≤ rm.cells) (hslots : sl + N' ≤ rm.slots) (hd : decode cc pc = .ok (.anewarray index, 3))
    (kk : ∀ q, G q = none → PG κ nL (ce + 1) (sl + N') (g_up G q (.inl (cy0 5, N', .inr (.inr (.inr (.inr (fun _ => none))))))) lv (pc + 3) (.ref q :: rest)) : PG κ nL ce sl G lv pc (.int n :: rest) := by
  obtain ⟨p, l, e, R, s, m, args, below, meth, c, D, cy, A, H0, Q⟩ := κ
  obtain ⟨⟨-, rfl, rfl⟩, h0, hb, hml, hown, hT, hK, hA, rfl, -⟩ := C
  subst hN
  intro H locs ls hw hl
  have e1 : (FieldType.array .int).toString = "[I" := by decide +kernel
  have hover : (Cond.arrayOver (.array .int)).before args s = true := hK.2.2.2.2.2.1
  refine W.anewA (t := .int) h0 hb hown (by rw [e1]; exact hT _ hcl) hover rfl hd rfl hn hbytes hcells hslots fun cA1 kA comp f1 f2 f3 f4 => ?_
  have r4 : s.vm.findClass ("[" ++ (FieldType.array .int).toString) = some (cy 5) := (hK.1.2 5 _ rfl).2
  cases Option.some.inj (f1.symm.trans r4)
  generalize hH1 : H.push ({ cls := cy 5, slots := Array.replicate n.toNatClampNeg .null, vm := .none } : Cell) = H1
  have z1 : H1.size = H.size + 1 := by rw [← hH1, Array.size_push]
  have e2 : H1[H.size]? = some (arrV (cy 5) n.toNatClampNeg (fun _ => .null)) := by rw [← hH1, Array.getElem?_push_size, ← arrV_new]
  have o1 : ∀ q : Nat, q < H.size → H1[q]? = H[q]? := fun q hq => by rw [← hH1, Array.getElem?_push, if_neg (Nat.ne_of_lt hq)]
  have he : va_at D vwCl (H.size, .inl (cy 5, n.toNatClampNeg, .inr (.inr (.inr (.inr (fun _ => none)))))) H1 := by
    show H1[H.size]? = some (vp_cell _ _)
    rw [vp_cell_q]
    exact e2
  obtain ⟨hn0, hw1⟩ := g_wnew hA hw he z1 o1
  exact kk H.size hn0 H1 locs ls hw1 hl
theorem g_aastI {n v n2 j : Nat} {f : Nat → Option Nat} {g : Nat → Int32} {i : Int32} (C : g_OK κ l0 D0 cy0 y nL cc rm ret) (ha : G a = some (.inl (cy0 5, n, .inr (.inr (.inr (.inr f)))))) (hv : G v = some (.inl (cy0 0, n2, .inl g))) (hi : i = nI j) (hj : j < n) (hn : n < 1000) (hd : decode cc pc = .ok (.aastore, 1)) (kk : PG κ nL ce sl (g_up G a (.inl (cy0 5, n, .inr (.inr (.inr (.inr (va_up f j (some v)))))))) lv (pc + 1) rest) : PG κ nL ce sl G lv pc (.ref v :: .int i :: .ref a :: rest) := by
  obtain ⟨p, l, e, R, s, m, args, below, meth, c, D, cy, A, H0, Q⟩ := κ
  obtain ⟨⟨-, rfl, rfl⟩, h0, hb, hml, hown, hT, hK, hA, rfl, -⟩ := C
  intro H locs ls hw hl
  have ei : i.toNatClampNeg = j := by rw [hi]; exact nI_clamp (by omega)
  have e1 : "[" ++ FieldType.int.toString = "[I" := by decide +kernel
  have e3 : (FieldType.array .int).toString = "[I" := by decide +kernel
  have hnm : s.vm.findClass "[I" = some (cy 0) := by have := (hK.1.2 0 _ rfl).2; rw [← e1]; exact this
  have r4 : s.vm.findClass ("[" ++ (FieldType.array .int).toString) = some (cy 5) := (hK.1.2 5 _ rfl).2
  have hover : (Cond.arrayOver (.array .int)).before args s = true := hK.2.2.2.2.2.1
  obtain ⟨comp, cc9, k, k1, -, k3, k4, k5⟩ := arrayOverA_spec hover
  rw [e3, hnm] at k1
  cases k1
  cases Option.some.inj (k5.symm.trans r4)
  obtain ⟨kC, hkC, -⟩ := Vm.findClass_spec hnm
  have hat : H[a]? = some (arrV (cy 5) n (fun j => va_rf (f j))) := (hw.1 a _ ha).1
  have hav : H[v]? = some (arrV (cy 0) n2 (fun j => .int (g j))) := (hw.1 v _ hv).1
  refine W.aast h0 hb hat (fun q h => by cases h) (fun h => by cases h) k3 k4 rfl hkC ⟨by rw [hi]; exact nI_ge0 (by omega), by rw [arrV_size, ei]; exact hj⟩ hav (fun q h => by cases h) hkC (va_asg _ _) rfl rfl hd fun H1 e2 z o => ?_
  refine kk H1 _ ls (g_wput hw ha ?_ z o) hl
  show H1[a]? = some (arrV (cy 5) n (fun q => va_rf (va_up f j (some v) q)))
  rw [e2, arrV_store, ei]
  congr 2
  funext q
  by_cases hq : q = j
  · subst hq; simp [updV, va_up, va_rf]
  · simp [updV, va_up, hq]
theorem g_aaldI {n j : Nat} {f : Nat → Option Nat} {i : Int32} {v : Nat} (C : g_OK κ l0 D0 cy0 y nL cc rm ret) (ha : G a = some (.inl (cy0 5, n, .inr (.inr (.inr (.inr f)))))) (hi : i = nI j) (hj : j < n) (hn : n < 1000) (hf : f j = some v) (hd : decode cc pc = .ok (.aaload, 1)) (kk : PG κ nL ce sl G lv (pc + 1) (.ref v :: rest)) : PG κ nL ce sl G lv pc (.int i :: .ref a :: rest) := by
  obtain ⟨p, l, e, R, s, m, args, below, meth, c, D, cy, A, H0, Q⟩ := κ
  obtain ⟨⟨-, rfl, rfl⟩, h0, hb, hml, hown, hT, hK, hA, rfl, -⟩ := C
  intro H locs ls hw hl
  have ei : i.toNatClampNeg = j := by rw [hi]; exact nI_clamp (by omega)
  have hat : H[a]? = some (arrV (cy 5) n (fun j => va_rf (f j))) := (hw.1 a _ ha).1
  refine W.aald (v := .ref v) (ty := .array .int) h0 hb hat ((hK.1.2 5 _ rfl).1 n (fun j => va_rf (f j))) rfl (fun q => by cases q) (by rw [arrV_size, hi]; exact vp_in_nI hj (by omega)) (by rw [ei, arrV_read _ _ hj, hf]; rfl) rfl rfl hd (kk H locs ls hw hl)
end PGM
theorem in_ix0 {n : Int32} {k : Nat} (hk2 : k < 1000) (h : 0 ≤ n ∧ n ≤ nI k - 1) : ∃ j, j < k ∧ n = nI j := by
  rcases Nat.eq_zero_or_pos k with rfl | hk
  · exfalso
    obtain ⟨h1, h2⟩ := h
    have e : nI 0 - 1 = -1 := by decide
    rw [e] at h2
    rw [Int32.le_iff_toInt_le] at h1 h2
    have e1 : (-1 : Int32).toInt = -1 := by decide
    rw [Int32.toInt_zero] at h1
    omega
  · exact in_ix hk hk2 h
theorem in_nix0 {n : Int32} {k : Nat} (hk2 : k < 1000) (h : ¬ (0 ≤ n ∧ n ≤ nI k - 1)) : ∀ j, j < k → n ≠ nI j := fun j hj => in_nix (by omega) hk2 h j hj
theorem cntU_y {s : Int32} {p : Nat → Bool} {k : Nat} (hs : s = nI (cnt p k)) (hp : p k = true) : s + 1 = nI (cnt p (k + 1)) := by
  rw [hs]; simp only [cnt, hp, if_true]; exact nI_1 _
theorem cntU_n {s : Int32} {p : Nat → Bool} {k : Nat} (hs : s = nI (cnt p k)) (hp : p k = false) : s + 0 = nI (cnt p (k + 1)) := by
  rw [hs]; simp [cnt, hp]

def jd (G' G1 G : GG) : GG := fun a => match G1 a with
  | none => (match G a with
    | some e => some e
    | none => G' a)
  | some _ => G' a
def fr (G1 G G' G2 : GG) : Prop := (∀ a e, G' a = some e → G2 a = some e) ∧ (∀ a e, G a = some e → G1 a = none → G2 a = some e) ∧ ∀ a e, G' a = some e → (∃ e1, G1 a = some e1) ∨ G a = none
theorem g_Amono {G1 G : GG} {sz : Nat} (hs : ∀ a e, G1 a = some e → G a = some e) : ∀ q, g_A G1 sz q → g_A G sz q := fun q hq => hq.imp (fun h => h.elim fun e he => ⟨e, hs q e he⟩) id
theorem g_frj {D : va_G} {G1 G G' : GG} {sz : Nat} {st t : State} (hs : ∀ a e, G1 a = some e → G a = some e) (hP : ∀ a e, G a = some e → va_at D vwCl (a, e) st.heap) (hsz : st.heap.size = sz) (hG : ∀ a e, G' a = some e → va_at D vwCl (a, e) t.heap ∧ g_A G1 sz a) (hF : va_F (g_A G1 sz) st t) :
    fr G1 G G' (jd G' G1 G) ∧ (∀ a e, jd G' G1 G a = some e → va_at D vwCl (a, e) t.heap ∧ g_A G sz a) ∧ va_F (g_A G sz) st t := by
  refine ⟨⟨fun a e ha => ?_, fun a e ha h1 => ?_, fun a e ha => ?_⟩, fun a e ha => ?_, hF.1, fun q h1 h2 => hF.2 q h1 (fun z => h2 (g_Amono hs q z))⟩
  · unfold jd
    cases h1 : G1 a with
    | some e1 => exact ha
    | none =>
      cases h2 : G a with
      | none => exact ha
      | some e2 =>
        exfalso
        rcases (hG a e ha).2 with ⟨e3, h3⟩ | h3
        · rw [h1] at h3; cases h3
        · have := (hP a e2 h2).lt
          rw [hsz] at this
          exact absurd h3 (Nat.not_le.mpr this)
  · unfold jd; rw [h1]; simp only [ha]
  · rcases (hG a e ha).2 with h3 | h3
    · exact Or.inl h3
    · cases h2 : G a with
      | none => exact Or.inr rfl
      | some e2 =>
        have := (hP a e2 h2).lt
        rw [hsz] at this
        exact absurd h3 (Nat.not_le.mpr this)
  · unfold jd at ha
    cases h1 : G1 a with
    | some e1 => rw [h1] at ha; exact ⟨(hG a e ha).1, g_Amono hs a (hG a e ha).2⟩
    | none =>
      rw [h1] at ha
      cases h2 : G a with
      | none => rw [h2] at ha; exact ⟨(hG a e ha).1, g_Amono hs a (hG a e ha).2⟩
      | some e2 =>
        rw [h2] at ha
        cases ha
        have h3 := (hP a e h2).lt
        refine ⟨(hP a e h2).kept (hF.2 a h3 (fun z => ?_)), Or.inl ⟨e, h2⟩⟩
        rcases z with ⟨e4, h4⟩ | h4
        · rw [h1] at h4; cases h4
        · rw [hsz] at h3; exact absurd h4 (Nat.not_le.mpr h3)
theorem Ctr.frame {l : Launch} {D : va_G} {cy : Nat → ClassId} {y : MethodName} {b : ByteArray} {n : Nat} {ret : Option FieldType} {rm : Room} {av : List Value} {G1 G : GG} {post : Option Value → GG → Prop} (h : Ctr l D cy y b n ret rm av G1 post) (hs : ∀ a e, G1 a = some e → G a = some e) : Ctr l D cy y b n ret rm av G (fun r G2 => ∃ G', post r G' ∧ fr G1 G G' G2) := by
  intro sz p e ha hf hc s m args below hfr hap hP hK
  obtain ⟨hv, hsz, hat, hKK⟩ := hP
  obtain ⟨k, o, q1, q2, q3, ⟨⟨r, G', ho, hp, hG⟩, hF⟩, L, q4, q5⟩ := h sz p e ha hf hc s m args below hfr hap ⟨hv, hsz, fun a e h1 => hat a e (hs a e h1), hKK⟩ hK
  obtain ⟨j1, j2, j3⟩ := g_frj hs hat hsz hG hF
  exact ⟨k, o, q1, q2, q3, ⟨⟨r, _, ho, ⟨G', hp, j1⟩, j2⟩, j3⟩, L, q4, fun q hq => g_Amono hs _ (q5 q hq)⟩
section PGJ
variable {κ : Kx} {nL ce sl : Nat} {lv : LV} {pc : Nat} {rest : List Value}
theorem g_kVj {G1 G : GG} {P : GG → Prop} (k : ∀ G' G2, P G' → fr G1 G G' G2 → PG κ nL ce sl G2 lv pc rest) : ∀ r G2, (∃ G', pV P r G' ∧ fr G1 G G' G2) → PG κ nL ce sl G2 lv pc (r.toList ++ rest) := by
  rintro r G2 ⟨G', ⟨rfl, hp⟩, hf⟩
  exact k G' G2 hp hf
end PGJ
/-! contracts of methods that call what may throw, and never throw themselves -/
def CtrN (l : Launch) (D : va_G) (cy : Nat → ClassId) (y : MethodName) (b : ByteArray) (n : Nat) (ret : Option FieldType) (rm : Room) (av : List Value) (G : GG) (post : Option Value → GG → Prop) : Prop :=
  ∀ sz, Met l y (wsU y b n ret) rm (g_PcX l D cy G sz av) (g_Qc D (g_A G sz) post) rm.cells rm.slots (g_A G sz)
section CTN
variable {l : Launch} {D : va_G} {cy : Nat → ClassId} {y : MethodName} {b : ByteArray} {n : Nat} {ret : Option FieldType} {rm : Room} {av : List Value} {G G1 : GG} {post : Option Value → GG → Prop} {px : String → GG → Prop}
theorem Ctr.toN (h : Ctr l D cy y b n ret rm av G post) : CtrN l D cy y b n ret rm av G post := by
  intro sz p e ha hf hc s m args below hfr hap hP hK
  obtain ⟨hv, hsz, hat, hKK, -⟩ := hP
  exact h sz p e ha hf hc s m args below hfr hap ⟨hv, hsz, hat, hKK⟩ hK
theorem CtrX.no (h : CtrX l D cy y b n ret rm av G post px) (hp : ∀ E G', ¬ px E G') : CtrN l D cy y b n ret rm av G post := by
  intro sz p e ha hf hc s m args below hfr hap hP hK
  obtain ⟨k, o, q1, q2, q3, q4⟩ := h sz p e ha hf hc s m args below hfr hap hP hK
  refine ⟨k, o, q1, q2, q3, ?_⟩
  rcases q4 with h1 | ⟨q, -, E, ce, L, ⟨G', h9, -⟩, -⟩
  · exact h1
  · exact absurd h9 (hp E G')
theorem CtrN.frame (h : CtrN l D cy y b n ret rm av G1 post) (hs : ∀ a e, G1 a = some e → G a = some e) : CtrN l D cy y b n ret rm av G (fun r G2 => ∃ G', post r G' ∧ fr G1 G G' G2) := by
  intro sz p e ha hf hc s m args below hfr hap hP hK
  obtain ⟨hv, hsz, hat, hKK, hXF⟩ := hP
  obtain ⟨k, o, q1, q2, q3, ⟨⟨r, G', ho, hp, hG⟩, hF⟩, L, q4, q5⟩ := h sz p e ha hf hc s m args below hfr hap ⟨hv, hsz, fun a e h1 => hat a e (hs a e h1), hKK, hXF.1, hXF.2.1, hXF.2.2.1, hXF.2.2.2.1.narrow (g_Amono hs), hXF.2.2.2.2.narrow (g_Amono hs)⟩ hK
  obtain ⟨j1, j2, j3⟩ := g_frj hs hat hsz hG hF
  exact ⟨k, o, q1, q2, q3, ⟨⟨r, _, ho, ⟨G', hp, j1⟩, j2⟩, j3⟩, L, q4, fun q hq => g_Amono hs _ (q5 q hq)⟩
theorem CtrN.mono {post' : Option Value → GG → Prop} (h : CtrN l D cy y b n ret rm av G post) (hp : ∀ r G', post r G' → post' r G') : CtrN l D cy y b n ret rm av G post' := by
  intro sz p e ha hf hc s m args below hfr hap hP hK
  obtain ⟨k, o, q1, q2, q3, ⟨⟨r, G', ho, hp1, hG⟩, hF⟩, L, q4, q5⟩ := h sz p e ha hf hc s m args below hfr hap hP hK
  exact ⟨k, o, q1, q2, q3, ⟨⟨r, G', ho, hp r G' hp1, hG⟩, hF⟩, L, q4, q5⟩
def g_XX (κ : Kx) : Prop :=
  match κ with
  | (_, l, _, _, s, _, _, _, _, _, _, _, A, H0, _) => g_XF l A s H0
theorem CtrN.mk (hy : plainName y.cls = true) (hn : (lg_sl av).length ≤ n)
    (body : ∀ κ : Kx, g_OK κ l D cy y n b rm ret → g_RT κ post rm → g_XX κ → PG κ n 0 0 G (lv_args 0 av) 0 []) : CtrN l D cy y b n ret rm av G post := by
  intro sz
  refine Met.ofW (cc := b) (maxL := n) (ret := ret) hy rfl ?_
  intro p e s m args below meth c s₁ B hml hv
  obtain ⟨rfl, hsz, hP, hK, hF⟩ := hv
  have hts := atoms_spec (ws := wsU y b n ret) B.pre
  subst hsz
  have hb := body (p, l, e, rm, s, m, av.toArray, below, meth, c, D, cy, g_A G s.heap.size, s.heap, MQ below (g_Qc D (g_A G s.heap.size) post) av.toArray s rm.cells rm.slots (g_A G s.heap.size))
    ⟨⟨rfl, rfl, rfl⟩, B.exec, B.bytes, hml, findClass_of_methodNamed B.named, fun w hw => hts w (List.mem_cons_of_mem _ hw), hK, fun q h => Or.inr h, rfl, B.returns, B.notSynchronized, (name_of_methodNamed B.named B.method).1⟩ ⟨rfl, rfl⟩ hF
  have hl := lv_entry av hn
  rw [lg_entry_eq]
  exact hb s.heap [] _ ⟨fun a e h => ⟨hP a e h, Or.inl ⟨e, h⟩⟩, va_S.rf⟩ hl
end CTN
def g_SC (κ : Kx) (b L : Nat) (xs : Nat → Int32) : Prop :=
  match κ with
  | (_, _, _, _, s, _, _, _, _, _, _, _, A, H0, _) => va_X b L xs s H0 ∧ b < H0.size ∧ ¬ A b
theorem mo_outer (c : ClassId) (N h0 : Nat) : ∀ i : Nat, Jvm.Free.Multi.outerC c N h0 i = arrV c N (fun j => va_rf (if j < i then some (h0 + 1 + j) else none))
  | 0 => by
    show ({ cls := c, slots := Array.replicate N .null, vm := .none } : Cell) = _
    rw [arrV_new]
    refine congrArg (arrV c N) (funext fun j => ?_)
    simp [va_rf]
  | i + 1 => by
    show (Jvm.Free.Multi.outerC c N h0 i).setSlot i (.ref (h0 + 1 + i)) = _
    rw [mo_outer c N h0 i, arrV_store]
    refine congrArg (arrV c N) (funext fun j => ?_)
    by_cases e : j = i
    · subst e
      simp [updV, va_rf]
    · by_cases h : j < i
      · simp [updV, e, h, Nat.lt_succ_of_lt h]
      · simp [updV, e, h, show ¬ j < i + 1 by omega]
section PGN
variable {κ : Kx} {l0 : Launch} {D0 : va_G} {cy0 : Nat → ClassId} {y y' : MethodName} {nL ce sl n' index k : Nat} {cc b' : ByteArray} {rm rm' : Room} {ret ret' : Option FieldType} {G : GG} {lv : LV} {pc : Nat} {st rest As : List Value} {a : Nat} {post : Option Value → GG → Prop}
theorem g_callVN {ci : Nat} {fs : List Value} {q : vw_C} (C : g_OK κ l0 D0 cy0 y nL cc rm ret) (hX : g_XX κ) (hm : g_mV y' b' n' ret' k) (hlink : Cond.methodLink y.cls index y' ∈ lw_T) (ha : G a = some (.inr (ci, fs))) (hc : vwCl[ci]? = some q) (hq : q.1 = y'.cls) (hM : CtrN l0 D0 cy0 y' b' n' ret' rm' (.ref a :: As) G post) (hn : As.length = k) (hr : g_room rm rm' n' ce sl) (hst : st = As.reverse ++ .ref a :: rest) (hcat : (rest.map fun v => v.category).sum ≤ 8) (hd : decode cc pc = .ok (.invokevirtual index, 3))
    (kk : ∀ r G', post r G' → PG κ nL (ce + rm'.cells) (sl + rm'.slots) G' lv (pc + 3) (r.toList ++ rest)) : PG κ nL ce sl G lv pc st := by
  obtain ⟨p, l, e, R, s, m, args, below, meth, c, D, cy, A, H0, Q⟩ := κ
  obtain ⟨⟨rfl, rfl, rfl⟩, h0, hb, hml, hown, hT, hK, hA, rfl, -⟩ := C
  obtain ⟨m1, m2, m3, m4, m5, m6⟩ := hm
  intro H locs ls hw hl
  have hAG : ∀ q, g_A G H.size q → A q := fun q hq => by
    rcases hq with ⟨e, he⟩ | hq
    · exact (hw.1 q e he).2
    · exact hA q (Nat.le_trans hw.2.1 hq)
  refine g_fin hA hw (va_runV (C := y'.cls) (As := As) (b := a) ⟨h0, hb, hml, hown, hT⟩ (hM H.size) ⟨g_callB hT m1 m2 m3 m4 hlink hr.1, hT _ m5, hT _ m6⟩ ⟨g_blindX l D cy G H.size _, ?_, fun U hU hW => ⟨rfl, by rw [hU], fun a e h => by rw [hU]; exact (hw.1 a e h).1, g_K.moved hW.alike hK, g_XF.moved hW (fun q h1 h2 => by rw [hU]; exact hw.2.2.1 q h1 h2) hAG hX⟩⟩ rfl hn hl.1 hst (lv_room hcat) hd hr.2) (fun r G' hp H1 locs1 hw1 => kk r G' hp H1 locs1 ls hw1 hl)
  have h9 := va_recv hK.1 (g_sP hw ha) hc (q0 := 0) rfl
  rw [hq] at h9
  exact h9
theorem g_callSN (C : g_OK κ l0 D0 cy0 y nL cc rm ret) (hX : g_XX κ) (hm : g_mS y' b' n' ret' k) (hlink : Cond.methodLink y.cls index y' ∈ lw_T) (hM : CtrN l0 D0 cy0 y' b' n' ret' rm' As G post) (hn : As.length = k) (hr : g_room rm rm' n' ce sl) (hst : st = As.reverse ++ rest) (hcat : (rest.map fun v => v.category).sum ≤ 8) (hd : decode cc pc = .ok (.invokestatic index, 3))
    (kk : ∀ r G', post r G' → PG κ nL (ce + rm'.cells) (sl + rm'.slots) G' lv (pc + 3) (r.toList ++ rest)) : PG κ nL ce sl G lv pc st := by
  obtain ⟨p, l, e, R, s, m, args, below, meth, c, D, cy, A, H0, Q⟩ := κ
  obtain ⟨⟨rfl, rfl, rfl⟩, h0, hb, hml, hown, hT, hK, hA, rfl, -⟩ := C
  obtain ⟨m1, m2, m3, m4, m5⟩ := hm
  intro H locs ls hw hl
  have hAG : ∀ q, g_A G H.size q → A q := fun q hq => by
    rcases hq with ⟨e, he⟩ | hq
    · exact (hw.1 q e he).2
    · exact hA q (Nat.le_trans hw.2.1 hq)
  exact g_fin hA hw (va_runS (As := As) ⟨h0, hb, hml, hown, hT⟩ (hM H.size) ⟨g_callB hT m1 m2 m3 m4 hlink hr.1, hT _ m5⟩ ⟨g_blindX l D cy G H.size _, fun U hU hW => ⟨rfl, by rw [hU], fun a e h => by rw [hU]; exact (hw.1 a e h).1, g_K.moved hW.alike hK, g_XF.moved hW (fun q h1 h2 => by rw [hU]; exact hw.2.2.1 q h1 h2) hAG hX⟩⟩ rfl hn hl.1 hst (lv_room hcat) hd hr.2) (fun r G' hp H1 locs1 hw1 => kk r G' hp H1 locs1 ls hw1 hl)
/-- a nest mate's own constructor -/
theorem g_callIM {host : String} (C : g_OK κ l0 D0 cy0 y nL cc rm ret) (hX : g_XX κ) (hm : g_mI y' b' n' k) (hlink : ∀ U, g_NG U → va_Nw (.methodLinkNest y.cls index y' host) U) (hM : Ctr l0 D0 cy0 y' b' n' none rm' (.ref a :: As) G post) (hn : As.length = k) (hr : g_room rm rm' n' ce sl) (hst : st = As.reverse ++ .ref a :: rest) (hcat : (rest.map fun v => v.category).sum ≤ 8) (hd : decode cc pc = .ok (.invokespecial index, 3))
    (kk : ∀ r G', post r G' → PG κ nL (ce + rm'.cells) (sl + rm'.slots) G' lv (pc + 3) (r.toList ++ rest)) : PG κ nL ce sl G lv pc st := by
  obtain ⟨p, l, e, R, s, m, args, below, meth, c, D, cy, A, H0, Q⟩ := κ
  obtain ⟨⟨rfl, rfl, rfl⟩, h0, hb, hml, hown, hT, hK, hA, rfl, -⟩ := C
  obtain ⟨m1, m2, m3, m4, m5, m6⟩ := hm
  have hN : g_NG s := hX.2.1
  intro H locs ls hw hl
  exact g_fin hA hw (va_runIN (As := As) (b := a) ⟨h0, hb, hml, hown, hT⟩ (hM H.size) ⟨⟨⟨rfl, rfl, hr.1.1, hr.1.2, pay_in hT (g_wsU m1), List.mem_cons_self⟩, hT _ m1, hT _ m2, m3, fun sig h => by rw [h] at m4; exact (Option.some.inj m4).symm, va_Nw.use rfl (hlink s hN)⟩, m6, hT _ m5⟩ ⟨g_blind D cy G H.size _, fun U hU hW => ⟨rfl, by rw [hU], fun a e h => by rw [hU]; exact (hw.1 a e h).1, g_K.moved hW.alike hK⟩⟩ rfl hn hl.1 hst (lv_room hcat) hd hr.2) (fun r G' hp H1 locs1 hw1 => kk r G' hp H1 locs1 ls hw1 hl)
/-- the script's ints -/
theorem g_sald {b L j : Nat} {xs : Nat → Int32} {i : Int32} (C : g_OK κ l0 D0 cy0 y nL cc rm ret) (hS : g_SC κ b L xs) (hi : i = nI j) (hj : j < L) (hL : L < 100000) (hd : decode cc pc = .ok (.iaload, 1)) (kk : PG κ nL ce sl G lv (pc + 1) (.int (xs j) :: rest)) : PG κ nL ce sl G lv pc (.int i :: .ref b :: rest) := by
  obtain ⟨p, l, e, R, s, m, args, below, meth, c, D, cy, A, H0, Q⟩ := κ
  obtain ⟨-, h0, hb, hml, hown, hT, hK, hA, rfl, -⟩ := C
  obtain ⟨⟨scr, s1, s2, s3, s4, s5⟩, s6, s7⟩ := hS
  intro H locs ls hw hl
  have ei : i.toNatClampNeg = j := by rw [hi]; exact nI_clamp (by omega)
  refine W.iald h0 hb (by rw [hw.2.2.1 b s6 s7]; exact s1) s2 s3 (by rw [s4, hi]; exact vp_in_nI hj (by omega)) (by rw [ei]; exact s5 j hj) rfl rfl hd (kk H locs ls hw hl)
theorem g_salen {b L : Nat} {xs : Nat → Int32} (C : g_OK κ l0 D0 cy0 y nL cc rm ret) (hS : g_SC κ b L xs) (hd : decode cc pc = .ok (.arraylength, 1)) (kk : PG κ nL ce sl G lv (pc + 1) (.int (nI L) :: rest)) : PG κ nL ce sl G lv pc (.ref b :: rest) := by
  obtain ⟨p, l, e, R, s, m, args, below, meth, c, D, cy, A, H0, Q⟩ := κ
  obtain ⟨-, h0, hb, hml, hown, hT, hK, hA, rfl, -⟩ := C
  obtain ⟨⟨scr, s1, s2, s3, s4, s5⟩, s6, s7⟩ := hS
  intro H locs ls hw hl
  exact W.alen h0 hb (by rw [hw.2.2.1 b s6 s7]; exact s1) s2 (by rw [s4]; rfl) rfl rfl hd (kk H locs ls hw hl)
theorem g_ldc {v : Int32} (C : g_OK κ l0 D0 cy0 y nL cc rm ret) (hw0 : Cond.constant y.cls index v ∈ lw_T) (hd : decode cc pc = .ok (.ldc index, 2)) (k : PG κ nL ce sl G lv (pc + 2) (.int v :: rest)) : PG κ nL ce sl G lv pc rest := by
  obtain ⟨p, l, e, R, s, m, args, below, meth, c, D, cy, A, H0, Q⟩ := κ
  obtain ⟨-, h0, hb, hml, hown, hT, -⟩ := C
  exact fun H locs ls hw hl => lv_ldc h0 hb hown (hT _ hw0) hd (k H locs ls hw hl)
theorem g_mmin {x y1 : Int32} (C : g_OK κ l0 D0 cy0 y nL cc rm ret) (h1 : Cond.methodLink y.cls index Lib.Math.min.name ∈ lw_T) (h2 : Cond.static Lib.Math.min.name ∈ lw_T) (h3 : Cond.initialized "java/lang/Math" ∈ lw_T) (h4 : Cond.code Lib.Math.min.name Lib.Math.min.code 2 (some .int) ∈ lw_T) (hf : 1 ≤ rm.frames) (hlo : (rest.map fun v => v.category).sum + 13 ≤ rm.locals) (hc : ce ≤ rm.cells) (hs : sl ≤ rm.slots) (hd : decode cc pc = .ok (.invokestatic index, 3)) (k : PG κ nL ce sl G lv (pc + 3) (.int (if y1 < x then y1 else x) :: rest)) : PG κ nL ce sl G lv pc (.int y1 :: .int x :: rest) := by
  obtain ⟨p, l, e, R, s, m, args, below, meth, c, D, cy, A, H0, Q⟩ := κ
  obtain ⟨⟨rfl, rfl, rfl⟩, h0, hb, hml, hown, hT, hK, hA, rfl, -⟩ := C
  exact fun H locs ls hw hl => va_mmin h0 hb (hml.trans hl.1.symm) hown (hT _ h1) (hT _ h2) (hT _ h3) (hT _ h4) hf hlo hc hs hd (k H locs ls hw hl)
/-- an element of a row of int arrays that is full -/
theorem g_aaldS {n j : Nat} {r : Nat → Nat} {i : Int32} (C : g_OK κ l0 D0 cy0 y nL cc rm ret) (ha : G a = some (oA (cy0 5) n r n)) (hi : i = nI j) (hj : j < n) (hn : n < 1000) (hd : decode cc pc = .ok (.aaload, 1)) (kk : PG κ nL ce sl G lv (pc + 1) (.ref (r j) :: rest)) : PG κ nL ce sl G lv pc (.int i :: .ref a :: rest) :=
  g_aaldI C ha hi hj hn (if_pos hj) hd kk
theorem g_alenI {n m : Nat} {r : Nat → Nat} (C : g_OK κ l0 D0 cy0 y nL cc rm ret) (ha : G a = some (oA (cy0 5) n r m)) (hd : decode cc pc = .ok (.arraylength, 1)) (k : PG κ nL ce sl G lv (pc + 1) (.int (nI n) :: rest)) : PG κ nL ce sl G lv pc (.ref a :: rest) :=
  g_alen (t0 := 5) C ha rfl (vp_cell_q ..) hd k
/-- new int[n][k] -/
theorem g_mnew {N K : Nat} {i j : Int32} (C : g_OK κ l0 D0 cy0 y nL cc rm ret) (hcl : Cond.classLink y.cls index "[[I" ∈ lw_T) (hac : Cond.arrayClass .int ∈ lw_T) (hi : i = nI N) (hj : j = nI K) (hN : N ≤ 100) (hK1 : K ≤ 100) (hcells : ce + (1 + N) ≤ rm.cells) (hslots : sl + (N + N * K) ≤ rm.slots) (hd : decode cc pc = .ok (.multianewarray index 2, 4))
    (kk : ∀ (q : Nat) (r : Nat → Nat) (G' : GG), (∀ a e, G a = some e → G' a = some e) → G q = none → (∀ i, i < N → G (r i) = none) → (∀ i j, i < N → j < N → r i = r j → i = j) → G' q = some (oA (cy0 5) N r N) → (∀ i, i < N → G' (r i) = some (.inl (cy0 0, K, .inl (fun _ => 0)))) → PG κ nL (ce + 1 + N) (sl + N + N * K) G' lv (pc + 4) (.ref q :: rest)) : PG κ nL ce sl G lv pc (.int j :: .int i :: rest) := by
  obtain ⟨p, l, e, R, s, m, args, below, meth, c, D, cy, A, H0, Q⟩ := κ
  obtain ⟨⟨-, rfl, rfl⟩, h0, hb, hml, hown, hT, hK, hA, rfl, -⟩ := C
  have ei : i.toNatClampNeg = N := by rw [hi]; exact nI_clamp (by omega)
  have ej : j.toNatClampNeg = K := by rw [hj]; exact nI_clamp (by omega)
  intro H locs ls hw hl
  have e1 : "[" ++ (FieldType.array .int).toString = "[[I" := by decide +kernel
  have e2 : (FieldType.array .int).toString = "[" ++ FieldType.int.toString := by decide +kernel
  have hover : (Cond.arrayOver (.array .int)).before args s = true := hK.2.2.2.2.2.1
  have r0 : s.vm.findClass ("[" ++ FieldType.int.toString) = some (cy 0) := (hK.1.2 0 _ rfl).2
  have r5 : s.vm.findClass ("[" ++ (FieldType.array .int).toString) = some (cy 5) := (hK.1.2 5 _ rfl).2
  intro T hT9 Xs
  obtain ⟨vm₁, cA, comp, -, fA, fC, hO, -, X', step⟩ := Xs.multianewarray2F (ty := .int) h0 hown (by rw [e1]; exact hT _ hcl) hover (hT _ hac) (g := F0 m pc ls (.int j :: .int i :: rest)) rfl (by rw [hb]; exact hd) rfl (by rw [hi]; exact nI_ge0 (by omega)) (by rw [hj]; exact nI_ge0 (by omega)) (by rw [ei]; omega) (by rw [ej]; exact Nat.le_trans (Nat.mul_le_mul_right _ hK1) (by decide)) (by rw [ej]; omega) rfl rfl (by rw [ei]; exact hcells) (by rw [ei, ej]; exact hslots)
  rw [ei, ej] at X' step
  rw [e2] at fC
  cases Option.some.inj (r0.symm.trans fC)
  cases Option.some.inj (r5.symm.trans fA)
  generalize hF : Jvm.Free.Multi.fill (T.setVm vm₁) (cy 5) (cy 0) N K (defaultValue .int) N = F at X' step
  have hTh : (T.setVm vm₁).heap = H := hT9
  obtain ⟨f1, f2, -, -⟩ := Jvm.Free.Multi.fill_facts (T.setVm vm₁) (cy 5) (cy 0) N K (defaultValue .int) N
  rw [hF, hTh] at f1 f2
  have hold : ∀ x : Nat, x < H.size → F.heap[x]? = H[x]? := fun x hx => by
    have := Jvm.Free.Multi.fill_old (T.setVm vm₁) (cy 5) (cy 0) N K (defaultValue .int) (a := x) (by rw [hTh]; exact hx) N
    rw [hF, hTh] at this
    exact this
  have hz : Jvm.Free.Multi.innerC (cy 0) K (defaultValue .int) = vp_cell (cy 0) (K, .inl (fun _ => 0)) := by
    show _ = arrV (cy 0) K (fun _ => .int 0)
    rw [← arrV_new]
    rfl
  have hrow : ∀ k9 : Nat, k9 < N → F.heap[H.size + 1 + k9]? = some (vp_cell (cy 0) (K, .inl (fun _ => 0))) := fun k9 hk9 => by
    have := Jvm.Free.Multi.fill_inner (T.setVm vm₁) (cy 5) (cy 0) N K (defaultValue .int) N k9 hk9
    rw [hF, hTh, hz] at this
    exact this
  have hout : Jvm.Free.Multi.outerC (cy 5) N H.size N = vp_cell (cy 5) (N, .inr (.inr (.inr (.inr (fun i => if i < N then some (H.size + 1 + i) else none))))) := by
    rw [vp_cell_q]
    exact mo_outer (cy 5) N H.size N
  rw [hout] at f2
  have hnone : ∀ q, H.size ≤ q → G q = none := fun q hq => by
    cases h : G q with
    | none => rfl
    | some e' => exact absurd (hw.1 _ e' h).1.lt (Nat.not_lt.mpr hq)
  have hG' : ∀ a e9, (if a = H.size then some (oA (cy 5) N (fun i => H.size + 1 + i) N) else if H.size < a ∧ a < H.size + 1 + N then some (.inl (cy 0, K, .inl (fun _ => 0))) else G a : Option va_E) = some e9 → va_at D vwCl (a, e9) F.heap ∧ A a := by
    intro a e9 h9
    by_cases h1 : a = H.size
    · subst h1
      rw [if_pos rfl] at h9
      cases h9
      exact ⟨f2, hA _ hw.2.1⟩
    · rw [if_neg h1] at h9
      by_cases h2 : H.size < a ∧ a < H.size + 1 + N
      · rw [if_pos h2] at h9
        cases h9
        obtain ⟨d, rfl⟩ : ∃ d, a = H.size + 1 + d := ⟨a - (H.size + 1), by omega⟩
        exact ⟨hrow d (by omega), hA _ (by have := hw.2.1; omega)⟩
      · rw [if_neg h2] at h9
        have h3 := hw.1 a e9 h9
        exact ⟨h3.1.kept (hold a h3.1.lt), h3.2⟩
  obtain ⟨t, a1, b1⟩ := kk H.size (fun i => H.size + 1 + i) (fun a => if a = H.size then some (oA (cy 5) N (fun i => H.size + 1 + i) N) else if H.size < a ∧ a < H.size + 1 + N then some (.inl (cy 0, K, .inl (fun _ => 0))) else G a)
    (fun a e9 h9 => by
      have h3 := (hw.1 a e9 h9).1.lt
      show (if a = H.size then _ else _) = _
      rw [if_neg (by omega), if_neg (by omega)]; exact h9)
    (hnone _ (Nat.le_refl _)) (fun i _ => hnone _ (show H.size ≤ H.size + 1 + i by omega)) (fun i j _ _ h => by have h9 : H.size + 1 + i = H.size + 1 + j := h; omega) (if_pos rfl)
    (fun i hi => by
      show (if H.size + 1 + i = H.size then _ else _) = _
      rw [if_neg (by omega), if_pos ⟨by omega, by omega⟩])
    F.heap locs ls ⟨hG', by rw [f1]; have := hw.2.1; omega, fun x h1 h2 => (hold x (Nat.lt_of_lt_of_le h1 hw.2.1)).trans (hw.2.2.1 x h1 h2), hw.2.2.2⟩ hl F rfl X'
  refine ⟨t, step t ?_, b1⟩
  have e9 : T.heap.size = H.size := by rw [hT9]
  rw [e9]
  exact a1
end PGN
end
section
/-! the law's own heap: Sim -/
def cut (w : Nat) (f : Nat → Int32) : Nat → Int32 := fun k => if k < w then f k else 0
def oR (c : ClassId) (w : Nat) (f : Nat → Int32) : va_E := .inl (c, w, .inl (cut w f))
def oS (rt : Nat → Nat) (b : Int32) : va_E := .inr (5, [.ref (rt 0), .ref (rt 1), .ref (rt 2), .ref (rt 3), .int b])
def RS (cy : Nat → ClassId) (s : Nat) (rt : Nat → Nat) (rd : Nat → Nat → Nat) (b : Int32) (nt nf nc nn : Nat) (S F C N : Rw) (G : GG) : Prop :=
  (G s = some (oS rt b) ∧ G (rt 0) = some (oA (cy 5) nt (rd 0) nt) ∧ G (rt 1) = some (oA (cy 5) nf (rd 1) nf) ∧ G (rt 2) = some (oA (cy 5) nc (rd 2) nc) ∧ G (rt 3) = some (oA (cy 5) nn (rd 3) nn)) ∧
  ((∀ i, i < nt → G (rd 0 i) = some (oR (cy 0) 7 (S i))) ∧ (∀ i, i < nf → G (rd 1 i) = some (oR (cy 0) 5 (F i))) ∧ (∀ i, i < nc → G (rd 2 i) = some (oR (cy 0) 5 (C i))) ∧ (∀ i, i < nn → G (rd 3 i) = some (oR (cy 0) 2 (N i)))) ∧
  ((∀ i j, i < nt → j < nt → rd 0 i = rd 0 j → i = j) ∧ (∀ i j, i < nf → j < nf → rd 1 i = rd 1 j → i = j) ∧ (∀ i j, i < nc → j < nc → rd 2 i = rd 2 j → i = j) ∧ (∀ i j, i < nf → j < nc → rd 1 i ≠ rd 2 j)) ∧ (nt ≤ 6 ∧ nf ≤ 8 ∧ nc ≤ 20 ∧ nn ≤ 3)
theorem cut_lt {w k : Nat} {f : Nat → Int32} (h : k < w) : cut w f k = f k := if_pos h
theorem cut_upd {w k i : Nat} {F : Rw} {v : Int32} (h : k < w) : upd (cut w (F i)) k v = cut w (s_set F i k v i) := by
  funext j
  unfold upd cut s_set
  by_cases hj : j = k
  · subst hj; simp [h]
  · simp [hj]
theorem cut_new {w k : Nat} {f : Nat → Int32} {v : Int32} (h : k < w) : upd (cut w f) k v = cut w (upd f k v) := by
  funext j
  unfold upd cut
  by_cases hj : j = k
  · subst hj; simp [h]
  · simp [hj]
theorem cut_0 {w : Nat} : cut w (fun _ => 0) = fun _ => 0 := by funext j; unfold cut; split <;> rfl
theorem cut_ext {w : Nat} {f g : Nat → Int32} (h : ∀ k, k < w → f k = g k) : cut w f = cut w g := by
  funext j
  unfold cut
  by_cases hj : j < w
  · rw [if_pos hj, if_pos hj, h j hj]
  · rw [if_neg hj, if_neg hj]
theorem oRw_ne {c : ClassId} {w w' : Nat} {f g : Nat → Int32} (h : w ≠ w') : oR c w f ≠ oR c w' g := by
  intro e; unfold oR at e; injection e with e1; injection e1 with _ e2; injection e2 with e3; exact h e3
theorem oR_oA {c c' : ClassId} {w n m : Nat} {f : Nat → Int32} {r : Nat → Nat} : oA c' n r m ≠ oR c w f := by
  intro e; unfold oR oA at e; injection e with e1; injection e1 with _ e2; injection e2 with _ e3; cases e3
theorem oR_oS {c : ClassId} {w : Nat} {f : Nat → Int32} {rt : Nat → Nat} {b : Int32} : oS rt b ≠ oR c w f := by
  intro e; unfold oR oS at e; cases e
section RSU
variable {cy : Nat → ClassId} {s : Nat} {rt : Nat → Nat} {rd : Nat → Nat → Nat} {b : Int32} {nt nf nc nn : Nat} {S F C N : Rw} {G : GG}
theorem RS.w0 {S' : Rw} {i : Nat} (h : RS cy s rt rd b nt nf nc nn S F C N G) (hi : i < nt) (ho : ∀ j, j ≠ i → S' j = S j) : RS cy s rt rd b nt nf nc nn S' F C N (g_up G (rd 0 i) (oR (cy 0) 7 (S' i))) := by
  obtain ⟨⟨h1, h2, h3, h4, h5⟩, ⟨k0, k1, k2, k3⟩, ⟨i0, i1, i2, i12⟩, hb⟩ := h
  have ha := k0 i hi
  refine ⟨⟨g_oth h1 ha oR_oS, g_oth h2 ha oR_oA, g_oth h3 ha oR_oA, g_oth h4 ha oR_oA, g_oth h5 ha oR_oA⟩, ⟨?_, fun j hj => g_oth (k1 j hj) ha (oRw_ne (by decide)), fun j hj => g_oth (k2 j hj) ha (oRw_ne (by decide)), fun j hj => g_oth (k3 j hj) ha (oRw_ne (by decide))⟩, ⟨i0, i1, i2, i12⟩, hb⟩
  intro j hj
  by_cases hji : j = i
  · subst hji; exact g_up_self ..
  · rw [g_up_ne (fun q => hji (i0 j i hj hi q)), k0 j hj, ho j hji]
theorem RS.w1 {F' : Rw} {i : Nat} (h : RS cy s rt rd b nt nf nc nn S F C N G) (hi : i < nf) (ho : ∀ j, j ≠ i → F' j = F j) : RS cy s rt rd b nt nf nc nn S F' C N (g_up G (rd 1 i) (oR (cy 0) 5 (F' i))) := by
  obtain ⟨⟨h1, h2, h3, h4, h5⟩, ⟨k0, k1, k2, k3⟩, ⟨i0, i1, i2, i12⟩, hb⟩ := h
  have ha := k1 i hi
  refine ⟨⟨g_oth h1 ha oR_oS, g_oth h2 ha oR_oA, g_oth h3 ha oR_oA, g_oth h4 ha oR_oA, g_oth h5 ha oR_oA⟩, ⟨fun j hj => g_oth (k0 j hj) ha (oRw_ne (by decide)), ?_, fun j hj => by rw [g_up_ne (fun q => i12 i j hi hj q.symm)]; exact k2 j hj, fun j hj => g_oth (k3 j hj) ha (oRw_ne (by decide))⟩, ⟨i0, i1, i2, i12⟩, hb⟩
  intro j hj
  by_cases hji : j = i
  · subst hji; exact g_up_self ..
  · rw [g_up_ne (fun q => hji (i1 j i hj hi q)), k1 j hj, ho j hji]
theorem RS.w2 {C' : Rw} {i : Nat} (h : RS cy s rt rd b nt nf nc nn S F C N G) (hi : i < nc) (ho : ∀ j, j ≠ i → C' j = C j) : RS cy s rt rd b nt nf nc nn S F C' N (g_up G (rd 2 i) (oR (cy 0) 5 (C' i))) := by
  obtain ⟨⟨h1, h2, h3, h4, h5⟩, ⟨k0, k1, k2, k3⟩, ⟨i0, i1, i2, i12⟩, hb⟩ := h
  have ha := k2 i hi
  refine ⟨⟨g_oth h1 ha oR_oS, g_oth h2 ha oR_oA, g_oth h3 ha oR_oA, g_oth h4 ha oR_oA, g_oth h5 ha oR_oA⟩, ⟨fun j hj => g_oth (k0 j hj) ha (oRw_ne (by decide)), fun j hj => by rw [g_up_ne (i12 j i hj hi)]; exact k1 j hj, ?_, fun j hj => g_oth (k3 j hj) ha (oRw_ne (by decide))⟩, ⟨i0, i1, i2, i12⟩, hb⟩
  intro j hj
  by_cases hji : j = i
  · subst hji; exact g_up_self ..
  · rw [g_up_ne (fun q => hji (i2 j i hj hi q)), k2 j hj, ho j hji]
theorem RS.wb {b' : Int32} (h : RS cy s rt rd b nt nf nc nn S F C N G) : RS cy s rt rd b' nt nf nc nn S F C N (g_up G s (oS rt b')) := by
  obtain ⟨⟨h1, h2, h3, h4, h5⟩, ⟨k0, k1, k2, k3⟩, hi, hb⟩ := h
  exact ⟨⟨g_up_self .., g_oth h2 h1 (by simp [oA, oS]), g_oth h3 h1 (by simp [oA, oS]), g_oth h4 h1 (by simp [oA, oS]), g_oth h5 h1 (by simp [oA, oS])⟩, ⟨fun j hj => g_oth (k0 j hj) h1 (by simp [oR, oS]), fun j hj => g_oth (k1 j hj) h1 (by simp [oR, oS]), fun j hj => g_oth (k2 j hj) h1 (by simp [oR, oS]), fun j hj => g_oth (k3 j hj) h1 (by simp [oR, oS])⟩, hi, hb⟩
theorem RS.ext {S' F' C' N' : Rw} (h : RS cy s rt rd b nt nf nc nn S F C N G) (h0 : ∀ i k, i < nt → k < 7 → S' i k = S i k) (h1 : ∀ i k, i < nf → k < 5 → F' i k = F i k) (h2 : ∀ i k, i < nc → k < 5 → C' i k = C i k) (h3 : ∀ i k, i < nn → k < 2 → N' i k = N i k) : RS cy s rt rd b nt nf nc nn S' F' C' N' G := by
  obtain ⟨a, ⟨k0, k1, k2, k3⟩, i, hb⟩ := h
  exact ⟨a, ⟨fun j hj => by rw [k0 j hj]; unfold oR; rw [cut_ext (fun k hk => h0 j k hj hk)], fun j hj => by rw [k1 j hj]; unfold oR; rw [cut_ext (fun k hk => h1 j k hj hk)], fun j hj => by rw [k2 j hj]; unfold oR; rw [cut_ext (fun k hk => h2 j k hj hk)], fun j hj => by rw [k3 j hj]; unfold oR; rw [cut_ext (fun k hk => h3 j k hj hk)]⟩, i, hb⟩
theorem RS.up {G2 : GG} (h : RS cy s rt rd b nt nf nc nn S F C N G) (hs : ∀ a e, G a = some e → G2 a = some e) : RS cy s rt rd b nt nf nc nn S F C N G2 := by
  obtain ⟨⟨h1, h2, h3, h4, h5⟩, ⟨k0, k1, k2, k3⟩, hi, hb⟩ := h
  exact ⟨⟨hs _ _ h1, hs _ _ h2, hs _ _ h3, hs _ _ h4, hs _ _ h5⟩, ⟨fun j hj => hs _ _ (k0 j hj), fun j hj => hs _ _ (k1 j hj), fun j hj => hs _ _ (k2 j hj), fun j hj => hs _ _ (k3 j hj)⟩, hi, hb⟩
/-- a row more of the table 0: the row at q, the new table at t, and the object told of it -/
theorem RS.add0 {q t : Nat} {r : Nat → Int32} {G1 G2 : GG} (h : RS cy s rt rd b nt nf nc nn S F C N G) (hc : nt < 6) (hq : G q = none) (hG1 : ∀ a e, G a = some e → G1 a = some e) (hr : G1 q = some (oR (cy 0) 7 r)) (ht : G1 t = none) (e2 : G2 = g_up (g_up G1 t (oA (cy 5) (nt + 1) (fun i => if i < nt then rd 0 i else q) (nt + 1))) s (oS (fun k => if k = 0 then t else rt k) b)) : ∃ rt' rd', RS cy s rt' rd' b (nt + 1) nf nc nn (s_add S nt r) F C N G2 := by
  subst e2
  obtain ⟨⟨h1, h2, h3, h4, h5⟩, ⟨k0, k1, k2, k3⟩, ⟨i0, i1, i2, i12⟩, hb⟩ := RS.up h hG1
  have hne : ∀ a e, G1 a = some e → a ≠ t := fun a e ha z => by subst z; rw [ht] at ha; cases ha
  have nq : ∀ a e, G a = some e → a ≠ q := fun a e ha z => by subst z; rw [hq] at ha; cases ha
  have up : ∀ a e, G1 a = some e → a ≠ s → g_up (g_up G1 t (oA (cy 5) (nt + 1) (fun i => if i < nt then rd 0 i else q) (nt + 1))) s (oS (fun k => if k = 0 then t else rt k) b) a = some e := fun a e ha hs => by rw [g_up_ne hs, g_up_ne (hne a e ha)]; exact ha
  have ns : ∀ a e, G1 a = some e → e ≠ oS rt b → a ≠ s := fun a e ha h9 z => by subst z; exact h9 (Option.some.inj (ha.symm.trans h1))
  have hts : t ≠ s := fun z => hne s _ h1 z.symm
  obtain ⟨o0, ⟨l0, l1, l2, l3⟩, -, -⟩ := h
  refine ⟨fun k => if k = 0 then t else rt k, fun z i => if z = 0 then (if i < nt then rd 0 i else q) else rd z i, ⟨g_up_self .., ?_, ?_, ?_, ?_⟩, ⟨?_, ?_, ?_, ?_⟩, ⟨?_, ?_, ?_, ?_⟩, by omega⟩
  · show g_up _ s _ t = _
    rw [g_up_ne hts, g_up_self]
    rfl
  · exact up (rt 1) _ h3 (ns _ _ h3 (by simp [oA, oS]))
  · exact up (rt 2) _ h4 (ns _ _ h4 (by simp [oA, oS]))
  · exact up (rt 3) _ h5 (ns _ _ h5 (by simp [oA, oS]))
  · intro i hi
    by_cases hin : i < nt
    · show g_up (g_up _ _ _) _ _ (if i < nt then rd 0 i else q) = some (oR (cy 0) 7 (if i = nt then r else S i))
      rw [if_pos hin, if_neg (by omega)]
      exact up _ _ (k0 i hin) (ns _ _ (k0 i hin) (by simp [oR, oS]))
    · show g_up (g_up _ _ _) _ _ (if i < nt then rd 0 i else q) = some (oR (cy 0) 7 (if i = nt then r else S i))
      rw [if_neg hin, if_pos (by omega)]
      exact up _ _ hr (ns _ _ hr (by simp [oR, oS]))
  · exact fun i hi => up _ _ (k1 i hi) (ns _ _ (k1 i hi) (by simp [oR, oS]))
  · exact fun i hi => up _ _ (k2 i hi) (ns _ _ (k2 i hi) (by simp [oR, oS]))
  · exact fun i hi => up _ _ (k3 i hi) (ns _ _ (k3 i hi) (by simp [oR, oS]))
  · intro i i' hi hi' e
    have e1 : (if i < nt then rd 0 i else q) = (if i' < nt then rd 0 i' else q) := e
    by_cases a1 : i < nt
    · rw [if_pos a1] at e1
      by_cases a2 : i' < nt
      · rw [if_pos a2] at e1; exact i0 i i' a1 a2 e1
      · rw [if_neg a2] at e1; exact absurd e1 (nq _ _ (l0 i a1))
    · rw [if_neg a1] at e1
      by_cases a2 : i' < nt
      · rw [if_pos a2] at e1; exact absurd e1.symm (nq _ _ (l0 i' a2))
      · omega
  · exact i1
  · exact i2
  · exact i12
/-- a row more of the table 1: the row at q, the new table at t, and the object told of it -/
theorem RS.add1 {q t : Nat} {r : Nat → Int32} {G1 G2 : GG} (h : RS cy s rt rd b nt nf nc nn S F C N G) (hc : nf < 8) (hq : G q = none) (hG1 : ∀ a e, G a = some e → G1 a = some e) (hr : G1 q = some (oR (cy 0) 5 r)) (ht : G1 t = none) (e2 : G2 = g_up (g_up G1 t (oA (cy 5) (nf + 1) (fun i => if i < nf then rd 1 i else q) (nf + 1))) s (oS (fun k => if k = 1 then t else rt k) b)) : ∃ rt' rd', RS cy s rt' rd' b nt (nf + 1) nc nn S (s_add F nf r) C N G2 := by
  subst e2
  obtain ⟨⟨h1, h2, h3, h4, h5⟩, ⟨k0, k1, k2, k3⟩, ⟨i0, i1, i2, i12⟩, hb⟩ := RS.up h hG1
  have hne : ∀ a e, G1 a = some e → a ≠ t := fun a e ha z => by subst z; rw [ht] at ha; cases ha
  have nq : ∀ a e, G a = some e → a ≠ q := fun a e ha z => by subst z; rw [hq] at ha; cases ha
  have up : ∀ a e, G1 a = some e → a ≠ s → g_up (g_up G1 t (oA (cy 5) (nf + 1) (fun i => if i < nf then rd 1 i else q) (nf + 1))) s (oS (fun k => if k = 1 then t else rt k) b) a = some e := fun a e ha hs => by rw [g_up_ne hs, g_up_ne (hne a e ha)]; exact ha
  have ns : ∀ a e, G1 a = some e → e ≠ oS rt b → a ≠ s := fun a e ha h9 z => by subst z; exact h9 (Option.some.inj (ha.symm.trans h1))
  have hts : t ≠ s := fun z => hne s _ h1 z.symm
  obtain ⟨o0, ⟨l0, l1, l2, l3⟩, -, -⟩ := h
  refine ⟨fun k => if k = 1 then t else rt k, fun z i => if z = 1 then (if i < nf then rd 1 i else q) else rd z i, ⟨g_up_self .., ?_, ?_, ?_, ?_⟩, ⟨?_, ?_, ?_, ?_⟩, ⟨?_, ?_, ?_, ?_⟩, by omega⟩
  · exact up (rt 0) _ h2 (ns _ _ h2 (by simp [oA, oS]))
  · show g_up _ s _ t = _
    rw [g_up_ne hts, g_up_self]
    rfl
  · exact up (rt 2) _ h4 (ns _ _ h4 (by simp [oA, oS]))
  · exact up (rt 3) _ h5 (ns _ _ h5 (by simp [oA, oS]))
  · exact fun i hi => up _ _ (k0 i hi) (ns _ _ (k0 i hi) (by simp [oR, oS]))
  · intro i hi
    by_cases hin : i < nf
    · show g_up (g_up _ _ _) _ _ (if i < nf then rd 1 i else q) = some (oR (cy 0) 5 (if i = nf then r else F i))
      rw [if_pos hin, if_neg (by omega)]
      exact up _ _ (k1 i hin) (ns _ _ (k1 i hin) (by simp [oR, oS]))
    · show g_up (g_up _ _ _) _ _ (if i < nf then rd 1 i else q) = some (oR (cy 0) 5 (if i = nf then r else F i))
      rw [if_neg hin, if_pos (by omega)]
      exact up _ _ hr (ns _ _ hr (by simp [oR, oS]))
  · exact fun i hi => up _ _ (k2 i hi) (ns _ _ (k2 i hi) (by simp [oR, oS]))
  · exact fun i hi => up _ _ (k3 i hi) (ns _ _ (k3 i hi) (by simp [oR, oS]))
  · exact i0
  · intro i i' hi hi' e
    have e1 : (if i < nf then rd 1 i else q) = (if i' < nf then rd 1 i' else q) := e
    by_cases a1 : i < nf
    · rw [if_pos a1] at e1
      by_cases a2 : i' < nf
      · rw [if_pos a2] at e1; exact i1 i i' a1 a2 e1
      · rw [if_neg a2] at e1; exact absurd e1 (nq _ _ (l1 i a1))
    · rw [if_neg a1] at e1
      by_cases a2 : i' < nf
      · rw [if_pos a2] at e1; exact absurd e1.symm (nq _ _ (l1 i' a2))
      · omega
  · exact i2
  · intro i k hi hk
    show (if i < nf then rd 1 i else q) ≠ rd 2 k
    by_cases a1 : i < nf
    · rw [if_pos a1]; exact i12 i k a1 hk
    · rw [if_neg a1]; exact fun e => nq _ _ (l2 k hk) e.symm
/-- a row more of the table 2: the row at q, the new table at t, and the object told of it -/
theorem RS.add2 {q t : Nat} {r : Nat → Int32} {G1 G2 : GG} (h : RS cy s rt rd b nt nf nc nn S F C N G) (hc : nc < 20) (hq : G q = none) (hG1 : ∀ a e, G a = some e → G1 a = some e) (hr : G1 q = some (oR (cy 0) 5 r)) (ht : G1 t = none) (e2 : G2 = g_up (g_up G1 t (oA (cy 5) (nc + 1) (fun i => if i < nc then rd 2 i else q) (nc + 1))) s (oS (fun k => if k = 2 then t else rt k) b)) : ∃ rt' rd', RS cy s rt' rd' b nt nf (nc + 1) nn S F (s_add C nc r) N G2 := by
  subst e2
  obtain ⟨⟨h1, h2, h3, h4, h5⟩, ⟨k0, k1, k2, k3⟩, ⟨i0, i1, i2, i12⟩, hb⟩ := RS.up h hG1
  have hne : ∀ a e, G1 a = some e → a ≠ t := fun a e ha z => by subst z; rw [ht] at ha; cases ha
  have nq : ∀ a e, G a = some e → a ≠ q := fun a e ha z => by subst z; rw [hq] at ha; cases ha
  have up : ∀ a e, G1 a = some e → a ≠ s → g_up (g_up G1 t (oA (cy 5) (nc + 1) (fun i => if i < nc then rd 2 i else q) (nc + 1))) s (oS (fun k => if k = 2 then t else rt k) b) a = some e := fun a e ha hs => by rw [g_up_ne hs, g_up_ne (hne a e ha)]; exact ha
  have ns : ∀ a e, G1 a = some e → e ≠ oS rt b → a ≠ s := fun a e ha h9 z => by subst z; exact h9 (Option.some.inj (ha.symm.trans h1))
  have hts : t ≠ s := fun z => hne s _ h1 z.symm
  obtain ⟨o0, ⟨l0, l1, l2, l3⟩, -, -⟩ := h
  refine ⟨fun k => if k = 2 then t else rt k, fun z i => if z = 2 then (if i < nc then rd 2 i else q) else rd z i, ⟨g_up_self .., ?_, ?_, ?_, ?_⟩, ⟨?_, ?_, ?_, ?_⟩, ⟨?_, ?_, ?_, ?_⟩, by omega⟩
  · exact up (rt 0) _ h2 (ns _ _ h2 (by simp [oA, oS]))
  · exact up (rt 1) _ h3 (ns _ _ h3 (by simp [oA, oS]))
  · show g_up _ s _ t = _
    rw [g_up_ne hts, g_up_self]
    rfl
  · exact up (rt 3) _ h5 (ns _ _ h5 (by simp [oA, oS]))
  · exact fun i hi => up _ _ (k0 i hi) (ns _ _ (k0 i hi) (by simp [oR, oS]))
  · exact fun i hi => up _ _ (k1 i hi) (ns _ _ (k1 i hi) (by simp [oR, oS]))
  · intro i hi
    by_cases hin : i < nc
    · show g_up (g_up _ _ _) _ _ (if i < nc then rd 2 i else q) = some (oR (cy 0) 5 (if i = nc then r else C i))
      rw [if_pos hin, if_neg (by omega)]
      exact up _ _ (k2 i hin) (ns _ _ (k2 i hin) (by simp [oR, oS]))
    · show g_up (g_up _ _ _) _ _ (if i < nc then rd 2 i else q) = some (oR (cy 0) 5 (if i = nc then r else C i))
      rw [if_neg hin, if_pos (by omega)]
      exact up _ _ hr (ns _ _ hr (by simp [oR, oS]))
  · exact fun i hi => up _ _ (k3 i hi) (ns _ _ (k3 i hi) (by simp [oR, oS]))
  · exact i0
  · exact i1
  · intro i i' hi hi' e
    have e1 : (if i < nc then rd 2 i else q) = (if i' < nc then rd 2 i' else q) := e
    by_cases a1 : i < nc
    · rw [if_pos a1] at e1
      by_cases a2 : i' < nc
      · rw [if_pos a2] at e1; exact i2 i i' a1 a2 e1
      · rw [if_neg a2] at e1; exact absurd e1 (nq _ _ (l2 i a1))
    · rw [if_neg a1] at e1
      by_cases a2 : i' < nc
      · rw [if_pos a2] at e1; exact absurd e1.symm (nq _ _ (l2 i' a2))
      · omega
  · intro i k hi hk
    show rd 1 i ≠ (if k < nc then rd 2 k else q)
    by_cases a1 : k < nc
    · rw [if_pos a1]; exact i12 i k hi a1
    · rw [if_neg a1]; exact nq _ _ (l1 i hi)
/-- a row more of the table 3: the row at q, the new table at t, and the object told of it -/
theorem RS.add3 {q t : Nat} {r : Nat → Int32} {G1 G2 : GG} (h : RS cy s rt rd b nt nf nc nn S F C N G) (hc : nn < 3) (hq : G q = none) (hG1 : ∀ a e, G a = some e → G1 a = some e) (hr : G1 q = some (oR (cy 0) 2 r)) (ht : G1 t = none) (e2 : G2 = g_up (g_up G1 t (oA (cy 5) (nn + 1) (fun i => if i < nn then rd 3 i else q) (nn + 1))) s (oS (fun k => if k = 3 then t else rt k) b)) : ∃ rt' rd', RS cy s rt' rd' b nt nf nc (nn + 1) S F C (s_add N nn r) G2 := by
  subst e2
  obtain ⟨⟨h1, h2, h3, h4, h5⟩, ⟨k0, k1, k2, k3⟩, ⟨i0, i1, i2, i12⟩, hb⟩ := RS.up h hG1
  have hne : ∀ a e, G1 a = some e → a ≠ t := fun a e ha z => by subst z; rw [ht] at ha; cases ha
  have nq : ∀ a e, G a = some e → a ≠ q := fun a e ha z => by subst z; rw [hq] at ha; cases ha
  have up : ∀ a e, G1 a = some e → a ≠ s → g_up (g_up G1 t (oA (cy 5) (nn + 1) (fun i => if i < nn then rd 3 i else q) (nn + 1))) s (oS (fun k => if k = 3 then t else rt k) b) a = some e := fun a e ha hs => by rw [g_up_ne hs, g_up_ne (hne a e ha)]; exact ha
  have ns : ∀ a e, G1 a = some e → e ≠ oS rt b → a ≠ s := fun a e ha h9 z => by subst z; exact h9 (Option.some.inj (ha.symm.trans h1))
  have hts : t ≠ s := fun z => hne s _ h1 z.symm
  obtain ⟨o0, ⟨l0, l1, l2, l3⟩, -, -⟩ := h
  refine ⟨fun k => if k = 3 then t else rt k, fun z i => if z = 3 then (if i < nn then rd 3 i else q) else rd z i, ⟨g_up_self .., ?_, ?_, ?_, ?_⟩, ⟨?_, ?_, ?_, ?_⟩, ⟨?_, ?_, ?_, ?_⟩, by omega⟩
  · exact up (rt 0) _ h2 (ns _ _ h2 (by simp [oA, oS]))
  · exact up (rt 1) _ h3 (ns _ _ h3 (by simp [oA, oS]))
  · exact up (rt 2) _ h4 (ns _ _ h4 (by simp [oA, oS]))
  · show g_up _ s _ t = _
    rw [g_up_ne hts, g_up_self]
    rfl
  · exact fun i hi => up _ _ (k0 i hi) (ns _ _ (k0 i hi) (by simp [oR, oS]))
  · exact fun i hi => up _ _ (k1 i hi) (ns _ _ (k1 i hi) (by simp [oR, oS]))
  · exact fun i hi => up _ _ (k2 i hi) (ns _ _ (k2 i hi) (by simp [oR, oS]))
  · intro i hi
    by_cases hin : i < nn
    · show g_up (g_up _ _ _) _ _ (if i < nn then rd 3 i else q) = some (oR (cy 0) 2 (if i = nn then r else N i))
      rw [if_pos hin, if_neg (by omega)]
      exact up _ _ (k3 i hin) (ns _ _ (k3 i hin) (by simp [oR, oS]))
    · show g_up (g_up _ _ _) _ _ (if i < nn then rd 3 i else q) = some (oR (cy 0) 2 (if i = nn then r else N i))
      rw [if_neg hin, if_pos (by omega)]
      exact up _ _ hr (ns _ _ hr (by simp [oR, oS]))
  · exact i0
  · exact i1
  · exact i2
  · exact i12
end RSU
end
section
/-! what Sim's methods do, word by word -/
theorem s_set_ne {W : Rw} {i j k : Nat} {v : Int32} (h : j ≠ i) : s_set W i k v j = W j := by
  funext a
  unfold s_set
  rw [if_neg (fun q => h q.1)]
theorem row4_eq {F : Rw} {i : Nat} {a b c d : Int32} : s_set (s_set (s_set (s_set F i 0 a) i 1 b) i 2 c) i 3 d = s_row F i a b c d := by
  funext x k
  unfold s_set s_row
  by_cases h : x = i
  · subst h
    match k with
    | 0 => simp
    | 1 => simp
    | 2 => simp
    | 3 => simp
    | k + 4 => simp
  · simp [h]
def ixn (v : Int32) : Nat := v.toNatClampNeg
theorem ixn_n {n : Nat} {v : Int32} (h : v = nI n) (hn : n < 1000) : ixn v = n := by rw [h]; exact nI_clamp (by omega)
abbrev y_pl (S : Rw) (t : Nat) : Int32 := s_pl (S t 0) (S t 1) (S t 2) (S t 6)
def y_cue (S : Rw) (b : Int32) (k : Nat) (FC : Rw × Rw) : Rw × Rw :=
  if FC.2 k 0 = b ∧ FC.2 k 4 = 0 then
    (if FC.1 (ixn (FC.2 k 1)) 0 = 1 then (s_row FC.1 (ixn (FC.2 k 1)) 2 (-1) (y_pl S (ixn (FC.1 (ixn (FC.2 k 1)) 1)) + FC.2 k 2) (FC.2 k 3), s_set FC.2 k 4 1)
    else (FC.1, s_set FC.2 k 4 2))
  else FC
def y_free (S F : Rw) (nf : Nat) (x : Int32) (t : Nat) : Bool := decide (S t 5 = 1 ∧ nI (s_hangE F nf (nI t)) < 2 ∧ y_pl S t - x ≤ 2 ∧ -2 ≤ y_pl S t - x)
def y_land (N : Rw) (nn : Nat) (S : Rw) (nt nf : Nat) (f : Nat) (F : Rw) : Rw :=
  if F f 0 = 2 then
    (if 0 < F f 3 then s_set F f 3 (F f 3 - 1)
    else match fst (y_free S F nf (F f 2)) nt with
      | some t => s_set (s_row F f 1 (nI t) 0 (-1)) f 4 (F f 4 + 1)
      | none => s_fall N nn F f (F f 2))
  else F
def y_drop (N : Rw) (nn : Nat) (t x : Int32) (f : Nat) (F : Rw) : Rw := if F f 0 = 1 ∧ F f 1 = t then s_fall N nn F f x else F
def y_worn (S F : Rw) (nf t : Nat) : Rw := s_set S t 4 (S t 4 + nI (s_hangE F nf (nI t)))
def y_wear (N : Rw) (nn nf : Nat) (t : Nat) (SF : Rw × Rw) : Rw × Rw :=
  if SF.1 t 5 = 1 ∧ SF.1 t 6 - SF.1 t 6 / (4 + 2 * SF.1 t 2) * (4 + 2 * SF.1 t 2) = 0 then
    (if SF.1 t 3 < SF.1 t 4 + nI (s_hangE SF.2 nf (nI t)) then (s_set (y_worn SF.1 SF.2 nf t) t 5 0, its (y_drop N nn (nI t) (y_pl SF.1 t)) SF.2 nf)
    else (y_worn SF.1 SF.2 nf t, SF.2))
  else SF
def y_age (t : Nat) (S : Rw) : Rw := s_set S t 6 (S t 6 + 1)
def y_beat (N : Rw) (nn nt nf nc : Nat) (b : Int32) (S F C : Rw) : Rw × Rw × Rw :=
  let FC := its (y_cue S b) (F, C) nc
  let SF := its (y_wear N nn nf) (S, its (y_land N nn S nt nf) FC.1 nf) nt
  (its y_age SF.1 nt, SF.2, FC.2)
/-- who hangs hangs from a trapeze; who is called is one of the flyers; trapezes are as trapezes are -/
def y_wF (nt nf : Nat) (F : Rw) : Prop := ∀ f, f < nf → F f 0 = 1 → ∃ t, t < nt ∧ F f 1 = nI t
def y_wC (nf nc : Nat) (C : Rw) : Prop := ∀ k, k < nc → ∃ f, f < nf ∧ C k 1 = nI f
def y_wS (nt : Nat) (S : Rw) : Prop := ∀ t, t < nt → (∃ w, w ≤ 10 ∧ S t 2 = nI w) ∧ ∃ d, d ≤ 1000 ∧ S t 6 = nI d
theorem y_wF.row {nt nf f : Nat} {F : Rw} {a b c d : Int32} (h : y_wF nt nf F) (ha : a = 1 → ∃ t, t < nt ∧ b = nI t) : y_wF nt nf (s_row F f a b c d) := by
  intro i hi h1
  by_cases e : i = f
  · subst e
    simp only [s_row, if_true] at h1 ⊢
    exact ha h1
  · simp only [s_row, if_neg e] at h1 ⊢
    exact h i hi h1
theorem y_wF.fall {N : Rw} {nn nt nf f : Nat} {F : Rw} {x : Int32} (h : y_wF nt nf F) : y_wF nt nf (s_fall N nn F f x) := by
  refine h.row (fun e => ?_)
  split at e <;> exact absurd e (by decide)
theorem y_wF.set {nt nf f k : Nat} {F : Rw} {v : Int32} (h : y_wF nt nf F) (hk : 2 ≤ k) : y_wF nt nf (s_set F f k v) := by
  intro i hi h1
  simp only [s_set] at h1 ⊢
  rw [if_neg (by omega)] at h1 ⊢
  exact h i hi h1
theorem y_wC.set {nf nc k : Nat} {C : Rw} {v : Int32} (h : y_wC nf nc C) : y_wC nf nc (s_set C k 4 v) := by
  intro i hi
  simp only [s_set]
  rw [if_neg (by omega)]
  exact h i hi
theorem y_wS.set {nt i k : Nat} {S : Rw} {v : Int32} (h : y_wS nt S) (h2 : k ≠ 2) (h6 : k ≠ 6) : y_wS nt (s_set S i k v) := by
  intro t ht
  simp only [s_set]
  rw [if_neg (fun q => h2 q.2.symm), if_neg (fun q => h6 q.2.symm)]
  exact h t ht
theorem y_hne {x : Int32} (h : ∃ w, w ≤ 10 ∧ x = nI w) : ¬ (4 + 2 * x) = 0 := by
  obtain ⟨w, hw, rfl⟩ := h
  have : (4 : Int32) + 2 * nI w = nI (4 + 2 * w) := by
    have e : (2 : Int32) = nI 2 := rfl
    have e4 : (4 : Int32) = nI 4 := rfl
    rw [e, e4, pk_mul, nI_add]
  rw [this]
  exact nI_ne0 (by omega) (by omega)
theorem y_h2 {w : Nat} {x : Int32} (h : x = nI w) : 2 * (2 + x) = nI (2 * (2 + w)) := by
  have e : (2 : Int32) = nI 2 := rfl
  rw [h, e, nI_add, pk_mul]
theorem y_p {w n : Nat} {x d : Int32} (hx : x = nI w) (hw : w ≤ 10) (hd : d = nI n) (hn : n ≤ 1000) : s_p x d = nI (n % (2 * (2 + w))) := by
  unfold s_p
  rw [y_h2 hx, hd, pk_rem (by omega) (by omega) (by omega)]
/-- the least free one, looked for from above -/
def y_at (p : Nat → Bool) (n j : Nat) (v : Int32) : Prop := (v = -1 ∧ ∀ i, j ≤ i → i < n → p i = false) ∨ ∃ t, v = nI t ∧ j ≤ t ∧ t < n ∧ p t = true ∧ ∀ i, j ≤ i → i < t → p i = false
theorem y_at.y {p : Nat → Bool} {n j : Nat} (hj : j < n) (hp : p j = true) : y_at p n j (nI j) := Or.inr ⟨j, rfl, Nat.le_refl _, hj, hp, fun i h1 h2 => absurd h2 (by omega)⟩
theorem y_at.n {p : Nat → Bool} {n j : Nat} {v : Int32} (h : y_at p n (j + 1) v) (hp : p j = false) : y_at p n j v := by
  rcases h with ⟨h1, h2⟩ | ⟨t, h1, h2, h3, h4, h5⟩
  · refine Or.inl ⟨h1, fun i hi hn => ?_⟩
    by_cases e : i = j
    · subst e; exact hp
    · exact h2 i (by omega) hn
  · refine Or.inr ⟨t, h1, by omega, h3, h4, fun i hi hn => ?_⟩
    by_cases e : i = j
    · subst e; exact hp
    · exact h5 i (by omega) hn
theorem y_at.e {p : Nat → Bool} {n : Nat} {v : Int32} (h : y_at p n 0 v) (hn : n < 1000) : (v < 0 ∧ fst p n = none) ∨ ∃ t, ¬ v < 0 ∧ v = nI t ∧ t < n ∧ fst p n = some t := by
  rcases h with ⟨h1, h2⟩ | ⟨t, h1, h2, h3, h4, h5⟩
  · exact Or.inl ⟨by rw [h1]; decide, fst_none (fun i hi => h2 i (Nat.zero_le _) hi)⟩
  · exact Or.inr ⟨t, by rw [h1]; exact nI_pos (by omega), h1, h3, fst_some h3 h4 (fun u hu => h5 u (Nat.zero_le _) hu)⟩
theorem y_at.s {p : Nat → Bool} {n : Nat} {v : Int32} (h : y_at p n 0 v) (hn : n < 1000) (hv : 0 ≤ v) : ∃ t, v = nI t ∧ t < n ∧ fst p n = some t := by
  rcases h.e hn with ⟨h9, -⟩ | ⟨t, -, h1, h2, h3⟩
  · exact absurd h9 (Int32.not_lt.mpr hv)
  · exact ⟨t, h1, h2, h3⟩
theorem y_at.z {p : Nat → Bool} {n : Nat} {v : Int32} (h : y_at p n 0 v) (hn : n < 1000) (hv : ¬ 0 ≤ v) : fst p n = none := by
  rcases h.e hn with ⟨-, h9⟩ | ⟨t, h1, -, -, -⟩
  · exact h9
  · exact absurd (Int32.not_le.mp hv) h1
theorem y_j0 {j : Nat} {x : Int32} (h : x = nI j - 1) (hj : j ≤ 1000) (hx : x < 0) : j = 0 := by
  rcases j with _ | j
  · rfl
  · rw [h, nI_pred] at hx
    exact absurd hx (nI_pos (by omega))
theorem y_j1 {j : Nat} {x : Int32} (h : x = nI j - 1) (hx : ¬ x < 0) : ∃ i, j = i + 1 := by
  rcases j with _ | j
  · rw [h] at hx
    exact absurd (by decide) hx
  · exact ⟨j, rfl⟩

theorem y_hne1 {w : Nat} {x : Int32} (hw : w ≤ 10) (h : x = nI w) : ¬ (2 + x) = 0 := by
  have e : (2 : Int32) = nI 2 := rfl
  rw [h, e, nI_add]
  exact nI_ne0 (by omega) (by omega)
set_option maxHeartbeats 4000000 in
set_option maxRecDepth 100000 in
theorem c_X5_place (l : Launch) (D : va_G) (cy : Nat → ClassId) (G : GG) (a : Nat) (f : Nat → Int32) (ha : G a = some (oR (cy 0) 7 f)) (w n : Nat) (hw : w ≤ 10) (m0 w0 t0 : Int32) (h0 : f 0 = m0) (h1 : f 1 = w0) (h2 : f 2 = t0) (hfw : t0 = nI w) (d : Int32) (hd : d = nI n) (hn : n ≤ 1000) : Ctr l D cy yX5_place prog_7_method_5_code 6 (some .int) kX5_place [.ref a, .int d] G (pI (fun v G' => G' = G ∧ v = s_pl m0 w0 t0 d)) := by
  subst h0 h1 h2
  refine Ctr.mk (by decide +kernel) (Nat.le_of_ble_eq_true rfl) ?_
  intro κ C R
  refine g_pc (pc' := 0) rfl ?_
  refine g_seg [(0, .iconst 2, 1), (1, .aload_n 0, 1), (2, .iconst 2, 1)] 3 [(0, .ref a), (1, .int d)] [.int 2, .ref a, .int 2] C (by decide +kernel) rfl ?_
  refine g_ialdM (pc := 3) (n := 7) 2 (f 2) C ha rfl (by decide) (by decide) (cut_lt (by decide)) (by decide +kernel) ?_
  refine g_seg [(4, .iadd, 1), (5, .istore_n 2, 1), (6, .iload_n 1, 1), (7, .istore_n 3, 1)] 8 [(3, .int d), (2, .int (2 + (f 2))), (0, .ref a), (1, .int d)] [] C (by decide +kernel) rfl ?_
  refine g_subp [2, 3, 1, 0] (lv' := [(0, .ref a), (1, .int d), (2, .int (2 + (f 2))), (3, .int d)]) rfl ?_
  have lp1 : ∀ (m k : Nat) (xp : Int32), n + 1 ≤ k + m → k ≤ n → (∃ r, xp = nI r ∧ r + k * (2 * (2 + w)) = n) → PG κ 6 0 0 G [(0, .ref a), (1, .int d), (2, .int (2 + (f 2))), (3, .int xp)] 8 [] := by
    intro m
    induction m with
    | zero => intro k xp h1 h2; intros; exact absurd h1 (by omega)
    | succ m ih =>
      intro k xp hm hk hr
      refine g_seg [(8, .iload_n 3, 1), (9, .iconst 2, 1), (10, .iload_n 2, 1), (11, .imul, 1)] 12 [(0, .ref a), (1, .int d), (2, .int (2 + (f 2))), (3, .int xp)] [.int (2 * (2 + (f 2))), .int xp] C (by decide +kernel) rfl ?_
      refine g_icmp_lt (pc := 12) (off := 12) 24 C (by decide +kernel) (by decide) (fun c2 => ?_) (fun c2 => ?_)
      · obtain ⟨r, hr1, hr2⟩ := hr
        have hr3 : r < 2 * (2 + w) := by have e9 := c2; rw [y_h2 hfw, hr1, nI_ltI (by omega) (by omega)] at e9; exact e9
        have hp : xp = s_p (f 2) d := by rw [y_p hfw hw hd hn, hr1]; congr 1; rw [← hr2, Nat.add_mul_mod_self_right, Nat.mod_eq_of_lt hr3]
        refine g_seg [(24, .iload_n 3, 1), (25, .iload_n 2, 1)] 26 [(0, .ref a), (1, .int d), (2, .int (2 + (f 2))), (3, .int xp)] [.int (2 + (f 2)), .int xp] C (by decide +kernel) rfl ?_
        refine g_icmp_le (pc := 26) (off := 9) 35 C (by decide +kernel) (by decide) (fun c3 => ?_) (fun c3 => ?_)
        · refine g_seg [(35, .iload_n 3, 1), (36, .istore 4, 2), (38, .iconst 2, 1), (39, .aload_n 0, 1), (40, .iconst 1, 1)] 41 [(4, .int xp), (0, .ref a), (1, .int d), (2, .int (2 + (f 2))), (3, .int xp)] [.int 1, .ref a, .int 2] C (by decide +kernel) rfl ?_
          refine g_ialdM (pc := 41) (n := 7) 1 (f 1) C ha rfl (by decide) (by decide) (cut_lt (by decide)) (by decide +kernel) ?_
          refine g_seg [(42, .imul, 1), (43, .iload 4, 2), (45, .imul, 1), (46, .iload_n 2, 1)] 47 [(4, .int xp), (0, .ref a), (1, .int d), (2, .int (2 + (f 2))), (3, .int xp)] [.int (2 + (f 2)), .int ((2 * (f 1)) * xp)] C (by decide +kernel) rfl ?_
          refine g_idiv (pc := 47) C (by decide +kernel) (y_hne1 hw hfw) ?_
          refine g_seg [(48, .istore 5, 2), (50, .iload_n 3, 1), (51, .iload_n 2, 1)] 52 [(5, .int (((2 * (f 1)) * xp) / (2 + (f 2)))), (4, .int xp), (0, .ref a), (1, .int d), (2, .int (2 + (f 2))), (3, .int xp)] [.int (2 + (f 2)), .int xp] C (by decide +kernel) rfl ?_
          refine g_icmp_le (pc := 52) (off := 16) 68 C (by decide +kernel) (by decide) (fun _ => ?_) (fun c9 => absurd (c3) c9)
          refine g_seg [(68, .aload_n 0, 1), (69, .iconst 0, 1)] 70 [(5, .int (((2 * (f 1)) * xp) / (2 + (f 2)))), (4, .int xp), (0, .ref a), (1, .int d), (2, .int (2 + (f 2))), (3, .int xp)] [.int 0, .ref a] C (by decide +kernel) rfl ?_
          refine g_ialdM (pc := 70) (n := 7) 0 (f 0) C ha rfl (by decide) (by decide) (cut_lt (by decide)) (by decide +kernel) ?_
          refine g_seg [(71, .aload_n 0, 1), (72, .iconst 1, 1)] 73 [(5, .int (((2 * (f 1)) * xp) / (2 + (f 2)))), (4, .int xp), (0, .ref a), (1, .int d), (2, .int (2 + (f 2))), (3, .int xp)] [.int 1, .ref a, .int (f 0)] C (by decide +kernel) rfl ?_
          refine g_ialdM (pc := 73) (n := 7) 1 (f 1) C ha rfl (by decide) (by decide) (cut_lt (by decide)) (by decide +kernel) ?_
          refine g_seg [(74, .isub, 1), (75, .iload 5, 2), (77, .iadd, 1)] 78 [(5, .int (((2 * (f 1)) * xp) / (2 + (f 2)))), (4, .int xp), (0, .ref a), (1, .int d), (2, .int (2 + (f 2))), (3, .int xp)] [.int (((f 0) - (f 1)) + (((2 * (f 1)) * xp) / (2 + (f 2))))] C (by decide +kernel) rfl ?_
          exact g_iret (pc := 78) C R (⟨_, rfl, rfl, by unfold s_pl; rw [← hp, if_pos c3]⟩) (Nat.le_of_ble_eq_true rfl) (Nat.le_of_ble_eq_true rfl) (by decide +kernel)
        · refine g_seg [(29, .iload_n 3, 1), (30, .iload_n 2, 1), (31, .isub, 1), (32, .goto 4, 3), (36, .istore 4, 2), (38, .iconst 2, 1), (39, .aload_n 0, 1), (40, .iconst 1, 1)] 41 [(4, .int (xp - (2 + (f 2)))), (0, .ref a), (1, .int d), (2, .int (2 + (f 2))), (3, .int xp)] [.int 1, .ref a, .int 2] C (by decide +kernel) rfl ?_
          refine g_ialdM (pc := 41) (n := 7) 1 (f 1) C ha rfl (by decide) (by decide) (cut_lt (by decide)) (by decide +kernel) ?_
          refine g_seg [(42, .imul, 1), (43, .iload 4, 2), (45, .imul, 1), (46, .iload_n 2, 1)] 47 [(4, .int (xp - (2 + (f 2)))), (0, .ref a), (1, .int d), (2, .int (2 + (f 2))), (3, .int xp)] [.int (2 + (f 2)), .int ((2 * (f 1)) * (xp - (2 + (f 2))))] C (by decide +kernel) rfl ?_
          refine g_idiv (pc := 47) C (by decide +kernel) (y_hne1 hw hfw) ?_
          refine g_seg [(48, .istore 5, 2), (50, .iload_n 3, 1), (51, .iload_n 2, 1)] 52 [(5, .int (((2 * (f 1)) * (xp - (2 + (f 2)))) / (2 + (f 2)))), (4, .int (xp - (2 + (f 2)))), (0, .ref a), (1, .int d), (2, .int (2 + (f 2))), (3, .int xp)] [.int (2 + (f 2)), .int xp] C (by decide +kernel) rfl ?_
          refine g_icmp_le (pc := 52) (off := 16) 68 C (by decide +kernel) (by decide) (fun c9 => absurd c9 (c3)) (fun _ => ?_)
          refine g_seg [(55, .aload_n 0, 1), (56, .iconst 0, 1)] 57 [(5, .int (((2 * (f 1)) * (xp - (2 + (f 2)))) / (2 + (f 2)))), (4, .int (xp - (2 + (f 2)))), (0, .ref a), (1, .int d), (2, .int (2 + (f 2))), (3, .int xp)] [.int 0, .ref a] C (by decide +kernel) rfl ?_
          refine g_ialdM (pc := 57) (n := 7) 0 (f 0) C ha rfl (by decide) (by decide) (cut_lt (by decide)) (by decide +kernel) ?_
          refine g_seg [(58, .aload_n 0, 1), (59, .iconst 1, 1)] 60 [(5, .int (((2 * (f 1)) * (xp - (2 + (f 2)))) / (2 + (f 2)))), (4, .int (xp - (2 + (f 2)))), (0, .ref a), (1, .int d), (2, .int (2 + (f 2))), (3, .int xp)] [.int 1, .ref a, .int (f 0)] C (by decide +kernel) rfl ?_
          refine g_ialdM (pc := 60) (n := 7) 1 (f 1) C ha rfl (by decide) (by decide) (cut_lt (by decide)) (by decide +kernel) ?_
          refine g_seg [(61, .iadd, 1), (62, .iload 5, 2), (64, .isub, 1), (65, .goto 13, 3)] 78 [(5, .int (((2 * (f 1)) * (xp - (2 + (f 2)))) / (2 + (f 2)))), (4, .int (xp - (2 + (f 2)))), (0, .ref a), (1, .int d), (2, .int (2 + (f 2))), (3, .int xp)] [.int (((f 0) + (f 1)) - (((2 * (f 1)) * (xp - (2 + (f 2)))) / (2 + (f 2))))] C (by decide +kernel) rfl ?_
          exact g_iret (pc := 78) C R (⟨_, rfl, rfl, by unfold s_pl; rw [← hp, if_neg c3]⟩) (Nat.le_of_ble_eq_true rfl) (Nat.le_of_ble_eq_true rfl) (by decide +kernel)
      · obtain ⟨r, hr1, hr2⟩ := hr
        have hr3 : 2 * (2 + w) ≤ r := by have e9 := c2; rw [y_h2 hfw, hr1, nI_ltI (by omega) (by omega)] at e9; omega
        have hk9 : k + 1 ≤ n := by have := Nat.le_mul_of_pos_right k (show 0 < 2 * (2 + w) by omega); omega
        refine g_seg [(15, .iload_n 3, 1), (16, .iconst 2, 1), (17, .iload_n 2, 1), (18, .imul, 1), (19, .isub, 1), (20, .istore_n 3, 1), (21, .goto (-13), 3)] 8 [(3, .int (xp - (2 * (2 + (f 2))))), (0, .ref a), (1, .int d), (2, .int (2 + (f 2)))] [] C (by decide +kernel) rfl ?_
        refine g_subp [1, 2, 3, 0] (lv' := [(0, .ref a), (1, .int d), (2, .int (2 + (f 2))), (3, .int (xp - (2 * (2 + (f 2)))))]) rfl ?_
        exact ih (k + 1) (xp - (2 * (2 + (f 2)))) (by omega) (by omega) (⟨r - 2 * (2 + w), by rw [y_h2 hfw, hr1, pk_sub hr3], by have e9 : (k + 1) * (2 * (2 + w)) = k * (2 * (2 + w)) + 2 * (2 + w) := Nat.succ_mul _ _; omega⟩)
  exact lp1 (n + 1) 0 d (by omega) (by omega) (⟨n, hd, by omega⟩)
set_option maxHeartbeats 4000000 in
set_option maxRecDepth 100000 in
theorem c_X5_hang (l : Launch) (D : va_G) (cy : Nat → ClassId) {G : GG} {s : Nat} {rt : Nat → Nat} {rd : Nat → Nat → Nat} {b : Int32} {nt nf nc nn : Nat} {S F Cu N : Rw} (h : RS cy s rt rd b nt nf nc nn S F Cu N G) (t : Int32) : Ctr l D cy yX5_hang prog_7_method_6_code 7 (some .int) kX5_hang [.ref s, .int t] G (pI (fun v G' => G' = G ∧ v = nI (s_hangE F nf t))) := by
  refine Ctr.mk (by decide +kernel) (Nat.le_of_ble_eq_true rfl) ?_
  intro κ C R
  have hbd := h.2.2.2
  refine g_pc (pc' := 0) rfl ?_
  refine g_seg [(0, .iconst 0, 1), (1, .istore_n 2, 1), (2, .aload_n 0, 1)] 3 [(2, .int 0), (0, .ref s), (1, .int t)] [.ref s] C (by decide +kernel) rfl ?_
  refine g_getf (pc := 3) (k := 1) (v := .ref (rt 1)) C fl_X5_15 (h.1.1) rfl (by decide +kernel) ?_
  refine g_seg [(6, .astore_n 3, 1), (7, .aload_n 3, 1)] 8 [(3, .ref (rt 1)), (2, .int 0), (0, .ref s), (1, .int t)] [.ref (rt 1)] C (by decide +kernel) rfl ?_
  refine g_alenI (pc := 8) C (h.1.2.2.1) (by decide +kernel) ?_
  refine g_seg [(9, .istore 4, 2), (11, .iconst 0, 1), (12, .istore 5, 2)] 14 [(5, .int 0), (4, .int (nI nf)), (3, .ref (rt 1)), (2, .int 0), (0, .ref s), (1, .int t)] [] C (by decide +kernel) rfl ?_
  refine g_subp [4, 5, 3, 2, 1, 0] (lv' := [(0, .ref s), (1, .int t), (2, .int 0), (3, .ref (rt 1)), (4, .int (nI nf)), (5, .int 0)]) rfl ?_
  have lp1 : ∀ (m k : Nat) (z xk : Int32), nf + 1 ≤ k + m → k ≤ nf → xk = nI k → z = nI (cnt (fun k => decide (F k 0 = 1 ∧ F k 1 = t)) k) → PG κ 7 0 0 G [(0, .ref s), (1, .int t), (2, .int z), (3, .ref (rt 1)), (4, .int (nI nf)), (5, .int xk)] 14 [] := by
    intro m
    induction m with
    | zero => intro k z xk h1 h2; intros; exact absurd h1 (by omega)
    | succ m ih =>
      intro k z xk hm hk hx hs
      refine g_seg [(14, .iload 5, 2), (16, .iload 4, 2)] 18 [(0, .ref s), (1, .int t), (2, .int z), (3, .ref (rt 1)), (4, .int (nI nf)), (5, .int xk)] [.int (nI nf), .int xk] C (by decide +kernel) rfl ?_
      refine g_icmp_ge (pc := 18) (off := 39) 57 C (by decide +kernel) (by decide) (fun c2 => ?_) (fun c2 => ?_)
      · have hk8 : k = nf := by have := lp_ge hx (by omega) (by omega) c2; omega
        refine g_seg [(57, .iload_n 2, 1)] 58 [(0, .ref s), (1, .int t), (2, .int z), (3, .ref (rt 1)), (4, .int (nI nf)), (5, .int xk)] [.int z] C (by decide +kernel) rfl ?_
        exact g_iret (pc := 58) C R (⟨_, rfl, rfl, by rw [hs, hk8]; rfl⟩) (Nat.le_of_ble_eq_true rfl) (Nat.le_of_ble_eq_true rfl) (by decide +kernel)
      · have hk8 : k < nf := lp_lt hx (by omega) (by omega) c2
        refine g_seg [(21, .aload_n 3, 1), (22, .iload 5, 2)] 24 [(0, .ref s), (1, .int t), (2, .int z), (3, .ref (rt 1)), (4, .int (nI nf)), (5, .int xk)] [.int xk, .ref (rt 1)] C (by decide +kernel) rfl ?_
        refine g_aaldS (pc := 24) (j := k) C (h.1.2.2.1) (hx) (hk8) (by omega) (by decide +kernel) ?_
        refine g_seg [(25, .astore 6, 2), (27, .iload_n 2, 1), (28, .aload 6, 2), (30, .iconst 0, 1)] 31 [(6, .ref (rd 1 k)), (0, .ref s), (1, .int t), (2, .int z), (3, .ref (rt 1)), (4, .int (nI nf)), (5, .int xk)] [.int 0, .ref (rd 1 k), .int z] C (by decide +kernel) rfl ?_
        refine g_ialdM (pc := 31) (n := 5) 0 (F k 0) C (h.2.1.2.1 k hk8) rfl (by decide) (by decide) (cut_lt (by decide)) (by decide +kernel) ?_
        refine g_seg [(32, .iconst 1, 1)] 33 [(6, .ref (rd 1 k)), (0, .ref s), (1, .int t), (2, .int z), (3, .ref (rt 1)), (4, .int (nI nf)), (5, .int xk)] [.int 1, .int (F k 0), .int z] C (by decide +kernel) rfl ?_
        refine g_icmp_ne (pc := 33) (off := 15) 48 C (by decide +kernel) (by decide) (fun c3 => ?_) (fun c3 => ?_)
        · refine g_seg [(48, .iconst 0, 1), (49, .iadd, 1), (50, .istore_n 2, 1), (51, .iinc 5 1, 3), (54, .goto (-40), 3)] 14 [(5, .int (xk + 1)), (2, .int (z + 0)), (6, .ref (rd 1 k)), (0, .ref s), (1, .int t), (3, .ref (rt 1)), (4, .int (nI nf))] [] C (by decide +kernel) rfl ?_
          refine g_subp [3, 4, 1, 5, 6, 0] (lv' := [(0, .ref s), (1, .int t), (2, .int (z + 0)), (3, .ref (rt 1)), (4, .int (nI nf)), (5, .int (xk + 1))]) rfl ?_
          exact ih (k + 1) (z + 0) (xk + 1) (by omega) (by omega) (lp_s hx) (cntU_n hs (decide_eq_false (fun h9 => c3 h9.1)))
        · refine g_seg [(36, .aload 6, 2), (38, .iconst 1, 1)] 39 [(6, .ref (rd 1 k)), (0, .ref s), (1, .int t), (2, .int z), (3, .ref (rt 1)), (4, .int (nI nf)), (5, .int xk)] [.int 1, .ref (rd 1 k), .int z] C (by decide +kernel) rfl ?_
          refine g_ialdM (pc := 39) (n := 5) 1 (F k 1) C (h.2.1.2.1 k hk8) rfl (by decide) (by decide) (cut_lt (by decide)) (by decide +kernel) ?_
          refine g_seg [(40, .iload_n 1, 1)] 41 [(6, .ref (rd 1 k)), (0, .ref s), (1, .int t), (2, .int z), (3, .ref (rt 1)), (4, .int (nI nf)), (5, .int xk)] [.int t, .int (F k 1), .int z] C (by decide +kernel) rfl ?_
          refine g_icmp_ne (pc := 41) (off := 7) 48 C (by decide +kernel) (by decide) (fun c4 => ?_) (fun c4 => ?_)
          · refine g_seg [(48, .iconst 0, 1), (49, .iadd, 1), (50, .istore_n 2, 1), (51, .iinc 5 1, 3), (54, .goto (-40), 3)] 14 [(5, .int (xk + 1)), (2, .int (z + 0)), (6, .ref (rd 1 k)), (0, .ref s), (1, .int t), (3, .ref (rt 1)), (4, .int (nI nf))] [] C (by decide +kernel) rfl ?_
            refine g_subp [3, 4, 1, 5, 6, 0] (lv' := [(0, .ref s), (1, .int t), (2, .int (z + 0)), (3, .ref (rt 1)), (4, .int (nI nf)), (5, .int (xk + 1))]) rfl ?_
            exact ih (k + 1) (z + 0) (xk + 1) (by omega) (by omega) (lp_s hx) (cntU_n hs (decide_eq_false (fun h9 => c4 h9.2)))
          · refine g_seg [(44, .iconst 1, 1), (45, .goto 4, 3), (49, .iadd, 1), (50, .istore_n 2, 1), (51, .iinc 5 1, 3), (54, .goto (-40), 3)] 14 [(5, .int (xk + 1)), (2, .int (z + 1)), (6, .ref (rd 1 k)), (0, .ref s), (1, .int t), (3, .ref (rt 1)), (4, .int (nI nf))] [] C (by decide +kernel) rfl ?_
            refine g_subp [3, 4, 1, 5, 6, 0] (lv' := [(0, .ref s), (1, .int t), (2, .int (z + 1)), (3, .ref (rt 1)), (4, .int (nI nf)), (5, .int (xk + 1))]) rfl ?_
            exact ih (k + 1) (z + 1) (xk + 1) (by omega) (by omega) (lp_s hx) (cntU_y hs (decide_eq_true ⟨c3, c4⟩))
  exact lp1 (nf + 1) 0 0 0 (by omega) (by omega) (nI_0.symm) (rfl)
set_option maxHeartbeats 4000000 in
set_option maxRecDepth 100000 in
theorem c_X5_in (l : Launch) (D : va_G) (cy : Nat → ClassId) {G : GG} {s : Nat} {rt : Nat → Nat} {rd : Nat → Nat → Nat} {b : Int32} {nt nf nc nn : Nat} {S F Cu N : Rw} (h : RS cy s rt rd b nt nf nc nn S F Cu N G) (t : Int32) : Ctr l D cy yX5_in prog_7_method_11_code 7 (some .int) kX5_in [.ref s, .int t] G (pI (fun v G' => G' = G ∧ v = nI (cnt (fun k => decide (F k 0 = t)) nf))) := by
  refine Ctr.mk (by decide +kernel) (Nat.le_of_ble_eq_true rfl) ?_
  intro κ C R
  have hbd := h.2.2.2
  refine g_pc (pc' := 0) rfl ?_
  refine g_seg [(0, .iconst 0, 1), (1, .istore_n 2, 1), (2, .aload_n 0, 1)] 3 [(2, .int 0), (0, .ref s), (1, .int t)] [.ref s] C (by decide +kernel) rfl ?_
  refine g_getf (pc := 3) (k := 1) (v := .ref (rt 1)) C fl_X5_15 (h.1.1) rfl (by decide +kernel) ?_
  refine g_seg [(6, .astore_n 3, 1), (7, .aload_n 3, 1)] 8 [(3, .ref (rt 1)), (2, .int 0), (0, .ref s), (1, .int t)] [.ref (rt 1)] C (by decide +kernel) rfl ?_
  refine g_alenI (pc := 8) C (h.1.2.2.1) (by decide +kernel) ?_
  refine g_seg [(9, .istore 4, 2), (11, .iconst 0, 1), (12, .istore 5, 2)] 14 [(5, .int 0), (4, .int (nI nf)), (3, .ref (rt 1)), (2, .int 0), (0, .ref s), (1, .int t)] [] C (by decide +kernel) rfl ?_
  refine g_subp [4, 5, 3, 2, 1, 0] (lv' := [(0, .ref s), (1, .int t), (2, .int 0), (3, .ref (rt 1)), (4, .int (nI nf)), (5, .int 0)]) rfl ?_
  have lp1 : ∀ (m k : Nat) (z xk : Int32), nf + 1 ≤ k + m → k ≤ nf → xk = nI k → z = nI (cnt (fun k => decide (F k 0 = t)) k) → PG κ 7 0 0 G [(0, .ref s), (1, .int t), (2, .int z), (3, .ref (rt 1)), (4, .int (nI nf)), (5, .int xk)] 14 [] := by
    intro m
    induction m with
    | zero => intro k z xk h1 h2; intros; exact absurd h1 (by omega)
    | succ m ih =>
      intro k z xk hm hk hx hs
      refine g_seg [(14, .iload 5, 2), (16, .iload 4, 2)] 18 [(0, .ref s), (1, .int t), (2, .int z), (3, .ref (rt 1)), (4, .int (nI nf)), (5, .int xk)] [.int (nI nf), .int xk] C (by decide +kernel) rfl ?_
      refine g_icmp_ge (pc := 18) (off := 31) 49 C (by decide +kernel) (by decide) (fun c2 => ?_) (fun c2 => ?_)
      · have hk8 : k = nf := by have := lp_ge hx (by omega) (by omega) c2; omega
        refine g_seg [(49, .iload_n 2, 1)] 50 [(0, .ref s), (1, .int t), (2, .int z), (3, .ref (rt 1)), (4, .int (nI nf)), (5, .int xk)] [.int z] C (by decide +kernel) rfl ?_
        exact g_iret (pc := 50) C R (⟨_, rfl, rfl, by rw [hs, hk8]⟩) (Nat.le_of_ble_eq_true rfl) (Nat.le_of_ble_eq_true rfl) (by decide +kernel)
      · have hk8 : k < nf := lp_lt hx (by omega) (by omega) c2
        refine g_seg [(21, .aload_n 3, 1), (22, .iload 5, 2)] 24 [(0, .ref s), (1, .int t), (2, .int z), (3, .ref (rt 1)), (4, .int (nI nf)), (5, .int xk)] [.int xk, .ref (rt 1)] C (by decide +kernel) rfl ?_
        refine g_aaldS (pc := 24) (j := k) C (h.1.2.2.1) (hx) (hk8) (by omega) (by decide +kernel) ?_
        refine g_seg [(25, .astore 6, 2), (27, .iload_n 2, 1), (28, .aload 6, 2), (30, .iconst 0, 1)] 31 [(6, .ref (rd 1 k)), (0, .ref s), (1, .int t), (2, .int z), (3, .ref (rt 1)), (4, .int (nI nf)), (5, .int xk)] [.int 0, .ref (rd 1 k), .int z] C (by decide +kernel) rfl ?_
        refine g_ialdM (pc := 31) (n := 5) 0 (F k 0) C (h.2.1.2.1 k hk8) rfl (by decide) (by decide) (cut_lt (by decide)) (by decide +kernel) ?_
        refine g_seg [(32, .iload_n 1, 1)] 33 [(6, .ref (rd 1 k)), (0, .ref s), (1, .int t), (2, .int z), (3, .ref (rt 1)), (4, .int (nI nf)), (5, .int xk)] [.int t, .int (F k 0), .int z] C (by decide +kernel) rfl ?_
        refine g_icmp_ne (pc := 33) (off := 7) 40 C (by decide +kernel) (by decide) (fun c3 => ?_) (fun c3 => ?_)
        · refine g_seg [(40, .iconst 0, 1), (41, .iadd, 1), (42, .istore_n 2, 1), (43, .iinc 5 1, 3), (46, .goto (-32), 3)] 14 [(5, .int (xk + 1)), (2, .int (z + 0)), (6, .ref (rd 1 k)), (0, .ref s), (1, .int t), (3, .ref (rt 1)), (4, .int (nI nf))] [] C (by decide +kernel) rfl ?_
          refine g_subp [3, 4, 1, 5, 6, 0] (lv' := [(0, .ref s), (1, .int t), (2, .int (z + 0)), (3, .ref (rt 1)), (4, .int (nI nf)), (5, .int (xk + 1))]) rfl ?_
          exact ih (k + 1) (z + 0) (xk + 1) (by omega) (by omega) (lp_s hx) (cntU_n hs (decide_eq_false c3))
        · refine g_seg [(36, .iconst 1, 1), (37, .goto 4, 3), (41, .iadd, 1), (42, .istore_n 2, 1), (43, .iinc 5 1, 3), (46, .goto (-32), 3)] 14 [(5, .int (xk + 1)), (2, .int (z + 1)), (6, .ref (rd 1 k)), (0, .ref s), (1, .int t), (3, .ref (rt 1)), (4, .int (nI nf))] [] C (by decide +kernel) rfl ?_
          refine g_subp [3, 4, 1, 5, 6, 0] (lv' := [(0, .ref s), (1, .int t), (2, .int (z + 1)), (3, .ref (rt 1)), (4, .int (nI nf)), (5, .int (xk + 1))]) rfl ?_
          exact ih (k + 1) (z + 1) (xk + 1) (by omega) (by omega) (lp_s hx) (cntU_y hs (decide_eq_true c3))
  exact lp1 (nf + 1) 0 0 0 (by omega) (by omega) (nI_0.symm) (rfl)
set_option maxHeartbeats 4000000 in
set_option maxRecDepth 100000 in
theorem c_X5_open (l : Launch) (D : va_G) (cy : Nat → ClassId) {G : GG} {s : Nat} {rt : Nat → Nat} {rd : Nat → Nat → Nat} {b : Int32} {nt nf nc nn : Nat} {S F Cu N : Rw} (h : RS cy s rt rd b nt nf nc nn S F Cu N G) : Ctr l D cy yX5_open prog_7_method_12_code 6 (some .int) kX5_open [.ref s] G (pI (fun v G' => G' = G ∧ v = nI (cnt (fun k => decide (Cu k 4 = 0)) nc))) := by
  refine Ctr.mk (by decide +kernel) (Nat.le_of_ble_eq_true rfl) ?_
  intro κ C R
  have hbd := h.2.2.2
  refine g_pc (pc' := 0) rfl ?_
  refine g_seg [(0, .iconst 0, 1), (1, .istore_n 1, 1), (2, .aload_n 0, 1)] 3 [(1, .int 0), (0, .ref s)] [.ref s] C (by decide +kernel) rfl ?_
  refine g_getf (pc := 3) (k := 2) (v := .ref (rt 2)) C fl_X5_18 (h.1.1) rfl (by decide +kernel) ?_
  refine g_seg [(6, .astore_n 2, 1), (7, .aload_n 2, 1)] 8 [(2, .ref (rt 2)), (1, .int 0), (0, .ref s)] [.ref (rt 2)] C (by decide +kernel) rfl ?_
  refine g_alenI (pc := 8) C (h.1.2.2.2.1) (by decide +kernel) ?_
  refine g_seg [(9, .istore_n 3, 1), (10, .iconst 0, 1), (11, .istore 4, 2)] 13 [(4, .int 0), (3, .int (nI nc)), (2, .ref (rt 2)), (1, .int 0), (0, .ref s)] [] C (by decide +kernel) rfl ?_
  refine g_subp [4, 3, 2, 1, 0] (lv' := [(0, .ref s), (1, .int 0), (2, .ref (rt 2)), (3, .int (nI nc)), (4, .int 0)]) rfl ?_
  have lp1 : ∀ (m k : Nat) (z xk : Int32), nc + 1 ≤ k + m → k ≤ nc → xk = nI k → z = nI (cnt (fun k => decide (Cu k 4 = 0)) k) → PG κ 6 0 0 G [(0, .ref s), (1, .int z), (2, .ref (rt 2)), (3, .int (nI nc)), (4, .int xk)] 13 [] := by
    intro m
    induction m with
    | zero => intro k z xk h1 h2; intros; exact absurd h1 (by omega)
    | succ m ih =>
      intro k z xk hm hk hx hs
      refine g_seg [(13, .iload 4, 2), (15, .iload_n 3, 1)] 16 [(0, .ref s), (1, .int z), (2, .ref (rt 2)), (3, .int (nI nc)), (4, .int xk)] [.int (nI nc), .int xk] C (by decide +kernel) rfl ?_
      refine g_icmp_ge (pc := 16) (off := 30) 46 C (by decide +kernel) (by decide) (fun c2 => ?_) (fun c2 => ?_)
      · have hk8 : k = nc := by have := lp_ge hx (by omega) (by omega) c2; omega
        refine g_seg [(46, .iload_n 1, 1)] 47 [(0, .ref s), (1, .int z), (2, .ref (rt 2)), (3, .int (nI nc)), (4, .int xk)] [.int z] C (by decide +kernel) rfl ?_
        exact g_iret (pc := 47) C R (⟨_, rfl, rfl, by rw [hs, hk8]⟩) (Nat.le_of_ble_eq_true rfl) (Nat.le_of_ble_eq_true rfl) (by decide +kernel)
      · have hk8 : k < nc := lp_lt hx (by omega) (by omega) c2
        refine g_seg [(19, .aload_n 2, 1), (20, .iload 4, 2)] 22 [(0, .ref s), (1, .int z), (2, .ref (rt 2)), (3, .int (nI nc)), (4, .int xk)] [.int xk, .ref (rt 2)] C (by decide +kernel) rfl ?_
        refine g_aaldS (pc := 22) (j := k) C (h.1.2.2.2.1) (hx) (hk8) (by omega) (by decide +kernel) ?_
        refine g_seg [(23, .astore 5, 2), (25, .iload_n 1, 1), (26, .aload 5, 2), (28, .iconst 4, 1)] 29 [(5, .ref (rd 2 k)), (0, .ref s), (1, .int z), (2, .ref (rt 2)), (3, .int (nI nc)), (4, .int xk)] [.int 4, .ref (rd 2 k), .int z] C (by decide +kernel) rfl ?_
        refine g_ialdM (pc := 29) (n := 5) 4 (Cu k 4) C (h.2.1.2.2.1 k hk8) rfl (by decide) (by decide) (cut_lt (by decide)) (by decide +kernel) ?_
        refine g_if_ne (pc := 30) (off := 7) 37 C (by decide +kernel) (by decide) (fun c3 => ?_) (fun c3 => ?_)
        · refine g_seg [(37, .iconst 0, 1), (38, .iadd, 1), (39, .istore_n 1, 1), (40, .iinc 4 1, 3), (43, .goto (-30), 3)] 13 [(4, .int (xk + 1)), (1, .int (z + 0)), (5, .ref (rd 2 k)), (0, .ref s), (2, .ref (rt 2)), (3, .int (nI nc))] [] C (by decide +kernel) rfl ?_
          refine g_subp [3, 1, 4, 5, 0] (lv' := [(0, .ref s), (1, .int (z + 0)), (2, .ref (rt 2)), (3, .int (nI nc)), (4, .int (xk + 1))]) rfl ?_
          exact ih (k + 1) (z + 0) (xk + 1) (by omega) (by omega) (lp_s hx) (cntU_n hs (decide_eq_false c3))
        · refine g_seg [(33, .iconst 1, 1), (34, .goto 4, 3), (38, .iadd, 1), (39, .istore_n 1, 1), (40, .iinc 4 1, 3), (43, .goto (-30), 3)] 13 [(4, .int (xk + 1)), (1, .int (z + 1)), (5, .ref (rd 2 k)), (0, .ref s), (2, .ref (rt 2)), (3, .int (nI nc))] [] C (by decide +kernel) rfl ?_
          refine g_subp [3, 1, 4, 5, 0] (lv' := [(0, .ref s), (1, .int (z + 1)), (2, .ref (rt 2)), (3, .int (nI nc)), (4, .int (xk + 1))]) rfl ?_
          exact ih (k + 1) (z + 1) (xk + 1) (by omega) (by omega) (lp_s hx) (cntU_y hs (decide_eq_true c3))
  exact lp1 (nc + 1) 0 0 0 (by omega) (by omega) (nI_0.symm) (rfl)
theorem y_net {p : Nat → Bool} {k : Nat} (h : ∀ t, t < k → p t = false) (hp : p k = false) : ∀ t, t < k + 1 → p t = false := by
  intro t ht
  by_cases e : t = k
  · subst e; exact hp
  · exact h t (by omega)
set_option maxHeartbeats 4000000 in
set_option maxRecDepth 100000 in
theorem c_X5_net (l : Launch) (D : va_G) (cy : Nat → ClassId) {G : GG} {s : Nat} {rt : Nat → Nat} {rd : Nat → Nat → Nat} {b : Int32} {nt nf nc nn : Nat} {S F Cu N : Rw} (h : RS cy s rt rd b nt nf nc nn S F Cu N G) (p0 : Int32) : Ctr l D cy yX5_net prog_7_method_7_code 6 (some .boolean) kX5_net [.ref s, .int p0] G (pI (fun v G' => G' = G ∧ ((v = 1 ∧ s_net N nn p0 = true) ∨ (v = 0 ∧ s_net N nn p0 = false)))) := by
  refine Ctr.mk (by decide +kernel) (Nat.le_of_ble_eq_true rfl) ?_
  intro κ C R
  have hbd := h.2.2.2
  refine g_pc (pc' := 0) rfl ?_
  refine g_seg [(0, .aload_n 0, 1)] 1 [(0, .ref s), (1, .int p0)] [.ref s] C (by decide +kernel) rfl ?_
  refine g_getf (pc := 1) (k := 3) (v := .ref (rt 3)) C fl_X5_21 (h.1.1) rfl (by decide +kernel) ?_
  refine g_seg [(4, .astore_n 2, 1), (5, .aload_n 2, 1)] 6 [(2, .ref (rt 3)), (0, .ref s), (1, .int p0)] [.ref (rt 3)] C (by decide +kernel) rfl ?_
  refine g_alenI (pc := 6) C (h.1.2.2.2.2) (by decide +kernel) ?_
  refine g_seg [(7, .istore_n 3, 1), (8, .iconst 0, 1), (9, .istore 4, 2)] 11 [(4, .int 0), (3, .int (nI nn)), (2, .ref (rt 3)), (0, .ref s), (1, .int p0)] [] C (by decide +kernel) rfl ?_
  refine g_subp [3, 4, 2, 1, 0] (lv' := [(0, .ref s), (1, .int p0), (2, .ref (rt 3)), (3, .int (nI nn)), (4, .int 0)]) rfl ?_
  have lp1 : ∀ (m k : Nat) (xk : Int32), nn + 1 ≤ k + m → k ≤ nn → xk = nI k → (∀ t, t < k → (decide (N t 0 ≤ p0) && decide (p0 ≤ N t 1)) = false) → PG κ 6 0 0 G [(0, .ref s), (1, .int p0), (2, .ref (rt 3)), (3, .int (nI nn)), (4, .int xk)] 11 [] := by
    intro m
    induction m with
    | zero => intro k xk h1 h2; intros; exact absurd h1 (by omega)
    | succ m ih =>
      intro k xk hm hk hx hs
      refine g_seg [(11, .iload 4, 2), (13, .iload_n 3, 1)] 14 [(0, .ref s), (1, .int p0), (2, .ref (rt 3)), (3, .int (nI nn)), (4, .int xk)] [.int (nI nn), .int xk] C (by decide +kernel) rfl ?_
      refine g_icmp_ge (pc := 14) (off := 33) 47 C (by decide +kernel) (by decide) (fun c2 => ?_) (fun c2 => ?_)
      · have hk8 : k = nn := by have := lp_ge hx (by omega) (by omega) c2; omega
        refine g_seg [(47, .iconst 0, 1)] 48 [(0, .ref s), (1, .int p0), (2, .ref (rt 3)), (3, .int (nI nn)), (4, .int xk)] [.int 0] C (by decide +kernel) rfl ?_
        exact g_zret (pc := 48) C R (by first | rfl | decide) (⟨_, rfl, rfl, Or.inr ⟨rfl, by unfold s_net; rw [fst_none (fun t ht => hs t (by omega))]; rfl⟩⟩) (Nat.le_of_ble_eq_true rfl) (Nat.le_of_ble_eq_true rfl) (by decide +kernel)
      · have hk8 : k < nn := lp_lt hx (by omega) (by omega) c2
        refine g_seg [(17, .aload_n 2, 1), (18, .iload 4, 2)] 20 [(0, .ref s), (1, .int p0), (2, .ref (rt 3)), (3, .int (nI nn)), (4, .int xk)] [.int xk, .ref (rt 3)] C (by decide +kernel) rfl ?_
        refine g_aaldS (pc := 20) (j := k) C (h.1.2.2.2.2) (hx) (hk8) (by omega) (by decide +kernel) ?_
        refine g_seg [(21, .astore 5, 2), (23, .iload_n 1, 1), (24, .aload 5, 2), (26, .iconst 0, 1)] 27 [(5, .ref (rd 3 k)), (0, .ref s), (1, .int p0), (2, .ref (rt 3)), (3, .int (nI nn)), (4, .int xk)] [.int 0, .ref (rd 3 k), .int p0] C (by decide +kernel) rfl ?_
        refine g_ialdM (pc := 27) (n := 2) 0 (N k 0) C (h.2.1.2.2.2 k hk8) rfl (by decide) (by decide) (cut_lt (by decide)) (by decide +kernel) ?_
        refine g_icmp_lt (pc := 28) (off := 13) 41 C (by decide +kernel) (by decide) (fun c3 => ?_) (fun c3 => ?_)
        · refine g_seg [(41, .iinc 4 1, 3), (44, .goto (-33), 3)] 11 [(4, .int (xk + 1)), (5, .ref (rd 3 k)), (0, .ref s), (1, .int p0), (2, .ref (rt 3)), (3, .int (nI nn))] [] C (by decide +kernel) rfl ?_
          refine g_subp [2, 3, 4, 5, 0] (lv' := [(0, .ref s), (1, .int p0), (2, .ref (rt 3)), (3, .int (nI nn)), (4, .int (xk + 1))]) rfl ?_
          exact ih (k + 1) (xk + 1) (by omega) (by omega) (lp_s hx) (y_net hs (by rw [decide_eq_false (Int32.not_le.mpr c3)]; rfl))
        · refine g_seg [(31, .iload_n 1, 1), (32, .aload 5, 2), (34, .iconst 1, 1)] 35 [(5, .ref (rd 3 k)), (0, .ref s), (1, .int p0), (2, .ref (rt 3)), (3, .int (nI nn)), (4, .int xk)] [.int 1, .ref (rd 3 k), .int p0] C (by decide +kernel) rfl ?_
          refine g_ialdM (pc := 35) (n := 2) 1 (N k 1) C (h.2.1.2.2.2 k hk8) rfl (by decide) (by decide) (cut_lt (by decide)) (by decide +kernel) ?_
          refine g_icmp_gt (pc := 36) (off := 5) 41 C (by decide +kernel) (by decide) (fun c4 => ?_) (fun c4 => ?_)
          · refine g_seg [(41, .iinc 4 1, 3), (44, .goto (-33), 3)] 11 [(4, .int (xk + 1)), (5, .ref (rd 3 k)), (0, .ref s), (1, .int p0), (2, .ref (rt 3)), (3, .int (nI nn))] [] C (by decide +kernel) rfl ?_
            refine g_subp [2, 3, 4, 5, 0] (lv' := [(0, .ref s), (1, .int p0), (2, .ref (rt 3)), (3, .int (nI nn)), (4, .int (xk + 1))]) rfl ?_
            exact ih (k + 1) (xk + 1) (by omega) (by omega) (lp_s hx) (y_net hs (by rw [decide_eq_false (Int32.not_le.mpr c4), Bool.and_false]))
          · refine g_seg [(39, .iconst 1, 1)] 40 [(5, .ref (rd 3 k)), (0, .ref s), (1, .int p0), (2, .ref (rt 3)), (3, .int (nI nn)), (4, .int xk)] [.int 1] C (by decide +kernel) rfl ?_
            exact g_zret (pc := 40) C R (by first | rfl | decide) (⟨_, rfl, rfl, Or.inl ⟨rfl, by unfold s_net; rw [fst_some hk8 (by rw [decide_eq_true (Int32.not_lt.mp c3), decide_eq_true (Int32.not_lt.mp c4)]; rfl) hs]; rfl⟩⟩) (Nat.le_of_ble_eq_true rfl) (Nat.le_of_ble_eq_true rfl) (by decide +kernel)
  exact lp1 (nn + 1) 0 0 (by omega) (by omega) (nI_0.symm) (fun t h1 => absurd h1 (by omega))
set_option maxHeartbeats 4000000 in
set_option maxRecDepth 100000 in
theorem c_X5_state (l : Launch) (D : va_G) (cy : Nat → ClassId) {G : GG} {s : Nat} {rt : Nat → Nat} {rd : Nat → Nat → Nat} {b : Int32} {nt nf nc nn : Nat} {S F Cu N : Rw} (h : RS cy s rt rd b nt nf nc nn S F Cu N G) (i : Nat) (hi : i < nf) (a1 a2 a3 a4 : Int32) : Ctr l D cy yX5_state prog_7_method_8_code 6 none kX5_state [.ref s, .ref (rd 1 i), .int a1, .int a2, .int a3, .int a4] G (pV (fun G' => RS cy s rt rd b nt nf nc nn S (s_row F i a1 a2 a3 a4) Cu N G')) := by
  refine Ctr.mk (by decide +kernel) (Nat.le_of_ble_eq_true rfl) ?_
  intro κ C R
  have hbd := h.2.2.2
  refine g_pc (pc' := 0) rfl ?_
  refine g_seg [(0, .aload_n 1, 1), (1, .iconst 0, 1), (2, .iload_n 2, 1)] 3 [(0, .ref s), (1, .ref (rd 1 i)), (2, .int a1), (3, .int a2), (4, .int a3), (5, .int a4)] [.int a1, .int 0, .ref (rd 1 i)] C (by decide +kernel) rfl ?_
  refine g_iastM (pc := 3) (n := 5) 0 (cut 5 ((s_set F i 0 a1) i)) C (h.2.1.2.1 i hi) rfl (by decide) (by decide) (cut_upd (by decide)) (by decide +kernel) ?_
  refine g_abs (P := fun G9 => RS cy s rt rd b nt nf nc nn S (s_set F i 0 a1) Cu N G9) (RS.w1 h hi (fun j9 h9 => s_set_ne h9)) (fun G1 h2 => ?_)
  refine g_seg [(4, .aload_n 1, 1), (5, .iconst 1, 1), (6, .iload_n 3, 1)] 7 [(0, .ref s), (1, .ref (rd 1 i)), (2, .int a1), (3, .int a2), (4, .int a3), (5, .int a4)] [.int a2, .int 1, .ref (rd 1 i)] C (by decide +kernel) rfl ?_
  refine g_iastM (pc := 7) (n := 5) 1 (cut 5 ((s_set (s_set F i 0 a1) i 1 a2) i)) C (h2.2.1.2.1 i hi) rfl (by decide) (by decide) (cut_upd (by decide)) (by decide +kernel) ?_
  refine g_abs (P := fun G9 => RS cy s rt rd b nt nf nc nn S (s_set (s_set F i 0 a1) i 1 a2) Cu N G9) (RS.w1 h2 hi (fun j9 h9 => s_set_ne h9)) (fun G3 h4 => ?_)
  refine g_seg [(8, .aload_n 1, 1), (9, .iconst 2, 1), (10, .iload 4, 2)] 12 [(0, .ref s), (1, .ref (rd 1 i)), (2, .int a1), (3, .int a2), (4, .int a3), (5, .int a4)] [.int a3, .int 2, .ref (rd 1 i)] C (by decide +kernel) rfl ?_
  refine g_iastM (pc := 12) (n := 5) 2 (cut 5 ((s_set (s_set (s_set F i 0 a1) i 1 a2) i 2 a3) i)) C (h4.2.1.2.1 i hi) rfl (by decide) (by decide) (cut_upd (by decide)) (by decide +kernel) ?_
  refine g_abs (P := fun G9 => RS cy s rt rd b nt nf nc nn S (s_set (s_set (s_set F i 0 a1) i 1 a2) i 2 a3) Cu N G9) (RS.w1 h4 hi (fun j9 h9 => s_set_ne h9)) (fun G5 h6 => ?_)
  refine g_seg [(13, .aload_n 1, 1), (14, .iconst 3, 1), (15, .iload 5, 2)] 17 [(0, .ref s), (1, .ref (rd 1 i)), (2, .int a1), (3, .int a2), (4, .int a3), (5, .int a4)] [.int a4, .int 3, .ref (rd 1 i)] C (by decide +kernel) rfl ?_
  refine g_iastM (pc := 17) (n := 5) 3 (cut 5 ((s_set (s_set (s_set (s_set F i 0 a1) i 1 a2) i 2 a3) i 3 a4) i)) C (h6.2.1.2.1 i hi) rfl (by decide) (by decide) (cut_upd (by decide)) (by decide +kernel) ?_
  refine g_abs (P := fun G9 => RS cy s rt rd b nt nf nc nn S (s_set (s_set (s_set (s_set F i 0 a1) i 1 a2) i 2 a3) i 3 a4) Cu N G9) (RS.w1 h6 hi (fun j9 h9 => s_set_ne h9)) (fun G7 h8 => ?_)
  exact g_vret (pc := 18) C R (⟨rfl, by rw [← row4_eq]; exact h8⟩) (Nat.le_of_ble_eq_true rfl) (Nat.le_of_ble_eq_true rfl) (by decide +kernel)
set_option maxHeartbeats 4000000 in
set_option maxRecDepth 100000 in
theorem c_X5_falls (l : Launch) (D : va_G) (cy : Nat → ClassId) {G : GG} {s : Nat} {rt : Nat → Nat} {rd : Nat → Nat → Nat} {b : Int32} {nt nf nc nn : Nat} {S F Cu N : Rw} (h : RS cy s rt rd b nt nf nc nn S F Cu N G) (i : Nat) (hi : i < nf) (p0 : Int32) : Ctr l D cy yX5_falls prog_7_method_9_code 3 none kX5_falls [.ref s, .ref (rd 1 i), .int p0] G (pV (fun G' => RS cy s rt rd b nt nf nc nn S (s_fall N nn F i p0) Cu N G')) := by
  refine Ctr.mk (by decide +kernel) (Nat.le_of_ble_eq_true rfl) ?_
  intro κ C R
  have hbd := h.2.2.2
  refine g_pc (pc' := 0) rfl ?_
  refine g_seg [(0, .aload_n 0, 1), (1, .aload_n 1, 1), (2, .aload_n 0, 1), (3, .iload_n 2, 1)] 4 [(0, .ref s), (1, .ref (rd 1 i)), (2, .int p0)] [.int p0, .ref s, .ref (rd 1 i), .ref s] C (by decide +kernel) rfl ?_
  refine g_callV (pc := 4) C mV_X5_net q370 (h.1.1) rfl rfl (c_X5_net l D cy h p0) rfl ⟨⟨Nat.le_of_ble_eq_true rfl, Nat.le_of_ble_eq_true rfl⟩, Nat.le_of_ble_eq_true rfl, Nat.le_of_ble_eq_true rfl⟩ rfl (Nat.le_of_ble_eq_true rfl) (by decide +kernel) ?_
  refine g_kI (fun v3 G2 hp1 => ?_)
  obtain ⟨rfl, hp1⟩ := hp1
  rcases hp1 with ⟨rfl, h4⟩ | ⟨rfl, h4⟩
  · refine g_if_eq (pc := 7) (off := 7) 14 C (by decide +kernel) (by decide) (fun c9 => absurd c9 (by decide)) (fun _ => ?_)
    refine g_seg [(10, .iconst 3, 1), (11, .goto 4, 3), (15, .iconst (-1), 1), (16, .iconst 0, 1), (17, .iconst (-1), 1)] 18 [(0, .ref s), (1, .ref (rd 1 i)), (2, .int p0)] [.int (-1), .int 0, .int (-1), .int 3, .ref (rd 1 i), .ref s] C (by decide +kernel) rfl ?_
    refine g_callV (pc := 18) C mV_X5_state q358 (h.1.1) rfl rfl (c_X5_state l D cy h i hi 3 (-1) 0 (-1)) rfl ⟨⟨Nat.le_of_ble_eq_true rfl, Nat.le_of_ble_eq_true rfl⟩, Nat.le_of_ble_eq_true rfl, Nat.le_of_ble_eq_true rfl⟩ rfl (Nat.le_of_ble_eq_true rfl) (by decide +kernel) ?_
    refine g_kV (fun G5 h6 => ?_)
    exact g_vret (pc := 21) C R (⟨rfl, by unfold s_fall; rw [if_pos h4]; exact h6⟩) (Nat.le_of_ble_eq_true rfl) (Nat.le_of_ble_eq_true rfl) (by decide +kernel)
  · refine g_if_eq (pc := 7) (off := 7) 14 C (by decide +kernel) (by decide) (fun _ => ?_) (fun c9 => absurd (by decide) c9)
    refine g_seg [(14, .iconst 4, 1), (15, .iconst (-1), 1), (16, .iconst 0, 1), (17, .iconst (-1), 1)] 18 [(0, .ref s), (1, .ref (rd 1 i)), (2, .int p0)] [.int (-1), .int 0, .int (-1), .int 4, .ref (rd 1 i), .ref s] C (by decide +kernel) rfl ?_
    refine g_callV (pc := 18) C mV_X5_state q358 (h.1.1) rfl rfl (c_X5_state l D cy h i hi 4 (-1) 0 (-1)) rfl ⟨⟨Nat.le_of_ble_eq_true rfl, Nat.le_of_ble_eq_true rfl⟩, Nat.le_of_ble_eq_true rfl, Nat.le_of_ble_eq_true rfl⟩ rfl (Nat.le_of_ble_eq_true rfl) (by decide +kernel) ?_
    refine g_kV (fun G7 h8 => ?_)
    exact g_vret (pc := 21) C R (⟨rfl, by unfold s_fall; rw [if_neg (by rw [h4]; decide)]; exact h8⟩) (Nat.le_of_ble_eq_true rfl) (Nat.le_of_ble_eq_true rfl) (by decide +kernel)
end
section
set_option maxHeartbeats 4000000 in
set_option maxRecDepth 100000 in
theorem c_X5_go (l : Launch) (D : va_G) (cy : Nat → ClassId) {G : GG} {s : Nat} {rt : Nat → Nat} {rd : Nat → Nat → Nat} {b : Int32} {nt nf nc nn : Nat} {S F Cu N : Rw} (h : RS cy s rt rd b nt nf nc nn S F Cu N G) (hwF : y_wF nt nf F) (hwC : y_wC nf nc Cu) (hwS : y_wS nt S) : Ctr l D cy yX5_go prog_7_method_10_code 9 (some .int) kX5_go [.ref s] G (pI (fun v G' => RS cy s rt rd (b + 1) nt nf nc nn ((y_beat N nn nt nf nc b S F Cu).1) ((y_beat N nn nt nf nc b S F Cu).2.1) ((y_beat N nn nt nf nc b S F Cu).2.2) N G')) := by
  refine Ctr.mk (by decide +kernel) (Nat.le_of_ble_eq_true rfl) ?_
  intro κ C R
  have hbd := h.2.2.2
  refine g_pc (pc' := 0) rfl ?_
  refine g_seg [(0, .iconst 0, 1), (1, .istore_n 1, 1), (2, .aload_n 0, 1)] 3 [(1, .int 0), (0, .ref s)] [.ref s] C (by decide +kernel) rfl ?_
  refine g_getf (pc := 3) (k := 2) (v := .ref (rt 2)) C fl_X5_18 (h.1.1) rfl (by decide +kernel) ?_
  refine g_seg [(6, .astore_n 2, 1), (7, .aload_n 2, 1)] 8 [(2, .ref (rt 2)), (1, .int 0), (0, .ref s)] [.ref (rt 2)] C (by decide +kernel) rfl ?_
  refine g_alenI (pc := 8) C (h.1.2.2.2.1) (by decide +kernel) ?_
  refine g_seg [(9, .istore_n 3, 1), (10, .iconst 0, 1), (11, .istore 4, 2)] 13 [(4, .int 0), (3, .int (nI nc)), (2, .ref (rt 2)), (1, .int 0), (0, .ref s)] [] C (by decide +kernel) rfl ?_
  refine g_subp [4, 3, 2, 1, 0] (lv' := [(0, .ref s), (1, .int 0), (2, .ref (rt 2)), (3, .int (nI nc)), (4, .int 0)]) rfl ?_
  have lp1 : ∀ (m k : Nat) (F1 C1 : Rw) (G1 : GG) (xk : Int32), nc + 1 ≤ k + m → k ≤ nc → xk = nI k → (F1, C1) = its (y_cue S b) (F, Cu) k → RS cy s rt rd b nt nf nc nn S F1 C1 N G1 → y_wF nt nf F1 → y_wC nf nc C1 → PG κ 9 0 0 G1 [(0, .ref s), (1, .int 0), (2, .ref (rt 2)), (3, .int (nI nc)), (4, .int xk)] 13 [] := by
    intro m
    induction m with
    | zero => intro k F1 C1 G1 xk h1 h2; intros; exact absurd h1 (by omega)
    | succ m ih =>
      intro k F1 C1 G1 xk hm hk hx hs h1 hwF1 hwC1
      refine g_seg [(13, .iload 4, 2), (15, .iload_n 3, 1)] 16 [(0, .ref s), (1, .int 0), (2, .ref (rt 2)), (3, .int (nI nc)), (4, .int xk)] [.int (nI nc), .int xk] C (by decide +kernel) rfl ?_
      refine g_icmp_ge (pc := 16) (off := 113) 129 C (by decide +kernel) (by decide) (fun c2 => ?_) (fun c2 => ?_)
      · have hk8 : k = nc := by have := lp_ge hx (by omega) (by omega) c2; omega
        rw [hk8] at hs
        refine g_seg [(129, .aload_n 0, 1)] 130 [(0, .ref s), (1, .int 0), (2, .ref (rt 2)), (3, .int (nI nc)), (4, .int xk)] [.ref s] C (by decide +kernel) rfl ?_
        refine g_getf (pc := 130) (k := 1) (v := .ref (rt 1)) C fl_X5_15 (h1.1.1) rfl (by decide +kernel) ?_
        refine g_seg [(133, .astore_n 2, 1), (134, .aload_n 2, 1)] 135 [(2, .ref (rt 1)), (0, .ref s), (1, .int 0), (3, .int (nI nc)), (4, .int xk)] [.ref (rt 1)] C (by decide +kernel) rfl ?_
        refine g_alenI (pc := 135) C (h1.1.2.2.1) (by decide +kernel) ?_
        have hFC : F1 = (its (y_cue S b) (F, Cu) nc).1 := congrArg Prod.fst hs
        have hCC : C1 = (its (y_cue S b) (F, Cu) nc).2 := congrArg Prod.snd hs
        refine g_seg [(136, .istore_n 3, 1), (137, .iconst 0, 1), (138, .istore 4, 2)] 140 [(4, .int 0), (3, .int (nI nf)), (2, .ref (rt 1)), (0, .ref s), (1, .int 0)] [] C (by decide +kernel) rfl ?_
        refine g_subp [3, 4, 2, 1, 0] (lv' := [(0, .ref s), (1, .int 0), (2, .ref (rt 1)), (3, .int (nI nf)), (4, .int 0)]) rfl ?_
        have lp3 : ∀ (m2 k2 : Nat) (F2 : Rw) (G2 : GG) (many xl : Int32), nf + 1 ≤ k2 + m2 → k2 ≤ nf → xl = nI k2 → F2 = its (y_land N nn S nt nf) F1 k2 → RS cy s rt rd b nt nf nc nn S F2 C1 N G2 → y_wF nt nf F2 → PG κ 9 0 0 G2 [(0, .ref s), (1, .int many), (2, .ref (rt 1)), (3, .int (nI nf)), (4, .int xl)] 140 [] := by
          intro m2
          induction m2 with
          | zero => intro k2 F2 G2 many xl h1 h2; intros; exact absurd h1 (by omega)
          | succ m2 ih2 =>
            intro k2 F2 G2 many xl hm2 hk2 hx2 hs2 h2 hwF2
            refine g_seg [(140, .iload 4, 2), (142, .iload_n 3, 1)] 143 [(0, .ref s), (1, .int many), (2, .ref (rt 1)), (3, .int (nI nf)), (4, .int xl)] [.int (nI nf), .int xl] C (by decide +kernel) rfl ?_
            refine g_icmp_ge (pc := 143) (off := 174) 317 C (by decide +kernel) (by decide) (fun c4 => ?_) (fun c4 => ?_)
            · have hl8 : k2 = nf := by have := lp_ge hx2 (by omega) (by omega) c4; omega
              rw [hl8] at hs2
              refine g_seg [(317, .iconst 0, 1), (318, .istore_n 2, 1)] 319 [(2, .int 0), (0, .ref s), (1, .int many), (3, .int (nI nf)), (4, .int xl)] [] C (by decide +kernel) rfl ?_
              refine g_subp [1, 2, 0] (lv' := [(0, .ref s), (1, .int many), (2, .int 0)]) rfl ?_
              have lp5 : ∀ (m4 k4 : Nat) (S4 F4 : Rw) (G4 : GG) (x4 : Int32), nt + 1 ≤ k4 + m4 → k4 ≤ nt → x4 = nI k4 → (S4, F4) = its (y_wear N nn nf) (S, F2) k4 → RS cy s rt rd b nt nf nc nn S4 F4 C1 N G4 → y_wS nt S4 → PG κ 9 0 0 G4 [(0, .ref s), (1, .int many), (2, .int x4)] 319 [] := by
                intro m4
                induction m4 with
                | zero => intro k4 S4 F4 G4 x4 h1 h2; intros; exact absurd h1 (by omega)
                | succ m4 ih4 =>
                  intro k4 S4 F4 G4 x4 hm4 hk4 hx4 hs4 h4 hwS4
                  refine g_seg [(319, .iload_n 2, 1), (320, .aload_n 0, 1)] 321 [(0, .ref s), (1, .int many), (2, .int x4)] [.ref s, .int x4] C (by decide +kernel) rfl ?_
                  refine g_getf (pc := 321) (k := 0) (v := .ref (rt 0)) C fl_X5_9 (h4.1.1) rfl (by decide +kernel) ?_
                  refine g_alenI (pc := 324) C (h4.1.2.1) (by decide +kernel) ?_
                  refine g_icmp_ge (pc := 325) (off := 130) 455 C (by decide +kernel) (by decide) (fun c6 => ?_) (fun c6 => ?_)
                  · have hn8 : k4 = nt := by have := lp_ge hx4 (by omega) (by omega) c6; omega
                    rw [hn8] at hs4
                    refine g_seg [(455, .aload_n 0, 1)] 456 [(0, .ref s), (1, .int many), (2, .int x4)] [.ref s] C (by decide +kernel) rfl ?_
                    refine g_getf (pc := 456) (k := 0) (v := .ref (rt 0)) C fl_X5_9 (h4.1.1) rfl (by decide +kernel) ?_
                    refine g_seg [(459, .astore_n 2, 1), (460, .aload_n 2, 1)] 461 [(2, .ref (rt 0)), (0, .ref s), (1, .int many)] [.ref (rt 0)] C (by decide +kernel) rfl ?_
                    refine g_alenI (pc := 461) C (h4.1.2.1) (by decide +kernel) ?_
                    refine g_seg [(462, .istore_n 3, 1), (463, .iconst 0, 1), (464, .istore 4, 2)] 466 [(4, .int 0), (3, .int (nI nt)), (2, .ref (rt 0)), (0, .ref s), (1, .int many)] [] C (by decide +kernel) rfl ?_
                    refine g_subp [3, 4, 2, 1, 0] (lv' := [(0, .ref s), (1, .int many), (2, .ref (rt 0)), (3, .int (nI nt)), (4, .int 0)]) rfl ?_
                    have lp7 : ∀ (m6 k6 : Nat) (S6 : Rw) (G6 : GG) (x6 : Int32), nt + 1 ≤ k6 + m6 → k6 ≤ nt → x6 = nI k6 → S6 = its y_age S4 k6 → RS cy s rt rd b nt nf nc nn S6 F4 C1 N G6 → PG κ 9 0 0 G6 [(0, .ref s), (1, .int many), (2, .ref (rt 0)), (3, .int (nI nt)), (4, .int x6)] 466 [] := by
                      intro m6
                      induction m6 with
                      | zero => intro k6 S6 G6 x6 h1 h2; intros; exact absurd h1 (by omega)
                      | succ m6 ih6 =>
                        intro k6 S6 G6 x6 hm6 hk6 hx6 hs6 h6
                        refine g_seg [(466, .iload 4, 2), (468, .iload_n 3, 1)] 469 [(0, .ref s), (1, .int many), (2, .ref (rt 0)), (3, .int (nI nt)), (4, .int x6)] [.int (nI nt), .int x6] C (by decide +kernel) rfl ?_
                        refine g_icmp_ge (pc := 469) (off := 24) 493 C (by decide +kernel) (by decide) (fun c8 => ?_) (fun c8 => ?_)
                        · have hq8 : k6 = nt := by have := lp_ge hx6 (by omega) (by omega) c8; omega
                          refine g_seg [(493, .aload_n 0, 1), (494, .dup, 1)] 495 [(0, .ref s), (1, .int many), (2, .ref (rt 0)), (3, .int (nI nt)), (4, .int x6)] [.ref s, .ref s] C (by decide +kernel) rfl ?_
                          refine g_getf (pc := 495) (k := 4) (v := .int b) C fl_X5_33 (h6.1.1) rfl (by decide +kernel) ?_
                          refine g_seg [(498, .iconst 1, 1), (499, .iadd, 1)] 500 [(0, .ref s), (1, .int many), (2, .ref (rt 0)), (3, .int (nI nt)), (4, .int x6)] [.int (b + 1), .ref s] C (by decide +kernel) rfl ?_
                          refine g_putf (pc := 500) (k := 4) (v := .int (b + 1)) (ty := .int) C fl_X5_33 fp_X5_4 (h6.1.1) (rfl) (by first | rfl | decide) (Nat.le_of_ble_eq_true rfl) (by decide +kernel) ?_
                          refine g_abs (P := fun G9 => RS cy s rt rd (b + 1) nt nf nc nn S6 F4 C1 N G9) (RS.wb h6) (fun G9 h10 => ?_)
                          refine g_seg [(503, .iload_n 1, 1)] 504 [(0, .ref s), (1, .int many), (2, .ref (rt 0)), (3, .int (nI nt)), (4, .int x6)] [.int many] C (by decide +kernel) rfl ?_
                          exact g_iret (pc := 504) C R (⟨_, rfl, by rw [hq8] at hs6; have e9 : y_beat N nn nt nf nc b S F Cu = (S6, F4, C1) := (by unfold y_beat; simp only; rw [← hFC, ← hs2, ← hs4, ← hCC]; simp only; rw [← hs6]); rw [e9]; exact h10⟩) (Nat.le_of_ble_eq_true rfl) (Nat.le_of_ble_eq_true rfl) (by decide +kernel)
                        · have hq8 : k6 < nt := lp_lt hx6 (by omega) (by omega) c8
                          refine g_seg [(472, .aload_n 2, 1), (473, .iload 4, 2)] 475 [(0, .ref s), (1, .int many), (2, .ref (rt 0)), (3, .int (nI nt)), (4, .int x6)] [.int x6, .ref (rt 0)] C (by decide +kernel) rfl ?_
                          refine g_aaldS (pc := 475) (j := k6) C (h6.1.2.1) (hx6) (hq8) (by omega) (by decide +kernel) ?_
                          refine g_seg [(476, .astore 5, 2), (478, .aload 5, 2), (480, .bipush 6, 2), (482, .dup2, 1)] 483 [(5, .ref (rd 0 k6)), (0, .ref s), (1, .int many), (2, .ref (rt 0)), (3, .int (nI nt)), (4, .int x6)] [.int 6, .ref (rd 0 k6), .int 6, .ref (rd 0 k6)] C (by decide +kernel) rfl ?_
                          refine g_ialdM (pc := 483) (n := 7) 6 (S6 k6 6) C (h6.2.1.1 k6 hq8) rfl (by decide) (by decide) (cut_lt (by decide)) (by decide +kernel) ?_
                          refine g_seg [(484, .iconst 1, 1), (485, .iadd, 1)] 486 [(5, .ref (rd 0 k6)), (0, .ref s), (1, .int many), (2, .ref (rt 0)), (3, .int (nI nt)), (4, .int x6)] [.int ((S6 k6 6) + 1), .int 6, .ref (rd 0 k6)] C (by decide +kernel) rfl ?_
                          refine g_iastM (pc := 486) (n := 7) 6 (cut 7 ((s_set S6 k6 6 ((S6 k6 6) + 1)) k6)) C (h6.2.1.1 k6 hq8) rfl (by decide) (by decide) (cut_upd (by decide)) (by decide +kernel) ?_
                          refine g_abs (P := fun G9 => RS cy s rt rd b nt nf nc nn (s_set S6 k6 6 ((S6 k6 6) + 1)) F4 C1 N G9) (RS.w0 h6 hq8 (fun j9 h9 => s_set_ne h9)) (fun G11 h12 => ?_)
                          refine g_seg [(487, .iinc 4 1, 3), (490, .goto (-24), 3)] 466 [(4, .int (x6 + 1)), (5, .ref (rd 0 k6)), (0, .ref s), (1, .int many), (2, .ref (rt 0)), (3, .int (nI nt))] [] C (by decide +kernel) rfl ?_
                          refine g_subp [2, 3, 4, 5, 0] (lv' := [(0, .ref s), (1, .int many), (2, .ref (rt 0)), (3, .int (nI nt)), (4, .int (x6 + 1))]) rfl ?_
                          exact ih6 (k6 + 1) (s_set S6 k6 6 ((S6 k6 6) + 1)) G11 (x6 + 1) (by omega) (by omega) (lp_s hx6) (by rw [its, ← hs6]; rfl) (h12)
                    exact lp7 (nt + 1) 0 S4 G4 0 (by omega) (by omega) (nI_0.symm) (rfl) (h4)
                  · have hn8 : k4 < nt := lp_lt hx4 (by omega) (by omega) c6
                    refine g_seg [(328, .aload_n 0, 1)] 329 [(0, .ref s), (1, .int many), (2, .int x4)] [.ref s] C (by decide +kernel) rfl ?_
                    refine g_getf (pc := 329) (k := 0) (v := .ref (rt 0)) C fl_X5_9 (h4.1.1) rfl (by decide +kernel) ?_
                    refine g_seg [(332, .iload_n 2, 1)] 333 [(0, .ref s), (1, .int many), (2, .int x4)] [.int x4, .ref (rt 0)] C (by decide +kernel) rfl ?_
                    refine g_aaldS (pc := 333) (j := k4) C (h4.1.2.1) (hx4) (hn8) (by omega) (by decide +kernel) ?_
                    refine g_seg [(334, .astore_n 3, 1), (335, .aload_n 3, 1), (336, .iconst 5, 1)] 337 [(3, .ref (rd 0 k4)), (0, .ref s), (1, .int many), (2, .int x4)] [.int 5, .ref (rd 0 k4)] C (by decide +kernel) rfl ?_
                    refine g_ialdM (pc := 337) (n := 7) 5 (S4 k4 5) C (h4.2.1.1 k4 hn8) rfl (by decide) (by decide) (cut_lt (by decide)) (by decide +kernel) ?_
                    refine g_seg [(338, .iconst 1, 1)] 339 [(3, .ref (rd 0 k4)), (0, .ref s), (1, .int many), (2, .int x4)] [.int 1, .int (S4 k4 5)] C (by decide +kernel) rfl ?_
                    refine g_icmp_ne (pc := 339) (off := 110) 449 C (by decide +kernel) (by decide) (fun c13 => ?_) (fun c13 => ?_)
                    · refine g_seg [(449, .iinc 2 1, 3), (452, .goto (-133), 3)] 319 [(2, .int (x4 + 1)), (3, .ref (rd 0 k4)), (0, .ref s), (1, .int many)] [] C (by decide +kernel) rfl ?_
                      refine g_subp [2, 3, 0] (lv' := [(0, .ref s), (1, .int many), (2, .int (x4 + 1))]) rfl ?_
                      exact ih4 (k4 + 1) S4 F4 G4 (x4 + 1) (by omega) (by omega) (lp_s hx4) (by rw [its, ← hs4]; exact (if_neg (fun h9 => c13 h9.1)).symm) (h4) (hwS4)
                    · refine g_seg [(342, .aload_n 3, 1), (343, .bipush 6, 2)] 345 [(3, .ref (rd 0 k4)), (0, .ref s), (1, .int many), (2, .int x4)] [.int 6, .ref (rd 0 k4)] C (by decide +kernel) rfl ?_
                      refine g_ialdM (pc := 345) (n := 7) 6 (S4 k4 6) C (h4.2.1.1 k4 hn8) rfl (by decide) (by decide) (cut_lt (by decide)) (by decide +kernel) ?_
                      refine g_seg [(346, .iconst 4, 1), (347, .iconst 2, 1), (348, .aload_n 3, 1), (349, .iconst 2, 1)] 350 [(3, .ref (rd 0 k4)), (0, .ref s), (1, .int many), (2, .int x4)] [.int 2, .ref (rd 0 k4), .int 2, .int 4, .int (S4 k4 6)] C (by decide +kernel) rfl ?_
                      refine g_ialdM (pc := 350) (n := 7) 2 (S4 k4 2) C (h4.2.1.1 k4 hn8) rfl (by decide) (by decide) (cut_lt (by decide)) (by decide +kernel) ?_
                      refine g_seg [(351, .imul, 1), (352, .iadd, 1)] 353 [(3, .ref (rd 0 k4)), (0, .ref s), (1, .int many), (2, .int x4)] [.int (4 + (2 * (S4 k4 2))), .int (S4 k4 6)] C (by decide +kernel) rfl ?_
                      refine g_irem (pc := 353) C (by decide +kernel) (y_hne (hwS4 k4 hn8).1) ?_
                      refine g_if_ne (pc := 354) (off := 95) 449 C (by decide +kernel) (by decide) (fun c14 => ?_) (fun c14 => ?_)
                      · refine g_seg [(449, .iinc 2 1, 3), (452, .goto (-133), 3)] 319 [(2, .int (x4 + 1)), (3, .ref (rd 0 k4)), (0, .ref s), (1, .int many)] [] C (by decide +kernel) rfl ?_
                        refine g_subp [2, 3, 0] (lv' := [(0, .ref s), (1, .int many), (2, .int (x4 + 1))]) rfl ?_
                        exact ih4 (k4 + 1) S4 F4 G4 (x4 + 1) (by omega) (by omega) (lp_s hx4) (by rw [its, ← hs4]; exact (if_neg (fun h9 => c14 h9.2)).symm) (h4) (hwS4)
                      · refine g_seg [(357, .aload_n 3, 1), (358, .iconst 4, 1), (359, .dup2, 1)] 360 [(3, .ref (rd 0 k4)), (0, .ref s), (1, .int many), (2, .int x4)] [.int 4, .ref (rd 0 k4), .int 4, .ref (rd 0 k4)] C (by decide +kernel) rfl ?_
                        refine g_ialdM (pc := 360) (n := 7) 4 (S4 k4 4) C (h4.2.1.1 k4 hn8) rfl (by decide) (by decide) (cut_lt (by decide)) (by decide +kernel) ?_
                        refine g_seg [(361, .aload_n 0, 1), (362, .iload_n 2, 1)] 363 [(3, .ref (rd 0 k4)), (0, .ref s), (1, .int many), (2, .int x4)] [.int x4, .ref s, .int (S4 k4 4), .int 4, .ref (rd 0 k4)] C (by decide +kernel) rfl ?_
                        refine g_callV (pc := 363) C mV_X5_hang q362 (h4.1.1) rfl rfl (c_X5_hang l D cy h4 x4) rfl ⟨⟨Nat.le_of_ble_eq_true rfl, Nat.le_of_ble_eq_true rfl⟩, Nat.le_of_ble_eq_true rfl, Nat.le_of_ble_eq_true rfl⟩ rfl (Nat.le_of_ble_eq_true rfl) (by decide +kernel) ?_
                        refine g_kI (fun v17 G16 hp15 => ?_)
                        obtain ⟨rfl, rfl⟩ := hp15
                        refine g_seg [(366, .iadd, 1)] 367 [(3, .ref (rd 0 k4)), (0, .ref s), (1, .int many), (2, .int x4)] [.int ((S4 k4 4) + (nI (s_hangE F4 nf x4))), .int 4, .ref (rd 0 k4)] C (by decide +kernel) rfl ?_
                        refine g_iastM (pc := 367) (n := 7) 4 (cut 7 ((s_set S4 k4 4 ((S4 k4 4) + (nI (s_hangE F4 nf x4)))) k4)) C (h4.2.1.1 k4 hn8) rfl (by decide) (by decide) (cut_upd (by decide)) (by decide +kernel) ?_
                        refine g_abs (P := fun G9 => RS cy s rt rd b nt nf nc nn (s_set S4 k4 4 ((S4 k4 4) + (nI (s_hangE F4 nf x4)))) F4 C1 N G9) (RS.w0 h4 hn8 (fun j9 h9 => s_set_ne h9)) (fun G18 h19 => ?_)
                        refine g_seg [(368, .aload_n 3, 1), (369, .iconst 4, 1)] 370 [(3, .ref (rd 0 k4)), (0, .ref s), (1, .int many), (2, .int x4)] [.int 4, .ref (rd 0 k4)] C (by decide +kernel) rfl ?_
                        refine g_ialdM (pc := 370) (n := 7) 4 ((S4 k4 4) + (nI (s_hangE F4 nf x4))) C (h19.2.1.1 k4 hn8) rfl (by decide) (by decide) (by rw [cut_lt (by decide)]; simp [s_set, s_row]) (by decide +kernel) ?_
                        refine g_seg [(371, .aload_n 3, 1), (372, .iconst 3, 1)] 373 [(3, .ref (rd 0 k4)), (0, .ref s), (1, .int many), (2, .int x4)] [.int 3, .ref (rd 0 k4), .int ((S4 k4 4) + (nI (s_hangE F4 nf x4)))] C (by decide +kernel) rfl ?_
                        refine g_ialdM (pc := 373) (n := 7) 3 (S4 k4 3) C (h19.2.1.1 k4 hn8) rfl (by decide) (by decide) (by rw [cut_lt (by decide)]; simp [s_set, s_row]) (by decide +kernel) ?_
                        refine g_icmp_le (pc := 374) (off := 75) 449 C (by decide +kernel) (by decide) (fun c20 => ?_) (fun c20 => ?_)
                        · refine g_seg [(449, .iinc 2 1, 3), (452, .goto (-133), 3)] 319 [(2, .int (x4 + 1)), (3, .ref (rd 0 k4)), (0, .ref s), (1, .int many)] [] C (by decide +kernel) rfl ?_
                          refine g_subp [2, 3, 0] (lv' := [(0, .ref s), (1, .int many), (2, .int (x4 + 1))]) rfl ?_
                          exact ih4 (k4 + 1) (s_set S4 k4 4 ((S4 k4 4) + (nI (s_hangE F4 nf x4)))) F4 G18 (x4 + 1) (by omega) (by omega) (lp_s hx4) (by subst hx4; rw [its, ← hs4]; unfold y_wear; rw [if_pos ⟨c13, c14⟩, if_neg (Int32.not_lt.mpr c20)]; rfl) (h19) (hwS4.set (by decide) (by decide))
                        · refine g_seg [(377, .aload_n 3, 1), (378, .iconst 5, 1), (379, .iconst 0, 1)] 380 [(3, .ref (rd 0 k4)), (0, .ref s), (1, .int many), (2, .int x4)] [.int 0, .int 5, .ref (rd 0 k4)] C (by decide +kernel) rfl ?_
                          refine g_iastM (pc := 380) (n := 7) 5 (cut 7 ((s_set (s_set S4 k4 4 ((S4 k4 4) + (nI (s_hangE F4 nf x4)))) k4 5 0) k4)) C (h19.2.1.1 k4 hn8) rfl (by decide) (by decide) (cut_upd (by decide)) (by decide +kernel) ?_
                          refine g_abs (P := fun G9 => RS cy s rt rd b nt nf nc nn (s_set (s_set S4 k4 4 ((S4 k4 4) + (nI (s_hangE F4 nf x4)))) k4 5 0) F4 C1 N G9) (RS.w0 h19 hn8 (fun j9 h9 => s_set_ne h9)) (fun G21 h22 => ?_)
                          refine g_seg [(381, .aload_n 3, 1), (382, .aload_n 3, 1), (383, .bipush 6, 2)] 385 [(3, .ref (rd 0 k4)), (0, .ref s), (1, .int many), (2, .int x4)] [.int 6, .ref (rd 0 k4), .ref (rd 0 k4)] C (by decide +kernel) rfl ?_
                          refine g_ialdM (pc := 385) (n := 7) 6 (S4 k4 6) C (h22.2.1.1 k4 hn8) rfl (by decide) (by decide) (by rw [cut_lt (by decide)]; simp [s_set, s_row]) (by decide +kernel) ?_
                          obtain ⟨⟨w9, hw9, hf9⟩, d9, hd9, hs9⟩ := hwS4 k4 hn8
                          refine g_callS (pc := 386) C mS_X5_place q355 (c_X5_place l D cy _ (rd 0 k4) ((s_set (s_set S4 k4 4 ((S4 k4 4) + (nI (s_hangE F4 nf x4)))) k4 5 0) k4) (h22.2.1.1 k4 hn8) w9 d9 hw9 (S4 k4 0) (S4 k4 1) (S4 k4 2) (by simp [s_set]) (by simp [s_set]) (by simp [s_set]) hf9 (S4 k4 6) hs9 hd9) rfl ⟨⟨Nat.le_of_ble_eq_true rfl, Nat.le_of_ble_eq_true rfl⟩, Nat.le_of_ble_eq_true rfl, Nat.le_of_ble_eq_true rfl⟩ rfl (Nat.le_of_ble_eq_true rfl) (by decide +kernel) ?_
                          refine g_kI (fun v25 G24 hp23 => ?_)
                          obtain ⟨rfl, rfl⟩ := hp23
                          refine g_seg [(389, .istore 4, 2), (391, .aload_n 0, 1)] 392 [(4, .int (s_pl (S4 k4 0) (S4 k4 1) (S4 k4 2) (S4 k4 6))), (3, .ref (rd 0 k4)), (0, .ref s), (1, .int many), (2, .int x4)] [.ref s] C (by decide +kernel) rfl ?_
                          refine g_getf (pc := 392) (k := 1) (v := .ref (rt 1)) C fl_X5_15 (h22.1.1) rfl (by decide +kernel) ?_
                          refine g_seg [(395, .astore 5, 2), (397, .aload 5, 2)] 399 [(5, .ref (rt 1)), (4, .int (s_pl (S4 k4 0) (S4 k4 1) (S4 k4 2) (S4 k4 6))), (3, .ref (rd 0 k4)), (0, .ref s), (1, .int many), (2, .int x4)] [.ref (rt 1)] C (by decide +kernel) rfl ?_
                          refine g_alenI (pc := 399) C (h22.1.2.2.1) (by decide +kernel) ?_
                          refine g_seg [(400, .istore 6, 2), (402, .iconst 0, 1), (403, .istore 7, 2)] 405 [(7, .int 0), (6, .int (nI nf)), (5, .ref (rt 1)), (4, .int (s_pl (S4 k4 0) (S4 k4 1) (S4 k4 2) (S4 k4 6))), (3, .ref (rd 0 k4)), (0, .ref s), (1, .int many), (2, .int x4)] [] C (by decide +kernel) rfl ?_
                          refine g_subp [5, 6, 7, 3, 2, 1, 0] (lv' := [(0, .ref s), (1, .int many), (2, .int x4), (4, .int (s_pl (S4 k4 0) (S4 k4 1) (S4 k4 2) (S4 k4 6))), (5, .ref (rt 1)), (6, .int (nI nf)), (7, .int 0)]) rfl ?_
                          have lp26 : ∀ (m5 k5 : Nat) (F5 : Rw) (G5 : GG) (x5 : Int32), nf + 1 ≤ k5 + m5 → k5 ≤ nf → x5 = nI k5 → F5 = its (y_drop N nn (nI k4) (y_pl S4 k4)) F4 k5 → RS cy s rt rd b nt nf nc nn (s_set (s_set S4 k4 4 ((S4 k4 4) + (nI (s_hangE F4 nf x4)))) k4 5 0) F5 C1 N G5 → PG κ 9 0 0 G5 [(0, .ref s), (1, .int many), (2, .int x4), (4, .int (s_pl (S4 k4 0) (S4 k4 1) (S4 k4 2) (S4 k4 6))), (5, .ref (rt 1)), (6, .int (nI nf)), (7, .int x5)] 405 [] := by
                            intro m5
                            induction m5 with
                            | zero => intro k5 F5 G5 x5 h1 h2; intros; exact absurd h1 (by omega)
                            | succ m5 ih5 =>
                              intro k5 F5 G5 x5 hm5 hk5 hx5 hs5 h5
                              refine g_seg [(405, .iload 7, 2), (407, .iload 6, 2)] 409 [(0, .ref s), (1, .int many), (2, .int x4), (4, .int (s_pl (S4 k4 0) (S4 k4 1) (S4 k4 2) (S4 k4 6))), (5, .ref (rt 1)), (6, .int (nI nf)), (7, .int x5)] [.int (nI nf), .int x5] C (by decide +kernel) rfl ?_
                              refine g_icmp_ge (pc := 409) (off := 40) 449 C (by decide +kernel) (by decide) (fun c27 => ?_) (fun c27 => ?_)
                              · have ho8 : k5 = nf := by have := lp_ge hx5 (by omega) (by omega) c27; omega
                                rw [ho8] at hs5
                                refine g_seg [(449, .iinc 2 1, 3), (452, .goto (-133), 3)] 319 [(2, .int (x4 + 1)), (0, .ref s), (1, .int many), (4, .int (s_pl (S4 k4 0) (S4 k4 1) (S4 k4 2) (S4 k4 6))), (5, .ref (rt 1)), (6, .int (nI nf)), (7, .int x5)] [] C (by decide +kernel) rfl ?_
                                refine g_subp [1, 2, 0] (lv' := [(0, .ref s), (1, .int many), (2, .int (x4 + 1))]) rfl ?_
                                exact ih4 (k4 + 1) (s_set (s_set S4 k4 4 ((S4 k4 4) + (nI (s_hangE F4 nf x4)))) k4 5 0) F5 G5 (x4 + 1) (by omega) (by omega) (lp_s hx4) (by subst hx4; rw [its, ← hs4]; unfold y_wear; rw [if_pos ⟨c13, c14⟩, if_pos (Int32.not_le.mp c20), ← hs5]; rfl) (h5) ((hwS4.set (by decide) (by decide)).set (by decide) (by decide))
                              · have ho8 : k5 < nf := lp_lt hx5 (by omega) (by omega) c27
                                refine g_seg [(412, .aload 5, 2), (414, .iload 7, 2)] 416 [(0, .ref s), (1, .int many), (2, .int x4), (4, .int (s_pl (S4 k4 0) (S4 k4 1) (S4 k4 2) (S4 k4 6))), (5, .ref (rt 1)), (6, .int (nI nf)), (7, .int x5)] [.int x5, .ref (rt 1)] C (by decide +kernel) rfl ?_
                                refine g_aaldS (pc := 416) (j := k5) C (h5.1.2.2.1) (hx5) (ho8) (by omega) (by decide +kernel) ?_
                                refine g_seg [(417, .astore 8, 2), (419, .aload 8, 2), (421, .iconst 0, 1)] 422 [(8, .ref (rd 1 k5)), (0, .ref s), (1, .int many), (2, .int x4), (4, .int (s_pl (S4 k4 0) (S4 k4 1) (S4 k4 2) (S4 k4 6))), (5, .ref (rt 1)), (6, .int (nI nf)), (7, .int x5)] [.int 0, .ref (rd 1 k5)] C (by decide +kernel) rfl ?_
                                refine g_ialdM (pc := 422) (n := 5) 0 (F5 k5 0) C (h5.2.1.2.1 k5 ho8) rfl (by decide) (by decide) (cut_lt (by decide)) (by decide +kernel) ?_
                                refine g_seg [(423, .iconst 1, 1)] 424 [(8, .ref (rd 1 k5)), (0, .ref s), (1, .int many), (2, .int x4), (4, .int (s_pl (S4 k4 0) (S4 k4 1) (S4 k4 2) (S4 k4 6))), (5, .ref (rt 1)), (6, .int (nI nf)), (7, .int x5)] [.int 1, .int (F5 k5 0)] C (by decide +kernel) rfl ?_
                                refine g_icmp_ne (pc := 424) (off := 19) 443 C (by decide +kernel) (by decide) (fun c28 => ?_) (fun c28 => ?_)
                                · refine g_seg [(443, .iinc 7 1, 3), (446, .goto (-41), 3)] 405 [(7, .int (x5 + 1)), (8, .ref (rd 1 k5)), (0, .ref s), (1, .int many), (2, .int x4), (4, .int (s_pl (S4 k4 0) (S4 k4 1) (S4 k4 2) (S4 k4 6))), (5, .ref (rt 1)), (6, .int (nI nf))] [] C (by decide +kernel) rfl ?_
                                  refine g_subp [2, 3, 4, 5, 6, 7, 0] (lv' := [(0, .ref s), (1, .int many), (2, .int x4), (4, .int (s_pl (S4 k4 0) (S4 k4 1) (S4 k4 2) (S4 k4 6))), (5, .ref (rt 1)), (6, .int (nI nf)), (7, .int (x5 + 1))]) rfl ?_
                                  exact ih5 (k5 + 1) F5 G5 (x5 + 1) (by omega) (by omega) (lp_s hx5) (by rw [its, ← hs5]; exact (if_neg (fun h9 => c28 h9.1)).symm) (h5)
                                · refine g_seg [(427, .aload 8, 2), (429, .iconst 1, 1)] 430 [(8, .ref (rd 1 k5)), (0, .ref s), (1, .int many), (2, .int x4), (4, .int (s_pl (S4 k4 0) (S4 k4 1) (S4 k4 2) (S4 k4 6))), (5, .ref (rt 1)), (6, .int (nI nf)), (7, .int x5)] [.int 1, .ref (rd 1 k5)] C (by decide +kernel) rfl ?_
                                  refine g_ialdM (pc := 430) (n := 5) 1 (F5 k5 1) C (h5.2.1.2.1 k5 ho8) rfl (by decide) (by decide) (cut_lt (by decide)) (by decide +kernel) ?_
                                  refine g_seg [(431, .iload_n 2, 1)] 432 [(8, .ref (rd 1 k5)), (0, .ref s), (1, .int many), (2, .int x4), (4, .int (s_pl (S4 k4 0) (S4 k4 1) (S4 k4 2) (S4 k4 6))), (5, .ref (rt 1)), (6, .int (nI nf)), (7, .int x5)] [.int x4, .int (F5 k5 1)] C (by decide +kernel) rfl ?_
                                  refine g_icmp_ne (pc := 432) (off := 11) 443 C (by decide +kernel) (by decide) (fun c29 => ?_) (fun c29 => ?_)
                                  · refine g_seg [(443, .iinc 7 1, 3), (446, .goto (-41), 3)] 405 [(7, .int (x5 + 1)), (8, .ref (rd 1 k5)), (0, .ref s), (1, .int many), (2, .int x4), (4, .int (s_pl (S4 k4 0) (S4 k4 1) (S4 k4 2) (S4 k4 6))), (5, .ref (rt 1)), (6, .int (nI nf))] [] C (by decide +kernel) rfl ?_
                                    refine g_subp [2, 3, 4, 5, 6, 7, 0] (lv' := [(0, .ref s), (1, .int many), (2, .int x4), (4, .int (s_pl (S4 k4 0) (S4 k4 1) (S4 k4 2) (S4 k4 6))), (5, .ref (rt 1)), (6, .int (nI nf)), (7, .int (x5 + 1))]) rfl ?_
                                    exact ih5 (k5 + 1) F5 G5 (x5 + 1) (by omega) (by omega) (lp_s hx5) (by rw [its, ← hs5]; exact (if_neg (fun h9 => c29 (h9.2.trans hx4.symm))).symm) (h5)
                                  · refine g_seg [(435, .aload_n 0, 1), (436, .aload 8, 2), (438, .iload 4, 2)] 440 [(8, .ref (rd 1 k5)), (0, .ref s), (1, .int many), (2, .int x4), (4, .int (s_pl (S4 k4 0) (S4 k4 1) (S4 k4 2) (S4 k4 6))), (5, .ref (rt 1)), (6, .int (nI nf)), (7, .int x5)] [.int (s_pl (S4 k4 0) (S4 k4 1) (S4 k4 2) (S4 k4 6)), .ref (rd 1 k5), .ref s] C (by decide +kernel) rfl ?_
                                    refine g_callV (pc := 440) C mV_X5_falls q366 (h5.1.1) rfl rfl (c_X5_falls l D cy h5 k5 ho8 (s_pl (S4 k4 0) (S4 k4 1) (S4 k4 2) (S4 k4 6))) rfl ⟨⟨Nat.le_of_ble_eq_true rfl, Nat.le_of_ble_eq_true rfl⟩, Nat.le_of_ble_eq_true rfl, Nat.le_of_ble_eq_true rfl⟩ rfl (Nat.le_of_ble_eq_true rfl) (by decide +kernel) ?_
                                    refine g_kV (fun G30 h31 => ?_)
                                    refine g_seg [(443, .iinc 7 1, 3), (446, .goto (-41), 3)] 405 [(7, .int (x5 + 1)), (8, .ref (rd 1 k5)), (0, .ref s), (1, .int many), (2, .int x4), (4, .int (s_pl (S4 k4 0) (S4 k4 1) (S4 k4 2) (S4 k4 6))), (5, .ref (rt 1)), (6, .int (nI nf))] [] C (by decide +kernel) rfl ?_
                                    refine g_subp [2, 3, 4, 5, 6, 7, 0] (lv' := [(0, .ref s), (1, .int many), (2, .int x4), (4, .int (s_pl (S4 k4 0) (S4 k4 1) (S4 k4 2) (S4 k4 6))), (5, .ref (rt 1)), (6, .int (nI nf)), (7, .int (x5 + 1))]) rfl ?_
                                    exact ih5 (k5 + 1) (s_fall N nn F5 k5 (s_pl (S4 k4 0) (S4 k4 1) (S4 k4 2) (S4 k4 6))) G30 (x5 + 1) (by omega) (by omega) (lp_s hx5) (by rw [its, ← hs5]; exact (if_pos ⟨c28, c29.trans hx4⟩).symm) (h31)
                          exact lp26 (nf + 1) 0 F4 G24 0 (by omega) (by omega) (nI_0.symm) (rfl) (h22)
              exact lp5 (nt + 1) 0 S F2 G2 0 (by omega) (by omega) (nI_0.symm) (rfl) (h2) (hwS)
            · have hl8 : k2 < nf := lp_lt hx2 (by omega) (by omega) c4
              refine g_seg [(146, .aload_n 2, 1), (147, .iload 4, 2)] 149 [(0, .ref s), (1, .int many), (2, .ref (rt 1)), (3, .int (nI nf)), (4, .int xl)] [.int xl, .ref (rt 1)] C (by decide +kernel) rfl ?_
              refine g_aaldS (pc := 149) (j := k2) C (h2.1.2.2.1) (hx2) (hl8) (by omega) (by decide +kernel) ?_
              refine g_seg [(150, .astore 5, 2), (152, .aload 5, 2), (154, .iconst 0, 1)] 155 [(5, .ref (rd 1 k2)), (0, .ref s), (1, .int many), (2, .ref (rt 1)), (3, .int (nI nf)), (4, .int xl)] [.int 0, .ref (rd 1 k2)] C (by decide +kernel) rfl ?_
              refine g_ialdM (pc := 155) (n := 5) 0 (F2 k2 0) C (h2.2.1.2.1 k2 hl8) rfl (by decide) (by decide) (cut_lt (by decide)) (by decide +kernel) ?_
              refine g_seg [(156, .iconst 2, 1)] 157 [(5, .ref (rd 1 k2)), (0, .ref s), (1, .int many), (2, .ref (rt 1)), (3, .int (nI nf)), (4, .int xl)] [.int 2, .int (F2 k2 0)] C (by decide +kernel) rfl ?_
              refine g_icmp_eq (pc := 157) (off := 6) 163 C (by decide +kernel) (by decide) (fun c32 => ?_) (fun c32 => ?_)
              · refine g_seg [(163, .aload 5, 2), (165, .iconst 3, 1)] 166 [(5, .ref (rd 1 k2)), (0, .ref s), (1, .int many), (2, .ref (rt 1)), (3, .int (nI nf)), (4, .int xl)] [.int 3, .ref (rd 1 k2)] C (by decide +kernel) rfl ?_
                refine g_ialdM (pc := 166) (n := 5) 3 (F2 k2 3) C (h2.2.1.2.1 k2 hl8) rfl (by decide) (by decide) (cut_lt (by decide)) (by decide +kernel) ?_
                refine g_if_le (pc := 167) (off := 14) 181 C (by decide +kernel) (by decide) (fun c33 => ?_) (fun c33 => ?_)
                · refine g_seg [(181, .iconst (-1), 1), (182, .istore 6, 2), (184, .aload_n 0, 1)] 185 [(6, .int (-1)), (5, .ref (rd 1 k2)), (0, .ref s), (1, .int many), (2, .ref (rt 1)), (3, .int (nI nf)), (4, .int xl)] [.ref s] C (by decide +kernel) rfl ?_
                  refine g_getf (pc := 185) (k := 0) (v := .ref (rt 0)) C fl_X5_9 (h2.1.1) rfl (by decide +kernel) ?_
                  refine g_alenI (pc := 188) C (h2.1.2.1) (by decide +kernel) ?_
                  have hF2 : F2 k2 0 = 2 := c32
                  refine g_seg [(189, .iconst 1, 1), (190, .isub, 1), (191, .istore 7, 2)] 193 [(7, .int ((nI nt) - 1)), (6, .int (-1)), (5, .ref (rd 1 k2)), (0, .ref s), (1, .int many), (2, .ref (rt 1)), (3, .int (nI nf)), (4, .int xl)] [] C (by decide +kernel) rfl ?_
                  refine g_subp [3, 4, 5, 6, 7, 2, 1, 0] (lv' := [(0, .ref s), (1, .int many), (2, .ref (rt 1)), (3, .int (nI nf)), (4, .int xl), (5, .ref (rd 1 k2)), (6, .int (-1)), (7, .int ((nI nt) - 1))]) rfl ?_
                  have lp34 : ∀ (m3 k3 : Nat) (at3 x3 : Int32), nt + 1 ≤ k3 + m3 → k3 ≤ nt → (∃ j, x3 = nI j - 1 ∧ j + k3 = nt ∧ y_at (y_free S F2 nf (F2 k2 2)) nt j at3) → PG κ 9 0 0 G2 [(0, .ref s), (1, .int many), (2, .ref (rt 1)), (3, .int (nI nf)), (4, .int xl), (5, .ref (rd 1 k2)), (6, .int at3), (7, .int x3)] 193 [] := by
                    intro m3
                    induction m3 with
                    | zero => intro k3 at3 x3 h1 h2; intros; exact absurd h1 (by omega)
                    | succ m3 ih3 =>
                      intro k3 at3 x3 hm3 hk3 hj
                      refine g_seg [(193, .iload 7, 2)] 195 [(0, .ref s), (1, .int many), (2, .ref (rt 1)), (3, .int (nI nf)), (4, .int xl), (5, .ref (rd 1 k2)), (6, .int at3), (7, .int x3)] [.int x3] C (by decide +kernel) rfl ?_
                      refine g_if_lt (pc := 195) (off := 76) 271 C (by decide +kernel) (by decide) (fun c35 => ?_) (fun c35 => ?_)
                      · obtain ⟨j, hj1, hj2, hat0⟩ := hj
                        have hj0 := y_j0 hj1 (by omega) c35
                        subst hj0
                        refine g_seg [(271, .iload 6, 2)] 273 [(0, .ref s), (1, .int many), (2, .ref (rt 1)), (3, .int (nI nf)), (4, .int xl), (5, .ref (rd 1 k2)), (6, .int at3), (7, .int x3)] [.int at3] C (by decide +kernel) rfl ?_
                        refine g_if_ge (pc := 273) (off := 16) 289 C (by decide +kernel) (by decide) (fun c36 => ?_) (fun c36 => ?_)
                        · obtain ⟨t9, hv9, ht9, hat⟩ := y_at.s hat0 (by omega) c36
                          subst hv9
                          refine g_seg [(289, .aload_n 0, 1), (290, .aload 5, 2), (292, .iconst 1, 1), (293, .iload 6, 2), (295, .iconst 0, 1), (296, .iconst (-1), 1)] 297 [(0, .ref s), (1, .int many), (2, .ref (rt 1)), (3, .int (nI nf)), (4, .int xl), (5, .ref (rd 1 k2)), (6, .int (nI t9)), (7, .int x3)] [.int (-1), .int 0, .int (nI t9), .int 1, .ref (rd 1 k2), .ref s] C (by decide +kernel) rfl ?_
                          refine g_callV (pc := 297) C mV_X5_state q358 (h2.1.1) rfl rfl (c_X5_state l D cy h2 k2 hl8 1 (nI t9) 0 (-1)) rfl ⟨⟨Nat.le_of_ble_eq_true rfl, Nat.le_of_ble_eq_true rfl⟩, Nat.le_of_ble_eq_true rfl, Nat.le_of_ble_eq_true rfl⟩ rfl (Nat.le_of_ble_eq_true rfl) (by decide +kernel) ?_
                          refine g_kV (fun G37 h38 => ?_)
                          refine g_seg [(300, .aload 5, 2), (302, .iconst 4, 1), (303, .dup2, 1)] 304 [(0, .ref s), (1, .int many), (2, .ref (rt 1)), (3, .int (nI nf)), (4, .int xl), (5, .ref (rd 1 k2)), (6, .int (nI t9)), (7, .int x3)] [.int 4, .ref (rd 1 k2), .int 4, .ref (rd 1 k2)] C (by decide +kernel) rfl ?_
                          refine g_ialdM (pc := 304) (n := 5) 4 (F2 k2 4) C (h38.2.1.2.1 k2 hl8) rfl (by decide) (by decide) (by rw [cut_lt (by decide)]; simp [s_set, s_row]) (by decide +kernel) ?_
                          refine g_seg [(305, .iconst 1, 1), (306, .iadd, 1)] 307 [(0, .ref s), (1, .int many), (2, .ref (rt 1)), (3, .int (nI nf)), (4, .int xl), (5, .ref (rd 1 k2)), (6, .int (nI t9)), (7, .int x3)] [.int ((F2 k2 4) + 1), .int 4, .ref (rd 1 k2)] C (by decide +kernel) rfl ?_
                          refine g_iastM (pc := 307) (n := 5) 4 (cut 5 ((s_set (s_row F2 k2 1 (nI t9) 0 (-1)) k2 4 ((F2 k2 4) + 1)) k2)) C (h38.2.1.2.1 k2 hl8) rfl (by decide) (by decide) (cut_upd (by decide)) (by decide +kernel) ?_
                          refine g_abs (P := fun G9 => RS cy s rt rd b nt nf nc nn S (s_set (s_row F2 k2 1 (nI t9) 0 (-1)) k2 4 ((F2 k2 4) + 1)) C1 N G9) (RS.w1 h38 hl8 (fun j9 h9 => s_set_ne h9)) (fun G39 h40 => ?_)
                          refine g_seg [(308, .iinc 1 1, 3), (311, .iinc 4 1, 3), (314, .goto (-174), 3)] 140 [(4, .int (xl + 1)), (1, .int (many + 1)), (0, .ref s), (2, .ref (rt 1)), (3, .int (nI nf)), (5, .ref (rd 1 k2)), (6, .int (nI t9)), (7, .int x3)] [] C (by decide +kernel) rfl ?_
                          refine g_subp [2, 1, 3, 4, 0] (lv' := [(0, .ref s), (1, .int (many + 1)), (2, .ref (rt 1)), (3, .int (nI nf)), (4, .int (xl + 1))]) rfl ?_
                          exact ih2 (k2 + 1) (s_set (s_row F2 k2 1 (nI t9) 0 (-1)) k2 4 ((F2 k2 4) + 1)) G39 (many + 1) (xl + 1) (by omega) (by omega) (lp_s hx2) (by rw [its, ← hs2]; unfold y_land; rw [if_pos c32, if_neg (Int32.not_lt.mpr c33), hat]) (h40) ((hwF2.row (fun _ => ⟨t9, ht9, rfl⟩)).set (by decide))
                        · have hat := y_at.z hat0 (by omega) c36
                          refine g_seg [(276, .aload_n 0, 1), (277, .aload 5, 2), (279, .aload 5, 2), (281, .iconst 2, 1)] 282 [(0, .ref s), (1, .int many), (2, .ref (rt 1)), (3, .int (nI nf)), (4, .int xl), (5, .ref (rd 1 k2)), (6, .int at3), (7, .int x3)] [.int 2, .ref (rd 1 k2), .ref (rd 1 k2), .ref s] C (by decide +kernel) rfl ?_
                          refine g_ialdM (pc := 282) (n := 5) 2 (F2 k2 2) C (h2.2.1.2.1 k2 hl8) rfl (by decide) (by decide) (cut_lt (by decide)) (by decide +kernel) ?_
                          refine g_callV (pc := 283) C mV_X5_falls q366 (h2.1.1) rfl rfl (c_X5_falls l D cy h2 k2 hl8 (F2 k2 2)) rfl ⟨⟨Nat.le_of_ble_eq_true rfl, Nat.le_of_ble_eq_true rfl⟩, Nat.le_of_ble_eq_true rfl, Nat.le_of_ble_eq_true rfl⟩ rfl (Nat.le_of_ble_eq_true rfl) (by decide +kernel) ?_
                          refine g_kV (fun G41 h42 => ?_)
                          refine g_seg [(286, .goto 25, 3), (311, .iinc 4 1, 3), (314, .goto (-174), 3)] 140 [(4, .int (xl + 1)), (0, .ref s), (1, .int many), (2, .ref (rt 1)), (3, .int (nI nf)), (5, .ref (rd 1 k2)), (6, .int at3), (7, .int x3)] [] C (by decide +kernel) rfl ?_
                          refine g_subp [1, 2, 3, 4, 0] (lv' := [(0, .ref s), (1, .int many), (2, .ref (rt 1)), (3, .int (nI nf)), (4, .int (xl + 1))]) rfl ?_
                          exact ih2 (k2 + 1) (s_fall N nn F2 k2 (F2 k2 2)) G41 many (xl + 1) (by omega) (by omega) (lp_s hx2) (by rw [its, ← hs2]; unfold y_land; rw [if_pos c32, if_neg (Int32.not_lt.mpr c33), hat]) (h42) (hwF2.fall)
                      · obtain ⟨j, hj1, hj2, hat0⟩ := hj
                        obtain ⟨j3, rfl⟩ := y_j1 hj1 c35
                        have hj3 : x3 = nI j3 := by rw [hj1, nI_pred]
                        have hb3 : j3 < nt := by omega
                        have hat4 := hat0
                        refine g_seg [(198, .aload_n 0, 1)] 199 [(0, .ref s), (1, .int many), (2, .ref (rt 1)), (3, .int (nI nf)), (4, .int xl), (5, .ref (rd 1 k2)), (6, .int at3), (7, .int x3)] [.ref s] C (by decide +kernel) rfl ?_
                        refine g_getf (pc := 199) (k := 0) (v := .ref (rt 0)) C fl_X5_9 (h2.1.1) rfl (by decide +kernel) ?_
                        refine g_seg [(202, .iload 7, 2)] 204 [(0, .ref s), (1, .int many), (2, .ref (rt 1)), (3, .int (nI nf)), (4, .int xl), (5, .ref (rd 1 k2)), (6, .int at3), (7, .int x3)] [.int x3, .ref (rt 0)] C (by decide +kernel) rfl ?_
                        refine g_aaldS (pc := 204) (j := j3) C (h2.1.2.1) (hj3) (hb3) (by omega) (by decide +kernel) ?_
                        refine g_seg [(205, .aload_n 0, 1)] 206 [(0, .ref s), (1, .int many), (2, .ref (rt 1)), (3, .int (nI nf)), (4, .int xl), (5, .ref (rd 1 k2)), (6, .int at3), (7, .int x3)] [.ref s, .ref (rd 0 j3)] C (by decide +kernel) rfl ?_
                        refine g_getf (pc := 206) (k := 0) (v := .ref (rt 0)) C fl_X5_9 (h2.1.1) rfl (by decide +kernel) ?_
                        refine g_seg [(209, .iload 7, 2)] 211 [(0, .ref s), (1, .int many), (2, .ref (rt 1)), (3, .int (nI nf)), (4, .int xl), (5, .ref (rd 1 k2)), (6, .int at3), (7, .int x3)] [.int x3, .ref (rt 0), .ref (rd 0 j3)] C (by decide +kernel) rfl ?_
                        refine g_aaldS (pc := 211) (j := j3) C (h2.1.2.1) (hj3) (hb3) (by omega) (by decide +kernel) ?_
                        refine g_seg [(212, .bipush 6, 2)] 214 [(0, .ref s), (1, .int many), (2, .ref (rt 1)), (3, .int (nI nf)), (4, .int xl), (5, .ref (rd 1 k2)), (6, .int at3), (7, .int x3)] [.int 6, .ref (rd 0 j3), .ref (rd 0 j3)] C (by decide +kernel) rfl ?_
                        refine g_ialdM (pc := 214) (n := 7) 6 (S j3 6) C (h2.2.1.1 j3 hb3) rfl (by decide) (by decide) (cut_lt (by decide)) (by decide +kernel) ?_
                        obtain ⟨⟨w9, hw9, hf9⟩, d9, hd9, hs9⟩ := hwS j3 hb3
                        refine g_callS (pc := 215) C mS_X5_place q355 (c_X5_place l D cy _ (rd 0 j3) (S j3) (h2.2.1.1 j3 hb3) w9 d9 hw9 (S j3 0) (S j3 1) (S j3 2) rfl rfl rfl hf9 (S j3 6) hs9 hd9) rfl ⟨⟨Nat.le_of_ble_eq_true rfl, Nat.le_of_ble_eq_true rfl⟩, Nat.le_of_ble_eq_true rfl, Nat.le_of_ble_eq_true rfl⟩ rfl (Nat.le_of_ble_eq_true rfl) (by decide +kernel) ?_
                        refine g_kI (fun v45 G44 hp43 => ?_)
                        obtain ⟨rfl, rfl⟩ := hp43
                        refine g_seg [(218, .aload 5, 2), (220, .iconst 2, 1)] 221 [(0, .ref s), (1, .int many), (2, .ref (rt 1)), (3, .int (nI nf)), (4, .int xl), (5, .ref (rd 1 k2)), (6, .int at3), (7, .int x3)] [.int 2, .ref (rd 1 k2), .int (s_pl (S j3 0) (S j3 1) (S j3 2) (S j3 6))] C (by decide +kernel) rfl ?_
                        refine g_ialdM (pc := 221) (n := 5) 2 (F2 k2 2) C (h2.2.1.2.1 k2 hl8) rfl (by decide) (by decide) (cut_lt (by decide)) (by decide +kernel) ?_
                        refine g_seg [(222, .isub, 1), (223, .istore 8, 2), (225, .aload_n 0, 1)] 226 [(8, .int ((s_pl (S j3 0) (S j3 1) (S j3 2) (S j3 6)) - (F2 k2 2))), (0, .ref s), (1, .int many), (2, .ref (rt 1)), (3, .int (nI nf)), (4, .int xl), (5, .ref (rd 1 k2)), (6, .int at3), (7, .int x3)] [.ref s] C (by decide +kernel) rfl ?_
                        refine g_getf (pc := 226) (k := 0) (v := .ref (rt 0)) C fl_X5_9 (h2.1.1) rfl (by decide +kernel) ?_
                        refine g_seg [(229, .iload 7, 2)] 231 [(8, .int ((s_pl (S j3 0) (S j3 1) (S j3 2) (S j3 6)) - (F2 k2 2))), (0, .ref s), (1, .int many), (2, .ref (rt 1)), (3, .int (nI nf)), (4, .int xl), (5, .ref (rd 1 k2)), (6, .int at3), (7, .int x3)] [.int x3, .ref (rt 0)] C (by decide +kernel) rfl ?_
                        refine g_aaldS (pc := 231) (j := j3) C (h2.1.2.1) (hj3) (hb3) (by omega) (by decide +kernel) ?_
                        refine g_seg [(232, .iconst 5, 1)] 233 [(8, .int ((s_pl (S j3 0) (S j3 1) (S j3 2) (S j3 6)) - (F2 k2 2))), (0, .ref s), (1, .int many), (2, .ref (rt 1)), (3, .int (nI nf)), (4, .int xl), (5, .ref (rd 1 k2)), (6, .int at3), (7, .int x3)] [.int 5, .ref (rd 0 j3)] C (by decide +kernel) rfl ?_
                        refine g_ialdM (pc := 233) (n := 7) 5 (S j3 5) C (h2.2.1.1 j3 hb3) rfl (by decide) (by decide) (cut_lt (by decide)) (by decide +kernel) ?_
                        refine g_seg [(234, .iconst 1, 1)] 235 [(8, .int ((s_pl (S j3 0) (S j3 1) (S j3 2) (S j3 6)) - (F2 k2 2))), (0, .ref s), (1, .int many), (2, .ref (rt 1)), (3, .int (nI nf)), (4, .int xl), (5, .ref (rd 1 k2)), (6, .int at3), (7, .int x3)] [.int 1, .int (S j3 5)] C (by decide +kernel) rfl ?_
                        refine g_icmp_ne (pc := 235) (off := 30) 265 C (by decide +kernel) (by decide) (fun c46 => ?_) (fun c46 => ?_)
                        · refine g_seg [(265, .iinc 7 (-1), 3), (268, .goto (-75), 3)] 193 [(7, .int (x3 + (-1))), (8, .int ((s_pl (S j3 0) (S j3 1) (S j3 2) (S j3 6)) - (F2 k2 2))), (0, .ref s), (1, .int many), (2, .ref (rt 1)), (3, .int (nI nf)), (4, .int xl), (5, .ref (rd 1 k2)), (6, .int at3)] [] C (by decide +kernel) rfl ?_
                          refine g_subp [2, 3, 4, 5, 6, 7, 8, 0] (lv' := [(0, .ref s), (1, .int many), (2, .ref (rt 1)), (3, .int (nI nf)), (4, .int xl), (5, .ref (rd 1 k2)), (6, .int at3), (7, .int (x3 + (-1)))]) rfl ?_
                          exact ih3 (k3 + 1) at3 (x3 + (-1)) (by omega) (by omega) (⟨j3, by rw [hj3]; exact (Int32.sub_eq_add_neg (nI j3) 1).symm, by omega, hat4.n (by unfold y_free; exact decide_eq_false (fun h9 => c46 h9.1))⟩)
                        · refine g_seg [(238, .aload_n 0, 1), (239, .iload 7, 2)] 241 [(8, .int ((s_pl (S j3 0) (S j3 1) (S j3 2) (S j3 6)) - (F2 k2 2))), (0, .ref s), (1, .int many), (2, .ref (rt 1)), (3, .int (nI nf)), (4, .int xl), (5, .ref (rd 1 k2)), (6, .int at3), (7, .int x3)] [.int x3, .ref s] C (by decide +kernel) rfl ?_
                          refine g_callV (pc := 241) C mV_X5_hang q362 (h2.1.1) rfl rfl (c_X5_hang l D cy h2 x3) rfl ⟨⟨Nat.le_of_ble_eq_true rfl, Nat.le_of_ble_eq_true rfl⟩, Nat.le_of_ble_eq_true rfl, Nat.le_of_ble_eq_true rfl⟩ rfl (Nat.le_of_ble_eq_true rfl) (by decide +kernel) ?_
                          refine g_kI (fun v49 G48 hp47 => ?_)
                          obtain ⟨rfl, rfl⟩ := hp47
                          refine g_seg [(244, .iconst 2, 1)] 245 [(8, .int ((s_pl (S j3 0) (S j3 1) (S j3 2) (S j3 6)) - (F2 k2 2))), (0, .ref s), (1, .int many), (2, .ref (rt 1)), (3, .int (nI nf)), (4, .int xl), (5, .ref (rd 1 k2)), (6, .int at3), (7, .int x3)] [.int 2, .int (nI (s_hangE F2 nf x3))] C (by decide +kernel) rfl ?_
                          refine g_icmp_ge (pc := 245) (off := 20) 265 C (by decide +kernel) (by decide) (fun c50 => ?_) (fun c50 => ?_)
                          · refine g_seg [(265, .iinc 7 (-1), 3), (268, .goto (-75), 3)] 193 [(7, .int (x3 + (-1))), (8, .int ((s_pl (S j3 0) (S j3 1) (S j3 2) (S j3 6)) - (F2 k2 2))), (0, .ref s), (1, .int many), (2, .ref (rt 1)), (3, .int (nI nf)), (4, .int xl), (5, .ref (rd 1 k2)), (6, .int at3)] [] C (by decide +kernel) rfl ?_
                            refine g_subp [2, 3, 4, 5, 6, 7, 8, 0] (lv' := [(0, .ref s), (1, .int many), (2, .ref (rt 1)), (3, .int (nI nf)), (4, .int xl), (5, .ref (rd 1 k2)), (6, .int at3), (7, .int (x3 + (-1)))]) rfl ?_
                            exact ih3 (k3 + 1) at3 (x3 + (-1)) (by omega) (by omega) (⟨j3, by rw [hj3]; exact (Int32.sub_eq_add_neg (nI j3) 1).symm, by omega, hat4.n (by unfold y_free; exact decide_eq_false (fun h9 => absurd h9.2.1 (Int32.not_lt.mpr (by rw [← hj3]; exact c50))))⟩)
                          · refine g_seg [(248, .iload 8, 2), (250, .iconst 2, 1)] 251 [(8, .int ((s_pl (S j3 0) (S j3 1) (S j3 2) (S j3 6)) - (F2 k2 2))), (0, .ref s), (1, .int many), (2, .ref (rt 1)), (3, .int (nI nf)), (4, .int xl), (5, .ref (rd 1 k2)), (6, .int at3), (7, .int x3)] [.int 2, .int ((s_pl (S j3 0) (S j3 1) (S j3 2) (S j3 6)) - (F2 k2 2))] C (by decide +kernel) rfl ?_
                            refine g_icmp_gt (pc := 251) (off := 14) 265 C (by decide +kernel) (by decide) (fun c51 => ?_) (fun c51 => ?_)
                            · refine g_seg [(265, .iinc 7 (-1), 3), (268, .goto (-75), 3)] 193 [(7, .int (x3 + (-1))), (8, .int ((s_pl (S j3 0) (S j3 1) (S j3 2) (S j3 6)) - (F2 k2 2))), (0, .ref s), (1, .int many), (2, .ref (rt 1)), (3, .int (nI nf)), (4, .int xl), (5, .ref (rd 1 k2)), (6, .int at3)] [] C (by decide +kernel) rfl ?_
                              refine g_subp [2, 3, 4, 5, 6, 7, 8, 0] (lv' := [(0, .ref s), (1, .int many), (2, .ref (rt 1)), (3, .int (nI nf)), (4, .int xl), (5, .ref (rd 1 k2)), (6, .int at3), (7, .int (x3 + (-1)))]) rfl ?_
                              exact ih3 (k3 + 1) at3 (x3 + (-1)) (by omega) (by omega) (⟨j3, by rw [hj3]; exact (Int32.sub_eq_add_neg (nI j3) 1).symm, by omega, hat4.n (by unfold y_free; exact decide_eq_false (fun h9 => absurd h9.2.2.1 (Int32.not_le.mpr c51)))⟩)
                            · refine g_seg [(254, .iload 8, 2), (256, .bipush (-2), 2)] 258 [(8, .int ((s_pl (S j3 0) (S j3 1) (S j3 2) (S j3 6)) - (F2 k2 2))), (0, .ref s), (1, .int many), (2, .ref (rt 1)), (3, .int (nI nf)), (4, .int xl), (5, .ref (rd 1 k2)), (6, .int at3), (7, .int x3)] [.int (-2), .int ((s_pl (S j3 0) (S j3 1) (S j3 2) (S j3 6)) - (F2 k2 2))] C (by decide +kernel) rfl ?_
                              refine g_icmp_lt (pc := 258) (off := 7) 265 C (by decide +kernel) (by decide) (fun c52 => ?_) (fun c52 => ?_)
                              · refine g_seg [(265, .iinc 7 (-1), 3), (268, .goto (-75), 3)] 193 [(7, .int (x3 + (-1))), (8, .int ((s_pl (S j3 0) (S j3 1) (S j3 2) (S j3 6)) - (F2 k2 2))), (0, .ref s), (1, .int many), (2, .ref (rt 1)), (3, .int (nI nf)), (4, .int xl), (5, .ref (rd 1 k2)), (6, .int at3)] [] C (by decide +kernel) rfl ?_
                                refine g_subp [2, 3, 4, 5, 6, 7, 8, 0] (lv' := [(0, .ref s), (1, .int many), (2, .ref (rt 1)), (3, .int (nI nf)), (4, .int xl), (5, .ref (rd 1 k2)), (6, .int at3), (7, .int (x3 + (-1)))]) rfl ?_
                                exact ih3 (k3 + 1) at3 (x3 + (-1)) (by omega) (by omega) (⟨j3, by rw [hj3]; exact (Int32.sub_eq_add_neg (nI j3) 1).symm, by omega, hat4.n (by unfold y_free; exact decide_eq_false (fun h9 => absurd h9.2.2.2 (Int32.not_le.mpr c52)))⟩)
                              · refine g_seg [(261, .iload 7, 2), (263, .istore 6, 2), (265, .iinc 7 (-1), 3), (268, .goto (-75), 3)] 193 [(7, .int (x3 + (-1))), (6, .int x3), (8, .int ((s_pl (S j3 0) (S j3 1) (S j3 2) (S j3 6)) - (F2 k2 2))), (0, .ref s), (1, .int many), (2, .ref (rt 1)), (3, .int (nI nf)), (4, .int xl), (5, .ref (rd 1 k2))] [] C (by decide +kernel) rfl ?_
                                refine g_subp [3, 4, 5, 6, 7, 8, 1, 0] (lv' := [(0, .ref s), (1, .int many), (2, .ref (rt 1)), (3, .int (nI nf)), (4, .int xl), (5, .ref (rd 1 k2)), (6, .int x3), (7, .int (x3 + (-1)))]) rfl ?_
                                exact ih3 (k3 + 1) x3 (x3 + (-1)) (by omega) (by omega) (⟨j3, by rw [hj3]; exact (Int32.sub_eq_add_neg (nI j3) 1).symm, by omega, by rw [hj3]; exact y_at.y (by omega) (by unfold y_free; exact decide_eq_true ⟨c46, (by rw [← hj3]; exact Int32.not_le.mp c50), Int32.not_lt.mp c51, Int32.not_lt.mp c52⟩)⟩)
                  exact lp34 (nt + 1) 0 (-1) ((nI nt) - 1) (by omega) (by omega) (⟨nt, rfl, by omega, Or.inl ⟨rfl, fun i h1 h2 => absurd h2 (by omega)⟩⟩)
                · refine g_seg [(170, .aload 5, 2), (172, .iconst 3, 1), (173, .dup2, 1)] 174 [(5, .ref (rd 1 k2)), (0, .ref s), (1, .int many), (2, .ref (rt 1)), (3, .int (nI nf)), (4, .int xl)] [.int 3, .ref (rd 1 k2), .int 3, .ref (rd 1 k2)] C (by decide +kernel) rfl ?_
                  refine g_ialdM (pc := 174) (n := 5) 3 (F2 k2 3) C (h2.2.1.2.1 k2 hl8) rfl (by decide) (by decide) (cut_lt (by decide)) (by decide +kernel) ?_
                  refine g_seg [(175, .iconst 1, 1), (176, .isub, 1)] 177 [(5, .ref (rd 1 k2)), (0, .ref s), (1, .int many), (2, .ref (rt 1)), (3, .int (nI nf)), (4, .int xl)] [.int ((F2 k2 3) - 1), .int 3, .ref (rd 1 k2)] C (by decide +kernel) rfl ?_
                  refine g_iastM (pc := 177) (n := 5) 3 (cut 5 ((s_set F2 k2 3 ((F2 k2 3) - 1)) k2)) C (h2.2.1.2.1 k2 hl8) rfl (by decide) (by decide) (cut_upd (by decide)) (by decide +kernel) ?_
                  refine g_abs (P := fun G9 => RS cy s rt rd b nt nf nc nn S (s_set F2 k2 3 ((F2 k2 3) - 1)) C1 N G9) (RS.w1 h2 hl8 (fun j9 h9 => s_set_ne h9)) (fun G53 h54 => ?_)
                  refine g_seg [(178, .goto 133, 3), (311, .iinc 4 1, 3), (314, .goto (-174), 3)] 140 [(4, .int (xl + 1)), (5, .ref (rd 1 k2)), (0, .ref s), (1, .int many), (2, .ref (rt 1)), (3, .int (nI nf))] [] C (by decide +kernel) rfl ?_
                  refine g_subp [2, 3, 4, 5, 0] (lv' := [(0, .ref s), (1, .int many), (2, .ref (rt 1)), (3, .int (nI nf)), (4, .int (xl + 1))]) rfl ?_
                  exact ih2 (k2 + 1) (s_set F2 k2 3 ((F2 k2 3) - 1)) G53 many (xl + 1) (by omega) (by omega) (lp_s hx2) (by rw [its, ← hs2]; unfold y_land; rw [if_pos c32, if_pos (Int32.not_le.mp c33)]) (h54) (hwF2.set (by decide))
              · refine g_seg [(160, .goto 151, 3), (311, .iinc 4 1, 3), (314, .goto (-174), 3)] 140 [(4, .int (xl + 1)), (5, .ref (rd 1 k2)), (0, .ref s), (1, .int many), (2, .ref (rt 1)), (3, .int (nI nf))] [] C (by decide +kernel) rfl ?_
                refine g_subp [2, 3, 4, 5, 0] (lv' := [(0, .ref s), (1, .int many), (2, .ref (rt 1)), (3, .int (nI nf)), (4, .int (xl + 1))]) rfl ?_
                exact ih2 (k2 + 1) F2 G2 many (xl + 1) (by omega) (by omega) (lp_s hx2) (by rw [its, ← hs2]; exact (if_neg c32).symm) (h2) (hwF2)
        exact lp3 (nf + 1) 0 F1 G1 0 0 (by omega) (by omega) (nI_0.symm) (rfl) (h1) (hwF1)
      · have hk8 : k < nc := lp_lt hx (by omega) (by omega) c2
        obtain ⟨f, hf, hC⟩ := hwC1 k hk8
        refine g_seg [(19, .aload_n 2, 1), (20, .iload 4, 2)] 22 [(0, .ref s), (1, .int 0), (2, .ref (rt 2)), (3, .int (nI nc)), (4, .int xk)] [.int xk, .ref (rt 2)] C (by decide +kernel) rfl ?_
        refine g_aaldS (pc := 22) (j := k) C (h1.1.2.2.2.1) (hx) (hk8) (by omega) (by decide +kernel) ?_
        refine g_seg [(23, .astore 5, 2), (25, .aload 5, 2), (27, .iconst 0, 1)] 28 [(5, .ref (rd 2 k)), (0, .ref s), (1, .int 0), (2, .ref (rt 2)), (3, .int (nI nc)), (4, .int xk)] [.int 0, .ref (rd 2 k)] C (by decide +kernel) rfl ?_
        refine g_ialdM (pc := 28) (n := 5) 0 (C1 k 0) C (h1.2.1.2.2.1 k hk8) rfl (by decide) (by decide) (cut_lt (by decide)) (by decide +kernel) ?_
        refine g_seg [(29, .aload_n 0, 1)] 30 [(5, .ref (rd 2 k)), (0, .ref s), (1, .int 0), (2, .ref (rt 2)), (3, .int (nI nc)), (4, .int xk)] [.ref s, .int (C1 k 0)] C (by decide +kernel) rfl ?_
        refine g_getf (pc := 30) (k := 4) (v := .int b) C fl_X5_33 (h1.1.1) rfl (by decide +kernel) ?_
        refine g_icmp_ne (pc := 33) (off := 90) 123 C (by decide +kernel) (by decide) (fun c55 => ?_) (fun c55 => ?_)
        · refine g_seg [(123, .iinc 4 1, 3), (126, .goto (-113), 3)] 13 [(4, .int (xk + 1)), (5, .ref (rd 2 k)), (0, .ref s), (1, .int 0), (2, .ref (rt 2)), (3, .int (nI nc))] [] C (by decide +kernel) rfl ?_
          refine g_subp [2, 3, 4, 5, 0] (lv' := [(0, .ref s), (1, .int 0), (2, .ref (rt 2)), (3, .int (nI nc)), (4, .int (xk + 1))]) rfl ?_
          exact ih (k + 1) F1 C1 G1 (xk + 1) (by omega) (by omega) (lp_s hx) (by rw [its, ← hs]; exact (if_neg (fun h9 => c55 h9.1)).symm) (h1) (hwF1) (hwC1)
        · refine g_seg [(36, .aload 5, 2), (38, .iconst 4, 1)] 39 [(5, .ref (rd 2 k)), (0, .ref s), (1, .int 0), (2, .ref (rt 2)), (3, .int (nI nc)), (4, .int xk)] [.int 4, .ref (rd 2 k)] C (by decide +kernel) rfl ?_
          refine g_ialdM (pc := 39) (n := 5) 4 (C1 k 4) C (h1.2.1.2.2.1 k hk8) rfl (by decide) (by decide) (cut_lt (by decide)) (by decide +kernel) ?_
          refine g_if_eq (pc := 40) (off := 6) 46 C (by decide +kernel) (by decide) (fun c56 => ?_) (fun c56 => ?_)
          · refine g_seg [(46, .aload_n 0, 1)] 47 [(5, .ref (rd 2 k)), (0, .ref s), (1, .int 0), (2, .ref (rt 2)), (3, .int (nI nc)), (4, .int xk)] [.ref s] C (by decide +kernel) rfl ?_
            refine g_getf (pc := 47) (k := 1) (v := .ref (rt 1)) C fl_X5_15 (h1.1.1) rfl (by decide +kernel) ?_
            refine g_seg [(50, .aload 5, 2), (52, .iconst 1, 1)] 53 [(5, .ref (rd 2 k)), (0, .ref s), (1, .int 0), (2, .ref (rt 2)), (3, .int (nI nc)), (4, .int xk)] [.int 1, .ref (rd 2 k), .ref (rt 1)] C (by decide +kernel) rfl ?_
            refine g_ialdM (pc := 53) (n := 5) 1 (C1 k 1) C (h1.2.1.2.2.1 k hk8) rfl (by decide) (by decide) (cut_lt (by decide)) (by decide +kernel) ?_
            refine g_aaldS (pc := 54) (j := f) C (h1.1.2.2.1) (hC) (hf) (by omega) (by decide +kernel) ?_
            refine g_seg [(55, .astore 6, 2), (57, .aload 5, 2), (59, .iconst 4, 1), (60, .aload 6, 2), (62, .iconst 0, 1)] 63 [(6, .ref (rd 1 f)), (5, .ref (rd 2 k)), (0, .ref s), (1, .int 0), (2, .ref (rt 2)), (3, .int (nI nc)), (4, .int xk)] [.int 0, .ref (rd 1 f), .int 4, .ref (rd 2 k)] C (by decide +kernel) rfl ?_
            refine g_ialdM (pc := 63) (n := 5) 0 (F1 f 0) C (h1.2.1.2.1 f hf) rfl (by decide) (by decide) (cut_lt (by decide)) (by decide +kernel) ?_
            refine g_seg [(64, .iconst 1, 1)] 65 [(6, .ref (rd 1 f)), (5, .ref (rd 2 k)), (0, .ref s), (1, .int 0), (2, .ref (rt 2)), (3, .int (nI nc)), (4, .int xk)] [.int 1, .int (F1 f 0), .int 4, .ref (rd 2 k)] C (by decide +kernel) rfl ?_
            refine g_icmp_ne (pc := 65) (off := 7) 72 C (by decide +kernel) (by decide) (fun c57 => ?_) (fun c57 => ?_)
            · refine g_seg [(72, .iconst 2, 1)] 73 [(6, .ref (rd 1 f)), (5, .ref (rd 2 k)), (0, .ref s), (1, .int 0), (2, .ref (rt 2)), (3, .int (nI nc)), (4, .int xk)] [.int 2, .int 4, .ref (rd 2 k)] C (by decide +kernel) rfl ?_
              refine g_iastM (pc := 73) (n := 5) 4 (cut 5 ((s_set C1 k 4 2) k)) C (h1.2.1.2.2.1 k hk8) rfl (by decide) (by decide) (cut_upd (by decide)) (by decide +kernel) ?_
              refine g_abs (P := fun G9 => RS cy s rt rd b nt nf nc nn S F1 (s_set C1 k 4 2) N G9) (RS.w2 h1 hk8 (fun j9 h9 => s_set_ne h9)) (fun G58 h59 => ?_)
              refine g_seg [(74, .aload 6, 2), (76, .iconst 0, 1)] 77 [(6, .ref (rd 1 f)), (5, .ref (rd 2 k)), (0, .ref s), (1, .int 0), (2, .ref (rt 2)), (3, .int (nI nc)), (4, .int xk)] [.int 0, .ref (rd 1 f)] C (by decide +kernel) rfl ?_
              refine g_ialdM (pc := 77) (n := 5) 0 (F1 f 0) C (h59.2.1.2.1 f hf) rfl (by decide) (by decide) (cut_lt (by decide)) (by decide +kernel) ?_
              refine g_seg [(78, .iconst 1, 1)] 79 [(6, .ref (rd 1 f)), (5, .ref (rd 2 k)), (0, .ref s), (1, .int 0), (2, .ref (rt 2)), (3, .int (nI nc)), (4, .int xk)] [.int 1, .int (F1 f 0)] C (by decide +kernel) rfl ?_
              refine g_icmp_ne (pc := 79) (off := 44) 123 C (by decide +kernel) (by decide) (fun _ => ?_) (fun c9 => absurd c9 (c57))
              refine g_seg [(123, .iinc 4 1, 3), (126, .goto (-113), 3)] 13 [(4, .int (xk + 1)), (6, .ref (rd 1 f)), (5, .ref (rd 2 k)), (0, .ref s), (1, .int 0), (2, .ref (rt 2)), (3, .int (nI nc))] [] C (by decide +kernel) rfl ?_
              refine g_subp [3, 4, 5, 6, 0] (lv' := [(0, .ref s), (1, .int 0), (2, .ref (rt 2)), (3, .int (nI nc)), (4, .int (xk + 1))]) rfl ?_
              exact ih (k + 1) F1 (s_set C1 k 4 2) G58 (xk + 1) (by omega) (by omega) (lp_s hx) (by rw [its, ← hs]; simp only [y_cue]; rw [if_pos ⟨c55, c56⟩, ixn_n hC (by omega), if_neg c57]) (h59) (hwF1) (hwC1.set)
            · obtain ⟨t, ht, hF⟩ := hwF1 f hf c57
              refine g_seg [(68, .iconst 1, 1), (69, .goto 4, 3)] 73 [(6, .ref (rd 1 f)), (5, .ref (rd 2 k)), (0, .ref s), (1, .int 0), (2, .ref (rt 2)), (3, .int (nI nc)), (4, .int xk)] [.int 1, .int 4, .ref (rd 2 k)] C (by decide +kernel) rfl ?_
              refine g_iastM (pc := 73) (n := 5) 4 (cut 5 ((s_set C1 k 4 1) k)) C (h1.2.1.2.2.1 k hk8) rfl (by decide) (by decide) (cut_upd (by decide)) (by decide +kernel) ?_
              refine g_abs (P := fun G9 => RS cy s rt rd b nt nf nc nn S F1 (s_set C1 k 4 1) N G9) (RS.w2 h1 hk8 (fun j9 h9 => s_set_ne h9)) (fun G60 h61 => ?_)
              refine g_seg [(74, .aload 6, 2), (76, .iconst 0, 1)] 77 [(6, .ref (rd 1 f)), (5, .ref (rd 2 k)), (0, .ref s), (1, .int 0), (2, .ref (rt 2)), (3, .int (nI nc)), (4, .int xk)] [.int 0, .ref (rd 1 f)] C (by decide +kernel) rfl ?_
              refine g_ialdM (pc := 77) (n := 5) 0 (F1 f 0) C (h61.2.1.2.1 f hf) rfl (by decide) (by decide) (cut_lt (by decide)) (by decide +kernel) ?_
              refine g_seg [(78, .iconst 1, 1)] 79 [(6, .ref (rd 1 f)), (5, .ref (rd 2 k)), (0, .ref s), (1, .int 0), (2, .ref (rt 2)), (3, .int (nI nc)), (4, .int xk)] [.int 1, .int (F1 f 0)] C (by decide +kernel) rfl ?_
              refine g_icmp_ne (pc := 79) (off := 44) 123 C (by decide +kernel) (by decide) (fun c9 => absurd (c57) c9) (fun _ => ?_)
              refine g_seg [(82, .aload_n 0, 1), (83, .aload 6, 2), (85, .iconst 2, 1), (86, .iconst (-1), 1), (87, .aload_n 0, 1)] 88 [(6, .ref (rd 1 f)), (5, .ref (rd 2 k)), (0, .ref s), (1, .int 0), (2, .ref (rt 2)), (3, .int (nI nc)), (4, .int xk)] [.ref s, .int (-1), .int 2, .ref (rd 1 f), .ref s] C (by decide +kernel) rfl ?_
              refine g_getf (pc := 88) (k := 0) (v := .ref (rt 0)) C fl_X5_9 (h61.1.1) rfl (by decide +kernel) ?_
              refine g_seg [(91, .aload 6, 2), (93, .iconst 1, 1)] 94 [(6, .ref (rd 1 f)), (5, .ref (rd 2 k)), (0, .ref s), (1, .int 0), (2, .ref (rt 2)), (3, .int (nI nc)), (4, .int xk)] [.int 1, .ref (rd 1 f), .ref (rt 0), .int (-1), .int 2, .ref (rd 1 f), .ref s] C (by decide +kernel) rfl ?_
              refine g_ialdM (pc := 94) (n := 5) 1 (F1 f 1) C (h61.2.1.2.1 f hf) rfl (by decide) (by decide) (cut_lt (by decide)) (by decide +kernel) ?_
              refine g_aaldS (pc := 95) (j := t) C (h61.1.2.1) (hF) (ht) (by omega) (by decide +kernel) ?_
              refine g_seg [(96, .aload_n 0, 1)] 97 [(6, .ref (rd 1 f)), (5, .ref (rd 2 k)), (0, .ref s), (1, .int 0), (2, .ref (rt 2)), (3, .int (nI nc)), (4, .int xk)] [.ref s, .ref (rd 0 t), .int (-1), .int 2, .ref (rd 1 f), .ref s] C (by decide +kernel) rfl ?_
              refine g_getf (pc := 97) (k := 0) (v := .ref (rt 0)) C fl_X5_9 (h61.1.1) rfl (by decide +kernel) ?_
              refine g_seg [(100, .aload 6, 2), (102, .iconst 1, 1)] 103 [(6, .ref (rd 1 f)), (5, .ref (rd 2 k)), (0, .ref s), (1, .int 0), (2, .ref (rt 2)), (3, .int (nI nc)), (4, .int xk)] [.int 1, .ref (rd 1 f), .ref (rt 0), .ref (rd 0 t), .int (-1), .int 2, .ref (rd 1 f), .ref s] C (by decide +kernel) rfl ?_
              refine g_ialdM (pc := 103) (n := 5) 1 (F1 f 1) C (h61.2.1.2.1 f hf) rfl (by decide) (by decide) (cut_lt (by decide)) (by decide +kernel) ?_
              refine g_aaldS (pc := 104) (j := t) C (h61.1.2.1) (hF) (ht) (by omega) (by decide +kernel) ?_
              refine g_seg [(105, .bipush 6, 2)] 107 [(6, .ref (rd 1 f)), (5, .ref (rd 2 k)), (0, .ref s), (1, .int 0), (2, .ref (rt 2)), (3, .int (nI nc)), (4, .int xk)] [.int 6, .ref (rd 0 t), .ref (rd 0 t), .int (-1), .int 2, .ref (rd 1 f), .ref s] C (by decide +kernel) rfl ?_
              refine g_ialdM (pc := 107) (n := 7) 6 (S t 6) C (h61.2.1.1 t ht) rfl (by decide) (by decide) (cut_lt (by decide)) (by decide +kernel) ?_
              obtain ⟨⟨w9, hw9, hf9⟩, d9, hd9, hs9⟩ := hwS t ht
              refine g_callS (pc := 108) C mS_X5_place q355 (c_X5_place l D cy _ (rd 0 t) (S t) (h61.2.1.1 t ht) w9 d9 hw9 (S t 0) (S t 1) (S t 2) rfl rfl rfl hf9 (S t 6) hs9 hd9) rfl ⟨⟨Nat.le_of_ble_eq_true rfl, Nat.le_of_ble_eq_true rfl⟩, Nat.le_of_ble_eq_true rfl, Nat.le_of_ble_eq_true rfl⟩ rfl (Nat.le_of_ble_eq_true rfl) (by decide +kernel) ?_
              refine g_kI (fun v64 G63 hp62 => ?_)
              obtain ⟨rfl, rfl⟩ := hp62
              refine g_seg [(111, .aload 5, 2), (113, .iconst 2, 1)] 114 [(6, .ref (rd 1 f)), (5, .ref (rd 2 k)), (0, .ref s), (1, .int 0), (2, .ref (rt 2)), (3, .int (nI nc)), (4, .int xk)] [.int 2, .ref (rd 2 k), .int (s_pl (S t 0) (S t 1) (S t 2) (S t 6)), .int (-1), .int 2, .ref (rd 1 f), .ref s] C (by decide +kernel) rfl ?_
              refine g_ialdM (pc := 114) (n := 5) 2 (C1 k 2) C (h61.2.1.2.2.1 k hk8) rfl (by decide) (by decide) (by rw [cut_lt (by decide)]; simp [s_set, s_row]) (by decide +kernel) ?_
              refine g_seg [(115, .iadd, 1), (116, .aload 5, 2), (118, .iconst 3, 1)] 119 [(6, .ref (rd 1 f)), (5, .ref (rd 2 k)), (0, .ref s), (1, .int 0), (2, .ref (rt 2)), (3, .int (nI nc)), (4, .int xk)] [.int 3, .ref (rd 2 k), .int ((s_pl (S t 0) (S t 1) (S t 2) (S t 6)) + (C1 k 2)), .int (-1), .int 2, .ref (rd 1 f), .ref s] C (by decide +kernel) rfl ?_
              refine g_ialdM (pc := 119) (n := 5) 3 (C1 k 3) C (h61.2.1.2.2.1 k hk8) rfl (by decide) (by decide) (by rw [cut_lt (by decide)]; simp [s_set, s_row]) (by decide +kernel) ?_
              refine g_callV (pc := 120) C mV_X5_state q358 (h61.1.1) rfl rfl (c_X5_state l D cy h61 f hf 2 (-1) ((s_pl (S t 0) (S t 1) (S t 2) (S t 6)) + (C1 k 2)) (C1 k 3)) rfl ⟨⟨Nat.le_of_ble_eq_true rfl, Nat.le_of_ble_eq_true rfl⟩, Nat.le_of_ble_eq_true rfl, Nat.le_of_ble_eq_true rfl⟩ rfl (Nat.le_of_ble_eq_true rfl) (by decide +kernel) ?_
              refine g_kV (fun G65 h66 => ?_)
              refine g_seg [(123, .iinc 4 1, 3), (126, .goto (-113), 3)] 13 [(4, .int (xk + 1)), (6, .ref (rd 1 f)), (5, .ref (rd 2 k)), (0, .ref s), (1, .int 0), (2, .ref (rt 2)), (3, .int (nI nc))] [] C (by decide +kernel) rfl ?_
              refine g_subp [3, 4, 5, 6, 0] (lv' := [(0, .ref s), (1, .int 0), (2, .ref (rt 2)), (3, .int (nI nc)), (4, .int (xk + 1))]) rfl ?_
              exact ih (k + 1) (s_row F1 f 2 (-1) ((s_pl (S t 0) (S t 1) (S t 2) (S t 6)) + (C1 k 2)) (C1 k 3)) (s_set C1 k 4 1) G65 (xk + 1) (by omega) (by omega) (lp_s hx) (by rw [its, ← hs]; simp only [y_cue]; rw [if_pos ⟨c55, c56⟩, ixn_n hC (by omega), if_pos c57, ixn_n hF (by omega)]) (h66) (hwF1.row (fun e9 => absurd e9 (by decide))) (hwC1.set)
          · refine g_seg [(43, .goto 80, 3), (123, .iinc 4 1, 3), (126, .goto (-113), 3)] 13 [(4, .int (xk + 1)), (5, .ref (rd 2 k)), (0, .ref s), (1, .int 0), (2, .ref (rt 2)), (3, .int (nI nc))] [] C (by decide +kernel) rfl ?_
            refine g_subp [2, 3, 4, 5, 0] (lv' := [(0, .ref s), (1, .int 0), (2, .ref (rt 2)), (3, .int (nI nc)), (4, .int (xk + 1))]) rfl ?_
            exact ih (k + 1) F1 C1 G1 (xk + 1) (by omega) (by omega) (lp_s hx) (by rw [its, ← hs]; exact (if_neg (fun h9 => c56 h9.2)).symm) (h1) (hwF1) (hwC1)
  exact lp1 (nc + 1) 0 F Cu G 0 (by omega) (by omega) (nI_0.symm) (rfl) (h) (hwF) (hwC)
end
section
/-! three worlds side by side: the class's, Sim's, and what the law makes by the way -/
def sG (G G' : GG) : Prop := ∀ a e, G a = some e → G' a = some e
def dG (G G' : GG) : Prop := ∀ a e, G a = some e → G' a = none
def nG : GG := fun _ => none
def W3 (G1 G2 G3 G : GG) : Prop := (sG G1 G ∧ sG G2 G ∧ sG G3 G) ∧ dG G1 G2 ∧ dG G1 G3 ∧ dG G2 G3
theorem dG.symm {G G' : GG} (h : dG G G') : dG G' G := fun a e ha => by
  cases h1 : G a with
  | none => rfl
  | some e1 => rw [h a e1 h1] at ha; cases ha
theorem dG.oth {G G' : GG} {a : Nat} {e : va_E} (h : dG G G') (ha : G' a = some e) : G a = none := h.symm a e ha
theorem sG.rf (G : GG) : sG G G := fun _ _ h => h
/-- a framed call over one of two worlds -/
theorem fr_two {Ga Gb G Ga' G' : GG} (h : fr Ga G Ga' G') (sb : sG Gb G) (dj : dG Ga Gb) : sG Ga' G' ∧ sG Gb G' ∧ dG Ga' Gb := by
  obtain ⟨f1, f2, f3⟩ := h
  refine ⟨f1, fun a e ha => f2 a e (sb a e ha) (dj.oth ha), fun a e ha => ?_⟩
  rcases f3 a e ha with ⟨e1, h1⟩ | h1
  · exact dj a e1 h1
  · cases h2 : Gb a with
    | none => rfl
    | some e2 => have := sb a e2 h2; rw [h1] at this; cases this
theorem W3.c1 {G1 G2 G3 G G1' G' : GG} (h : W3 G1 G2 G3 G) (f : fr G1 G G1' G') : W3 G1' G2 G3 G' := by
  obtain ⟨⟨s1, s2, s3⟩, d12, d13, d23⟩ := h
  obtain ⟨a1, a2, a3⟩ := fr_two f s2 d12
  obtain ⟨-, b2, b3⟩ := fr_two f s3 d13
  exact ⟨⟨a1, a2, b2⟩, a3, b3, d23⟩
theorem W3.c2 {G1 G2 G3 G G2' G' : GG} (h : W3 G1 G2 G3 G) (f : fr G2 G G2' G') : W3 G1 G2' G3 G' := by
  obtain ⟨⟨s1, s2, s3⟩, d12, d13, d23⟩ := h
  obtain ⟨a1, a2, a3⟩ := fr_two f s1 d12.symm
  obtain ⟨-, b2, b3⟩ := fr_two f s3 d23
  exact ⟨⟨a2, a1, b2⟩, a3.symm, d13, b3⟩
theorem sG.up {G1 G : GG} {q : Nat} {e : va_E} (h : sG G1 G) (hq : G1 q = none) : sG G1 (g_up G q e) := fun a e1 ha => by
  by_cases hz : a = q
  · subst hz; rw [hq] at ha; cases ha
  · rw [g_up_ne hz]; exact h a e1 ha
theorem sG.upup {G1 G : GG} {q : Nat} {e : va_E} (h : sG G1 G) : sG (g_up G1 q e) (g_up G q e) := fun a e1 ha => by
  by_cases hz : a = q
  · subst hz; rw [g_up_self] at ha ⊢; exact ha
  · rw [g_up_ne hz] at ha ⊢; exact h a e1 ha
theorem dG.up {G1 G3 : GG} {q : Nat} {e : va_E} (h : dG G1 G3) (hq : G1 q = none) : dG G1 (g_up G3 q e) := fun a e1 ha => by
  by_cases hz : a = q
  · subst hz; rw [hq] at ha; cases ha
  · rw [g_up_ne hz]; exact h a e1 ha
theorem sG.none {G1 G : GG} {q : Nat} (h : sG G1 G) (hq : G q = none) : G1 q = none := by
  cases h1 : G1 q with
  | none => rfl
  | some e => have := h q e h1; rw [hq] at this; cases this
theorem W3.p3 {G1 G2 G3 G : GG} {q : Nat} {e0 e : va_E} (h : W3 G1 G2 G3 G) (hq : G3 q = some e0) : W3 G1 G2 (g_up G3 q e) (g_up G q e) := by
  obtain ⟨⟨s1, s2, s3⟩, d12, d13, d23⟩ := h
  exact ⟨⟨s1.up (d13.oth hq), s2.up (d23.oth hq), s3.upup⟩, d12, d13.up (d13.oth hq), d23.up (d23.oth hq)⟩
theorem W3.n3 {G1 G2 G3 G : GG} {q : Nat} {e : va_E} (h : W3 G1 G2 G3 G) (hq : G q = none) : W3 G1 G2 (g_up G3 q e) (g_up G q e) := by
  obtain ⟨⟨s1, s2, s3⟩, d12, d13, d23⟩ := h
  exact ⟨⟨s1.up (s1.none hq), s2.up (s2.none hq), s3.upup⟩, d12, d13.up (s1.none hq), d23.up (s2.none hq)⟩
theorem W3.p2 {G1 G2 G3 G : GG} {q : Nat} {e0 e : va_E} (h : W3 G1 G2 G3 G) (hq : G2 q = some e0) : W3 G1 (g_up G2 q e) G3 (g_up G q e) := by
  obtain ⟨⟨s1, s2, s3⟩, d12, d13, d23⟩ := h
  exact ⟨⟨s1.up (d12.oth hq), s2.upup, s3.up (d23.symm.oth hq)⟩, d12.up (d12.oth hq), d13, (d23.symm.up (d23.symm.oth hq)).symm⟩
/-- new cells, all at once -/
def gG (G G3 G' : GG) : GG := fun a => match G a with | none => G' a | some _ => G3 a
theorem W3.g3 {G1 G2 G3 G G' : GG} (h : W3 G1 G2 G3 G) (hs : sG G G') : W3 G1 G2 (gG G G3 G') G' := by
  obtain ⟨⟨s1, s2, s3⟩, d12, d13, d23⟩ := h
  refine ⟨⟨fun a e ha => hs a e (s1 a e ha), fun a e ha => hs a e (s2 a e ha), fun a e ha => ?_⟩, d12, fun a e ha => ?_, fun a e ha => ?_⟩
  · unfold gG at ha
    cases hG : G a with
    | none => rw [hG] at ha; exact ha
    | some e1 => rw [hG] at ha; exact hs a e (s3 a e ha)
  · unfold gG; rw [s1 a e ha]; exact d13 a e ha
  · unfold gG; rw [s2 a e ha]; exact d23 a e ha
theorem gG_new {G G3 G' : GG} {a : Nat} (h : G a = none) : gG G G3 G' a = G' a := by unfold gG; rw [h]
theorem gG_old {G G3 G' : GG} {a : Nat} {e : va_E} (s3 : sG G3 G) (h : G3 a = some e) : gG G G3 G' a = some e := by unfold gG; rw [s3 a e h]; exact h
theorem W3.x3 {G1 G2 G3 G : GG} (h : W3 G1 G2 G3 G) : W3 G1 G2 nG G :=
  ⟨⟨h.1.1, h.1.2.1, fun a e ha => by cases ha⟩, h.2.1, fun a e ha => rfl, fun a e ha => rfl⟩
/-- the class in its world -/
def LX (cy : Nat → ClassId) (x : Nat) (b : Int32) (nt nf nc nn : Nat) (T E C N : Rw) (G2 G3 G : GG) : Prop := ∃ (G1 : GG) (ad : Nat → Nat → Nat) (KT KF KC : Rw), RX cy x ad b nt nf nc nn T E C N KT KF KC G1 ∧ W3 G1 G2 G3 G
/-- Sim in its world -/
def LM (cy : Nat → ClassId) (s : Nat) (b : Int32) (nt nf nc nn : Nat) (S F C N : Rw) (G2 : GG) : Prop := ∃ (rt : Nat → Nat) (rd : Nat → Nat → Nat), RS cy s rt rd b nt nf nc nn S F C N G2
/-! contracts of methods that read the script -/
def g_PcS (l : Launch) (D : va_G) (cy : Nat → ClassId) (G : GG) (sz : Nat) (av : List Value) (b L : Nat) (xs : Nat → Int32) : Array Value → State → Prop := va_Pc av (fun U => U.heap.size = sz ∧ (∀ a e, G a = some e → va_at D vwCl (a, e) U.heap) ∧ g_K D cy U ∧ g_XF l (g_A G sz) U U.heap ∧ va_X b L xs U U.heap ∧ b < sz ∧ G b = none)
def CtrS (l : Launch) (D : va_G) (cy : Nat → ClassId) (y : MethodName) (b : ByteArray) (n : Nat) (ret : Option FieldType) (rm : Room) (av : List Value) (G : GG) (sb L : Nat) (xs : Nat → Int32) (post : Option Value → GG → Prop) : Prop :=
  ∀ sz, Met l y (wsU y b n ret) rm (g_PcS l D cy G sz av sb L xs) (g_Qc D (g_A G sz) post) rm.cells rm.slots (g_A G sz)
theorem g_blindS (l : Launch) (D : va_G) (cy : Nat → ClassId) (G : GG) (sz : Nat) (av : List Value) (b L : Nat) (xs : Nat → Int32) : FrameBlind (g_PcS l D cy G sz av b L xs) := by
  intro a U g mk h
  obtain ⟨h0, h1, h2, h3, h4, h5, h6⟩ := h
  exact ⟨h0, h1, h2, g_K.moved (u := U) (U := U.calling g mk a) (Vm.Alike.refl U.vm) h3, g_XF.same (u := U) (U := U.calling g mk a) rfl h4, va_X.moved (u := U) (U := U.calling g mk a) (Vm.Alike.refl U.vm) h5, h6⟩
theorem CtrS.mk {l : Launch} {D : va_G} {cy : Nat → ClassId} {y : MethodName} {b : ByteArray} {n : Nat} {ret : Option FieldType} {rm : Room} {av : List Value} {G : GG} {sb L : Nat} {xs : Nat → Int32} {post : Option Value → GG → Prop} (hy : plainName y.cls = true) (hn : (lg_sl av).length ≤ n)
    (body : ∀ κ : Kx, g_OK κ l D cy y n b rm ret → g_RT κ post rm → g_XX κ → g_SC κ sb L xs → PG κ n 0 0 G (lv_args 0 av) 0 []) : CtrS l D cy y b n ret rm av G sb L xs post := by
  intro sz
  refine Met.ofW (cc := b) (maxL := n) (ret := ret) hy rfl ?_
  intro p e s m args below meth c s₁ B hml hv
  obtain ⟨rfl, hsz, hP, hK, hF, hX, hbl, hbG⟩ := hv
  have hts := atoms_spec (ws := wsU y b n ret) B.pre
  subst hsz
  have hb := body (p, l, e, rm, s, m, av.toArray, below, meth, c, D, cy, g_A G s.heap.size, s.heap, MQ below (g_Qc D (g_A G s.heap.size) post) av.toArray s rm.cells rm.slots (g_A G s.heap.size))
    ⟨⟨rfl, rfl, rfl⟩, B.exec, B.bytes, hml, findClass_of_methodNamed B.named, fun w hw => hts w (List.mem_cons_of_mem _ hw), hK, fun q h => Or.inr h, rfl, B.returns, B.notSynchronized, (name_of_methodNamed B.named B.method).1⟩ ⟨rfl, rfl⟩ hF
    ⟨hX, hbl, fun z => by
      rcases z with ⟨e9, h9⟩ | h9
      · rw [hbG] at h9; cases h9
      · exact absurd hbl (Nat.not_lt.mpr h9)⟩
  have hl := lv_entry av hn
  rw [lg_entry_eq]
  exact hb s.heap [] _ ⟨fun a e h => ⟨hP a e h, Or.inl ⟨e, h⟩⟩, va_S.rf⟩ hl
theorem g_callSS {κ : Kx} {l0 : Launch} {D0 : va_G} {cy0 : Nat → ClassId} {y y' : MethodName} {nL ce sl n' index k : Nat} {cc b' : ByteArray} {rm rm' : Room} {ret ret' : Option FieldType} {G : GG} {lv : LV} {pc : Nat} {st rest As : List Value} {sb L : Nat} {xs : Nat → Int32} {post : Option Value → GG → Prop} (C : g_OK κ l0 D0 cy0 y nL cc rm ret) (hX : g_XX κ) (hS : g_SC κ sb L xs) (hm : g_mS y' b' n' ret' k) (hlink : Cond.methodLink y.cls index y' ∈ lw_T) (hM : CtrS l0 D0 cy0 y' b' n' ret' rm' As G sb L xs post) (hn : As.length = k) (hr : g_room rm rm' n' ce sl) (hst : st = As.reverse ++ rest) (hcat : (rest.map fun v => v.category).sum ≤ 8) (hd : decode cc pc = .ok (.invokestatic index, 3))
    (kk : ∀ r G', post r G' → PG κ nL (ce + rm'.cells) (sl + rm'.slots) G' lv (pc + 3) (r.toList ++ rest)) : PG κ nL ce sl G lv pc st := by
  obtain ⟨p, l, e, R, s, m, args, below, meth, c, D, cy, A, H0, Q⟩ := κ
  obtain ⟨⟨rfl, rfl, rfl⟩, h0, hb, hml, hown, hT, hK, hA, rfl, -⟩ := C
  obtain ⟨m1, m2, m3, m4, m5⟩ := hm
  obtain ⟨x1, x2, x3⟩ := hS
  intro H locs ls hw hl
  have hAG : ∀ q, g_A G H.size q → A q := fun q hq => by
    rcases hq with ⟨e, he⟩ | hq
    · exact (hw.1 q e he).2
    · exact hA q (Nat.le_trans hw.2.1 hq)
  have hGb : G sb = none := by
    cases h1 : G sb with
    | none => rfl
    | some e1 => exact absurd (hw.1 sb e1 h1).2 x3
  exact g_fin hA hw (va_runS (As := As) ⟨h0, hb, hml, hown, hT⟩ (hM H.size) ⟨g_callB hT m1 m2 m3 m4 hlink hr.1, hT _ m5⟩ ⟨g_blindS l D cy G H.size _ sb L xs, fun U hU hW => ⟨rfl, by rw [hU], fun a e h => by rw [hU]; exact (hw.1 a e h).1, g_K.moved hW.alike hK, g_XF.moved hW (fun q h1 h2 => by rw [hU]; exact hw.2.2.1 q h1 h2) hAG hX, va_X.kept (va_X.moved hW.alike x1) (by rw [hU]; exact hw.2.2.1 sb x2 x3), Nat.lt_of_lt_of_le x2 hw.2.1, hGb⟩⟩ rfl hn hl.1 hst (lv_room hcat) hd hr.2) (fun r G' hp H1 locs1 hw1 => kk r G' hp H1 locs1 ls hw1 hl)
/-! rows of references, as they grow -/
theorem oA_0 {c : ClassId} {n : Nat} {f : Nat → Nat} : (.inl (c, n, .inr (.inr (.inr (.inr (fun _ => none))))) : va_E) = oA c n f 0 := by
  unfold oA
  congr 6
theorem oA_s {c : ClassId} {n k : Nat} {f : Nat → Nat} {v : Nat} (hv : f k = v) : (.inl (c, n, .inr (.inr (.inr (.inr (va_up (fun i => if i < k then some (f i) else none) k (some v)))))) : va_E) = oA c n f (k + 1) := by
  subst hv
  unfold oA
  congr 7
  funext i
  unfold va_up
  by_cases h : i = k
  · subst h; simp
  · rw [if_neg h]
    dsimp only
    by_cases h1 : i < k
    · rw [if_pos h1, if_pos (by omega)]
    · rw [if_neg h1, if_neg (by omega)]
theorem oA_c {c : ClassId} {n k : Nat} {f g : Nat → Nat} (h : ∀ i, i < k → f i = g i) : oA c n f k = oA c n g k := by
  unfold oA
  congr 7
  funext i
  by_cases h1 : i < k
  · rw [if_pos h1, if_pos h1, h i h1]
  · rw [if_neg h1, if_neg h1]

theorem q405 : (Cond.constant "CircusLinesLaw" 7 (2147483647 : Int32) : Cond) ∈ lw_T := lw_T_in (i := 405) (by decide +kernel) rfl
theorem q398 : (Cond.constant "CircusLinesLaw" 8 (790386105 : Int32) : Cond) ∈ lw_T := lw_T_in (i := 398) (by decide +kernel) rfl
theorem y_below {v n : Int32} {m : Nat} (hn : n = nI m) (h0 : 0 < m) (h1 : m ≤ 1000) : ∃ j, j < m ∧ (v &&& 2147483647) - (v &&& 2147483647) / n * n = nI j := by
  obtain ⟨a, ha, e⟩ := pk_andE v (m := 2147483647) 31 (by decide)
  rw [e, hn, pk_rem (by omega) h0 (by omega)]
  exact ⟨a % m, Nat.mod_lt _ h0, rfl⟩
set_option maxHeartbeats 4000000 in
set_option maxRecDepth 100000 in
theorem c_L_below (l : Launch) (D : va_G) (cy : Nat → ClassId) (G : GG) (v n : Int32) (m : Nat) (hn : n = nI m) (h0 : 0 < m) (h1 : m ≤ 1000) : Ctr l D cy yL_below method_2_code 2 (some .int) kL_below [.int v, .int n] G (pI (fun v' G' => G' = G ∧ ∃ j, j < m ∧ v' = nI j)) := by
  refine Ctr.mk (by decide +kernel) (Nat.le_of_ble_eq_true rfl) ?_
  intro κ C R
  refine g_pc (pc' := 0) rfl ?_
  refine g_seg [(0, .iload_n 0, 1)] 1 [(0, .int v), (1, .int n)] [.int v] C (by decide +kernel) rfl ?_
  refine g_ldc (pc := 1) (v := 2147483647) C q405 (by decide +kernel) ?_
  refine g_seg [(3, .iand, 1), (4, .iload_n 1, 1)] 5 [(0, .int v), (1, .int n)] [.int n, .int (v &&& 2147483647)] C (by decide +kernel) rfl ?_
  refine g_irem (pc := 5) C (by decide +kernel) (by rw [hn]; exact nI_ne0 h0 (by omega)) ?_
  exact g_iret (pc := 6) C R (⟨_, rfl, rfl, y_below hn h0 h1⟩) (Nat.le_of_ble_eq_true rfl) (Nat.le_of_ble_eq_true rfl) (by decide +kernel)
set_option maxHeartbeats 4000000 in
set_option maxRecDepth 100000 in
theorem c_L_cell (l : Launch) (D : va_G) (cy : Nat → ClassId) (G : GG) (sb L : Nat) (xs : Nat → Int32) (hL : L ≤ 260) (k : Int32) (j : Nat) (hk : k = nI j) (hj : j < 1000) : CtrS l D cy yL_cell method_3_code 2 (some .int) kL_cell [.ref sb, .int k] G sb L xs (pI (fun v' G' => G' = G)) := by
  refine CtrS.mk (by decide +kernel) (Nat.le_of_ble_eq_true rfl) ?_
  intro κ C R X Z
  refine g_pc (pc' := 0) rfl ?_
  refine g_seg [(0, .iload_n 1, 1), (1, .aload_n 0, 1)] 2 [(0, .ref sb), (1, .int k)] [.ref sb, .int k] C (by decide +kernel) rfl ?_
  refine g_salen (pc := 2) C Z (by decide +kernel) ?_
  refine g_icmp_ge (pc := 3) (off := 9) 12 C (by decide +kernel) (by decide) (fun c1 => ?_) (fun c1 => ?_)
  · refine g_ldc (pc := 12) (v := 790386105) C q398 (by decide +kernel) ?_
    refine g_seg [(14, .iload_n 1, 1), (15, .iconst 3, 1), (16, .iadd, 1), (17, .imul, 1)] 18 [(0, .ref sb), (1, .int k)] [.int (790386105 * (k + 3))] C (by decide +kernel) rfl ?_
    exact g_iret (pc := 18) C R (⟨_, rfl, rfl⟩) (Nat.le_of_ble_eq_true rfl) (Nat.le_of_ble_eq_true rfl) (by decide +kernel)
  · have hjL : j < L := lp_lt hk (by omega) (by omega) c1
    refine g_seg [(6, .aload_n 0, 1), (7, .iload_n 1, 1)] 8 [(0, .ref sb), (1, .int k)] [.int k, .ref sb] C (by decide +kernel) rfl ?_
    refine g_sald (pc := 8) (j := j) C Z hk hjL (by omega) (by decide +kernel) ?_
    refine g_seg [(9, .goto 9, 3)] 18 [(0, .ref sb), (1, .int k)] [.int (xs j)] C (by decide +kernel) rfl ?_
    exact g_iret (pc := 18) C R (⟨_, rfl, rfl⟩) (Nat.le_of_ble_eq_true rfl) (Nat.le_of_ble_eq_true rfl) (by decide +kernel)
set_option maxHeartbeats 4000000 in
set_option maxRecDepth 100000 in
theorem c_X5_more (l : Launch) (D : va_G) (cy : Nat → ClassId) (G : GG) (a r n : Nat) (f : Nat → Nat) (hn : n ≤ 20) (ha : G a = some (oA (cy 5) n f n)) (he : ∀ i, i < n → ∃ w g, G (f i) = some (.inl (cy 0, w, .inl g))) (hr : ∃ w g, G r = some (.inl (cy 0, w, .inl g))) : Ctr l D cy yX5_more prog_7_method_2_code 4 (some (.array (.array .int))) kX5_more [.ref a, .ref r] G (pA (fun v G' => ∃ q, v = .ref q ∧ G q = none ∧ G' = g_up G q (oA (cy 5) (n + 1) (fun i => if i < n then f i else r) (n + 1)))) := by
  refine Ctr.mk (by decide +kernel) (Nat.le_of_ble_eq_true rfl) ?_
  intro κ C R
  refine g_pc (pc' := 0) rfl ?_
  refine g_seg [(0, .aload_n 0, 1)] 1 [(0, .ref a), (1, .ref r)] [.ref a] C (by decide +kernel) rfl ?_
  refine g_alenI (pc := 1) C ha (by decide +kernel) ?_
  refine g_seg [(2, .iconst 1, 1), (3, .iadd, 1)] 4 [(0, .ref a), (1, .ref r)] [.int ((nI n) + 1)] C (by decide +kernel) rfl ?_
  refine g_anewA (pc := 4) (N' := n + 1) C q409 (by rw [nI_1]; exact nI_ge0 (by omega)) (by rw [nI_1]; exact nI_clamp (by omega)) (by omega) (Nat.le_of_ble_eq_true rfl) (by show 0 + (n + 1) ≤ 21; omega) (by decide +kernel) (fun q hq => ?_)
  rw [oA_0 (f := f)]
  have hqa : a ≠ q := g_fresh hq ha
  have haG : ∀ e9, g_up G q e9 a = some (oA (cy 5) n f n) := fun e9 => by rw [g_up_ne hqa]; exact ha
  have heG : ∀ e9 i, i < n → ∃ w9 g9, g_up G q e9 (f i) = some (.inl (cy 0, w9, .inl g9)) := fun e9 i hi => by obtain ⟨w9, g9, h9⟩ := he i hi; exact ⟨w9, g9, by rw [g_up_ne (g_fresh hq h9)]; exact h9⟩
  have hrG : ∀ e9, ∃ w9 g9, g_up G q e9 r = some (.inl (cy 0, w9, .inl g9)) := fun e9 => by obtain ⟨w9, g9, h9⟩ := hr; exact ⟨w9, g9, by rw [g_up_ne (g_fresh hq h9)]; exact h9⟩
  refine g_seg [(7, .astore_n 2, 1), (8, .iconst 0, 1), (9, .istore_n 3, 1)] 10 [(3, .int 0), (2, .ref q), (0, .ref a), (1, .ref r)] [] C (by decide +kernel) rfl ?_
  refine g_subp [2, 3, 1, 0] (lv' := [(0, .ref a), (1, .ref r), (2, .ref q), (3, .int 0)]) rfl ?_
  have lp1 : ∀ (m k : Nat) (xk : Int32), n + 1 ≤ k + m → k ≤ n → xk = nI k → PG κ 4 (0 + 1) (0 + (n + 1)) (g_up G q (oA (cy 5) (n + 1) f k)) [(0, .ref a), (1, .ref r), (2, .ref q), (3, .int xk)] 10 [] := by
    intro m
    induction m with
    | zero => intro k xk h1 h2; intros; exact absurd h1 (by omega)
    | succ m ih =>
      intro k xk hm hk hx
      refine g_seg [(10, .iload_n 3, 1), (11, .aload_n 0, 1)] 12 [(0, .ref a), (1, .ref r), (2, .ref q), (3, .int xk)] [.ref a, .int xk] C (by decide +kernel) rfl ?_
      refine g_alenI (pc := 12) C (haG _) (by decide +kernel) ?_
      refine g_icmp_ge (pc := 13) (off := 15) 28 C (by decide +kernel) (by decide) (fun c2 => ?_) (fun c2 => ?_)
      · have hk8 : k = n := by have := lp_ge (n := n) hx (by omega) (by omega) c2; omega
        refine g_seg [(28, .aload_n 2, 1), (29, .aload_n 0, 1)] 30 [(0, .ref a), (1, .ref r), (2, .ref q), (3, .int xk)] [.ref a, .ref q] C (by decide +kernel) rfl ?_
        refine g_alenI (pc := 30) C (haG _) (by decide +kernel) ?_
        refine g_seg [(31, .aload_n 1, 1)] 32 [(0, .ref a), (1, .ref r), (2, .ref q), (3, .int xk)] [.ref r, .int (nI n), .ref q] C (by decide +kernel) rfl ?_
        obtain ⟨w9, g9, h9⟩ := hrG (oA (cy 5) (n + 1) f k)
        refine g_aastI (pc := 32) (j := n) C (g_up_self ..) h9 rfl (by omega) (by omega) (by decide +kernel) ?_
        rw [g_up_up]
        refine g_seg [(33, .aload_n 2, 1)] 34 [(0, .ref a), (1, .ref r), (2, .ref q), (3, .int xk)] [.ref q] C (by decide +kernel) rfl ?_
        subst hk8
        exact g_aret (pc := 34) C R (Or.inr ⟨_, rfl⟩) (Or.inr ⟨_, rfl⟩) (⟨_, rfl, q, rfl, hq, by rw [show (fun i => if i < k then some (f i) else none) = (fun i => if i < k then some ((fun i => if i < k then f i else r) i) else none) from funext fun i => by by_cases h9 : i < k <;> simp [h9], oA_s (by simp)]⟩) (Nat.le_of_ble_eq_true rfl) (by show 0 + (k + 1) ≤ 21; omega) (by decide +kernel)
      · have hk8 : k < n := lp_lt (n := n) hx (by omega) (by omega) c2
        refine g_seg [(16, .aload_n 2, 1), (17, .iload_n 3, 1), (18, .aload_n 0, 1), (19, .iload_n 3, 1)] 20 [(0, .ref a), (1, .ref r), (2, .ref q), (3, .int xk)] [.int xk, .ref a, .int xk, .ref q] C (by decide +kernel) rfl ?_
        refine g_aaldS (pc := 20) (j := k) C (haG _) hx hk8 (by omega) (by decide +kernel) ?_
        obtain ⟨w9, g9, h9⟩ := heG (oA (cy 5) (n + 1) f k) k hk8
        refine g_aastI (pc := 21) (j := k) C (g_up_self ..) h9 hx (by omega) (by omega) (by decide +kernel) ?_
        rw [g_up_up, oA_s rfl]
        refine g_seg [(22, .iinc 3 1, 3), (25, .goto (-15), 3)] 10 [(3, .int (xk + 1)), (0, .ref a), (1, .ref r), (2, .ref q)] [] C (by decide +kernel) rfl ?_
        refine g_subp [1, 2, 3, 0] (lv' := [(0, .ref a), (1, .ref r), (2, .ref q), (3, .int (xk + 1))]) rfl ?_
        exact ih (k + 1) (xk + 1) (by omega) (by omega) (lp_s hx)
  exact lp1 (n + 1) 0 0 (by omega) (by omega) (nI_0.symm)
def rt4 (a b c d : Nat) : Nat → Nat := fun i => match i with | 0 => a | 1 => b | 2 => c | _ => d
theorem RS_zero {cy : Nat → ClassId} {s q0 q1 q2 q3 : Nat} {G : GG} (h : G s = some (.inr (5, [.ref q0, .ref q1, .ref q2, .ref q3, .int 0]))) (h0 : G q0 = some (oA (cy 5) 0 (fun _ => 0) 0)) (h1 : G q1 = some (oA (cy 5) 0 (fun _ => 0) 0)) (h2 : G q2 = some (oA (cy 5) 0 (fun _ => 0) 0)) (h3 : G q3 = some (oA (cy 5) 0 (fun _ => 0) 0)) : RS cy s (rt4 q0 q1 q2 q3) (fun _ _ => 0) 0 0 0 0 0 zR zR zR zR G :=
  ⟨⟨h, h0, h1, h2, h3⟩, ⟨fun i hi => absurd hi (by omega), fun i hi => absurd hi (by omega), fun i hi => absurd hi (by omega), fun i hi => absurd hi (by omega)⟩, ⟨fun i j hi => absurd hi (by omega), fun i j hi => absurd hi (by omega), fun i j hi => absurd hi (by omega), fun i j hi => absurd hi (by omega)⟩, by omega⟩
set_option maxHeartbeats 4000000 in
set_option maxRecDepth 100000 in
theorem c_X5_init (l : Launch) (D : va_G) (cy : Nat → ClassId) (G : GG) (s : Nat) (hX0 : G s = some (.inr (5, [.null, .null, .null, .null, .int 0]))) : Ctr l D cy yX5_init prog_7_method_1_code 1 none kX5_init [.ref s] G (pV (fun G' => ∃ rt rd, RS cy s rt rd 0 0 0 0 0 zR zR zR zR G')) := by
  refine Ctr.mk (by decide +kernel) (Nat.le_of_ble_eq_true rfl) ?_
  intro κ C R
  refine g_pc (pc' := 0) rfl ?_
  refine g_seg [(0, .aload_n 0, 1)] 1 [(0, .ref s)] [.ref s] C (by decide +kernel) rfl ?_
  refine g_obj (pc := 1) C q614 q40 q41 (Nat.le_of_ble_eq_true rfl) (Nat.le_of_ble_eq_true rfl) (by decide +kernel) ?_
  refine g_seg [(4, .aload_n 0, 1), (5, .iconst 0, 1)] 6 [(0, .ref s)] [.int 0, .ref s] C (by decide +kernel) rfl ?_
  refine g_anewA (pc := 6) (N' := 0) C q409 (by decide) (by decide) (by decide) (Nat.le_of_ble_eq_true rfl) (Nat.le_of_ble_eq_true rfl) (by decide +kernel) (fun q1 hq2 => ?_)
  have hd_q1 := g_fresh hq2 hX0
  refine g_abs (P := fun G9 => G9 s = some (.inr (5, [.null, .null, .null, .null, .int 0])) ∧ G9 q1 = some (oA (cy 5) 0 (fun _ => 0) 0)) ⟨by rw [g_up_ne hd_q1]; exact hX0, by rw [g_up_self]; exact congrArg some oA_0⟩ (fun Gi3 hg => ?_)
  obtain ⟨hi4, hi5⟩ := hg
  refine g_putf (pc := 9) (k := 0) (v := .ref q1) (ty := (.array (.array .int))) C fl_X5_9 fp_X5_0 (hi4) rfl (by first | rfl | decide) (Nat.le_of_ble_eq_true rfl) (by decide +kernel) ?_
  refine g_abs (P := fun G9 => G9 s = some (.inr (5, [.ref q1, .null, .null, .null, .int 0])) ∧ G9 q1 = some (oA (cy 5) 0 (fun _ => 0) 0)) ⟨g_up_self .., g_oth hi5 hi4 (by simp [oA])⟩ (fun Gi6 hg => ?_)
  obtain ⟨hi7, hi8⟩ := hg
  refine g_seg [(12, .aload_n 0, 1), (13, .iconst 0, 1)] 14 [(0, .ref s)] [.int 0, .ref s] C (by decide +kernel) rfl ?_
  refine g_anewA (pc := 14) (N' := 0) C q409 (by decide) (by decide) (by decide) (Nat.le_of_ble_eq_true rfl) (Nat.le_of_ble_eq_true rfl) (by decide +kernel) (fun q9 hq10 => ?_)
  have hd_q9 := g_fresh hq10 hi7
  have hd_q1_q9 := g_fresh hq10 hi8
  refine g_abs (P := fun G9 => G9 s = some (.inr (5, [.ref q1, .null, .null, .null, .int 0])) ∧ G9 q1 = some (oA (cy 5) 0 (fun _ => 0) 0) ∧ G9 q9 = some (oA (cy 5) 0 (fun _ => 0) 0)) ⟨by rw [g_up_ne hd_q9]; exact hi7, by rw [g_up_ne hd_q1_q9]; exact hi8, by rw [g_up_self]; exact congrArg some oA_0⟩ (fun Gi11 hg => ?_)
  obtain ⟨hi12, hi13, hi14⟩ := hg
  refine g_putf (pc := 17) (k := 1) (v := .ref q9) (ty := (.array (.array .int))) C fl_X5_15 fp_X5_1 (hi12) rfl (by first | rfl | decide) (Nat.le_of_ble_eq_true rfl) (by decide +kernel) ?_
  refine g_abs (P := fun G9 => G9 s = some (.inr (5, [.ref q1, .ref q9, .null, .null, .int 0])) ∧ G9 q1 = some (oA (cy 5) 0 (fun _ => 0) 0) ∧ G9 q9 = some (oA (cy 5) 0 (fun _ => 0) 0)) ⟨g_up_self .., g_oth hi13 hi12 (by simp [oA]), g_oth hi14 hi12 (by simp [oA])⟩ (fun Gi15 hg => ?_)
  obtain ⟨hi16, hi17, hi18⟩ := hg
  refine g_seg [(20, .aload_n 0, 1), (21, .iconst 0, 1)] 22 [(0, .ref s)] [.int 0, .ref s] C (by decide +kernel) rfl ?_
  refine g_anewA (pc := 22) (N' := 0) C q409 (by decide) (by decide) (by decide) (Nat.le_of_ble_eq_true rfl) (Nat.le_of_ble_eq_true rfl) (by decide +kernel) (fun q19 hq20 => ?_)
  have hd_q19 := g_fresh hq20 hi16
  have hd_q1_q19 := g_fresh hq20 hi17
  have hd_q9_q19 := g_fresh hq20 hi18
  refine g_abs (P := fun G9 => G9 s = some (.inr (5, [.ref q1, .ref q9, .null, .null, .int 0])) ∧ G9 q1 = some (oA (cy 5) 0 (fun _ => 0) 0) ∧ G9 q9 = some (oA (cy 5) 0 (fun _ => 0) 0) ∧ G9 q19 = some (oA (cy 5) 0 (fun _ => 0) 0)) ⟨by rw [g_up_ne hd_q19]; exact hi16, by rw [g_up_ne hd_q1_q19]; exact hi17, by rw [g_up_ne hd_q9_q19]; exact hi18, by rw [g_up_self]; exact congrArg some oA_0⟩ (fun Gi21 hg => ?_)
  obtain ⟨hi22, hi23, hi24, hi25⟩ := hg
  refine g_putf (pc := 25) (k := 2) (v := .ref q19) (ty := (.array (.array .int))) C fl_X5_18 fp_X5_2 (hi22) rfl (by first | rfl | decide) (Nat.le_of_ble_eq_true rfl) (by decide +kernel) ?_
  refine g_abs (P := fun G9 => G9 s = some (.inr (5, [.ref q1, .ref q9, .ref q19, .null, .int 0])) ∧ G9 q1 = some (oA (cy 5) 0 (fun _ => 0) 0) ∧ G9 q9 = some (oA (cy 5) 0 (fun _ => 0) 0) ∧ G9 q19 = some (oA (cy 5) 0 (fun _ => 0) 0)) ⟨g_up_self .., g_oth hi23 hi22 (by simp [oA]), g_oth hi24 hi22 (by simp [oA]), g_oth hi25 hi22 (by simp [oA])⟩ (fun Gi26 hg => ?_)
  obtain ⟨hi27, hi28, hi29, hi30⟩ := hg
  refine g_seg [(28, .aload_n 0, 1), (29, .iconst 0, 1)] 30 [(0, .ref s)] [.int 0, .ref s] C (by decide +kernel) rfl ?_
  refine g_anewA (pc := 30) (N' := 0) C q409 (by decide) (by decide) (by decide) (Nat.le_of_ble_eq_true rfl) (Nat.le_of_ble_eq_true rfl) (by decide +kernel) (fun q31 hq32 => ?_)
  have hd_q31 := g_fresh hq32 hi27
  have hd_q1_q31 := g_fresh hq32 hi28
  have hd_q9_q31 := g_fresh hq32 hi29
  have hd_q19_q31 := g_fresh hq32 hi30
  refine g_abs (P := fun G9 => G9 s = some (.inr (5, [.ref q1, .ref q9, .ref q19, .null, .int 0])) ∧ G9 q1 = some (oA (cy 5) 0 (fun _ => 0) 0) ∧ G9 q9 = some (oA (cy 5) 0 (fun _ => 0) 0) ∧ G9 q19 = some (oA (cy 5) 0 (fun _ => 0) 0) ∧ G9 q31 = some (oA (cy 5) 0 (fun _ => 0) 0)) ⟨by rw [g_up_ne hd_q31]; exact hi27, by rw [g_up_ne hd_q1_q31]; exact hi28, by rw [g_up_ne hd_q9_q31]; exact hi29, by rw [g_up_ne hd_q19_q31]; exact hi30, by rw [g_up_self]; exact congrArg some oA_0⟩ (fun Gi33 hg => ?_)
  obtain ⟨hi34, hi35, hi36, hi37, hi38⟩ := hg
  refine g_putf (pc := 33) (k := 3) (v := .ref q31) (ty := (.array (.array .int))) C fl_X5_21 fp_X5_3 (hi34) rfl (by first | rfl | decide) (Nat.le_of_ble_eq_true rfl) (by decide +kernel) ?_
  refine g_abs (P := fun G9 => G9 s = some (.inr (5, [.ref q1, .ref q9, .ref q19, .ref q31, .int 0])) ∧ G9 q1 = some (oA (cy 5) 0 (fun _ => 0) 0) ∧ G9 q9 = some (oA (cy 5) 0 (fun _ => 0) 0) ∧ G9 q19 = some (oA (cy 5) 0 (fun _ => 0) 0) ∧ G9 q31 = some (oA (cy 5) 0 (fun _ => 0) 0)) ⟨g_up_self .., g_oth hi35 hi34 (by simp [oA]), g_oth hi36 hi34 (by simp [oA]), g_oth hi37 hi34 (by simp [oA]), g_oth hi38 hi34 (by simp [oA])⟩ (fun Gi39 hg => ?_)
  obtain ⟨hi40, hi41, hi42, hi43, hi44⟩ := hg
  exact g_vret (pc := 36) C R (⟨rfl, _, _, RS_zero hi40 hi41 hi42 hi43 hi44⟩) (Nat.le_of_ble_eq_true rfl) (Nat.le_of_ble_eq_true rfl) (by decide +kernel)
end
section
section PGQ
variable {κ : Kx} {l0 : Launch} {D0 : va_G} {cy0 : Nat → ClassId} {y : MethodName} {nL ce sl index : Nat} {cc : ByteArray} {rm : Room} {ret : Option FieldType} {G G2 G3 : GG} {lv : LV} {pc : Nat} {rest : List Value} {x s : Nat} {b : Int32} {nt nf nc nn : Nat} {T E Cu N S F C Cs : Rw} {rt : Nat → Nat} {rd : Nat → Nat → Nat} {t w : Int32} {i : Nat}
theorem LX.rs {cy : Nat → ClassId} (h : LX cy x b nt nf nc nn T E Cu N G2 G3 G) {bs : Int32} {nt' nf' nc' nn' : Nat} {N' : Rw} (hs : RS cy s rt rd bs nt' nf' nc' nn' S F C N' G2) : RS cy s rt rd bs nt' nf' nc' nn' S F C N' G := by
  obtain ⟨G1, ad, KT, KF, KC, hR, hW⟩ := h
  exact hs.up hW.1.2.1
theorem LX.g3 {cy : Nat → ClassId} {a : Nat} {e : va_E} (h : LX cy x b nt nf nc nn T E Cu N G2 G3 G) (ha : G3 a = some e) : G a = some e := by
  obtain ⟨G1, ad, KT, KF, KC, hR, hW⟩ := h
  exact hW.1.2.2 a e ha
theorem LX.g2 {cy : Nat → ClassId} {a : Nat} {e : va_E} (h : LX cy x b nt nf nc nn T E Cu N G2 G3 G) (ha : G2 a = some e) : G a = some e := by
  obtain ⟨G1, ad, KT, KF, KC, hR, hW⟩ := h
  exact hW.1.2.1 a e ha
theorem LX.p3 {cy : Nat → ClassId} {q : Nat} {e0 e : va_E} (h : LX cy x b nt nf nc nn T E Cu N G2 G3 G) (ha : G3 q = some e0) : LX cy x b nt nf nc nn T E Cu N G2 (g_up G3 q e) (g_up G q e) := by
  obtain ⟨G1, ad, KT, KF, KC, hR, hW⟩ := h
  exact ⟨G1, ad, KT, KF, KC, hR, hW.p3 ha⟩
theorem LX.n3 {cy : Nat → ClassId} {q : Nat} {e : va_E} (h : LX cy x b nt nf nc nn T E Cu N G2 G3 G) (ha : G q = none) : LX cy x b nt nf nc nn T E Cu N G2 (g_up G3 q e) (g_up G q e) := by
  obtain ⟨G1, ad, KT, KF, KC, hR, hW⟩ := h
  exact ⟨G1, ad, KT, KF, KC, hR, hW.n3 ha⟩
theorem LX.g3n {cy : Nat → ClassId} {q : Nat} (h : LX cy x b nt nf nc nn T E Cu N G2 G3 G) (ha : G q = none) : G3 q = none := by
  obtain ⟨G1, ad, KT, KF, KC, hR, hW⟩ := h
  exact hW.1.2.2.none ha
theorem LX.grow {cy : Nat → ClassId} {G' : GG} (h : LX cy x b nt nf nc nn T E Cu N G2 G3 G) (ha : sG G G') : LX cy x b nt nf nc nn T E Cu N G2 (gG G G3 G') G' := by
  obtain ⟨G1, ad, KT, KF, KC, hR, hW⟩ := h
  exact ⟨G1, ad, KT, KF, KC, hR, hW.g3 ha⟩
theorem LX.s3 {cy : Nat → ClassId} (h : LX cy x b nt nf nc nn T E Cu N G2 G3 G) : sG G3 G := by
  obtain ⟨G1, ad, KT, KF, KC, hR, hW⟩ := h
  exact hW.1.2.2
theorem LX.p2 {cy : Nat → ClassId} {q : Nat} {e0 e : va_E} (h : LX cy x b nt nf nc nn T E Cu N G2 G3 G) (ha : G2 q = some e0) : LX cy x b nt nf nc nn T E Cu N (g_up G2 q e) G3 (g_up G q e) := by
  obtain ⟨G1, ad, KT, KF, KC, hR, hW⟩ := h
  exact ⟨G1, ad, KT, KF, KC, hR, hW.p2 ha⟩
theorem LX.x3 {cy : Nat → ClassId} (h : LX cy x b nt nf nc nn T E Cu N G2 G3 G) : LX cy x b nt nf nc nn T E Cu N G2 nG G := by
  obtain ⟨G1, ad, KT, KF, KC, hR, hW⟩ := h
  exact ⟨G1, ad, KT, KF, KC, hR, hW.x3⟩
theorem LX.bd {cy : Nat → ClassId} (h : LX cy x b nt nf nc nn T E Cu N G2 G3 G) : nt ≤ 6 ∧ nf ≤ 8 ∧ nc ≤ 20 ∧ nn ≤ 3 := by
  obtain ⟨G1, ad, KT, KF, KC, hR, hW⟩ := h
  exact hR.2.2.2
theorem g_rT (C : g_OK κ l0 D0 cy0 y nL cc rm ret) (hX : g_XX κ) (h : LX cy0 x b nt nf nc nn T E Cu N G2 G3 G) (hwok : s_wok T nt) (ht : t = nI i) (hi : i < nt) (hw : 0 ≤ w ∧ w ≤ 7) (hlink : Cond.methodLink y.cls index yX4_trapeze ∈ lw_T) (hr : g_room rm kX4_trapeze 4 ce sl) (hcat : (rest.map fun v => v.category).sum ≤ 8) (hd : decode cc pc = .ok (.invokevirtual index, 3)) (kk : ∀ G', LX cy0 x b nt nf nc nn T E Cu N G2 G3 G' → PG κ nL (ce + kX4_trapeze.cells) (sl + kX4_trapeze.slots) G' lv (pc + 3) (.int (s_toldX T E nf b i w) :: rest)) : PG κ nL ce sl G lv pc (.int w :: .int t :: .ref x :: rest) := by
  obtain ⟨G1, ad, KT, KF, KC, hR, hW⟩ := h
  refine g_callVN C hX mV_X4_trapeze hlink (hW.1.1 x _ hR.1.1) rfl rfl (CtrN.frame (CtrX.no (c_X4_trapeze l0 D0 cy0 hR hwok t w) (fun E9 G9 h9 => by obtain ⟨-, -, h9 | h9⟩ := h9; exact h9 i hi ht; exact h9 hw)) hW.1.1) rfl hr rfl hcat hd ?_
  rintro r G' ⟨G1', ⟨v, rfl, i', hi', ht', hw', rfl, hR'⟩, hf⟩
  have hb := hR.2.2.2
  have e9 : i' = i := (nI_eq (by omega) (by omega)).mp (ht'.symm.trans ht)
  subst e9
  exact kk G' ⟨G1', ad, KT, KF, KC, hR', hW.c1 hf⟩
theorem g_rF (C : g_OK κ l0 D0 cy0 y nL cc rm ret) (hX : g_XX κ) (h : LX cy0 x b nt nf nc nn T E Cu N G2 G3 G) (ht : t = nI i) (hi : i < nf) (hw : 0 ≤ w ∧ w ≤ 4) (hlink : Cond.methodLink y.cls index yX4_flyer ∈ lw_T) (hr : g_room rm kX4_flyer 4 ce sl) (hcat : (rest.map fun v => v.category).sum ≤ 8) (hd : decode cc pc = .ok (.invokevirtual index, 3)) (kk : ∀ G', LX cy0 x b nt nf nc nn T E Cu N G2 G3 G' → PG κ nL (ce + kX4_flyer.cells) (sl + kX4_flyer.slots) G' lv (pc + 3) (.int (s_toldFX E b i w) :: rest)) : PG κ nL ce sl G lv pc (.int w :: .int t :: .ref x :: rest) := by
  obtain ⟨G1, ad, KT, KF, KC, hR, hW⟩ := h
  refine g_callVN C hX mV_X4_flyer hlink (hW.1.1 x _ hR.1.1) rfl rfl (CtrN.frame (CtrX.no (c_X4_flyer l0 D0 cy0 hR t w) (fun E9 G9 h9 => by obtain ⟨-, -, h9 | h9⟩ := h9; exact h9 i hi ht; exact h9 hw)) hW.1.1) rfl hr rfl hcat hd ?_
  rintro r G' ⟨G1', ⟨v, rfl, i', hi', ht', hw', rfl, hR'⟩, hf⟩
  have hb := hR.2.2.2
  have e9 : i' = i := (nI_eq (by omega) (by omega)).mp (ht'.symm.trans ht)
  subst e9
  exact kk G' ⟨G1', ad, KT, KF, KC, hR', hW.c1 hf⟩
theorem g_rC (C : g_OK κ l0 D0 cy0 y nL cc rm ret) (hX : g_XX κ) (h : LX cy0 x b nt nf nc nn T E Cu N G2 G3 G) (ht : t = nI i) (hi : i < nc) (hw : 0 ≤ w ∧ w ≤ 4) (hlink : Cond.methodLink y.cls index yX4_called ∈ lw_T) (hr : g_room rm kX4_called 4 ce sl) (hcat : (rest.map fun v => v.category).sum ≤ 8) (hd : decode cc pc = .ok (.invokevirtual index, 3)) (kk : ∀ G', LX cy0 x b nt nf nc nn T E Cu N G2 G3 G' → PG κ nL (ce + kX4_called.cells) (sl + kX4_called.slots) G' lv (pc + 3) (.int (s_toldC Cu i w) :: rest)) : PG κ nL ce sl G lv pc (.int w :: .int t :: .ref x :: rest) := by
  obtain ⟨G1, ad, KT, KF, KC, hR, hW⟩ := h
  refine g_callVN C hX mV_X4_called hlink (hW.1.1 x _ hR.1.1) rfl rfl (CtrN.frame (CtrX.no (c_X4_called l0 D0 cy0 hR t w) (fun E9 G9 h9 => by obtain ⟨-, -, h9 | h9⟩ := h9; exact h9 i hi ht; exact h9 hw)) hW.1.1) rfl hr rfl hcat hd ?_
  rintro r G' ⟨G1', ⟨v, rfl, i', hi', ht', hw', rfl, hR'⟩, hf⟩
  have hb := hR.2.2.2
  have e9 : i' = i := (nI_eq (by omega) (by omega)).mp (ht'.symm.trans ht)
  subst e9
  exact kk G' ⟨G1', ad, KT, KF, KC, hR', hW.c1 hf⟩
theorem g_rK (C : g_OK κ l0 D0 cy0 y nL cc rm ret) (hX : g_XX κ) (h : LX cy0 x b nt nf nc nn T E Cu N G2 G3 G) (hw : 0 ≤ w ∧ w ≤ 8) (hlink : Cond.methodLink y.cls index yX4_count ∈ lw_T) (hr : g_room rm kX4_count 2 ce sl) (hcat : (rest.map fun v => v.category).sum ≤ 8) (hd : decode cc pc = .ok (.invokevirtual index, 3)) (kk : ∀ G', LX cy0 x b nt nf nc nn T E Cu N G2 G3 G' → PG κ nL (ce + kX4_count.cells) (sl + kX4_count.slots) G' lv (pc + 3) (.int (s_countX b nt nf nc T E Cu w) :: rest)) : PG κ nL ce sl G lv pc (.int w :: .ref x :: rest) := by
  obtain ⟨G1, ad, KT, KF, KC, hR, hW⟩ := h
  refine g_callVN C hX mV_X4_count hlink (hW.1.1 x _ hR.1.1) rfl rfl (CtrN.frame (CtrX.no (c_X4_count l0 D0 cy0 hR w) (fun E9 G9 h9 => h9.2.2 hw)) hW.1.1) rfl hr rfl hcat hd ?_
  rintro r G' ⟨G1', ⟨v, rfl, hw', rfl, hR'⟩, hf⟩
  exact kk G' ⟨G1', ad, KT, KF, KC, hR', hW.c1 hf⟩
theorem g_rP (C : g_OK κ l0 D0 cy0 y nL cc rm ret) (hX : g_XX κ) (h : LX cy0 x b nt nf nc nn T E Cu N G2 G3 G) (hwok : s_wok T nt) (ht : t = nI i) (hi : i < nt) (hw : 0 ≤ w ∧ w ≤ 500) (hlink : Cond.methodLink y.cls index yX4_place ∈ lw_T) (hr : g_room rm kX4_place 4 ce sl) (hcat : (rest.map fun v => v.category).sum ≤ 8) (hd : decode cc pc = .ok (.invokevirtual index, 3)) (kk : ∀ G', LX cy0 x b nt nf nc nn T E Cu N G2 G3 G' → PG κ nL (ce + kX4_place.cells) (sl + kX4_place.slots) G' lv (pc + 3) (.int (s_at T i (b + w)) :: rest)) : PG κ nL ce sl G lv pc (.int w :: .int t :: .ref x :: rest) := by
  obtain ⟨G1, ad, KT, KF, KC, hR, hW⟩ := h
  refine g_callVN C hX mV_X4_place hlink (hW.1.1 x _ hR.1.1) rfl rfl (CtrN.frame (CtrX.no (c_X4_place l0 D0 cy0 hR hwok t w) (fun E9 G9 h9 => by obtain ⟨-, ⟨-, h9⟩ | ⟨-, -, h9⟩⟩ := h9; exact h9 i hi ht; exact h9 hw)) hW.1.1) rfl hr rfl hcat hd ?_
  rintro r G' ⟨G1', ⟨v, rfl, i', hi', ht', hw', rfl, hR'⟩, hf⟩
  have hb := hR.2.2.2
  have e9 : i' = i := (nI_eq (by omega) (by omega)).mp (ht'.symm.trans ht)
  subst e9
  exact kk G' ⟨G1', ad, KT, KF, KC, hR', hW.c1 hf⟩
theorem near_self (a : Int32) : s_near a a = true := by
  unfold s_near
  rw [Int32.sub_self]
  decide
theorem meet_self {T : Rw} {i : Nat} {b : Int32} : s_meet T i i b = 0 := meet_y (k := 0) (by decide) (near_self _) (fun u hu => absurd hu (Nat.not_lt_zero u))
theorem g_rM (C : g_OK κ l0 D0 cy0 y nL cc rm ret) (hX : g_XX κ) (h : LX cy0 x b nt nf nc nn T E Cu N G2 G3 G) (hwok : s_wok T nt) (ht : t = nI i) (hi : i < nt) (hlink : Cond.methodLink y.cls index yX4_meets ∈ lw_T) (hr : g_room rm kX4_meets 6 ce sl) (hcat : (rest.map fun v => v.category).sum ≤ 8) (hd : decode cc pc = .ok (.invokevirtual index, 3)) (kk : ∀ G', LX cy0 x b nt nf nc nn T E Cu N G2 G3 G' → PG κ nL (ce + kX4_meets.cells) (sl + kX4_meets.slots) G' lv (pc + 3) (.int (if T i 5 = 0 then -1 else 0) :: rest)) : PG κ nL ce sl G lv pc (.int t :: .int t :: .ref x :: rest) := by
  obtain ⟨G1, ad, KT, KF, KC, hR, hW⟩ := h
  refine g_callVN C hX mV_X4_meets hlink (hW.1.1 x _ hR.1.1) rfl rfl (CtrN.frame (CtrX.no (c_X4_meets l0 D0 cy0 hR hwok t t) (fun E9 G9 h9 => by obtain ⟨-, -, h9 | h9⟩ := h9; exact h9 i hi ht; exact h9 i hi ht)) hW.1.1) rfl hr rfl hcat hd ?_
  rintro r G' ⟨G1', ⟨v, rfl, i', j', hi', ht', hj', ht2, hv, hR'⟩, hf⟩
  have hb := hR.2.2.2
  have e9 : i' = i := (nI_eq (by omega) (by omega)).mp (ht'.symm.trans ht)
  have e8 : j' = i := (nI_eq (by omega) (by omega)).mp (ht2.symm.trans ht)
  subst e9
  subst e8
  have hv' : v = if T j' 5 = 0 then -1 else 0 := by
    rcases hv with ⟨h1, h2⟩ | ⟨h1, -, h2⟩
    · rw [if_pos (h1.elim id id), h2]
    · rw [if_neg h1, h2, meet_self]
  subst hv'
  exact kk G' ⟨G1', ad, KT, KF, KC, hR', hW.c1 hf⟩
theorem beats_1 {S : Xb} : x_beats N nn nt nf nc S 1 = x_beat N nn nt nf nc S := rfl
theorem g_rY (C : g_OK κ l0 D0 cy0 y nL cc rm ret) (hX : g_XX κ) (h : LX cy0 x b nt nf nc nn T E Cu N G2 G3 G) (hwok : s_wok T nt) (hb5 : ∀ t, t < nt → T t 5 = 0 ∨ T t 5 = 1) (hw : 4 ≤ w ∧ w ≤ 8) (hlink : Cond.methodLink y.cls index yX4_foresee ∈ lw_T) (hr : g_room rm kX4_foresee 5 ce sl) (hcat : (rest.map fun v => v.category).sum ≤ 8) (hd : decode cc pc = .ok (.invokevirtual index, 3)) (kk : ∀ G', LX cy0 x b nt nf nc nn T E Cu N G2 G3 G' → PG κ nL (ce + kX4_foresee.cells) (sl + kX4_foresee.slots) G' lv (pc + 3) (.int (s_countX (x_beat N nn nt nf nc (b, T, E, Cu, 0)).1 nt nf nc (x_beat N nn nt nf nc (b, T, E, Cu, 0)).2.1 (x_beat N nn nt nf nc (b, T, E, Cu, 0)).2.2.1 (x_beat N nn nt nf nc (b, T, E, Cu, 0)).2.2.2.1 w) :: rest)) : PG κ nL ce sl G lv pc (.int w :: .int 1 :: .ref x :: rest) := by
  obtain ⟨G1, ad, KT, KF, KC, hR, hW⟩ := h
  refine g_callVN C hX mV_X4_foresee hlink (hW.1.1 x _ hR.1.1) rfl rfl (CtrN.frame (CtrX.no (c_X4_foresee l0 D0 cy0 hR hwok hb5 1 w) (fun E9 G9 h9 => by obtain ⟨-, ⟨-, h9⟩ | ⟨-, -, h9⟩⟩ := h9; exact h9 (by decide); exact h9 hw)) hW.1.1) rfl hr rfl hcat hd ?_
  rintro r G' ⟨G1', ⟨v, rfl, k, -, -, hk, hk1, hv, KT', KF', KC', hR'⟩, hf⟩
  have e9 : k = 1 := (nI_eq (a := k) (b := 1) (by omega) (by decide)).mp hk1.symm
  subst e9
  rw [beats_1] at hv
  subst hv
  exact kk G' ⟨G1', ad, KT', KF', KC', hR', hW.c1 hf⟩
theorem g_rG (C : g_OK κ l0 D0 cy0 y nL cc rm ret) (hX : g_XX κ) (h : LX cy0 x b nt nf nc nn T E Cu N G2 G3 G) (hwok : s_wok T nt) (hlink : Cond.methodLink y.cls index yX4_go ∈ lw_T) (hr : g_room rm kX4_go 2 ce sl) (hcat : (rest.map fun v => v.category).sum ≤ 8) (hd : decode cc pc = .ok (.invokevirtual index, 3)) (kk : ∀ G', LX cy0 x (x_beat N nn nt nf nc (b, T, E, Cu, 0)).1 nt nf nc nn (x_beat N nn nt nf nc (b, T, E, Cu, 0)).2.1 (x_beat N nn nt nf nc (b, T, E, Cu, 0)).2.2.1 (x_beat N nn nt nf nc (b, T, E, Cu, 0)).2.2.2.1 N G2 G3 G' → PG κ nL (ce + kX4_go.cells) (sl + kX4_go.slots) G' lv (pc + 3) (.int (x_beat N nn nt nf nc (b, T, E, Cu, 0)).2.2.2.2 :: rest)) : PG κ nL ce sl G lv pc (.int 1 :: .ref x :: rest) := by
  obtain ⟨G1, ad, KT, KF, KC, hR, hW⟩ := h
  refine g_callVN C hX mV_X4_go hlink (hW.1.1 x _ hR.1.1) rfl rfl (CtrN.frame (CtrX.no (c_X4_go l0 D0 cy0 hR hwok 1) (fun E9 G9 h9 => h9.2.2 (by decide))) hW.1.1) rfl hr rfl hcat hd ?_
  rintro r G' ⟨G1', ⟨v, rfl, k, -, hk, hk1, hv, hR'⟩, hf⟩
  have e9 : k = 1 := (nI_eq (a := k) (b := 1) (by omega) (by decide)).mp hk1.symm
  subst e9
  rw [beats_1] at hv hR'
  subst hv
  exact kk G' ⟨G1', ad, KT, KF, KC, hR', hW.c1 hf⟩
theorem g_rE (C : g_OK κ l0 D0 cy0 y nL cc rm ret) (h : LX cy0 x b nt nf nc nn T E Cu N G2 G3 G) (hlink : Cond.methodLink y.cls index yX4_mean ∈ lw_T) (hr : g_room rm kX4_mean 6 ce sl) (hcat : (rest.map fun v => v.category).sum ≤ 8) (hd : decode cc pc = .ok (.invokevirtual index, 3)) (kk : ∀ G', LX cy0 x b nt nf nc nn T E Cu N G2 G3 G' → PG κ nL (ce + kX4_mean.cells) (sl + kX4_mean.slots) G' lv (pc + 3) (.double (s_mean E nf) :: rest)) : PG κ nL ce sl G lv pc (.ref x :: rest) := by
  obtain ⟨G1, ad, KT, KF, KC, hR, hW⟩ := h
  refine g_callV C mV_X4_mean hlink (hW.1.1 x _ hR.1.1) rfl rfl (Ctr.frame (c_X4_mean l0 D0 cy0 hR) hW.1.1) rfl hr rfl hcat hd ?_
  rintro r G' ⟨G1', ⟨v, rfl, rfl, hR'⟩, hf⟩
  exact kk G' ⟨G1', ad, KT, KF, KC, hR', hW.c1 hf⟩
theorem g_rH (C : g_OK κ l0 D0 cy0 y nL cc rm ret) (h : LX cy0 x b nt nf nc nn T E Cu N G2 G3 G) (hs : RS cy0 s rt rd b nt nf nc nn S F Cs N G2) (hlink : Cond.methodLink y.cls index yX5_hang ∈ lw_T) (hr : g_room rm kX5_hang 7 ce sl) (hcat : (rest.map fun v => v.category).sum ≤ 8) (hd : decode cc pc = .ok (.invokevirtual index, 3)) (kk : ∀ G', LX cy0 x b nt nf nc nn T E Cu N G2 G3 G' → PG κ nL (ce + kX5_hang.cells) (sl + kX5_hang.slots) G' lv (pc + 3) (.int (nI (s_hangE F nf t)) :: rest)) : PG κ nL ce sl G lv pc (.int t :: .ref s :: rest) := by
  obtain ⟨G1, ad, KT, KF, KC, hR, hW⟩ := h
  refine g_callV C mV_X5_hang hlink (hW.1.2.1 s _ hs.1.1) rfl rfl (Ctr.frame (c_X5_hang l0 D0 cy0 hs t) hW.1.2.1) rfl hr rfl hcat hd ?_
  rintro r G' ⟨G2', ⟨v, rfl, rfl, rfl⟩, hf⟩
  exact kk G' ⟨G1, ad, KT, KF, KC, hR, hW.c2 hf⟩
theorem g_rI (C : g_OK κ l0 D0 cy0 y nL cc rm ret) (h : LX cy0 x b nt nf nc nn T E Cu N G2 G3 G) (hs : RS cy0 s rt rd b nt nf nc nn S F Cs N G2) (hlink : Cond.methodLink y.cls index yX5_in ∈ lw_T) (hr : g_room rm kX5_in 7 ce sl) (hcat : (rest.map fun v => v.category).sum ≤ 8) (hd : decode cc pc = .ok (.invokevirtual index, 3)) (kk : ∀ G', LX cy0 x b nt nf nc nn T E Cu N G2 G3 G' → PG κ nL (ce + kX5_in.cells) (sl + kX5_in.slots) G' lv (pc + 3) (.int (nI (cnt (fun k => decide (F k 0 = t)) nf)) :: rest)) : PG κ nL ce sl G lv pc (.int t :: .ref s :: rest) := by
  obtain ⟨G1, ad, KT, KF, KC, hR, hW⟩ := h
  refine g_callV C mV_X5_in hlink (hW.1.2.1 s _ hs.1.1) rfl rfl (Ctr.frame (c_X5_in l0 D0 cy0 hs t) hW.1.2.1) rfl hr rfl hcat hd ?_
  rintro r G' ⟨G2', ⟨v, rfl, rfl, rfl⟩, hf⟩
  exact kk G' ⟨G1, ad, KT, KF, KC, hR, hW.c2 hf⟩
theorem g_rO (C : g_OK κ l0 D0 cy0 y nL cc rm ret) (h : LX cy0 x b nt nf nc nn T E Cu N G2 G3 G) (hs : RS cy0 s rt rd b nt nf nc nn S F Cs N G2) (hlink : Cond.methodLink y.cls index yX5_open ∈ lw_T) (hr : g_room rm kX5_open 6 ce sl) (hcat : (rest.map fun v => v.category).sum ≤ 8) (hd : decode cc pc = .ok (.invokevirtual index, 3)) (kk : ∀ G', LX cy0 x b nt nf nc nn T E Cu N G2 G3 G' → PG κ nL (ce + kX5_open.cells) (sl + kX5_open.slots) G' lv (pc + 3) (.int (nI (cnt (fun k => decide (Cs k 4 = 0)) nc)) :: rest)) : PG κ nL ce sl G lv pc (.ref s :: rest) := by
  obtain ⟨G1, ad, KT, KF, KC, hR, hW⟩ := h
  refine g_callV C mV_X5_open hlink (hW.1.2.1 s _ hs.1.1) rfl rfl (Ctr.frame (c_X5_open l0 D0 cy0 hs) hW.1.2.1) rfl hr rfl hcat hd ?_
  rintro r G' ⟨G2', ⟨v, rfl, rfl, rfl⟩, hf⟩
  exact kk G' ⟨G1, ad, KT, KF, KC, hR, hW.c2 hf⟩
theorem g_rL (C : g_OK κ l0 D0 cy0 y nL cc rm ret) (h : LX cy0 x b nt nf nc nn T E Cu N G2 G3 G) (hs : RS cy0 s rt rd b nt nf nc nn S F Cs N G2) (hi : i < nt) (hS : y_wS nt S) (hlink : Cond.methodLink y.cls index yX5_place ∈ lw_T) (hr : g_room rm kX5_place 6 ce sl) (hcat : (rest.map fun v => v.category).sum ≤ 8) (hd : decode cc pc = .ok (.invokestatic index, 3)) (kk : ∀ G', LX cy0 x b nt nf nc nn T E Cu N G2 G3 G' → PG κ nL (ce + kX5_place.cells) (sl + kX5_place.slots) G' lv (pc + 3) (.int (y_pl S i) :: rest)) : PG κ nL ce sl G lv pc (.int (S i 6) :: .ref (rd 0 i) :: rest) := by
  obtain ⟨G1, ad, KT, KF, KC, hR, hW⟩ := h
  obtain ⟨⟨w9, hw9, hf9⟩, d9, hd9, hs9⟩ := hS i hi
  refine g_callS C mS_X5_place hlink (Ctr.frame (c_X5_place l0 D0 cy0 G2 (rd 0 i) (S i) (hs.2.1.1 i hi) w9 d9 hw9 (S i 0) (S i 1) (S i 2) rfl rfl rfl hf9 (S i 6) hs9 hd9) hW.1.2.1) rfl hr rfl hcat hd ?_
  rintro r G' ⟨G2', ⟨v, rfl, rfl, rfl⟩, hf⟩
  exact kk G' ⟨G1, ad, KT, KF, KC, hR, hW.c2 hf⟩
end PGQ
end
section
/-! Sim's words, as the class's words give them -/
def zT (b : Int32) (T : Rw) : Rw := fun i k => if k = 6 then b - T i 6 else T i k
def zF (b : Int32) (E : Rw) : Rw := fun i k => match k with | 0 => E i 0 | 1 => E i 1 | 2 => if E i 0 = 2 then E i 2 else 0 | 3 => if E i 0 = 2 then E i 3 - b else -1 | _ => E i 4
theorem wb {w : Int32} {k m : Nat} {M : Int32} (h : w = nI k) (hk : k ≤ m) (hm : m < 1000) (hM : M = nI m := by rfl) : 0 ≤ w ∧ w ≤ M := by
  rw [h, hM]
  exact ⟨nI_pos' (by omega), nI_le hk (by omega)⟩
theorem told8 {a0 a1 a2 a3 a4 a5 a6 a7 : Int32} {g : Nat → Int32} (h0 : a0 = g 0) (h1 : a1 = g 1) (h2 : a2 = g 2) (h3 : a3 = g 3) (h4 : a4 = g 4) (h5 : a5 = g 5) (h6 : a6 = g 6) (h7 : a7 = g 7) : upd (upd (upd (upd (upd (upd (upd (upd (fun _ => 0) 0 a0) 1 a1) 2 a2) 3 a3) 4 a4) 5 a5) 6 a6) 7 a7 = cut 8 g := by
  funext j
  unfold cut upd
  match j with
  | 0 => simp [h0]
  | 1 => simp [h1]
  | 2 => simp [h2]
  | 3 => simp [h3]
  | 4 => simp [h4]
  | 5 => simp [h5]
  | 6 => simp [h6]
  | 7 => simp [h7]
  | j + 8 => simp; omega
theorem told9 {a0 a1 a2 a3 a4 a5 a6 a7 a8 : Int32} {g : Nat → Int32} (h0 : a0 = g 0) (h1 : a1 = g 1) (h2 : a2 = g 2) (h3 : a3 = g 3) (h4 : a4 = g 4) (h5 : a5 = g 5) (h6 : a6 = g 6) (h7 : a7 = g 7) (h8 : a8 = g 8) : upd (upd (upd (upd (upd (upd (upd (upd (upd (fun _ => 0) 0 a0) 1 a1) 2 a2) 3 a3) 4 a4) 5 a5) 6 a6) 7 a7) 8 a8 = cut 9 g := by
  funext j
  unfold cut upd
  match j with
  | 0 => simp [h0]
  | 1 => simp [h1]
  | 2 => simp [h2]
  | 3 => simp [h3]
  | 4 => simp [h4]
  | 5 => simp [h5]
  | 6 => simp [h6]
  | 7 => simp [h7]
  | 8 => simp [h8]
  | j + 9 => simp; omega
theorem zF_told {b : Int32} {E : Rw} {i k : Nat} (hk : k < 5) : zF b E i k = s_toldFX E b i (nI k) := by
  match k, hk with
  | 0, _ => rfl
  | 1, _ => rfl
  | 2, _ => rfl
  | 3, _ => rfl
  | 4, _ => rfl
theorem zC_told {C : Rw} {i k : Nat} (hk : k < 5) : C i k = s_toldC C i (nI k) := by
  match k, hk with
  | 0, _ => rfl
  | 1, _ => rfl
  | 2, _ => rfl
  | 3, _ => rfl
  | 4, _ => rfl
theorem cnt_5 {T : Rw} {b z : Int32} {k : Nat} (hs : z = nI (cnt (fun t => decide (¬ T t 5 = 0)) k)) (h : T k 5 = 0 ∨ T k 5 = 1) : z + zT b T k 5 = nI (cnt (fun t => decide (¬ T t 5 = 0)) (k + 1)) := by
  have e : zT b T k 5 = T k 5 := rfl
  rw [e]
  rcases h with h | h
  · rw [h]; exact cntU_n hs (by simp [h])
  · rw [h]; exact cntU_y hs (by simp [h])
theorem mean_cmp {a c : Int32} (hc : c ≠ 0) : Op.cmpValue (FP.dcmp (FP.ddiv (FP.i2d a) (FP.i2d c)) (FP.ddiv (FP.i2d a) (FP.i2d c))) .l = 0 := by
  have h1 : FP.Core.dIsNaN (FP.Core.ddiv (FP.Core.i2d a) (FP.Core.i2d c)) = false := FP.Core.ddiv_out (dn_fin (FP.Core.i2d_fin a)) (FP.Core.i2d_fin c) (by rw [FP.Core.zero_bits2]; exact FP.Core.i2d_ne_zero hc)
  have h2 : FP.dcmp (FP.ddiv (FP.i2d a) (FP.i2d c)) (FP.ddiv (FP.i2d a) (FP.i2d c)) = some .eq := FP.Core.dcmp_self ((FP.Core.notNaN_iff _).mp h1)
  rw [h2]
  rfl
theorem mean_cmp0 : Op.cmpValue (FP.dcmp FP.dconst0 FP.dconst0) .l = 0 := by decide +kernel

theorem z5 {v : Int32} (h : v = 0 ∨ v = 1) : v = if v = 0 then 0 else 1 := by
  rcases h with h | h <;> rw [h] <;> decide
set_option maxHeartbeats 4000000 in
set_option maxRecDepth 100000 in
theorem c_X5_isSame (l : Launch) (D : va_G) (cy : Nat → ClassId) {G G2 G3 : GG} {x s : Nat} {rt : Nat → Nat} {rd : Nat → Nat → Nat} {b : Int32} {nt nf nc nn : Nat} {T E Cu N : Rw} (hL : LX cy x b nt nf nc nn T E Cu N G2 G3 G) (hS : RS cy s rt rd b nt nf nc nn (zT b T) (zF b E) Cu N G2) (hwok : s_wok T nt) (hyS : y_wS nt (zT b T)) (hb5 : ∀ t, t < nt → T t 5 = 0 ∨ T t 5 = 1) : CtrN l D cy yX5_isSame prog_7_method_13_code 8 (some .boolean) kX5_isSame [.ref s, .ref x] G (pI (fun v G' => v = 1)) := by
  refine CtrN.mk (by decide +kernel) (Nat.le_of_ble_eq_true rfl) ?_
  intro κ C R X
  have hbd := LX.bd hL
  refine g_pc (pc' := 0) rfl ?_
  have hL0 := LX.x3 hL
  refine g_seg [(0, .iconst 0, 1), (1, .istore_n 2, 1), (2, .iconst 0, 1), (3, .istore_n 3, 1), (4, .iconst 0, 1), (5, .istore 4, 2)] 7 [(4, .int 0), (3, .int 0), (2, .int 0), (0, .ref s), (1, .ref x)] [] C (by decide +kernel) rfl ?_
  refine g_widen (k := (0 + 9 * 0)) (n := (0 + 56 * 0)) (by show 0 ≤ (0 + 9 * 0); omega) (by show 0 ≤ (0 + 56 * 0); omega) ?_
  refine g_subp [3, 4, 2, 1, 0] (lv' := [(0, .ref s), (1, .ref x), (2, .int 0), (3, .int 0), (4, .int 0)]) rfl ?_
  have lp1 : ∀ (m k : Nat) (G1 : GG) (z xk : Int32), nt + 1 ≤ k + m → k ≤ nt → xk = nI k → z = nI (cnt (fun t => decide (¬ T t 5 = 0)) k) → LX cy x b nt nf nc nn T E Cu N G2 nG G1 → PG κ 8 (0 + 9 * k) (0 + 56 * k) G1 [(0, .ref s), (1, .ref x), (2, .int z), (3, .int 0), (4, .int xk)] 7 [] := by
    intro m
    induction m with
    | zero => intro k G1 z xk h1 h2; intros; exact absurd h1 (by omega)
    | succ m ih =>
      intro k G1 z xk hm hk hx hs hL1
      refine g_seg [(7, .iload 4, 2), (9, .aload_n 0, 1)] 10 [(0, .ref s), (1, .ref x), (2, .int z), (3, .int 0), (4, .int xk)] [.ref s, .int xk] C (by decide +kernel) rfl ?_
      refine g_getf (pc := 10) (k := 0) (v := .ref (rt 0)) C fl_X5_9 ((LX.rs hL1 hS).1.1) rfl (by decide +kernel) ?_
      refine g_alenI (pc := 13) C ((LX.rs hL1 hS).1.2.1) (by decide +kernel) ?_
      refine g_icmp_ge (pc := 14) (off := 131) 145 C (by decide +kernel) (by decide) (fun c2 => ?_) (fun c2 => ?_)
      · have hk8 : k = nt := by have := lp_ge (n := nt) hx (by omega) (by omega) c2; omega
        rw [hk8] at hs
        refine g_seg [(145, .iconst 0, 1), (146, .istore 4, 2)] 148 [(4, .int 0), (0, .ref s), (1, .ref x), (2, .int z), (3, .int 0)] [] C (by decide +kernel) rfl ?_
        refine g_widen (k := ((0 + 9 * k) + 5 * 0)) (n := ((0 + 56 * k) + 30 * 0)) (by show (0 + 9 * k) ≤ ((0 + 9 * k) + 5 * 0); omega) (by show (0 + 56 * k) ≤ ((0 + 56 * k) + 30 * 0); omega) ?_
        refine g_subp [1, 2, 3, 4, 0] (lv' := [(0, .ref s), (1, .ref x), (2, .int z), (3, .int 0), (4, .int 0)]) rfl ?_
        have lp3 : ∀ (m3 k3 : Nat) (G13 : GG) (zc x3 : Int32), nf + 1 ≤ k3 + m3 → k3 ≤ nf → x3 = nI k3 → zc = s_caught E k3 → LX cy x b nt nf nc nn T E Cu N G2 nG G13 → PG κ 8 ((0 + 9 * k) + 5 * k3) ((0 + 56 * k) + 30 * k3) G13 [(0, .ref s), (1, .ref x), (2, .int z), (3, .int zc), (4, .int x3)] 148 [] := by
          intro m3
          induction m3 with
          | zero => intro k3 G13 zc x3 h1 h2; intros; exact absurd h1 (by omega)
          | succ m3 ih3 =>
            intro k3 G13 zc x3 hm3 hk3 hx3 hs3 hL13
            refine g_seg [(148, .iload 4, 2), (150, .aload_n 0, 1)] 151 [(0, .ref s), (1, .ref x), (2, .int z), (3, .int zc), (4, .int x3)] [.ref s, .int x3] C (by decide +kernel) rfl ?_
            refine g_getf (pc := 151) (k := 1) (v := .ref (rt 1)) C fl_X5_15 ((LX.rs hL13 hS).1.1) rfl (by decide +kernel) ?_
            refine g_alenI (pc := 154) C ((LX.rs hL13 hS).1.2.2.1) (by decide +kernel) ?_
            refine g_icmp_ge (pc := 155) (off := 59) 214 C (by decide +kernel) (by decide) (fun c4 => ?_) (fun c4 => ?_)
            · have hm8 : k3 = nf := by have := lp_ge (n := nf) hx3 (by omega) (by omega) c4; omega
              rw [hm8] at hs3
              refine g_seg [(214, .iconst 0, 1), (215, .istore 4, 2)] 217 [(4, .int 0), (0, .ref s), (1, .ref x), (2, .int z), (3, .int zc)] [] C (by decide +kernel) rfl ?_
              refine g_widen (k := (((0 + 9 * k) + 5 * k3) + 5 * 0)) (n := (((0 + 56 * k) + 30 * k3) + 30 * 0)) (by show ((0 + 9 * k) + 5 * k3) ≤ (((0 + 9 * k) + 5 * k3) + 5 * 0); omega) (by show ((0 + 56 * k) + 30 * k3) ≤ (((0 + 56 * k) + 30 * k3) + 30 * 0); omega) ?_
              refine g_subp [1, 2, 3, 4, 0] (lv' := [(0, .ref s), (1, .ref x), (2, .int z), (3, .int zc), (4, .int 0)]) rfl ?_
              have lp5 : ∀ (m5 k5 : Nat) (G15 : GG) (x5 : Int32), nc + 1 ≤ k5 + m5 → k5 ≤ nc → x5 = nI k5 → LX cy x b nt nf nc nn T E Cu N G2 nG G15 → PG κ 8 (((0 + 9 * k) + 5 * k3) + 5 * k5) (((0 + 56 * k) + 30 * k3) + 30 * k5) G15 [(0, .ref s), (1, .ref x), (2, .int z), (3, .int zc), (4, .int x5)] 217 [] := by
                intro m5
                induction m5 with
                | zero => intro k5 G15 x5 h1 h2; intros; exact absurd h1 (by omega)
                | succ m5 ih5 =>
                  intro k5 G15 x5 hm5 hk5 hx5 hL15
                  refine g_seg [(217, .iload 4, 2), (219, .aload_n 0, 1)] 220 [(0, .ref s), (1, .ref x), (2, .int z), (3, .int zc), (4, .int x5)] [.ref s, .int x5] C (by decide +kernel) rfl ?_
                  refine g_getf (pc := 220) (k := 2) (v := .ref (rt 2)) C fl_X5_18 ((LX.rs hL15 hS).1.1) rfl (by decide +kernel) ?_
                  refine g_alenI (pc := 223) C ((LX.rs hL15 hS).1.2.2.2.1) (by decide +kernel) ?_
                  refine g_icmp_ge (pc := 224) (off := 47) 271 C (by decide +kernel) (by decide) (fun c6 => ?_) (fun c6 => ?_)
                  · have ho8 : k5 = nc := by have := lp_ge (n := nc) hx5 (by omega) (by omega) c6; omega
                    refine g_seg [(271, .bipush 9, 2)] 273 [(0, .ref s), (1, .ref x), (2, .int z), (3, .int zc), (4, .int x5)] [.int 9] C (by decide +kernel) rfl ?_
                    refine g_newi (pc := 273) (N' := 9) C q394 (by decide) (by decide) (by decide) (by show (((0 + 9 * k) + 5 * k3) + 5 * k5) + 1 ≤ 204; omega) (by show (((0 + 56 * k) + 30 * k3) + 30 * k5) + 9 ≤ 1239; omega) (by decide +kernel) (fun q7 hq8 => ?_)
                    have hn_q7 := LX.g3n hL15 hq8
                    refine g_abs (P := fun G9 => ∃ G39 : GG, LX cy x b nt nf nc nn T E Cu N G2 G39 G9 ∧ G39 q7 = some (.inl (cy 0, 9, .inl (fun _ => 0)))) ⟨_, LX.n3 hL15 hq8, g_up_self ..⟩ (fun G9 hg => ?_)
                    obtain ⟨G310, hL11, ha12⟩ := hg
                    refine g_seg [(275, .dup, 1), (276, .iconst 0, 1), (277, .aload_n 0, 1)] 278 [(0, .ref s), (1, .ref x), (2, .int z), (3, .int zc), (4, .int x5)] [.ref s, .int 0, .ref q7, .ref q7] C (by decide +kernel) rfl ?_
                    refine g_getf (pc := 278) (k := 4) (v := .int b) C fl_X5_33 ((LX.rs hL11 hS).1.1) rfl (by decide +kernel) ?_
                    refine g_iastM (pc := 281) (n := 9) 0 (upd (fun _ => 0) 0 b) C (LX.g3 hL11 ha12) (rfl) (by decide) (by omega) (rfl) (by decide +kernel) ?_
                    refine g_abs (P := fun G9 => ∃ G39 : GG, LX cy x b nt nf nc nn T E Cu N G2 G39 G9 ∧ G39 q7 = some (.inl (cy 0, 9, .inl (upd (fun _ => 0) 0 b)))) ⟨_, LX.p3 hL11 ha12, g_up_self ..⟩ (fun G13 hg => ?_)
                    obtain ⟨G314, hL15, ha16⟩ := hg
                    refine g_seg [(282, .dup, 1), (283, .iconst 1, 1), (284, .aload_n 0, 1)] 285 [(0, .ref s), (1, .ref x), (2, .int z), (3, .int zc), (4, .int x5)] [.ref s, .int 1, .ref q7, .ref q7] C (by decide +kernel) rfl ?_
                    refine g_getf (pc := 285) (k := 0) (v := .ref (rt 0)) C fl_X5_9 ((LX.rs hL15 hS).1.1) rfl (by decide +kernel) ?_
                    refine g_alenI (pc := 288) C ((LX.rs hL15 hS).1.2.1) (by decide +kernel) ?_
                    refine g_iastM (pc := 289) (n := 9) 1 (upd (upd (fun _ => 0) 0 b) 1 (nI nt)) C (LX.g3 hL15 ha16) (rfl) (by decide) (by omega) (rfl) (by decide +kernel) ?_
                    refine g_abs (P := fun G9 => ∃ G39 : GG, LX cy x b nt nf nc nn T E Cu N G2 G39 G9 ∧ G39 q7 = some (.inl (cy 0, 9, .inl (upd (upd (fun _ => 0) 0 b) 1 (nI nt))))) ⟨_, LX.p3 hL15 ha16, g_up_self ..⟩ (fun G17 hg => ?_)
                    obtain ⟨G318, hL19, ha20⟩ := hg
                    refine g_seg [(290, .dup, 1), (291, .iconst 2, 1), (292, .iload_n 2, 1)] 293 [(0, .ref s), (1, .ref x), (2, .int z), (3, .int zc), (4, .int x5)] [.int z, .int 2, .ref q7, .ref q7] C (by decide +kernel) rfl ?_
                    refine g_iastM (pc := 293) (n := 9) 2 (upd (upd (upd (fun _ => 0) 0 b) 1 (nI nt)) 2 z) C (LX.g3 hL19 ha20) (rfl) (by decide) (by omega) (rfl) (by decide +kernel) ?_
                    refine g_abs (P := fun G9 => ∃ G39 : GG, LX cy x b nt nf nc nn T E Cu N G2 G39 G9 ∧ G39 q7 = some (.inl (cy 0, 9, .inl (upd (upd (upd (fun _ => 0) 0 b) 1 (nI nt)) 2 z)))) ⟨_, LX.p3 hL19 ha20, g_up_self ..⟩ (fun G21 hg => ?_)
                    obtain ⟨G322, hL23, ha24⟩ := hg
                    refine g_seg [(294, .dup, 1), (295, .iconst 3, 1), (296, .aload_n 0, 1)] 297 [(0, .ref s), (1, .ref x), (2, .int z), (3, .int zc), (4, .int x5)] [.ref s, .int 3, .ref q7, .ref q7] C (by decide +kernel) rfl ?_
                    refine g_getf (pc := 297) (k := 1) (v := .ref (rt 1)) C fl_X5_15 ((LX.rs hL23 hS).1.1) rfl (by decide +kernel) ?_
                    refine g_alenI (pc := 300) C ((LX.rs hL23 hS).1.2.2.1) (by decide +kernel) ?_
                    refine g_iastM (pc := 301) (n := 9) 3 (upd (upd (upd (upd (fun _ => 0) 0 b) 1 (nI nt)) 2 z) 3 (nI nf)) C (LX.g3 hL23 ha24) (rfl) (by decide) (by omega) (rfl) (by decide +kernel) ?_
                    refine g_abs (P := fun G9 => ∃ G39 : GG, LX cy x b nt nf nc nn T E Cu N G2 G39 G9 ∧ G39 q7 = some (.inl (cy 0, 9, .inl (upd (upd (upd (upd (fun _ => 0) 0 b) 1 (nI nt)) 2 z) 3 (nI nf))))) ⟨_, LX.p3 hL23 ha24, g_up_self ..⟩ (fun G25 hg => ?_)
                    obtain ⟨G326, hL27, ha28⟩ := hg
                    refine g_seg [(302, .dup, 1), (303, .iconst 4, 1), (304, .aload_n 0, 1), (305, .iconst 1, 1)] 306 [(0, .ref s), (1, .ref x), (2, .int z), (3, .int zc), (4, .int x5)] [.int 1, .ref s, .int 4, .ref q7, .ref q7] C (by decide +kernel) rfl ?_
                    refine g_rI (pc := 306) C hL27 hS q381 ⟨⟨(Nat.le_of_ble_eq_true rfl), (Nat.le_of_ble_eq_true rfl)⟩, (by show ((((0 + 9 * k) + 5 * k3) + 5 * k5) + 1) + 0 ≤ 204; omega), (by show ((((0 + 56 * k) + 30 * k3) + 30 * k5) + 9) + 0 ≤ 1239; omega)⟩ (Nat.le_of_ble_eq_true rfl) (by decide +kernel) (fun G29 hL30 => ?_)
                    refine g_iastM (pc := 309) (n := 9) 4 (upd (upd (upd (upd (upd (fun _ => 0) 0 b) 1 (nI nt)) 2 z) 3 (nI nf)) 4 (nI (cnt (fun k => decide ((zF b E) k 0 = 1)) nf))) C (LX.g3 hL30 ha28) (rfl) (by decide) (by omega) (rfl) (by decide +kernel) ?_
                    refine g_abs (P := fun G9 => ∃ G39 : GG, LX cy x b nt nf nc nn T E Cu N G2 G39 G9 ∧ G39 q7 = some (.inl (cy 0, 9, .inl (upd (upd (upd (upd (upd (fun _ => 0) 0 b) 1 (nI nt)) 2 z) 3 (nI nf)) 4 (nI (cnt (fun k => decide ((zF b E) k 0 = 1)) nf)))))) ⟨_, LX.p3 hL30 ha28, g_up_self ..⟩ (fun G31 hg => ?_)
                    obtain ⟨G332, hL33, ha34⟩ := hg
                    refine g_seg [(310, .dup, 1), (311, .iconst 5, 1), (312, .aload_n 0, 1), (313, .iconst 2, 1)] 314 [(0, .ref s), (1, .ref x), (2, .int z), (3, .int zc), (4, .int x5)] [.int 2, .ref s, .int 5, .ref q7, .ref q7] C (by decide +kernel) rfl ?_
                    refine g_rI (pc := 314) C hL33 hS q381 ⟨⟨(Nat.le_of_ble_eq_true rfl), (Nat.le_of_ble_eq_true rfl)⟩, (by show (((((0 + 9 * k) + 5 * k3) + 5 * k5) + 1) + 0) + 0 ≤ 204; omega), (by show (((((0 + 56 * k) + 30 * k3) + 30 * k5) + 9) + 0) + 0 ≤ 1239; omega)⟩ (Nat.le_of_ble_eq_true rfl) (by decide +kernel) (fun G35 hL36 => ?_)
                    refine g_iastM (pc := 317) (n := 9) 5 (upd (upd (upd (upd (upd (upd (fun _ => 0) 0 b) 1 (nI nt)) 2 z) 3 (nI nf)) 4 (nI (cnt (fun k => decide ((zF b E) k 0 = 1)) nf))) 5 (nI (cnt (fun k => decide ((zF b E) k 0 = 2)) nf))) C (LX.g3 hL36 ha34) (rfl) (by decide) (by omega) (rfl) (by decide +kernel) ?_
                    refine g_abs (P := fun G9 => ∃ G39 : GG, LX cy x b nt nf nc nn T E Cu N G2 G39 G9 ∧ G39 q7 = some (.inl (cy 0, 9, .inl (upd (upd (upd (upd (upd (upd (fun _ => 0) 0 b) 1 (nI nt)) 2 z) 3 (nI nf)) 4 (nI (cnt (fun k => decide ((zF b E) k 0 = 1)) nf))) 5 (nI (cnt (fun k => decide ((zF b E) k 0 = 2)) nf)))))) ⟨_, LX.p3 hL36 ha34, g_up_self ..⟩ (fun G37 hg => ?_)
                    obtain ⟨G338, hL39, ha40⟩ := hg
                    refine g_seg [(318, .dup, 1), (319, .bipush 6, 2), (321, .aload_n 0, 1), (322, .iconst 3, 1)] 323 [(0, .ref s), (1, .ref x), (2, .int z), (3, .int zc), (4, .int x5)] [.int 3, .ref s, .int 6, .ref q7, .ref q7] C (by decide +kernel) rfl ?_
                    refine g_rI (pc := 323) C hL39 hS q381 ⟨⟨(Nat.le_of_ble_eq_true rfl), (Nat.le_of_ble_eq_true rfl)⟩, (by show ((((((0 + 9 * k) + 5 * k3) + 5 * k5) + 1) + 0) + 0) + 0 ≤ 204; omega), (by show ((((((0 + 56 * k) + 30 * k3) + 30 * k5) + 9) + 0) + 0) + 0 ≤ 1239; omega)⟩ (Nat.le_of_ble_eq_true rfl) (by decide +kernel) (fun G41 hL42 => ?_)
                    refine g_iastM (pc := 326) (n := 9) 6 (upd (upd (upd (upd (upd (upd (upd (fun _ => 0) 0 b) 1 (nI nt)) 2 z) 3 (nI nf)) 4 (nI (cnt (fun k => decide ((zF b E) k 0 = 1)) nf))) 5 (nI (cnt (fun k => decide ((zF b E) k 0 = 2)) nf))) 6 (nI (cnt (fun k => decide ((zF b E) k 0 = 3)) nf))) C (LX.g3 hL42 ha40) (rfl) (by decide) (by omega) (rfl) (by decide +kernel) ?_
                    refine g_abs (P := fun G9 => ∃ G39 : GG, LX cy x b nt nf nc nn T E Cu N G2 G39 G9 ∧ G39 q7 = some (.inl (cy 0, 9, .inl (upd (upd (upd (upd (upd (upd (upd (fun _ => 0) 0 b) 1 (nI nt)) 2 z) 3 (nI nf)) 4 (nI (cnt (fun k => decide ((zF b E) k 0 = 1)) nf))) 5 (nI (cnt (fun k => decide ((zF b E) k 0 = 2)) nf))) 6 (nI (cnt (fun k => decide ((zF b E) k 0 = 3)) nf)))))) ⟨_, LX.p3 hL42 ha40, g_up_self ..⟩ (fun G43 hg => ?_)
                    obtain ⟨G344, hL45, ha46⟩ := hg
                    refine g_seg [(327, .dup, 1), (328, .bipush 7, 2), (330, .aload_n 0, 1), (331, .iconst 4, 1)] 332 [(0, .ref s), (1, .ref x), (2, .int z), (3, .int zc), (4, .int x5)] [.int 4, .ref s, .int 7, .ref q7, .ref q7] C (by decide +kernel) rfl ?_
                    refine g_rI (pc := 332) C hL45 hS q381 ⟨⟨(Nat.le_of_ble_eq_true rfl), (Nat.le_of_ble_eq_true rfl)⟩, (by show (((((((0 + 9 * k) + 5 * k3) + 5 * k5) + 1) + 0) + 0) + 0) + 0 ≤ 204; omega), (by show (((((((0 + 56 * k) + 30 * k3) + 30 * k5) + 9) + 0) + 0) + 0) + 0 ≤ 1239; omega)⟩ (Nat.le_of_ble_eq_true rfl) (by decide +kernel) (fun G47 hL48 => ?_)
                    refine g_iastM (pc := 335) (n := 9) 7 (upd (upd (upd (upd (upd (upd (upd (upd (fun _ => 0) 0 b) 1 (nI nt)) 2 z) 3 (nI nf)) 4 (nI (cnt (fun k => decide ((zF b E) k 0 = 1)) nf))) 5 (nI (cnt (fun k => decide ((zF b E) k 0 = 2)) nf))) 6 (nI (cnt (fun k => decide ((zF b E) k 0 = 3)) nf))) 7 (nI (cnt (fun k => decide ((zF b E) k 0 = 4)) nf))) C (LX.g3 hL48 ha46) (rfl) (by decide) (by omega) (rfl) (by decide +kernel) ?_
                    refine g_abs (P := fun G9 => ∃ G39 : GG, LX cy x b nt nf nc nn T E Cu N G2 G39 G9 ∧ G39 q7 = some (.inl (cy 0, 9, .inl (upd (upd (upd (upd (upd (upd (upd (upd (fun _ => 0) 0 b) 1 (nI nt)) 2 z) 3 (nI nf)) 4 (nI (cnt (fun k => decide ((zF b E) k 0 = 1)) nf))) 5 (nI (cnt (fun k => decide ((zF b E) k 0 = 2)) nf))) 6 (nI (cnt (fun k => decide ((zF b E) k 0 = 3)) nf))) 7 (nI (cnt (fun k => decide ((zF b E) k 0 = 4)) nf)))))) ⟨_, LX.p3 hL48 ha46, g_up_self ..⟩ (fun G49 hg => ?_)
                    obtain ⟨G350, hL51, ha52⟩ := hg
                    refine g_seg [(336, .dup, 1), (337, .bipush 8, 2), (339, .aload_n 0, 1)] 340 [(0, .ref s), (1, .ref x), (2, .int z), (3, .int zc), (4, .int x5)] [.ref s, .int 8, .ref q7, .ref q7] C (by decide +kernel) rfl ?_
                    refine g_rO (pc := 340) C hL51 hS q385 ⟨⟨(Nat.le_of_ble_eq_true rfl), (Nat.le_of_ble_eq_true rfl)⟩, (by show ((((((((0 + 9 * k) + 5 * k3) + 5 * k5) + 1) + 0) + 0) + 0) + 0) + 0 ≤ 204; omega), (by show ((((((((0 + 56 * k) + 30 * k3) + 30 * k5) + 9) + 0) + 0) + 0) + 0) + 0 ≤ 1239; omega)⟩ (Nat.le_of_ble_eq_true rfl) (by decide +kernel) (fun G53 hL54 => ?_)
                    refine g_iastM (pc := 343) (n := 9) 8 (upd (upd (upd (upd (upd (upd (upd (upd (upd (fun _ => 0) 0 b) 1 (nI nt)) 2 z) 3 (nI nf)) 4 (nI (cnt (fun k => decide ((zF b E) k 0 = 1)) nf))) 5 (nI (cnt (fun k => decide ((zF b E) k 0 = 2)) nf))) 6 (nI (cnt (fun k => decide ((zF b E) k 0 = 3)) nf))) 7 (nI (cnt (fun k => decide ((zF b E) k 0 = 4)) nf))) 8 (nI (cnt (fun k => decide (Cu k 4 = 0)) nc))) C (LX.g3 hL54 ha52) (rfl) (by decide) (by omega) (rfl) (by decide +kernel) ?_
                    refine g_abs (P := fun G9 => ∃ G39 : GG, LX cy x b nt nf nc nn T E Cu N G2 G39 G9 ∧ G39 q7 = some (.inl (cy 0, 9, .inl (upd (upd (upd (upd (upd (upd (upd (upd (upd (fun _ => 0) 0 b) 1 (nI nt)) 2 z) 3 (nI nf)) 4 (nI (cnt (fun k => decide ((zF b E) k 0 = 1)) nf))) 5 (nI (cnt (fun k => decide ((zF b E) k 0 = 2)) nf))) 6 (nI (cnt (fun k => decide ((zF b E) k 0 = 3)) nf))) 7 (nI (cnt (fun k => decide ((zF b E) k 0 = 4)) nf))) 8 (nI (cnt (fun k => decide (Cu k 4 = 0)) nc)))))) ⟨_, LX.p3 hL54 ha52, g_up_self ..⟩ (fun G55 hg => ?_)
                    obtain ⟨G356, hL57, ha58⟩ := hg
                    have ha59c : (upd (upd (upd (upd (upd (upd (upd (upd (upd (fun _ => 0) 0 b) 1 (nI nt)) 2 z) 3 (nI nf)) 4 (nI (cnt (fun k => decide ((zF b E) k 0 = 1)) nf))) 5 (nI (cnt (fun k => decide ((zF b E) k 0 = 2)) nf))) 6 (nI (cnt (fun k => decide ((zF b E) k 0 = 3)) nf))) 7 (nI (cnt (fun k => decide ((zF b E) k 0 = 4)) nf))) 8 (nI (cnt (fun k => decide (Cu k 4 = 0)) nc))) = cut 9 (fun j => s_countX b nt nf nc T E Cu (nI j)) := told9 (g := (fun j => s_countX b nt nf nc T E Cu (nI j))) rfl rfl hs rfl rfl rfl rfl rfl rfl
                    have ha59 : G356 q7 = some (.inl (cy 0, 9, .inl (cut 9 (fun j => s_countX b nt nf nc T E Cu (nI j))))) := by rw [← ha59c]; exact ha58
                    refine g_seg [(344, .astore 4, 2), (346, .iconst 0, 1), (347, .istore 5, 2)] 349 [(5, .int 0), (4, .ref q7), (0, .ref s), (1, .ref x), (2, .int z), (3, .int zc)] [] C (by decide +kernel) rfl ?_
                    refine g_widen (k := ((((((((((0 + 9 * k) + 5 * k3) + 5 * k5) + 1) + 0) + 0) + 0) + 0) + 0) + 1 * 0)) (n := ((((((((((0 + 56 * k) + 30 * k3) + 30 * k5) + 9) + 0) + 0) + 0) + 0) + 0) + 6 * 0)) (by show (((((((((0 + 9 * k) + 5 * k3) + 5 * k5) + 1) + 0) + 0) + 0) + 0) + 0) ≤ ((((((((((0 + 9 * k) + 5 * k3) + 5 * k5) + 1) + 0) + 0) + 0) + 0) + 0) + 1 * 0); omega) (by show (((((((((0 + 56 * k) + 30 * k3) + 30 * k5) + 9) + 0) + 0) + 0) + 0) + 0) ≤ ((((((((((0 + 56 * k) + 30 * k3) + 30 * k5) + 9) + 0) + 0) + 0) + 0) + 0) + 6 * 0); omega) ?_
                    refine g_subp [2, 3, 4, 5, 1, 0] (lv' := [(0, .ref s), (1, .ref x), (2, .int z), (3, .int zc), (4, .ref q7), (5, .int 0)]) rfl ?_
                    have lp60 : ∀ (m7 k7 : Nat) (G17 : GG) (x7 : Int32), 9 + 1 ≤ k7 + m7 → k7 ≤ 9 → x7 = nI k7 → LX cy x b nt nf nc nn T E Cu N G2 G356 G17 → PG κ 8 ((((((((((0 + 9 * k) + 5 * k3) + 5 * k5) + 1) + 0) + 0) + 0) + 0) + 0) + 1 * k7) ((((((((((0 + 56 * k) + 30 * k3) + 30 * k5) + 9) + 0) + 0) + 0) + 0) + 0) + 6 * k7) G17 [(0, .ref s), (1, .ref x), (2, .int z), (3, .int zc), (4, .ref q7), (5, .int x7)] 349 [] := by
                      intro m7
                      induction m7 with
                      | zero => intro k7 G17 x7 h1 h2; intros; exact absurd h1 (by omega)
                      | succ m7 ih7 =>
                        intro k7 G17 x7 hm7 hk7 hx7 hL17
                        refine g_seg [(349, .iload 5, 2), (351, .bipush 9, 2)] 353 [(0, .ref s), (1, .ref x), (2, .int z), (3, .int zc), (4, .ref q7), (5, .int x7)] [.int 9, .int x7] C (by decide +kernel) rfl ?_
                        refine g_icmp_ge (pc := 353) (off := 25) 378 C (by decide +kernel) (by decide) (fun c61 => ?_) (fun c61 => ?_)
                        · have hy8 : k7 = 9 := by have := lp_ge (n := 9) hx7 (by omega) (by omega) c61; omega
                          refine g_seg [(378, .aload_n 1, 1)] 379 [(0, .ref s), (1, .ref x), (2, .int z), (3, .int zc), (4, .ref q7), (5, .int x7)] [.ref x] C (by decide +kernel) rfl ?_
                          refine g_rE (pc := 379) C hL17  q390 ⟨⟨(Nat.le_of_ble_eq_true rfl), (Nat.le_of_ble_eq_true rfl)⟩, (by show ((((((((((0 + 9 * k) + 5 * k3) + 5 * k5) + 1) + 0) + 0) + 0) + 0) + 0) + 1 * k7) + 0 ≤ 204; omega), (by show ((((((((((0 + 56 * k) + 30 * k3) + 30 * k5) + 9) + 0) + 0) + 0) + 0) + 0) + 6 * k7) + 0 ≤ 1239; omega)⟩ (Nat.le_of_ble_eq_true rfl) (by decide +kernel) (fun G62 hL63 => ?_)
                          refine g_seg [(382, .aload_n 0, 1)] 383 [(0, .ref s), (1, .ref x), (2, .int z), (3, .int zc), (4, .ref q7), (5, .int x7)] [.ref s, .double (s_mean E nf)] C (by decide +kernel) rfl ?_
                          refine g_getf (pc := 383) (k := 1) (v := .ref (rt 1)) C fl_X5_15 ((LX.rs hL63 hS).1.1) rfl (by decide +kernel) ?_
                          refine g_alenI (pc := 386) C ((LX.rs hL63 hS).1.2.2.1) (by decide +kernel) ?_
                          refine g_if_ne (pc := 387) (off := 7) 394 C (by decide +kernel) (by decide) (fun c64 => ?_) (fun c64 => ?_)
                          · have hnf : ¬ nf = 0 := fun h9 => c64 (by rw [h9]; rfl)
                            refine g_seg [(394, .iload_n 3, 1), (395, .i2d, 1), (396, .aload_n 0, 1)] 397 [(0, .ref s), (1, .ref x), (2, .int z), (3, .int zc), (4, .ref q7), (5, .int x7)] [.ref s, .double (FP.i2d zc), .double (s_mean E nf)] C (by decide +kernel) rfl ?_
                            refine g_getf (pc := 397) (k := 1) (v := .ref (rt 1)) C fl_X5_15 ((LX.rs hL63 hS).1.1) rfl (by decide +kernel) ?_
                            refine g_alenI (pc := 400) C ((LX.rs hL63 hS).1.2.2.1) (by decide +kernel) ?_
                            refine g_seg [(401, .i2d, 1)] 402 [(0, .ref s), (1, .ref x), (2, .int z), (3, .int zc), (4, .ref q7), (5, .int x7)] [.double (FP.i2d (nI nf)), .double (FP.i2d zc), .double (s_mean E nf)] C (by decide +kernel) rfl ?_
                            refine g_ddiv (pc := 402) C (by decide +kernel) (dn_ok (fun h9 => hnf ((nI_eq (by omega) (by decide)).mp h9))) ?_
                            refine g_seg [(403, .dcmp .l, 1)] 404 [(0, .ref s), (1, .ref x), (2, .int z), (3, .int zc), (4, .ref q7), (5, .int x7)] [.int (Op.cmpValue (FP.dcmp (s_mean E nf) (FP.ddiv (FP.i2d zc) (FP.i2d (nI nf)))) .l)] C (by decide +kernel) rfl ?_
                            refine g_if_ne (pc := 404) (off := 7) 411 C (by decide +kernel) (by decide) (fun c9 => absurd (by rw [s_mean, if_neg hnf, hs3]; exact mean_cmp (fun h9 => hnf ((nI_eq (by omega) (by decide)).mp h9))) c9) (fun _ => ?_)
                            refine g_seg [(407, .iconst 1, 1), (408, .goto 4, 3)] 412 [(0, .ref s), (1, .ref x), (2, .int z), (3, .int zc), (4, .ref q7), (5, .int x7)] [.int 1] C (by decide +kernel) rfl ?_
                            exact g_zret (pc := 412) C R (by first | rfl | decide) (⟨_, rfl, rfl⟩) (by show (((((((((((0 + 9 * k) + 5 * k3) + 5 * k5) + 1) + 0) + 0) + 0) + 0) + 0) + 1 * k7) + 0) ≤ 204; omega) (by show (((((((((((0 + 56 * k) + 30 * k3) + 30 * k5) + 9) + 0) + 0) + 0) + 0) + 0) + 6 * k7) + 0) ≤ 1239; omega) (by decide +kernel)
                          · have hnf : nf = 0 := (nI_eq (by omega) (by decide)).mp c64
                            refine g_seg [(390, .dconst 0, 1), (391, .goto 12, 3), (403, .dcmp .l, 1)] 404 [(0, .ref s), (1, .ref x), (2, .int z), (3, .int zc), (4, .ref q7), (5, .int x7)] [.int (Op.cmpValue (FP.dcmp (s_mean E nf) FP.dconst0) .l)] C (by decide +kernel) rfl ?_
                            refine g_if_ne (pc := 404) (off := 7) 411 C (by decide +kernel) (by decide) (fun c9 => absurd (by rw [s_mean, if_pos hnf]; exact mean_cmp0) c9) (fun _ => ?_)
                            refine g_seg [(407, .iconst 1, 1), (408, .goto 4, 3)] 412 [(0, .ref s), (1, .ref x), (2, .int z), (3, .int zc), (4, .ref q7), (5, .int x7)] [.int 1] C (by decide +kernel) rfl ?_
                            exact g_zret (pc := 412) C R (by first | rfl | decide) (⟨_, rfl, rfl⟩) (by show (((((((((((0 + 9 * k) + 5 * k3) + 5 * k5) + 1) + 0) + 0) + 0) + 0) + 0) + 1 * k7) + 0) ≤ 204; omega) (by show (((((((((((0 + 56 * k) + 30 * k3) + 30 * k5) + 9) + 0) + 0) + 0) + 0) + 0) + 6 * k7) + 0) ≤ 1239; omega) (by decide +kernel)
                        · have hy8 : k7 < 9 := lp_lt (n := 9) hx7 (by omega) (by omega) c61
                          refine g_seg [(356, .aload_n 1, 1), (357, .iload 5, 2)] 359 [(0, .ref s), (1, .ref x), (2, .int z), (3, .int zc), (4, .ref q7), (5, .int x7)] [.int x7, .ref x] C (by decide +kernel) rfl ?_
                          refine g_rK (pc := 359) C X hL17 (wb (m := 8) (hx7) (by omega) (by omega)) q389 ⟨⟨(Nat.le_of_ble_eq_true rfl), (Nat.le_of_ble_eq_true rfl)⟩, (by show ((((((((((0 + 9 * k) + 5 * k3) + 5 * k5) + 1) + 0) + 0) + 0) + 0) + 0) + 1 * k7) + 1 ≤ 204; omega), (by show ((((((((((0 + 56 * k) + 30 * k3) + 30 * k5) + 9) + 0) + 0) + 0) + 0) + 0) + 6 * k7) + 6 ≤ 1239; omega)⟩ (Nat.le_of_ble_eq_true rfl) (by decide +kernel) (fun G65 hL66 => ?_)
                          refine g_seg [(362, .aload 4, 2), (364, .iload 5, 2)] 366 [(0, .ref s), (1, .ref x), (2, .int z), (3, .int zc), (4, .ref q7), (5, .int x7)] [.int x7, .ref q7, .int (s_countX b nt nf nc T E Cu x7)] C (by decide +kernel) rfl ?_
                          refine g_ialdM (pc := 366) (n := 9) k7 (s_countX b nt nf nc T E Cu x7) C (LX.g3 hL66 ha59) (hx7) (hy8) (by omega) (by rw [cut_lt hy8, hx7]) (by decide +kernel) ?_
                          refine g_icmp_eq (pc := 367) (off := 5) 372 C (by decide +kernel) (by decide) (fun _ => ?_) (fun c9 => absurd (rfl) c9)
                          refine g_seg [(372, .iinc 5 1, 3), (375, .goto (-26), 3)] 349 [(5, .int (x7 + 1)), (0, .ref s), (1, .ref x), (2, .int z), (3, .int zc), (4, .ref q7)] [] C (by decide +kernel) rfl ?_
                          refine g_subp [1, 2, 3, 4, 5, 0] (lv' := [(0, .ref s), (1, .ref x), (2, .int z), (3, .int zc), (4, .ref q7), (5, .int (x7 + 1))]) rfl ?_
                          refine g_widen (k := ((((((((((0 + 9 * k) + 5 * k3) + 5 * k5) + 1) + 0) + 0) + 0) + 0) + 0) + 1 * (k7 + 1))) (n := ((((((((((0 + 56 * k) + 30 * k3) + 30 * k5) + 9) + 0) + 0) + 0) + 0) + 0) + 6 * (k7 + 1))) (by show (((((((((((0 + 9 * k) + 5 * k3) + 5 * k5) + 1) + 0) + 0) + 0) + 0) + 0) + 1 * k7) + 1) ≤ ((((((((((0 + 9 * k) + 5 * k3) + 5 * k5) + 1) + 0) + 0) + 0) + 0) + 0) + 1 * (k7 + 1)); omega) (by show (((((((((((0 + 56 * k) + 30 * k3) + 30 * k5) + 9) + 0) + 0) + 0) + 0) + 0) + 6 * k7) + 6) ≤ ((((((((((0 + 56 * k) + 30 * k3) + 30 * k5) + 9) + 0) + 0) + 0) + 0) + 0) + 6 * (k7 + 1)); omega) ?_
                          exact ih7 (k7 + 1) G65 (x7 + 1) (by omega) (by omega) (lp_s hx7) (hL66)
                    exact lp60 (9 + 1) 0 G55 0 (by omega) (by omega) (nI_0.symm) (hL57)
                  · have ho8 : k5 < nc := lp_lt (n := nc) hx5 (by omega) (by omega) c6
                    refine g_seg [(227, .iconst 0, 1), (228, .istore 5, 2)] 230 [(5, .int 0), (0, .ref s), (1, .ref x), (2, .int z), (3, .int zc), (4, .int x5)] [] C (by decide +kernel) rfl ?_
                    refine g_widen (k := ((((0 + 9 * k) + 5 * k3) + 5 * k5) + 1 * 0)) (n := ((((0 + 56 * k) + 30 * k3) + 30 * k5) + 6 * 0)) (by show (((0 + 9 * k) + 5 * k3) + 5 * k5) ≤ ((((0 + 9 * k) + 5 * k3) + 5 * k5) + 1 * 0); omega) (by show (((0 + 56 * k) + 30 * k3) + 30 * k5) ≤ ((((0 + 56 * k) + 30 * k3) + 30 * k5) + 6 * 0); omega) ?_
                    refine g_subp [1, 2, 3, 4, 5, 0] (lv' := [(0, .ref s), (1, .ref x), (2, .int z), (3, .int zc), (4, .int x5), (5, .int 0)]) rfl ?_
                    have lp67 : ∀ (m6 k6 : Nat) (G16 : GG) (x6 : Int32), 5 + 1 ≤ k6 + m6 → k6 ≤ 5 → x6 = nI k6 → LX cy x b nt nf nc nn T E Cu N G2 nG G16 → PG κ 8 ((((0 + 9 * k) + 5 * k3) + 5 * k5) + 1 * k6) ((((0 + 56 * k) + 30 * k3) + 30 * k5) + 6 * k6) G16 [(0, .ref s), (1, .ref x), (2, .int z), (3, .int zc), (4, .int x5), (5, .int x6)] 230 [] := by
                      intro m6
                      induction m6 with
                      | zero => intro k6 G16 x6 h1 h2; intros; exact absurd h1 (by omega)
                      | succ m6 ih6 =>
                        intro k6 G16 x6 hm6 hk6 hx6 hL16
                        refine g_seg [(230, .iload 5, 2), (232, .iconst 5, 1)] 233 [(0, .ref s), (1, .ref x), (2, .int z), (3, .int zc), (4, .int x5), (5, .int x6)] [.int 5, .int x6] C (by decide +kernel) rfl ?_
                        refine g_icmp_ge (pc := 233) (off := 32) 265 C (by decide +kernel) (by decide) (fun c68 => ?_) (fun c68 => ?_)
                        · have hp8 : k6 = 5 := by have := lp_ge (n := 5) hx6 (by omega) (by omega) c68; omega
                          refine g_seg [(265, .iinc 4 1, 3), (268, .goto (-51), 3)] 217 [(4, .int (x5 + 1)), (0, .ref s), (1, .ref x), (2, .int z), (3, .int zc), (5, .int x6)] [] C (by decide +kernel) rfl ?_
                          refine g_subp [1, 2, 3, 4, 0] (lv' := [(0, .ref s), (1, .ref x), (2, .int z), (3, .int zc), (4, .int (x5 + 1))]) rfl ?_
                          refine g_widen (k := (((0 + 9 * k) + 5 * k3) + 5 * (k5 + 1))) (n := (((0 + 56 * k) + 30 * k3) + 30 * (k5 + 1))) (by show ((((0 + 9 * k) + 5 * k3) + 5 * k5) + 1 * k6) ≤ (((0 + 9 * k) + 5 * k3) + 5 * (k5 + 1)); omega) (by show ((((0 + 56 * k) + 30 * k3) + 30 * k5) + 6 * k6) ≤ (((0 + 56 * k) + 30 * k3) + 30 * (k5 + 1)); omega) ?_
                          exact ih5 (k5 + 1) G16 (x5 + 1) (by omega) (by omega) (lp_s hx5) (hL16)
                        · have hp8 : k6 < 5 := lp_lt (n := 5) hx6 (by omega) (by omega) c68
                          refine g_seg [(236, .aload_n 1, 1), (237, .iload 4, 2), (239, .iload 5, 2)] 241 [(0, .ref s), (1, .ref x), (2, .int z), (3, .int zc), (4, .int x5), (5, .int x6)] [.int x6, .int x5, .ref x] C (by decide +kernel) rfl ?_
                          refine g_rC (pc := 241) C X hL16 (hx5) (ho8) (wb (m := 4) (hx6) (by omega) (by omega)) q380 ⟨⟨(Nat.le_of_ble_eq_true rfl), (Nat.le_of_ble_eq_true rfl)⟩, (by show ((((0 + 9 * k) + 5 * k3) + 5 * k5) + 1 * k6) + 1 ≤ 204; omega), (by show ((((0 + 56 * k) + 30 * k3) + 30 * k5) + 6 * k6) + 6 ≤ 1239; omega)⟩ (Nat.le_of_ble_eq_true rfl) (by decide +kernel) (fun G69 hL70 => ?_)
                          refine g_seg [(244, .aload_n 0, 1)] 245 [(0, .ref s), (1, .ref x), (2, .int z), (3, .int zc), (4, .int x5), (5, .int x6)] [.ref s, .int (s_toldC Cu k5 x6)] C (by decide +kernel) rfl ?_
                          refine g_getf (pc := 245) (k := 2) (v := .ref (rt 2)) C fl_X5_18 ((LX.rs hL70 hS).1.1) rfl (by decide +kernel) ?_
                          refine g_seg [(248, .iload 4, 2)] 250 [(0, .ref s), (1, .ref x), (2, .int z), (3, .int zc), (4, .int x5), (5, .int x6)] [.int x5, .ref (rt 2), .int (s_toldC Cu k5 x6)] C (by decide +kernel) rfl ?_
                          refine g_aaldS (pc := 250) (j := k5) C ((LX.rs hL70 hS).1.2.2.2.1) (hx5) (ho8) (by omega) (by decide +kernel) ?_
                          refine g_seg [(251, .iload 5, 2)] 253 [(0, .ref s), (1, .ref x), (2, .int z), (3, .int zc), (4, .int x5), (5, .int x6)] [.int x6, .ref (rd 2 k5), .int (s_toldC Cu k5 x6)] C (by decide +kernel) rfl ?_
                          refine g_ialdM (pc := 253) (n := 5) k6 (s_toldC Cu k5 x6) C ((LX.rs hL70 hS).2.1.2.2.1 k5 ho8) (hx6) (hp8) (by decide) (by rw [cut_lt hp8, zC_told (C := Cu) (i := k5) hp8, hx6]) (by decide +kernel) ?_
                          refine g_icmp_eq (pc := 254) (off := 5) 259 C (by decide +kernel) (by decide) (fun _ => ?_) (fun c9 => absurd (rfl) c9)
                          refine g_seg [(259, .iinc 5 1, 3), (262, .goto (-32), 3)] 230 [(5, .int (x6 + 1)), (0, .ref s), (1, .ref x), (2, .int z), (3, .int zc), (4, .int x5)] [] C (by decide +kernel) rfl ?_
                          refine g_subp [1, 2, 3, 4, 5, 0] (lv' := [(0, .ref s), (1, .ref x), (2, .int z), (3, .int zc), (4, .int x5), (5, .int (x6 + 1))]) rfl ?_
                          refine g_widen (k := ((((0 + 9 * k) + 5 * k3) + 5 * k5) + 1 * (k6 + 1))) (n := ((((0 + 56 * k) + 30 * k3) + 30 * k5) + 6 * (k6 + 1))) (by show (((((0 + 9 * k) + 5 * k3) + 5 * k5) + 1 * k6) + 1) ≤ ((((0 + 9 * k) + 5 * k3) + 5 * k5) + 1 * (k6 + 1)); omega) (by show (((((0 + 56 * k) + 30 * k3) + 30 * k5) + 6 * k6) + 6) ≤ ((((0 + 56 * k) + 30 * k3) + 30 * k5) + 6 * (k6 + 1)); omega) ?_
                          exact ih6 (k6 + 1) G69 (x6 + 1) (by omega) (by omega) (lp_s hx6) (hL70)
                    exact lp67 (5 + 1) 0 G15 0 (by omega) (by omega) (nI_0.symm) (hL15)
              exact lp5 (nc + 1) 0 G13 0 (by omega) (by omega) (nI_0.symm) (hL13)
            · have hm8 : k3 < nf := lp_lt (n := nf) hx3 (by omega) (by omega) c4
              refine g_seg [(158, .iconst 0, 1), (159, .istore 5, 2)] 161 [(5, .int 0), (0, .ref s), (1, .ref x), (2, .int z), (3, .int zc), (4, .int x3)] [] C (by decide +kernel) rfl ?_
              refine g_widen (k := (((0 + 9 * k) + 5 * k3) + 1 * 0)) (n := (((0 + 56 * k) + 30 * k3) + 6 * 0)) (by show ((0 + 9 * k) + 5 * k3) ≤ (((0 + 9 * k) + 5 * k3) + 1 * 0); omega) (by show ((0 + 56 * k) + 30 * k3) ≤ (((0 + 56 * k) + 30 * k3) + 6 * 0); omega) ?_
              refine g_subp [1, 2, 3, 4, 5, 0] (lv' := [(0, .ref s), (1, .ref x), (2, .int z), (3, .int zc), (4, .int x3), (5, .int 0)]) rfl ?_
              have lp71 : ∀ (m4 k4 : Nat) (G14 : GG) (x4 : Int32), 5 + 1 ≤ k4 + m4 → k4 ≤ 5 → x4 = nI k4 → LX cy x b nt nf nc nn T E Cu N G2 nG G14 → PG κ 8 (((0 + 9 * k) + 5 * k3) + 1 * k4) (((0 + 56 * k) + 30 * k3) + 6 * k4) G14 [(0, .ref s), (1, .ref x), (2, .int z), (3, .int zc), (4, .int x3), (5, .int x4)] 161 [] := by
                intro m4
                induction m4 with
                | zero => intro k4 G14 x4 h1 h2; intros; exact absurd h1 (by omega)
                | succ m4 ih4 =>
                  intro k4 G14 x4 hm4 hk4 hx4 hL14
                  refine g_seg [(161, .iload 5, 2), (163, .iconst 5, 1)] 164 [(0, .ref s), (1, .ref x), (2, .int z), (3, .int zc), (4, .int x3), (5, .int x4)] [.int 5, .int x4] C (by decide +kernel) rfl ?_
                  refine g_icmp_ge (pc := 164) (off := 32) 196 C (by decide +kernel) (by decide) (fun c72 => ?_) (fun c72 => ?_)
                  · have hn8 : k4 = 5 := by have := lp_ge (n := 5) hx4 (by omega) (by omega) c72; omega
                    refine g_seg [(196, .iload_n 3, 1), (197, .aload_n 0, 1)] 198 [(0, .ref s), (1, .ref x), (2, .int z), (3, .int zc), (4, .int x3), (5, .int x4)] [.ref s, .int zc] C (by decide +kernel) rfl ?_
                    refine g_getf (pc := 198) (k := 1) (v := .ref (rt 1)) C fl_X5_15 ((LX.rs hL14 hS).1.1) rfl (by decide +kernel) ?_
                    refine g_seg [(201, .iload 4, 2)] 203 [(0, .ref s), (1, .ref x), (2, .int z), (3, .int zc), (4, .int x3), (5, .int x4)] [.int x3, .ref (rt 1), .int zc] C (by decide +kernel) rfl ?_
                    refine g_aaldS (pc := 203) (j := k3) C ((LX.rs hL14 hS).1.2.2.1) (hx3) (hm8) (by omega) (by decide +kernel) ?_
                    refine g_seg [(204, .iconst 4, 1)] 205 [(0, .ref s), (1, .ref x), (2, .int z), (3, .int zc), (4, .int x3), (5, .int x4)] [.int 4, .ref (rd 1 k3), .int zc] C (by decide +kernel) rfl ?_
                    refine g_ialdM (pc := 205) (n := 5) 4 ((zF b E) k3 4) C ((LX.rs hL14 hS).2.1.2.1 k3 hm8) rfl (by decide) (by decide) (cut_lt (by decide)) (by decide +kernel) ?_
                    refine g_seg [(206, .iadd, 1), (207, .istore_n 3, 1), (208, .iinc 4 1, 3), (211, .goto (-63), 3)] 148 [(4, .int (x3 + 1)), (3, .int (zc + ((zF b E) k3 4))), (0, .ref s), (1, .ref x), (2, .int z), (5, .int x4)] [] C (by decide +kernel) rfl ?_
                    refine g_subp [2, 3, 4, 1, 0] (lv' := [(0, .ref s), (1, .ref x), (2, .int z), (3, .int (zc + ((zF b E) k3 4))), (4, .int (x3 + 1))]) rfl ?_
                    refine g_widen (k := ((0 + 9 * k) + 5 * (k3 + 1))) (n := ((0 + 56 * k) + 30 * (k3 + 1))) (by show (((0 + 9 * k) + 5 * k3) + 1 * k4) ≤ ((0 + 9 * k) + 5 * (k3 + 1)); omega) (by show (((0 + 56 * k) + 30 * k3) + 6 * k4) ≤ ((0 + 56 * k) + 30 * (k3 + 1)); omega) ?_
                    exact ih3 (k3 + 1) G14 (zc + ((zF b E) k3 4)) (x3 + 1) (by omega) (by omega) (lp_s hx3) (by rw [hs3]; rfl) (hL14)
                  · have hn8 : k4 < 5 := lp_lt (n := 5) hx4 (by omega) (by omega) c72
                    refine g_seg [(167, .aload_n 1, 1), (168, .iload 4, 2), (170, .iload 5, 2)] 172 [(0, .ref s), (1, .ref x), (2, .int z), (3, .int zc), (4, .int x3), (5, .int x4)] [.int x4, .int x3, .ref x] C (by decide +kernel) rfl ?_
                    refine g_rF (pc := 172) C X hL14 (hx3) (hm8) (wb (m := 4) (hx4) (by omega) (by omega)) q379 ⟨⟨(Nat.le_of_ble_eq_true rfl), (Nat.le_of_ble_eq_true rfl)⟩, (by show (((0 + 9 * k) + 5 * k3) + 1 * k4) + 1 ≤ 204; omega), (by show (((0 + 56 * k) + 30 * k3) + 6 * k4) + 6 ≤ 1239; omega)⟩ (Nat.le_of_ble_eq_true rfl) (by decide +kernel) (fun G73 hL74 => ?_)
                    refine g_seg [(175, .aload_n 0, 1)] 176 [(0, .ref s), (1, .ref x), (2, .int z), (3, .int zc), (4, .int x3), (5, .int x4)] [.ref s, .int (s_toldFX E b k3 x4)] C (by decide +kernel) rfl ?_
                    refine g_getf (pc := 176) (k := 1) (v := .ref (rt 1)) C fl_X5_15 ((LX.rs hL74 hS).1.1) rfl (by decide +kernel) ?_
                    refine g_seg [(179, .iload 4, 2)] 181 [(0, .ref s), (1, .ref x), (2, .int z), (3, .int zc), (4, .int x3), (5, .int x4)] [.int x3, .ref (rt 1), .int (s_toldFX E b k3 x4)] C (by decide +kernel) rfl ?_
                    refine g_aaldS (pc := 181) (j := k3) C ((LX.rs hL74 hS).1.2.2.1) (hx3) (hm8) (by omega) (by decide +kernel) ?_
                    refine g_seg [(182, .iload 5, 2)] 184 [(0, .ref s), (1, .ref x), (2, .int z), (3, .int zc), (4, .int x3), (5, .int x4)] [.int x4, .ref (rd 1 k3), .int (s_toldFX E b k3 x4)] C (by decide +kernel) rfl ?_
                    refine g_ialdM (pc := 184) (n := 5) k4 (s_toldFX E b k3 x4) C ((LX.rs hL74 hS).2.1.2.1 k3 hm8) (hx4) (hn8) (by decide) (by rw [cut_lt hn8, zF_told hn8, hx4]) (by decide +kernel) ?_
                    refine g_icmp_eq (pc := 185) (off := 5) 190 C (by decide +kernel) (by decide) (fun _ => ?_) (fun c9 => absurd (rfl) c9)
                    refine g_seg [(190, .iinc 5 1, 3), (193, .goto (-32), 3)] 161 [(5, .int (x4 + 1)), (0, .ref s), (1, .ref x), (2, .int z), (3, .int zc), (4, .int x3)] [] C (by decide +kernel) rfl ?_
                    refine g_subp [1, 2, 3, 4, 5, 0] (lv' := [(0, .ref s), (1, .ref x), (2, .int z), (3, .int zc), (4, .int x3), (5, .int (x4 + 1))]) rfl ?_
                    refine g_widen (k := (((0 + 9 * k) + 5 * k3) + 1 * (k4 + 1))) (n := (((0 + 56 * k) + 30 * k3) + 6 * (k4 + 1))) (by show ((((0 + 9 * k) + 5 * k3) + 1 * k4) + 1) ≤ (((0 + 9 * k) + 5 * k3) + 1 * (k4 + 1)); omega) (by show ((((0 + 56 * k) + 30 * k3) + 6 * k4) + 6) ≤ (((0 + 56 * k) + 30 * k3) + 6 * (k4 + 1)); omega) ?_
                    exact ih4 (k4 + 1) G73 (x4 + 1) (by omega) (by omega) (lp_s hx4) (hL74)
              exact lp71 (5 + 1) 0 G13 0 (by omega) (by omega) (nI_0.symm) (hL13)
        exact lp3 (nf + 1) 0 G1 0 0 (by omega) (by omega) (nI_0.symm) (rfl) (hL1)
      · have hk8 : k < nt := lp_lt (n := nt) hx (by omega) (by omega) c2
        refine g_seg [(17, .aload_n 0, 1)] 18 [(0, .ref s), (1, .ref x), (2, .int z), (3, .int 0), (4, .int xk)] [.ref s] C (by decide +kernel) rfl ?_
        refine g_getf (pc := 18) (k := 0) (v := .ref (rt 0)) C fl_X5_9 ((LX.rs hL1 hS).1.1) rfl (by decide +kernel) ?_
        refine g_seg [(21, .iload 4, 2)] 23 [(0, .ref s), (1, .ref x), (2, .int z), (3, .int 0), (4, .int xk)] [.int xk, .ref (rt 0)] C (by decide +kernel) rfl ?_
        refine g_aaldS (pc := 23) (j := k) C ((LX.rs hL1 hS).1.2.1) (hx) (hk8) (by omega) (by decide +kernel) ?_
        refine g_seg [(24, .astore 5, 2), (26, .bipush 8, 2)] 28 [(5, .ref (rd 0 k)), (0, .ref s), (1, .ref x), (2, .int z), (3, .int 0), (4, .int xk)] [.int 8] C (by decide +kernel) rfl ?_
        refine g_newi (pc := 28) (N' := 8) C q394 (by decide) (by decide) (by decide) (by show (0 + 9 * k) + 1 ≤ 204; omega) (by show (0 + 56 * k) + 8 ≤ 1239; omega) (by decide +kernel) (fun q75 hq76 => ?_)
        have hn_q75 := LX.g3n hL1 hq76
        refine g_abs (P := fun G9 => ∃ G39 : GG, LX cy x b nt nf nc nn T E Cu N G2 G39 G9 ∧ G39 q75 = some (.inl (cy 0, 8, .inl (fun _ => 0)))) ⟨_, LX.n3 hL1 hq76, g_up_self ..⟩ (fun G77 hg => ?_)
        obtain ⟨G378, hL79, ha80⟩ := hg
        refine g_seg [(30, .dup, 1), (31, .iconst 0, 1), (32, .aload 5, 2), (34, .iconst 0, 1)] 35 [(5, .ref (rd 0 k)), (0, .ref s), (1, .ref x), (2, .int z), (3, .int 0), (4, .int xk)] [.int 0, .ref (rd 0 k), .int 0, .ref q75, .ref q75] C (by decide +kernel) rfl ?_
        refine g_ialdM (pc := 35) (n := 7) 0 ((zT b T) k 0) C ((LX.rs hL79 hS).2.1.1 k hk8) rfl (by decide) (by decide) (cut_lt (by decide)) (by decide +kernel) ?_
        refine g_iastM (pc := 36) (n := 8) 0 (upd (fun _ => 0) 0 ((zT b T) k 0)) C (LX.g3 hL79 ha80) (rfl) (by decide) (by omega) (rfl) (by decide +kernel) ?_
        refine g_abs (P := fun G9 => ∃ G39 : GG, LX cy x b nt nf nc nn T E Cu N G2 G39 G9 ∧ G39 q75 = some (.inl (cy 0, 8, .inl (upd (fun _ => 0) 0 ((zT b T) k 0))))) ⟨_, LX.p3 hL79 ha80, g_up_self ..⟩ (fun G81 hg => ?_)
        obtain ⟨G382, hL83, ha84⟩ := hg
        refine g_seg [(37, .dup, 1), (38, .iconst 1, 1), (39, .aload 5, 2), (41, .iconst 1, 1)] 42 [(5, .ref (rd 0 k)), (0, .ref s), (1, .ref x), (2, .int z), (3, .int 0), (4, .int xk)] [.int 1, .ref (rd 0 k), .int 1, .ref q75, .ref q75] C (by decide +kernel) rfl ?_
        refine g_ialdM (pc := 42) (n := 7) 1 ((zT b T) k 1) C ((LX.rs hL83 hS).2.1.1 k hk8) rfl (by decide) (by decide) (cut_lt (by decide)) (by decide +kernel) ?_
        refine g_iastM (pc := 43) (n := 8) 1 (upd (upd (fun _ => 0) 0 ((zT b T) k 0)) 1 ((zT b T) k 1)) C (LX.g3 hL83 ha84) (rfl) (by decide) (by omega) (rfl) (by decide +kernel) ?_
        refine g_abs (P := fun G9 => ∃ G39 : GG, LX cy x b nt nf nc nn T E Cu N G2 G39 G9 ∧ G39 q75 = some (.inl (cy 0, 8, .inl (upd (upd (fun _ => 0) 0 ((zT b T) k 0)) 1 ((zT b T) k 1))))) ⟨_, LX.p3 hL83 ha84, g_up_self ..⟩ (fun G85 hg => ?_)
        obtain ⟨G386, hL87, ha88⟩ := hg
        refine g_seg [(44, .dup, 1), (45, .iconst 2, 1), (46, .aload 5, 2), (48, .iconst 2, 1)] 49 [(5, .ref (rd 0 k)), (0, .ref s), (1, .ref x), (2, .int z), (3, .int 0), (4, .int xk)] [.int 2, .ref (rd 0 k), .int 2, .ref q75, .ref q75] C (by decide +kernel) rfl ?_
        refine g_ialdM (pc := 49) (n := 7) 2 ((zT b T) k 2) C ((LX.rs hL87 hS).2.1.1 k hk8) rfl (by decide) (by decide) (cut_lt (by decide)) (by decide +kernel) ?_
        refine g_iastM (pc := 50) (n := 8) 2 (upd (upd (upd (fun _ => 0) 0 ((zT b T) k 0)) 1 ((zT b T) k 1)) 2 ((zT b T) k 2)) C (LX.g3 hL87 ha88) (rfl) (by decide) (by omega) (rfl) (by decide +kernel) ?_
        refine g_abs (P := fun G9 => ∃ G39 : GG, LX cy x b nt nf nc nn T E Cu N G2 G39 G9 ∧ G39 q75 = some (.inl (cy 0, 8, .inl (upd (upd (upd (fun _ => 0) 0 ((zT b T) k 0)) 1 ((zT b T) k 1)) 2 ((zT b T) k 2))))) ⟨_, LX.p3 hL87 ha88, g_up_self ..⟩ (fun G89 hg => ?_)
        obtain ⟨G390, hL91, ha92⟩ := hg
        refine g_seg [(51, .dup, 1), (52, .iconst 3, 1), (53, .aload 5, 2), (55, .iconst 3, 1)] 56 [(5, .ref (rd 0 k)), (0, .ref s), (1, .ref x), (2, .int z), (3, .int 0), (4, .int xk)] [.int 3, .ref (rd 0 k), .int 3, .ref q75, .ref q75] C (by decide +kernel) rfl ?_
        refine g_ialdM (pc := 56) (n := 7) 3 ((zT b T) k 3) C ((LX.rs hL91 hS).2.1.1 k hk8) rfl (by decide) (by decide) (cut_lt (by decide)) (by decide +kernel) ?_
        refine g_iastM (pc := 57) (n := 8) 3 (upd (upd (upd (upd (fun _ => 0) 0 ((zT b T) k 0)) 1 ((zT b T) k 1)) 2 ((zT b T) k 2)) 3 ((zT b T) k 3)) C (LX.g3 hL91 ha92) (rfl) (by decide) (by omega) (rfl) (by decide +kernel) ?_
        refine g_abs (P := fun G9 => ∃ G39 : GG, LX cy x b nt nf nc nn T E Cu N G2 G39 G9 ∧ G39 q75 = some (.inl (cy 0, 8, .inl (upd (upd (upd (upd (fun _ => 0) 0 ((zT b T) k 0)) 1 ((zT b T) k 1)) 2 ((zT b T) k 2)) 3 ((zT b T) k 3))))) ⟨_, LX.p3 hL91 ha92, g_up_self ..⟩ (fun G93 hg => ?_)
        obtain ⟨G394, hL95, ha96⟩ := hg
        refine g_seg [(58, .dup, 1), (59, .iconst 4, 1), (60, .aload 5, 2), (62, .iconst 4, 1)] 63 [(5, .ref (rd 0 k)), (0, .ref s), (1, .ref x), (2, .int z), (3, .int 0), (4, .int xk)] [.int 4, .ref (rd 0 k), .int 4, .ref q75, .ref q75] C (by decide +kernel) rfl ?_
        refine g_ialdM (pc := 63) (n := 7) 4 ((zT b T) k 4) C ((LX.rs hL95 hS).2.1.1 k hk8) rfl (by decide) (by decide) (cut_lt (by decide)) (by decide +kernel) ?_
        refine g_iastM (pc := 64) (n := 8) 4 (upd (upd (upd (upd (upd (fun _ => 0) 0 ((zT b T) k 0)) 1 ((zT b T) k 1)) 2 ((zT b T) k 2)) 3 ((zT b T) k 3)) 4 ((zT b T) k 4)) C (LX.g3 hL95 ha96) (rfl) (by decide) (by omega) (rfl) (by decide +kernel) ?_
        refine g_abs (P := fun G9 => ∃ G39 : GG, LX cy x b nt nf nc nn T E Cu N G2 G39 G9 ∧ G39 q75 = some (.inl (cy 0, 8, .inl (upd (upd (upd (upd (upd (fun _ => 0) 0 ((zT b T) k 0)) 1 ((zT b T) k 1)) 2 ((zT b T) k 2)) 3 ((zT b T) k 3)) 4 ((zT b T) k 4))))) ⟨_, LX.p3 hL95 ha96, g_up_self ..⟩ (fun G97 hg => ?_)
        obtain ⟨G398, hL99, ha100⟩ := hg
        refine g_seg [(65, .dup, 1), (66, .iconst 5, 1), (67, .aload 5, 2), (69, .iconst 5, 1)] 70 [(5, .ref (rd 0 k)), (0, .ref s), (1, .ref x), (2, .int z), (3, .int 0), (4, .int xk)] [.int 5, .ref (rd 0 k), .int 5, .ref q75, .ref q75] C (by decide +kernel) rfl ?_
        refine g_ialdM (pc := 70) (n := 7) 5 ((zT b T) k 5) C ((LX.rs hL99 hS).2.1.1 k hk8) rfl (by decide) (by decide) (cut_lt (by decide)) (by decide +kernel) ?_
        refine g_iastM (pc := 71) (n := 8) 5 (upd (upd (upd (upd (upd (upd (fun _ => 0) 0 ((zT b T) k 0)) 1 ((zT b T) k 1)) 2 ((zT b T) k 2)) 3 ((zT b T) k 3)) 4 ((zT b T) k 4)) 5 ((zT b T) k 5)) C (LX.g3 hL99 ha100) (rfl) (by decide) (by omega) (rfl) (by decide +kernel) ?_
        refine g_abs (P := fun G9 => ∃ G39 : GG, LX cy x b nt nf nc nn T E Cu N G2 G39 G9 ∧ G39 q75 = some (.inl (cy 0, 8, .inl (upd (upd (upd (upd (upd (upd (fun _ => 0) 0 ((zT b T) k 0)) 1 ((zT b T) k 1)) 2 ((zT b T) k 2)) 3 ((zT b T) k 3)) 4 ((zT b T) k 4)) 5 ((zT b T) k 5))))) ⟨_, LX.p3 hL99 ha100, g_up_self ..⟩ (fun G101 hg => ?_)
        obtain ⟨G3102, hL103, ha104⟩ := hg
        refine g_seg [(72, .dup, 1), (73, .bipush 6, 2), (75, .aload 5, 2), (77, .aload 5, 2), (79, .bipush 6, 2)] 81 [(5, .ref (rd 0 k)), (0, .ref s), (1, .ref x), (2, .int z), (3, .int 0), (4, .int xk)] [.int 6, .ref (rd 0 k), .ref (rd 0 k), .int 6, .ref q75, .ref q75] C (by decide +kernel) rfl ?_
        refine g_ialdM (pc := 81) (n := 7) 6 ((zT b T) k 6) C ((LX.rs hL103 hS).2.1.1 k hk8) rfl (by decide) (by decide) (cut_lt (by decide)) (by decide +kernel) ?_
        refine g_rL (pc := 82) C hL103 hS (hk8) hyS q355 ⟨⟨(Nat.le_of_ble_eq_true rfl), (Nat.le_of_ble_eq_true rfl)⟩, (by show ((0 + 9 * k) + 1) + 0 ≤ 204; omega), (by show ((0 + 56 * k) + 8) + 0 ≤ 1239; omega)⟩ (Nat.le_of_ble_eq_true rfl) (by decide +kernel) (fun G105 hL106 => ?_)
        refine g_iastM (pc := 85) (n := 8) 6 (upd (upd (upd (upd (upd (upd (upd (fun _ => 0) 0 ((zT b T) k 0)) 1 ((zT b T) k 1)) 2 ((zT b T) k 2)) 3 ((zT b T) k 3)) 4 ((zT b T) k 4)) 5 ((zT b T) k 5)) 6 (y_pl (zT b T) k)) C (LX.g3 hL106 ha104) (rfl) (by decide) (by omega) (rfl) (by decide +kernel) ?_
        refine g_abs (P := fun G9 => ∃ G39 : GG, LX cy x b nt nf nc nn T E Cu N G2 G39 G9 ∧ G39 q75 = some (.inl (cy 0, 8, .inl (upd (upd (upd (upd (upd (upd (upd (fun _ => 0) 0 ((zT b T) k 0)) 1 ((zT b T) k 1)) 2 ((zT b T) k 2)) 3 ((zT b T) k 3)) 4 ((zT b T) k 4)) 5 ((zT b T) k 5)) 6 (y_pl (zT b T) k))))) ⟨_, LX.p3 hL106 ha104, g_up_self ..⟩ (fun G107 hg => ?_)
        obtain ⟨G3108, hL109, ha110⟩ := hg
        refine g_seg [(86, .dup, 1), (87, .bipush 7, 2), (89, .aload_n 0, 1), (90, .iload 4, 2)] 92 [(5, .ref (rd 0 k)), (0, .ref s), (1, .ref x), (2, .int z), (3, .int 0), (4, .int xk)] [.int xk, .ref s, .int 7, .ref q75, .ref q75] C (by decide +kernel) rfl ?_
        refine g_rH (pc := 92) C hL109 hS q362 ⟨⟨(Nat.le_of_ble_eq_true rfl), (Nat.le_of_ble_eq_true rfl)⟩, (by show (((0 + 9 * k) + 1) + 0) + 0 ≤ 204; omega), (by show (((0 + 56 * k) + 8) + 0) + 0 ≤ 1239; omega)⟩ (Nat.le_of_ble_eq_true rfl) (by decide +kernel) (fun G111 hL112 => ?_)
        refine g_iastM (pc := 95) (n := 8) 7 (upd (upd (upd (upd (upd (upd (upd (upd (fun _ => 0) 0 ((zT b T) k 0)) 1 ((zT b T) k 1)) 2 ((zT b T) k 2)) 3 ((zT b T) k 3)) 4 ((zT b T) k 4)) 5 ((zT b T) k 5)) 6 (y_pl (zT b T) k)) 7 (nI (s_hangE (zF b E) nf xk))) C (LX.g3 hL112 ha110) (rfl) (by decide) (by omega) (rfl) (by decide +kernel) ?_
        refine g_abs (P := fun G9 => ∃ G39 : GG, LX cy x b nt nf nc nn T E Cu N G2 G39 G9 ∧ G39 q75 = some (.inl (cy 0, 8, .inl (upd (upd (upd (upd (upd (upd (upd (upd (fun _ => 0) 0 ((zT b T) k 0)) 1 ((zT b T) k 1)) 2 ((zT b T) k 2)) 3 ((zT b T) k 3)) 4 ((zT b T) k 4)) 5 ((zT b T) k 5)) 6 (y_pl (zT b T) k)) 7 (nI (s_hangE (zF b E) nf xk)))))) ⟨_, LX.p3 hL112 ha110, g_up_self ..⟩ (fun G113 hg => ?_)
        obtain ⟨G3114, hL115, ha116⟩ := hg
        have ha117c : (upd (upd (upd (upd (upd (upd (upd (upd (fun _ => 0) 0 ((zT b T) k 0)) 1 ((zT b T) k 1)) 2 ((zT b T) k 2)) 3 ((zT b T) k 3)) 4 ((zT b T) k 4)) 5 ((zT b T) k 5)) 6 (y_pl (zT b T) k)) 7 (nI (s_hangE (zF b E) nf xk))) = cut 8 (fun j => s_toldX T E nf b k (nI j)) := told8 (g := (fun j => s_toldX T E nf b k (nI j))) rfl rfl rfl rfl rfl (z5 (hb5 k hk8)) rfl (by rw [hx]; rfl)
        have ha117 : G3114 q75 = some (.inl (cy 0, 8, .inl (cut 8 (fun j => s_toldX T E nf b k (nI j))))) := by rw [← ha117c]; exact ha116
        refine g_seg [(96, .astore 6, 2), (98, .iconst 0, 1), (99, .istore 7, 2)] 101 [(7, .int 0), (6, .ref q75), (5, .ref (rd 0 k)), (0, .ref s), (1, .ref x), (2, .int z), (3, .int 0), (4, .int xk)] [] C (by decide +kernel) rfl ?_
        refine g_widen (k := (((((0 + 9 * k) + 1) + 0) + 0) + 1 * 0)) (n := (((((0 + 56 * k) + 8) + 0) + 0) + 6 * 0)) (by show ((((0 + 9 * k) + 1) + 0) + 0) ≤ (((((0 + 9 * k) + 1) + 0) + 0) + 1 * 0); omega) (by show ((((0 + 56 * k) + 8) + 0) + 0) ≤ (((((0 + 56 * k) + 8) + 0) + 0) + 6 * 0); omega) ?_
        refine g_subp [3, 4, 5, 6, 7, 2, 1, 0] (lv' := [(0, .ref s), (1, .ref x), (2, .int z), (3, .int 0), (4, .int xk), (5, .ref (rd 0 k)), (6, .ref q75), (7, .int 0)]) rfl ?_
        have lp118 : ∀ (m2 k2 : Nat) (G12 : GG) (x2 : Int32), 8 + 1 ≤ k2 + m2 → k2 ≤ 8 → x2 = nI k2 → LX cy x b nt nf nc nn T E Cu N G2 G3114 G12 → PG κ 8 (((((0 + 9 * k) + 1) + 0) + 0) + 1 * k2) (((((0 + 56 * k) + 8) + 0) + 0) + 6 * k2) G12 [(0, .ref s), (1, .ref x), (2, .int z), (3, .int 0), (4, .int xk), (5, .ref (rd 0 k)), (6, .ref q75), (7, .int x2)] 101 [] := by
          intro m2
          induction m2 with
          | zero => intro k2 G12 x2 h1 h2; intros; exact absurd h1 (by omega)
          | succ m2 ih2 =>
            intro k2 G12 x2 hm2 hk2 hx2 hL12
            refine g_seg [(101, .iload 7, 2), (103, .bipush 8, 2)] 105 [(0, .ref s), (1, .ref x), (2, .int z), (3, .int 0), (4, .int xk), (5, .ref (rd 0 k)), (6, .ref q75), (7, .int x2)] [.int 8, .int x2] C (by decide +kernel) rfl ?_
            refine g_icmp_ge (pc := 105) (off := 27) 132 C (by decide +kernel) (by decide) (fun c119 => ?_) (fun c119 => ?_)
            · have hl8 : k2 = 8 := by have := lp_ge (n := 8) hx2 (by omega) (by omega) c119; omega
              refine g_seg [(132, .iload_n 2, 1), (133, .aload 5, 2), (135, .iconst 5, 1)] 136 [(0, .ref s), (1, .ref x), (2, .int z), (3, .int 0), (4, .int xk), (5, .ref (rd 0 k)), (6, .ref q75), (7, .int x2)] [.int 5, .ref (rd 0 k), .int z] C (by decide +kernel) rfl ?_
              refine g_ialdM (pc := 136) (n := 7) 5 ((zT b T) k 5) C ((LX.rs hL12 hS).2.1.1 k hk8) rfl (by decide) (by decide) (cut_lt (by decide)) (by decide +kernel) ?_
              refine g_seg [(137, .iadd, 1), (138, .istore_n 2, 1), (139, .iinc 4 1, 3), (142, .goto (-135), 3)] 7 [(4, .int (xk + 1)), (2, .int (z + ((zT b T) k 5))), (0, .ref s), (1, .ref x), (3, .int 0), (5, .ref (rd 0 k)), (6, .ref q75), (7, .int x2)] [] C (by decide +kernel) rfl ?_
              refine g_subp [2, 3, 1, 4, 0] (lv' := [(0, .ref s), (1, .ref x), (2, .int (z + ((zT b T) k 5))), (3, .int 0), (4, .int (xk + 1))]) rfl ?_
              refine g_widen (k := (0 + 9 * (k + 1))) (n := (0 + 56 * (k + 1))) (by show (((((0 + 9 * k) + 1) + 0) + 0) + 1 * k2) ≤ (0 + 9 * (k + 1)); omega) (by show (((((0 + 56 * k) + 8) + 0) + 0) + 6 * k2) ≤ (0 + 56 * (k + 1)); omega) ?_
              exact ih (k + 1) G12 (z + ((zT b T) k 5)) (xk + 1) (by omega) (by omega) (lp_s hx) (cnt_5 hs (hb5 k hk8)) ((LX.x3 hL12))
            · have hl8 : k2 < 8 := lp_lt (n := 8) hx2 (by omega) (by omega) c119
              refine g_seg [(108, .aload_n 1, 1), (109, .iload 4, 2), (111, .iload 7, 2)] 113 [(0, .ref s), (1, .ref x), (2, .int z), (3, .int 0), (4, .int xk), (5, .ref (rd 0 k)), (6, .ref q75), (7, .int x2)] [.int x2, .int xk, .ref x] C (by decide +kernel) rfl ?_
              refine g_rT (pc := 113) C X hL12 hwok (hx) (hk8) (wb (m := 7) (hx2) (by omega) (by omega)) q378 ⟨⟨(Nat.le_of_ble_eq_true rfl), (Nat.le_of_ble_eq_true rfl)⟩, (by show (((((0 + 9 * k) + 1) + 0) + 0) + 1 * k2) + 1 ≤ 204; omega), (by show (((((0 + 56 * k) + 8) + 0) + 0) + 6 * k2) + 6 ≤ 1239; omega)⟩ (Nat.le_of_ble_eq_true rfl) (by decide +kernel) (fun G120 hL121 => ?_)
              refine g_seg [(116, .aload 6, 2), (118, .iload 7, 2)] 120 [(0, .ref s), (1, .ref x), (2, .int z), (3, .int 0), (4, .int xk), (5, .ref (rd 0 k)), (6, .ref q75), (7, .int x2)] [.int x2, .ref q75, .int (s_toldX T E nf b k x2)] C (by decide +kernel) rfl ?_
              refine g_ialdM (pc := 120) (n := 8) k2 (s_toldX T E nf b k x2) C (LX.g3 hL121 ha117) (hx2) (hl8) (by omega) (by rw [cut_lt hl8, hx2]) (by decide +kernel) ?_
              refine g_icmp_eq (pc := 121) (off := 5) 126 C (by decide +kernel) (by decide) (fun _ => ?_) (fun c9 => absurd (rfl) c9)
              refine g_seg [(126, .iinc 7 1, 3), (129, .goto (-28), 3)] 101 [(7, .int (x2 + 1)), (0, .ref s), (1, .ref x), (2, .int z), (3, .int 0), (4, .int xk), (5, .ref (rd 0 k)), (6, .ref q75)] [] C (by decide +kernel) rfl ?_
              refine g_subp [1, 2, 3, 4, 5, 6, 7, 0] (lv' := [(0, .ref s), (1, .ref x), (2, .int z), (3, .int 0), (4, .int xk), (5, .ref (rd 0 k)), (6, .ref q75), (7, .int (x2 + 1))]) rfl ?_
              refine g_widen (k := (((((0 + 9 * k) + 1) + 0) + 0) + 1 * (k2 + 1))) (n := (((((0 + 56 * k) + 8) + 0) + 0) + 6 * (k2 + 1))) (by show ((((((0 + 9 * k) + 1) + 0) + 0) + 1 * k2) + 1) ≤ (((((0 + 9 * k) + 1) + 0) + 0) + 1 * (k2 + 1)); omega) (by show ((((((0 + 56 * k) + 8) + 0) + 0) + 6 * k2) + 6) ≤ (((((0 + 56 * k) + 8) + 0) + 0) + 6 * (k2 + 1)); omega) ?_
              exact ih2 (k2 + 1) G120 (x2 + 1) (by omega) (by omega) (lp_s hx2) (hL121)
        exact lp118 (8 + 1) 0 G113 0 (by omega) (by omega) (nI_0.symm) (hL115)
  exact lp1 (nt + 1) 0 G 0 0 (by omega) (by omega) (nI_0.symm) (rfl) (hL0)
end
section
/-! what always holds, between two turns -/
def s_bd (v : Int32) : Prop := -1000 ≤ v ∧ v ≤ 1000
def vT (bn nf : Nat) (T E : Rw) (t : Nat) : Prop := (∃ w, w ≤ 10 ∧ T t 2 = nI w) ∧ (∃ d, d ≤ bn ∧ nI bn - T t 6 = nI d) ∧ (∃ m, m ≤ 99 ∧ T t 0 = nI m) ∧ (∃ w, w ≤ 20 ∧ T t 1 = nI w) ∧ (∃ s z, s ≤ 99 ∧ z ≤ 101 ∧ T t 3 = nI s ∧ T t 4 = nI z ∧ ((T t 5 = 1 ∧ z ≤ s) ∨ (T t 5 = 0 ∧ s < z ∧ s_hangE E nf (nI t) = 0))) ∧ s_hangE E nf (nI t) ≤ 2
def vF (bn nt : Nat) (E : Rw) (f : Nat) : Prop := (E f 0 = 0 ∨ E f 0 = 1 ∨ E f 0 = 2 ∨ E f 0 = 3 ∨ E f 0 = 4) ∧ (E f 0 = 1 → ∃ t, t < nt ∧ E f 1 = nI t) ∧ (E f 0 ≠ 1 → E f 1 = -1) ∧ (E f 0 = 2 → (∃ d, d ≤ 6 ∧ E f 3 = nI (bn + d)) ∧ s_bd (E f 2)) ∧ (∃ c, c ≤ bn ∧ E f 4 = nI c)
def vC (bn nf : Nat) (C : Rw) (k : Nat) : Prop := (∃ f, f < nf ∧ C k 1 = nI f) ∧ (∃ c, c ≤ 100 ∧ C k 0 = nI c ∧ ((bn ≤ c ∧ C k 4 = 0) ∨ (c < bn ∧ (C k 4 = 1 ∨ C k 4 = 2)))) ∧ (∃ d, 1 ≤ d ∧ d ≤ 6 ∧ C k 3 = nI d) ∧ (-20 ≤ C k 2 ∧ C k 2 ≤ 20)
def vI (bn nt nf nc : Nat) (T E C : Rw) : Prop := (∀ t, t < nt → vT bn nf T E t) ∧ (∀ f, f < nf → vF bn nt E f) ∧ ∀ k, k < nc → vC bn nf C k
section VI
variable {bn nt nf nc : Nat} {T E C : Rw}
theorem vI.wok (h : vI bn nt nf nc T E C) : s_wok T nt := fun t ht => (h.1 t ht).1
theorem vI.b5 (h : vI bn nt nf nc T E C) : ∀ t, t < nt → T t 5 = 0 ∨ T t 5 = 1 := fun t ht => by
  obtain ⟨-, -, -, -, ⟨s, z, -, -, -, -, h1 | h1⟩, -⟩ := h.1 t ht
  · exact Or.inr h1.1
  · exact Or.inl h1.1
theorem vI.wS (h : vI bn nt nf nc T E C) (hb : bn ≤ 1000) : y_wS nt (zT (nI bn) T) := fun t ht => by
  obtain ⟨⟨w, hw, e⟩, ⟨d, hd, e2⟩, -⟩ := h.1 t ht
  exact ⟨⟨w, hw, e⟩, d, by omega, e2⟩
theorem vI.wF (h : vI bn nt nf nc T E C) {b : Int32} : y_wF nt nf (zF b E) := fun f hf h1 => (h.2.1 f hf).2.1 h1
theorem vI.wC (h : vI bn nt nf nc T E C) : y_wC nf nc C := fun k hk => (h.2.2 k hk).1
/-- nobody hangs where there is no trapeze yet -/
theorem hang_new (h : ∀ f, f < nf → vF bn nt E f) (hn : nt < 1000) : s_hangE E nf (nI nt) = 0 := by
  unfold s_hangE
  have e : ∀ n, n ≤ nf → cnt (fun f => decide (E f 0 = 1 ∧ E f 1 = nI nt)) n = 0 := by
    intro n
    induction n with
    | zero => intro _; rfl
    | succ n ih =>
      intro hn2
      simp only [cnt]
      rw [ih (by omega), if_neg]
      rw [decide_eq_true_eq]
      rintro ⟨h0, h1⟩
      obtain ⟨t, ht, e⟩ := (h n (by omega)).2.1 h0
      have := (nI_eq (a := nt) (b := t) (by omega) (by omega)).mp (h1.symm.trans e)
      omega
  exact e nf (Nat.le_refl _)
theorem hangE_congr {E E' : Rw} {v : Int32} (h : ∀ f, f < nf → (E' f 0 = 1 ∧ E' f 1 = v ↔ E f 0 = 1 ∧ E f 1 = v)) : s_hangE E' nf v = s_hangE E nf v := cnt_congr (fun f hf => by rw [decide_eq_decide]; exact h f hf)
theorem add_at {T : Rw} {n : Nat} {r : Nat → Int32} : s_add T n r n = r := if_pos rfl
theorem add_ne {T : Rw} {n i : Nat} {r : Nat → Int32} (h : i ≠ n) : s_add T n r i = T i := if_neg h
theorem lt_101 {a : Int32} {n m : Nat} (h : 0 ≤ a) (h2 : a ≤ nI n) (hn : n < 1000) : ∃ k, k ≤ n ∧ a = nI k := by
  obtain ⟨j, hj, rfl⟩ := nI_of (x := a) (Int32.not_lt.mpr h)
  exact ⟨j, (nI_leI hj (by omega)).mp h2, rfl⟩
theorem vI.rig {mid wid wt sg : Nat} (h : vI bn nt nf nc T E C) (hn : nt < 6) (h1 : mid ≤ 99) (h2 : wid ≤ 20) (h3 : wt ≤ 10) (h4 : sg ≤ 99) : vI bn (nt + 1) nf nc (s_add T nt (rowT (nI mid) (nI wid) (nI wt) (nI sg) (nI bn))) E C := by
  refine ⟨fun t ht => ?_, fun f hf => ?_, h.2.2⟩
  · by_cases e : t = nt
    · subst e
      have h0 := hang_new (fun f hf => h.2.1 f hf) (nt := t) (by omega)
      unfold vT
      rw [add_at, h0]
      refine ⟨⟨wt, h3, rfl⟩, ⟨0, by omega, ?_⟩, ⟨mid, h1, rfl⟩, ⟨wid, h2, rfl⟩, ⟨sg, 0, h4, by omega, rfl, rfl, Or.inl ⟨rfl, by omega⟩⟩, by omega⟩
      show nI bn - nI bn = nI 0
      rw [Int32.sub_self]; rfl
    · unfold vT
      rw [add_ne e]
      exact h.1 t (by omega)
  · obtain ⟨a, b, c, d⟩ := h.2.1 f hf
    exact ⟨a, fun h0 => by obtain ⟨t, ht, e⟩ := b h0; exact ⟨t, by omega, e⟩, c, d⟩
theorem vI.weigh {i p : Nat} (h : vI bn nt nf nc T E C) (hi : i < nt) (hp : p ≤ 10) : vI bn nt nf nc (s_set (s_set T i 2 (nI p)) i 6 (nI bn)) E C := by
  refine ⟨fun t ht => ?_, h.2⟩
  by_cases e : t = i
  · subst e
    obtain ⟨-, -, a3, a4, ⟨s, z, b1, b2, b3⟩, a6⟩ := h.1 t hi
    unfold vT
    simp only [s_set]
    simp
    exact ⟨⟨p, hp, rfl⟩, ⟨0, by omega, rfl⟩, a3, a4, ⟨s, b1, z, b2, b3⟩, a6⟩
  · unfold vT
    rw [s_set_ne e, s_set_ne e]
    exact h.1 t ht
theorem vI.mend {i : Nat} (h : vI bn nt nf nc T E C) (hi : i < nt) : vI bn nt nf nc (s_set (s_set T i 4 0) i 5 1) E C := by
  refine ⟨fun t ht => ?_, h.2⟩
  by_cases e : t = i
  · subst e
    obtain ⟨a1, a2, a3, a4, ⟨s, z, b1, b2, b3, b4, b5⟩, a6⟩ := h.1 t hi
    unfold vT
    simp only [s_set]
    simp
    exact ⟨a1, a2, a3, a4, ⟨s, b1, 0, by omega, b3, rfl, by omega⟩, a6⟩
  · unfold vT
    rw [s_set_ne e, s_set_ne e]
    exact h.1 t ht
theorem hang_add {r : Nat → Int32} {v : Int32} (h : ¬ r 0 = 1) : s_hangE (s_add E nf r) (nf + 1) v = s_hangE E nf v := by
  unfold s_hangE
  simp only [cnt]
  rw [if_neg (by rw [add_at]; simp [h])]
  exact cnt_congr (fun f hf => by rw [add_ne (by omega)])
theorem vI.join (h : vI bn nt nf nc T E C) (hn : nf < 8) : vI bn nt (nf + 1) nc T (s_add E nf rowF) C := by
  refine ⟨fun t ht => ?_, fun f hf => ?_, fun k hk => ?_⟩
  · have := h.1 t ht
    unfold vT at this ⊢
    rw [hang_add (by decide)]
    exact this
  · by_cases e : f = nf
    · subst e
      unfold vF
      rw [add_at]
      exact ⟨Or.inl rfl, fun h0 => absurd h0 (by decide), fun _ => rfl, fun h0 => absurd h0 (by decide), 0, by omega, rfl⟩
    · unfold vF
      rw [add_ne e]
      exact h.2.1 f (by omega)
  · obtain ⟨⟨f, hf, e⟩, b⟩ := h.2.2 k hk
    exact ⟨⟨f, by omega, e⟩, b⟩
theorem cnt_one {p q : Nat → Bool} {n i : Nat} (hi : i < n) (h1 : p i = false) (h2 : q i = true) (ho : ∀ j, j < n → j ≠ i → q j = p j) : cnt q n = cnt p n + 1 := by
  induction n with
  | zero => omega
  | succ n ih =>
    simp only [cnt]
    by_cases e : i = n
    · subst e
      rw [cnt_congr (p := q) (q := p) (fun j hj => ho j (by omega) (by omega)), h1, h2]
      simp
    · rw [ih (by omega) (fun j hj => ho j (by omega)), ho n (by omega) (fun q => e q.symm)]
      omega
theorem st_at {E : Rw} {f : Nat} {a n : Int32} : x_st E f a n f 0 = a ∧ x_st E f a n f 1 = n ∧ x_st E f a n f 2 = E f 2 ∧ x_st E f a n f 3 = E f 3 ∧ x_st E f a n f 4 = E f 4 := by
  simp [x_st]
theorem st_ne {E : Rw} {f g : Nat} {a n : Int32} (h : g ≠ f) : x_st E f a n g = E g := by
  funext k
  simp [x_st, h]
theorem hang_mount {i j : Nat} (hi : i < nf) (hj : j < 1000) (h0 : ¬ E i 0 = 1) : s_hangE (x_st E i 1 (nI j)) nf (nI j) = s_hangE E nf (nI j) + 1 :=
  cnt_one hi (by simp [h0]) (by simp [x_st]) (fun g _ hg => by rw [st_ne hg])
theorem hang_mount2 {i j t : Nat} (hj : j < 1000) (ht : t < 1000) (hne : t ≠ j) (h0 : ¬ E i 0 = 1) : s_hangE (x_st E i 1 (nI j)) nf (nI t) = s_hangE E nf (nI t) := by
  refine hangE_congr (fun f hf => ?_)
  by_cases e : f = i
  · subst e
    obtain ⟨e0, e1, -⟩ := st_at (E := E) (f := f) (a := 1) (n := nI j)
    rw [e0, e1]
    constructor
    · rintro ⟨-, h1⟩
      exact absurd ((nI_eq (by omega) (by omega)).mp h1).symm hne
    · rintro ⟨h1, -⟩
      exact absurd h1 h0
  · rw [st_ne e]
theorem vI.mount {i j : Nat} (h : vI bn nt nf nc T E C) (hi : i < nf) (hj : j < nt) (hn : nt ≤ 6) (h0 : E i 0 = 0 ∨ E i 0 = 3) (h5 : ¬ T j 5 = 0) (h2 : s_hangE E nf (nI j) < 2) : vI bn nt nf nc T (x_st E i 1 (nI j)) C := by
  have hne : ¬ E i 0 = 1 := by rcases h0 with e | e <;> rw [e] <;> decide
  refine ⟨fun t ht => ?_, fun f hf => ?_, h.2.2⟩
  · have ht2 := h.1 t ht
    by_cases e : t = j
    · subst e
      unfold vT at ht2 ⊢
      rw [hang_mount hi (by omega) hne]
      obtain ⟨a1, a2, a3, a4, ⟨s, z, b1, b2, b3, b4, b5⟩, a6⟩ := ht2
      refine ⟨a1, a2, a3, a4, ⟨s, z, b1, b2, b3, b4, ?_⟩, by omega⟩
      rcases b5 with b5 | b5
      · exact Or.inl b5
      · exact absurd b5.1 h5
    · unfold vT at ht2 ⊢
      rw [hang_mount2 (by omega) (by omega) e hne]
      exact ht2
  · by_cases e : f = i
    · subst e
      obtain ⟨e0, e1, e2, e3, e4⟩ := st_at (E := E) (f := f) (a := 1) (n := nI j)
      unfold vF
      rw [e0, e1, e2, e3, e4]
      exact ⟨Or.inr (Or.inl rfl), fun _ => ⟨j, hj, rfl⟩, fun q => absurd rfl q, fun q => absurd q (by decide), (h.2.1 f hf).2.2.2.2⟩
    · unfold vF
      rw [st_ne e]
      exact h.2.1 f hf
theorem vI.cue {c f tm : Nat} {r : Int32} (h : vI bn nt nf nc T E C) (hn : nc < 20) (hc : c ≤ 100) (hb : bn ≤ c) (hf : f < nf) (ht : 1 ≤ tm ∧ tm ≤ 6) (hr : -20 ≤ r ∧ r ≤ 20) : vI bn nt nf (nc + 1) T E (s_add C nc (rowC (nI c) (nI f) r (nI tm))) := by
  refine ⟨h.1, h.2.1, fun k hk => ?_⟩
  by_cases e : k = nc
  · subst e
    unfold vC
    rw [add_at]
    exact ⟨⟨f, hf, rfl⟩, ⟨c, hc, rfl, Or.inl ⟨hb, rfl⟩⟩, ⟨tm, ht.1, ht.2, rfl⟩, hr⟩
  · unfold vC
    rw [add_ne e]
    exact h.2.2 k (by omega)
/-! Sim's words beside -/
def rowS (mid wid wt sg : Int32) : Nat → Int32 := fun k => match k with | 0 => mid | 1 => wid | 2 => wt | 3 => sg | 4 => 0 | 5 => 1 | _ => 0
def rowG : Nat → Int32 := fun k => match k with | 1 => -1 | 3 => -1 | _ => 0
theorem z_rig {b mid wid wt sg : Int32} {n : Nat} : ∀ i k, k < 7 → zT b (s_add T n (rowT mid wid wt sg b)) i k = s_add (zT b T) n (rowS mid wid wt sg) i k := by
  intro i k hk
  by_cases e : i = n
  · subst e
    rw [add_at]
    unfold zT
    rw [add_at]
    rcases (show k = 0 ∨ k = 1 ∨ k = 2 ∨ k = 3 ∨ k = 4 ∨ k = 5 ∨ k = 6 by omega) with rfl | rfl | rfl | rfl | rfl | rfl | rfl <;> first | rfl | exact Int32.sub_self _
  · rw [add_ne e]
    unfold zT
    rw [add_ne e]
theorem z_weigh {b p : Int32} {j : Nat} : ∀ i k, zT b (s_set (s_set T j 2 p) j 6 b) i k = s_set (s_set (zT b T) j 2 p) j 6 0 i k := by
  intro i k
  by_cases e : i = j
  · subst e
    unfold zT s_set
    by_cases h6 : k = 6
    · subst h6; simp
    · by_cases h2 : k = 2
      · subst h2; simp
      · simp [h6, h2]
  · rw [s_set_ne e, s_set_ne e]
    unfold zT
    rw [s_set_ne e, s_set_ne e]
theorem z_mend {b : Int32} {j : Nat} : ∀ i k, zT b (s_set (s_set T j 4 0) j 5 1) i k = s_set (s_set (zT b T) j 4 0) j 5 1 i k := by
  intro i k
  by_cases e : i = j
  · subst e
    unfold zT s_set
    by_cases h6 : k = 6
    · subst h6; simp
    · simp [h6]
  · rw [s_set_ne e, s_set_ne e]
    unfold zT
    rw [s_set_ne e, s_set_ne e]
theorem z_join {b : Int32} {n : Nat} : ∀ i k, k < 5 → zF b (s_add E n rowF) i k = s_add (zF b E) n rowG i k := by
  intro i k hk
  by_cases e : i = n
  · subst e
    rw [add_at]
    unfold zF
    rw [add_at]
    rcases (show k = 0 ∨ k = 1 ∨ k = 2 ∨ k = 3 ∨ k = 4 by omega) with rfl | rfl | rfl | rfl | rfl <;> first | rfl | (simp [rowF, rowG])
  · rw [add_ne e]
    unfold zF
    rw [add_ne e]
theorem z_mount {b : Int32} {f : Nat} {v : Int32} : ∀ i k, k < 5 → zF b (x_st E f 1 v) i k = s_row (zF b E) f 1 v 0 (-1) i k := by
  intro i k hk
  by_cases e : i = f
  · subst e
    unfold zF s_row
    rcases (show k = 0 ∨ k = 1 ∨ k = 2 ∨ k = 3 ∨ k = 4 by omega) with rfl | rfl | rfl | rfl | rfl <;> simp [x_st]
  · unfold s_row
    rw [if_neg e]
    unfold zF
    rw [st_ne e]
end VI
end
section
section PGU
variable {κ : Kx} {l0 : Launch} {D0 : va_G} {cy0 : Nat → ClassId} {y : MethodName} {nL ce sl index : Nat} {cc : ByteArray} {rm : Room} {ret : Option FieldType} {G G2 G3 : GG} {lv : LV} {pc : Nat} {rest : List Value} {x s : Nat} {b : Int32} {nt nf nc nn : Nat} {T E Cu N : Rw} {i j : Nat}
theorem g_wrig {mid wid wt sg : Int32} (C : g_OK κ l0 D0 cy0 y nL cc rm ret) (hX : g_XX κ) (h : LX cy0 x b nt nf nc nn T E Cu N G2 G3 G) (hok : okR mid wid wt sg) (hn : nt < 6) (hlink : Cond.methodLink y.cls index yX4_rig ∈ lw_T) (hr : g_room rm kX4_rig 6 ce sl) (hcat : (rest.map fun v => v.category).sum ≤ 8) (hd : decode cc pc = .ok (.invokevirtual index, 3)) (kk : ∀ G', LX cy0 x b (nt + 1) nf nc nn (s_add T nt (rowT mid wid wt sg b)) E Cu N G2 G3 G' → PG κ nL (ce + kX4_rig.cells) (sl + kX4_rig.slots) G' lv (pc + 3) (.int (nI nt) :: rest)) : PG κ nL ce sl G lv pc (.int sg :: .int wt :: .int wid :: .int mid :: .ref x :: rest) := by
  obtain ⟨G1, ad, KT, KF, KC, hR, hW⟩ := h
  have hb := hR.2.2.2
  refine g_callVN C hX mV_X4_rig hlink (hW.1.1 x _ hR.1.1) rfl rfl (CtrN.frame (CtrX.no (c_X4_rig l0 D0 cy0 hR mid wid wt sg) (fun E9 G9 h9 => ?_)) hW.1.1) rfl hr rfl hcat hd ?_
  · obtain ⟨-, ⟨-, h9⟩ | ⟨-, -, h9⟩⟩ := h9; exact h9 hok; exact h9 hn
  · rintro r G' ⟨G1', ⟨v, rfl, -, -, rfl, ad', hR'⟩, hf⟩
    exact kk G' ⟨G1', ad', _, KF, KC, hR', hW.c1 hf⟩
theorem g_wweigh {p0 : Int32} (C : g_OK κ l0 D0 cy0 y nL cc rm ret) (hX : g_XX κ) (h : LX cy0 x b nt nf nc nn T E Cu N G2 G3 G) (hi : i < nt) (hp : 0 ≤ p0 ∧ p0 ≤ 10) (h5 : ¬ T i 5 = 0) (hlink : Cond.methodLink y.cls index yX4_weigh ∈ lw_T) (hr : g_room rm kX4_weigh 5 ce sl) (hcat : (rest.map fun v => v.category).sum ≤ 8) (hd : decode cc pc = .ok (.invokevirtual index, 3)) (kk : ∀ G', LX cy0 x b nt nf nc nn (s_set (s_set T i 2 p0) i 6 b) E Cu N G2 G3 G' → PG κ nL (ce + kX4_weigh.cells) (sl + kX4_weigh.slots) G' lv (pc + 3) (.int (T i 2) :: rest)) : PG κ nL ce sl G lv pc (.int p0 :: .int (nI i) :: .ref x :: rest) := by
  obtain ⟨G1, ad, KT, KF, KC, hR, hW⟩ := h
  have hb := hR.2.2.2
  refine g_callVN C hX mV_X4_weigh hlink (hW.1.1 x _ hR.1.1) rfl rfl (CtrN.frame (CtrX.no (c_X4_weigh l0 D0 cy0 hR (nI i) p0) (fun E9 G9 h9 => ?_)) hW.1.1) rfl hr rfl hcat hd ?_
  · obtain ⟨-, ⟨-, h9⟩ | ⟨-, -, h9⟩ | ⟨-, i', hi', ht', -, h9⟩⟩ := h9
    · exact h9 i hi rfl
    · exact h9 hp
    · have e9 : i' = i := (nI_eq (by omega) (by omega)).mp ht'.symm
      subst e9
      exact h5 h9
  · rintro r G' ⟨G1', ⟨v, rfl, i', hi', ht', -, -, rfl, hR'⟩, hf⟩
    have e9 : i' = i := (nI_eq (by omega) (by omega)).mp ht'.symm
    subst e9
    exact kk G' ⟨G1', ad, KT, KF, KC, hR', hW.c1 hf⟩
theorem g_wmend (C : g_OK κ l0 D0 cy0 y nL cc rm ret) (hX : g_XX κ) (h : LX cy0 x b nt nf nc nn T E Cu N G2 G3 G) (hi : i < nt) (hlink : Cond.methodLink y.cls index yX4_mend ∈ lw_T) (hr : g_room rm kX4_mend 4 ce sl) (hcat : (rest.map fun v => v.category).sum ≤ 8) (hd : decode cc pc = .ok (.invokevirtual index, 3)) (kk : ∀ G', LX cy0 x b nt nf nc nn (s_set (s_set T i 4 0) i 5 1) E Cu N G2 G3 G' → PG κ nL (ce + kX4_mend.cells) (sl + kX4_mend.slots) G' lv (pc + 3) (.int (T i 4) :: rest)) : PG κ nL ce sl G lv pc (.int (nI i) :: .ref x :: rest) := by
  obtain ⟨G1, ad, KT, KF, KC, hR, hW⟩ := h
  have hb := hR.2.2.2
  refine g_callVN C hX mV_X4_mend hlink (hW.1.1 x _ hR.1.1) rfl rfl (CtrN.frame (CtrX.no (c_X4_mend l0 D0 cy0 hR (nI i)) (fun E9 G9 h9 => ?_)) hW.1.1) rfl hr rfl hcat hd ?_
  · exact h9.2.2 i hi rfl
  · rintro r G' ⟨G1', ⟨v, rfl, i', hi', ht', rfl, hR'⟩, hf⟩
    have e9 : i' = i := (nI_eq (by omega) (by omega)).mp ht'.symm
    subst e9
    exact kk G' ⟨G1', ad, KT, KF, KC, hR', hW.c1 hf⟩
theorem g_wjoin (C : g_OK κ l0 D0 cy0 y nL cc rm ret) (hX : g_XX κ) (h : LX cy0 x b nt nf nc nn T E Cu N G2 G3 G) (hn : nf < 8) (hlink : Cond.methodLink y.cls index yX4_join ∈ lw_T) (hr : g_room rm kX4_join 2 ce sl) (hcat : (rest.map fun v => v.category).sum ≤ 8) (hd : decode cc pc = .ok (.invokevirtual index, 3)) (kk : ∀ G', LX cy0 x b nt (nf + 1) nc nn T (s_add E nf rowF) Cu N G2 G3 G' → PG κ nL (ce + kX4_join.cells) (sl + kX4_join.slots) G' lv (pc + 3) (.int (nI nf) :: rest)) : PG κ nL ce sl G lv pc (.ref x :: rest) := by
  obtain ⟨G1, ad, KT, KF, KC, hR, hW⟩ := h
  have hb := hR.2.2.2
  refine g_callVN C hX mV_X4_join hlink (hW.1.1 x _ hR.1.1) rfl rfl (CtrN.frame (CtrX.no (c_X4_join l0 D0 cy0 hR) (fun E9 G9 h9 => ?_)) hW.1.1) rfl hr rfl hcat hd ?_
  · exact h9.2.2 hn
  · rintro r G' ⟨G1', ⟨v, rfl, -, rfl, ad', hR'⟩, hf⟩
    exact kk G' ⟨G1', ad', KT, _, KC, hR', hW.c1 hf⟩
theorem g_wspread {p0 p1 : Int32} (C : g_OK κ l0 D0 cy0 y nL cc rm ret) (hX : g_XX κ) (h : LX cy0 x b nt nf nc nn T E Cu N G2 G3 G) (hok : okN p0 p1) (hn : nn < 3) (hlink : Cond.methodLink y.cls index yX4_spread ∈ lw_T) (hr : g_room rm kX4_spread 4 ce sl) (hcat : (rest.map fun v => v.category).sum ≤ 8) (hd : decode cc pc = .ok (.invokevirtual index, 3)) (kk : ∀ G', LX cy0 x b nt nf nc (nn + 1) T E Cu (s_add N nn (rowN p0 p1)) G2 G3 G' → PG κ nL (ce + kX4_spread.cells) (sl + kX4_spread.slots) G' lv (pc + 3) (.int (nI (nn + 1)) :: rest)) : PG κ nL ce sl G lv pc (.int p1 :: .int p0 :: .ref x :: rest) := by
  obtain ⟨G1, ad, KT, KF, KC, hR, hW⟩ := h
  have hb := hR.2.2.2
  refine g_callVN C hX mV_X4_spread hlink (hW.1.1 x _ hR.1.1) rfl rfl (CtrN.frame (CtrX.no (c_X4_spread l0 D0 cy0 hR p0 p1) (fun E9 G9 h9 => ?_)) hW.1.1) rfl hr rfl hcat hd ?_
  · obtain ⟨-, ⟨-, h9⟩ | ⟨-, -, h9⟩⟩ := h9; exact h9 hok; exact h9 hn
  · rintro r G' ⟨G1', ⟨v, rfl, -, -, rfl, ad', hR'⟩, hf⟩
    exact kk G' ⟨G1', ad', KT, KF, KC, hR', hW.c1 hf⟩
theorem g_wcue {bt r tm : Int32} (C : g_OK κ l0 D0 cy0 y nL cc rm ret) (hX : g_XX κ) (h : LX cy0 x b nt nf nc nn T E Cu N G2 G3 G) (hi : i < nf) (hok : okC bt r tm) (h1 : ¬ bt < b) (h2 : ¬ bt < 0) (hn : nc < 20) (hlink : Cond.methodLink y.cls index yX4_cue ∈ lw_T) (hr : g_room rm kX4_cue 6 ce sl) (hcat : (rest.map fun v => v.category).sum ≤ 8) (hd : decode cc pc = .ok (.invokevirtual index, 3)) (kk : ∀ G', LX cy0 x b nt nf (nc + 1) nn T E (s_add Cu nc (rowC bt (nI i) r tm)) N G2 G3 G' → PG κ nL (ce + kX4_cue.cells) (sl + kX4_cue.slots) G' lv (pc + 3) (.int (nI nc) :: rest)) : PG κ nL ce sl G lv pc (.int tm :: .int r :: .int (nI i) :: .int bt :: .ref x :: rest) := by
  obtain ⟨G1, ad, KT, KF, KC, hR, hW⟩ := h
  have hb := hR.2.2.2
  refine g_callVN C hX mV_X4_cue hlink (hW.1.1 x _ hR.1.1) rfl rfl (CtrN.frame (CtrX.no (c_X4_cue l0 D0 cy0 hR bt (nI i) r tm) (fun E9 G9 h9 => ?_)) hW.1.1) rfl hr rfl hcat hd ?_
  · obtain ⟨-, ⟨-, h9⟩ | ⟨-, -, h9⟩ | ⟨-, -, -, h9 | h9 | h9⟩⟩ := h9
    · exact h9 i hi rfl
    · exact h9 hok
    · exact h1 h9
    · exact h2 h9
    · exact h9 hn
  · rintro r G' ⟨G1', ⟨v, rfl, -, -, -, -, rfl, ad', hR'⟩, hf⟩
    exact kk G' ⟨G1', ad', KT, KF, _, hR', hW.c1 hf⟩
theorem g_wmount (C : g_OK κ l0 D0 cy0 y nL cc rm ret) (hX : g_XX κ) (h : LX cy0 x b nt nf nc nn T E Cu N G2 G3 G) (hi : i < nf) (hj : j < nt) (h0 : E i 0 = 0 ∨ E i 0 = 3) (h5 : ¬ T j 5 = 0) (h2 : nI (s_hangE E nf (nI j)) < 2) (hlink : Cond.methodLink y.cls index yX4_mount ∈ lw_T) (hr : g_room rm kX4_mount 6 ce sl) (hcat : (rest.map fun v => v.category).sum ≤ 8) (hd : decode cc pc = .ok (.invokevirtual index, 3)) (kk : ∀ G', LX cy0 x b nt nf nc nn T (x_st E i 1 (nI j)) Cu N G2 G3 G' → PG κ nL (ce + kX4_mount.cells) (sl + kX4_mount.slots) G' lv (pc + 3) (.int (nI (s_hangE E nf (nI j)) + 1) :: rest)) : PG κ nL ce sl G lv pc (.int (nI j) :: .int (nI i) :: .ref x :: rest) := by
  obtain ⟨G1, ad, KT, KF, KC, hR, hW⟩ := h
  have hb := hR.2.2.2
  refine g_callVN C hX mV_X4_mount hlink (hW.1.1 x _ hR.1.1) rfl rfl (CtrN.frame (CtrX.no (c_X4_mount l0 D0 cy0 hR (nI i) (nI j)) (fun E9 G9 h9 => ?_)) hW.1.1) rfl hr rfl hcat hd ?_
  · obtain ⟨-, ⟨-, h9 | h9⟩ | ⟨-, i', j', hi', ht', hj', ht2, h9⟩⟩ := h9
    · exact h9 i hi rfl
    · exact h9 j hj rfl
    · have e9 : i' = i := (nI_eq (by omega) (by omega)).mp ht'.symm
      have e8 : j' = j := (nI_eq (by omega) (by omega)).mp ht2.symm
      subst e9
      subst e8
      exact h9 ⟨h0, h5, h2⟩
  · rintro r G' ⟨G1', ⟨v, rfl, i', j', hi', ht', hj', ht2, -, rfl, hR'⟩, hf⟩
    have e9 : i' = i := (nI_eq (by omega) (by omega)).mp ht'.symm
    subst e9
    have e8 : j' = j := (nI_eq (by omega) (by omega)).mp ht2.symm
    subst e8
    exact kk G' ⟨G1', ad, KT, KF, KC, hR', hW.c1 hf⟩
/-- Sim's state of a flyer, in the law's world -/
theorem g_wstate {rt : Nat → Nat} {rd : Nat → Nat → Nat} {bs : Int32} {S F Cs : Rw} {a1 a2 a3 a4 : Int32} (C : g_OK κ l0 D0 cy0 y nL cc rm ret) (h : LX cy0 x b nt nf nc nn T E Cu N G2 G3 G) (hs : RS cy0 s rt rd bs nt nf nc nn S F Cs N G2) (hi : i < nf) (hlink : Cond.methodLink y.cls index yX5_state ∈ lw_T) (hr : g_room rm kX5_state 6 ce sl) (hcat : (rest.map fun v => v.category).sum ≤ 8) (hd : decode cc pc = .ok (.invokevirtual index, 3)) (kk : ∀ G' G2', LX cy0 x b nt nf nc nn T E Cu N G2' G3 G' → RS cy0 s rt rd bs nt nf nc nn S (s_row F i a1 a2 a3 a4) Cs N G2' → PG κ nL (ce + kX5_state.cells) (sl + kX5_state.slots) G' lv (pc + 3) rest) : PG κ nL ce sl G lv pc (.int a4 :: .int a3 :: .int a2 :: .int a1 :: .ref (rd 1 i) :: .ref s :: rest) := by
  obtain ⟨G1, ad, KT, KF, KC, hR, hW⟩ := h
  refine g_callV C mV_X5_state hlink (hW.1.2.1 s _ hs.1.1) rfl rfl (Ctr.frame (c_X5_state l0 D0 cy0 hs i hi a1 a2 a3 a4) hW.1.2.1) rfl hr rfl hcat hd ?_
  rintro r G' ⟨G2', ⟨rfl, hs'⟩, hf⟩
  exact kk G' G2' ⟨G1, ad, KT, KF, KC, hR, hW.c2 hf⟩ hs'
/-- Sim's beat, in the law's world -/
theorem g_wgo {rt : Nat → Nat} {rd : Nat → Nat → Nat} {bs : Int32} {S F Cs : Rw} (C : g_OK κ l0 D0 cy0 y nL cc rm ret) (h : LX cy0 x b nt nf nc nn T E Cu N G2 G3 G) (hs : RS cy0 s rt rd bs nt nf nc nn S F Cs N G2) (hwF : y_wF nt nf F) (hwC : y_wC nf nc Cs) (hwS : y_wS nt S) (hlink : Cond.methodLink y.cls index yX5_go ∈ lw_T) (hr : g_room rm kX5_go 9 ce sl) (hcat : (rest.map fun v => v.category).sum ≤ 8) (hd : decode cc pc = .ok (.invokevirtual index, 3)) (kk : ∀ v G' G2', LX cy0 x b nt nf nc nn T E Cu N G2' G3 G' → RS cy0 s rt rd (bs + 1) nt nf nc nn (y_beat N nn nt nf nc bs S F Cs).1 (y_beat N nn nt nf nc bs S F Cs).2.1 (y_beat N nn nt nf nc bs S F Cs).2.2 N G2' → PG κ nL (ce + kX5_go.cells) (sl + kX5_go.slots) G' lv (pc + 3) (.int v :: rest)) : PG κ nL ce sl G lv pc (.ref s :: rest) := by
  obtain ⟨G1, ad, KT, KF, KC, hR, hW⟩ := h
  refine g_callV C mV_X5_go hlink (hW.1.2.1 s _ hs.1.1) rfl rfl (Ctr.frame (c_X5_go l0 D0 cy0 hs hwF hwC hwS) hW.1.2.1) rfl hr rfl hcat hd ?_
  rintro r G' ⟨G2', ⟨v, rfl, hs'⟩, hf⟩
  exact kk v G' G2' ⟨G1, ad, KT, KF, KC, hR, hW.c2 hf⟩ hs'
/-- a row more for Sim: the world behind the putfield -/
theorem LX.more {cy : Nat → ClassId} {q t : Nat} {e0 e1 e2 e3 : va_E} (h : LX cy x b nt nf nc nn T E Cu N G2 G3 G) (hq : G3 q = some e1) (ht : G t = none) (hs : G2 s = some e0) : LX cy x b nt nf nc nn T E Cu N (g_up (g_up (g_up G2 q e1) t e2) s e3) nG (g_up (g_up G t e2) s e3) := by
  obtain ⟨G1, ad, KT, KF, KC, hR, ⟨⟨s1, s2, s3⟩, d12, d13, d23⟩⟩ := h
  have q1 : G1 q = none := d13.oth hq
  have t1 : G1 t = none := s1.none ht
  have c1 : G1 s = none := d12.oth hs
  refine ⟨G1, ad, KT, KF, KC, hR, ⟨⟨(s1.up t1).up c1, ?_, fun a e ha => by cases ha⟩, ((d12.up q1).up t1).up c1, fun a e ha => rfl, fun a e ha => rfl⟩⟩
  refine sG.upup (sG.upup (fun a e ha => ?_))
  by_cases hz : a = q
  · subst hz; rw [g_up_self] at ha; cases ha; exact s3 a _ hq
  · rw [g_up_ne hz] at ha; exact s2 a e ha
theorem LX.n2 {cy : Nat → ClassId} {q : Nat} {e1 : va_E} (h : LX cy x b nt nf nc nn T E Cu N G2 G3 G) (hq : G3 q = some e1) : G2 q = none := by
  obtain ⟨G1, ad, KT, KF, KC, hR, ⟨⟨s1, s2, s3⟩, d12, d13, d23⟩⟩ := h
  exact d23.oth hq
theorem LX.t2 {cy : Nat → ClassId} {q t : Nat} {e1 : va_E} (h : LX cy x b nt nf nc nn T E Cu N G2 G3 G) (hq : G3 q = some e1) (ht : G t = none) : g_up G2 q e1 t = none := by
  obtain ⟨G1, ad, KT, KF, KC, hR, ⟨⟨s1, s2, s3⟩, d12, d13, d23⟩⟩ := h
  have hne : t ≠ q := fun z => by subst z; rw [s3 t e1 hq] at ht; cases ht
  rw [g_up_ne hne]
  exact s2.none ht
end PGU
/-- between two turns of the law -/
def LA (cy : Nat → ClassId) (x s bn : Nat) (G : GG) : Prop := ∃ (G2 : GG) (rt : Nat → Nat) (rd : Nat → Nat → Nat) (nt nf nc nn : Nat) (T E Cu N : Rw), LX cy x (nI bn) nt nf nc nn T E Cu N G2 nG G ∧ RS cy s rt rd (nI bn) nt nf nc nn (zT (nI bn) T) (zF (nI bn) E) Cu N G2 ∧ vI bn nt nf nc T E Cu
end
