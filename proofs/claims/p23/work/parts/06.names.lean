abbrev yX4_init : MethodName := ⟨"CircusLines", "<init>", "()V"⟩
abbrev yX4_trapeze : MethodName := ⟨"CircusLines", "trapeze", "(II)I"⟩
abbrev yX4_trapezeNumbered : MethodName := ⟨"CircusLines", "trapezeNumbered", "(I)LCircusLines$Trapeze;"⟩
abbrev yX4_isWithin : MethodName := ⟨"CircusLines", "isWithin", "(III)Z"⟩
abbrev yX4_ofTrapeze : MethodName := ⟨"CircusLines", "ofTrapeze", "(LCircusLines$Trapeze;II)I"⟩
abbrev yX3_placeIn : MethodName := ⟨"CircusLines$Trapeze", "placeIn", "(I)I"⟩
abbrev yX3_placeSinceLeftEnd : MethodName := ⟨"CircusLines$Trapeze", "placeSinceLeftEnd", "(II)I"⟩
abbrev yX3_halfSwing : MethodName := ⟨"CircusLines$Trapeze", "halfSwing", "(I)I"⟩
abbrev yX4_hangersOf : MethodName := ⟨"CircusLines", "hangersOf", "(I)I"⟩
abbrev yX1_hangsFrom : MethodName := ⟨"CircusLines$Flyer", "hangsFrom", "(I)Z"⟩
abbrev yX4_flyer : MethodName := ⟨"CircusLines", "flyer", "(II)I"⟩
abbrev yX4_flyerNumbered : MethodName := ⟨"CircusLines", "flyerNumbered", "(I)LCircusLines$Flyer;"⟩
abbrev yX4_ofFlyer : MethodName := ⟨"CircusLines", "ofFlyer", "(LCircusLines$Flyer;I)I"⟩
abbrev yX4_called : MethodName := ⟨"CircusLines", "called", "(II)I"⟩
abbrev yX4_ofCue : MethodName := ⟨"CircusLines", "ofCue", "(LCircusLines$Cue;I)I"⟩
abbrev yX4_count : MethodName := ⟨"CircusLines", "count", "(I)I"⟩
abbrev yX4_tally : MethodName := ⟨"CircusLines", "tally", "(I)I"⟩
abbrev yX4_wholeTrapezes : MethodName := ⟨"CircusLines", "wholeTrapezes", "()I"⟩
abbrev yX4_flyersWhoAre : MethodName := ⟨"CircusLines", "flyersWhoAre", "(I)I"⟩
abbrev yX4_openCues : MethodName := ⟨"CircusLines", "openCues", "()I"⟩
abbrev yX4_place : MethodName := ⟨"CircusLines", "place", "(II)I"⟩
abbrev yX4_go : MethodName := ⟨"CircusLines", "go", "(I)I"⟩
abbrev yX4_passBeats : MethodName := ⟨"CircusLines", "passBeats", "(I)I"⟩
abbrev yX4_callCues : MethodName := ⟨"CircusLines", "callCues", "()V"⟩
abbrev yX4_letGo : MethodName := ⟨"CircusLines", "letGo", "(LCircusLines$Cue;)Z"⟩
abbrev yX1_flyTo : MethodName := ⟨"CircusLines$Flyer", "flyTo", "(II)V"⟩
abbrev yX4_endFlights : MethodName := ⟨"CircusLines", "endFlights", "()I"⟩
abbrev yX1_comesIn : MethodName := ⟨"CircusLines$Flyer", "comesIn", "(I)Z"⟩
abbrev yX4_catcherAt : MethodName := ⟨"CircusLines", "catcherAt", "(I)I"⟩
abbrev yX4_isNear : MethodName := ⟨"CircusLines", "isNear", "(II)Z"⟩
abbrev yX4_isNetSpreadAt : MethodName := ⟨"CircusLines", "isNetSpreadAt", "(I)Z"⟩
abbrev yX1_fall : MethodName := ⟨"CircusLines$Flyer", "fall", "(Z)V"⟩
abbrev yX1_hangFrom : MethodName := ⟨"CircusLines$Flyer", "hangFrom", "(I)V"⟩
abbrev yX4_wearRopes : MethodName := ⟨"CircusLines", "wearRopes", "()V"⟩
abbrev yX3_isAtLeftEndIn : MethodName := ⟨"CircusLines$Trapeze", "isAtLeftEndIn", "(I)Z"⟩
abbrev yX3_wear : MethodName := ⟨"CircusLines$Trapeze", "wear", "(I)V"⟩
abbrev yX4_dropFrom : MethodName := ⟨"CircusLines", "dropFrom", "(II)V"⟩
abbrev yX4_meets : MethodName := ⟨"CircusLines", "meets", "(II)I"⟩
abbrev yX4_foresee : MethodName := ⟨"CircusLines", "foresee", "(II)I"⟩
abbrev yX4_keepAct : MethodName := ⟨"CircusLines", "keepAct", "()V"⟩
abbrev yX3_keep : MethodName := ⟨"CircusLines$Trapeze", "keep", "()V"⟩
abbrev yX1_keep : MethodName := ⟨"CircusLines$Flyer", "keep", "()V"⟩
abbrev yX0_keep : MethodName := ⟨"CircusLines$Cue", "keep", "()V"⟩
abbrev yX4_takeActBack : MethodName := ⟨"CircusLines", "takeActBack", "()V"⟩
abbrev yX3_takeBack : MethodName := ⟨"CircusLines$Trapeze", "takeBack", "()V"⟩
abbrev yX1_takeBack : MethodName := ⟨"CircusLines$Flyer", "takeBack", "()V"⟩
abbrev yX0_takeBack : MethodName := ⟨"CircusLines$Cue", "takeBack", "()V"⟩
abbrev yX5_go : MethodName := ⟨"CircusLinesLaw$Sim", "go", "()I"⟩
abbrev yX5_place : MethodName := ⟨"CircusLinesLaw$Sim", "place", "([II)I"⟩
abbrev yX5_state : MethodName := ⟨"CircusLinesLaw$Sim", "state", "([IIIII)V"⟩
abbrev yX5_hang : MethodName := ⟨"CircusLinesLaw$Sim", "hang", "(I)I"⟩
abbrev yX5_falls : MethodName := ⟨"CircusLinesLaw$Sim", "falls", "([II)V"⟩
abbrev yX5_net : MethodName := ⟨"CircusLinesLaw$Sim", "net", "(I)Z"⟩
abbrev yX5_isSame : MethodName := ⟨"CircusLinesLaw$Sim", "isSame", "(LCircusLines;)Z"⟩
abbrev yX5_in : MethodName := ⟨"CircusLinesLaw$Sim", "in", "(I)I"⟩
abbrev yX5_open : MethodName := ⟨"CircusLinesLaw$Sim", "open", "()I"⟩
abbrev yX4_mean : MethodName := ⟨"CircusLines", "mean", "()D"⟩
abbrev yL_cell : MethodName := ⟨"CircusLinesLaw", "cell", "([II)I"⟩
abbrev yL_act : MethodName := ⟨"CircusLinesLaw", "act", "(LCircusLines;LCircusLinesLaw$Sim;I)Z"⟩
abbrev yL_below : MethodName := ⟨"CircusLinesLaw", "below", "(II)I"⟩
abbrev yX5_more : MethodName := ⟨"CircusLinesLaw$Sim", "more", "([[I[I)[[I"⟩
abbrev yX4_rig : MethodName := ⟨"CircusLines", "rig", "(IIII)I"⟩
abbrev yX3_init : MethodName := ⟨"CircusLines$Trapeze", "<init>", "(IIIII)V"⟩
abbrev yX4_weigh : MethodName := ⟨"CircusLines", "weigh", "(II)I"⟩
abbrev yX3_setWeight : MethodName := ⟨"CircusLines$Trapeze", "setWeight", "(II)V"⟩
abbrev yX4_mend : MethodName := ⟨"CircusLines", "mend", "(I)I"⟩
abbrev yX3_renewRope : MethodName := ⟨"CircusLines$Trapeze", "renewRope", "()V"⟩
abbrev yX4_join : MethodName := ⟨"CircusLines", "join", "()I"⟩
abbrev yX1_init : MethodName := ⟨"CircusLines$Flyer", "<init>", "()V"⟩
abbrev yX4_mount : MethodName := ⟨"CircusLines", "mount", "(II)I"⟩
abbrev yX1_canMount : MethodName := ⟨"CircusLines$Flyer", "canMount", "()Z"⟩
abbrev yX4_spread : MethodName := ⟨"CircusLines", "spread", "(II)I"⟩
abbrev yX2_init : MethodName := ⟨"CircusLines$Net", "<init>", "(II)V"⟩
abbrev yX4_cue : MethodName := ⟨"CircusLines", "cue", "(IIII)I"⟩
abbrev yX0_init : MethodName := ⟨"CircusLines$Cue", "<init>", "(IIII)V"⟩
abbrev yL_build : MethodName := ⟨"CircusLinesLaw", "build", "(LCircusLines;[I)LCircusLinesLaw$Sim;"⟩
abbrev yX5_init : MethodName := ⟨"CircusLinesLaw$Sim", "<init>", "()V"⟩
abbrev kL_act : Room := { frames := 7, cells := 3, slots := 38, locals := 121 }
abbrev kL_below : Room := { frames := 0, cells := 0, slots := 0, locals := 0 }
abbrev kL_build : Room := { frames := 8, cells := 95, slots := 1145, locals := 160 }
abbrev kL_cell : Room := { frames := 0, cells := 0, slots := 0, locals := 0 }
abbrev kX0_init : Room := { frames := 1, cells := 0, slots := 0, locals := 20 }
abbrev kX0_keep : Room := { frames := 0, cells := 0, slots := 0, locals := 0 }
abbrev kX0_takeBack : Room := { frames := 0, cells := 0, slots := 0, locals := 0 }
abbrev kX1_canMount : Room := { frames := 0, cells := 0, slots := 0, locals := 0 }
abbrev kX1_comesIn : Room := { frames := 0, cells := 0, slots := 0, locals := 0 }
abbrev kX1_fall : Room := { frames := 0, cells := 0, slots := 0, locals := 0 }
abbrev kX1_flyTo : Room := { frames := 0, cells := 0, slots := 0, locals := 0 }
abbrev kX1_hangFrom : Room := { frames := 0, cells := 0, slots := 0, locals := 0 }
abbrev kX1_hangsFrom : Room := { frames := 0, cells := 0, slots := 0, locals := 0 }
abbrev kX1_init : Room := { frames := 1, cells := 0, slots := 0, locals := 20 }
abbrev kX1_keep : Room := { frames := 0, cells := 0, slots := 0, locals := 0 }
abbrev kX1_takeBack : Room := { frames := 0, cells := 0, slots := 0, locals := 0 }
abbrev kX2_init : Room := { frames := 1, cells := 0, slots := 0, locals := 20 }
abbrev kX3_halfSwing : Room := { frames := 1, cells := 0, slots := 0, locals := 24 }
abbrev kX3_init : Room := { frames := 1, cells := 0, slots := 0, locals := 20 }
abbrev kX3_isAtLeftEndIn : Room := { frames := 2, cells := 0, slots := 0, locals := 44 }
abbrev kX3_keep : Room := { frames := 0, cells := 0, slots := 0, locals := 0 }
abbrev kX3_placeIn : Room := { frames := 3, cells := 0, slots := 0, locals := 68 }
abbrev kX3_placeSinceLeftEnd : Room := { frames := 2, cells := 0, slots := 0, locals := 44 }
abbrev kX3_renewRope : Room := { frames := 0, cells := 0, slots := 0, locals := 0 }
abbrev kX3_setWeight : Room := { frames := 0, cells := 0, slots := 0, locals := 0 }
abbrev kX3_takeBack : Room := { frames := 0, cells := 0, slots := 0, locals := 0 }
abbrev kX3_wear : Room := { frames := 0, cells := 0, slots := 0, locals := 0 }
abbrev kX4_callCues : Room := { frames := 5, cells := 0, slots := 0, locals := 112 }
abbrev kX4_called : Room := { frames := 6, cells := 1, slots := 6, locals := 96 }
abbrev kX4_catcherAt : Room := { frames := 4, cells := 0, slots := 0, locals := 89 }
abbrev kX4_count : Room := { frames := 6, cells := 1, slots := 6, locals := 96 }
abbrev kX4_cue : Room := { frames := 6, cells := 1, slots := 6, locals := 96 }
abbrev kX4_dropFrom : Room := { frames := 2, cells := 0, slots := 0, locals := 47 }
abbrev kX4_endFlights : Room := { frames := 5, cells := 0, slots := 0, locals := 112 }
abbrev kX4_flyer : Room := { frames := 6, cells := 1, slots := 6, locals := 96 }
abbrev kX4_flyerNumbered : Room := { frames := 1, cells := 0, slots := 0, locals := 22 }
abbrev kX4_flyersWhoAre : Room := { frames := 0, cells := 0, slots := 0, locals := 0 }
abbrev kX4_foresee : Room := { frames := 7, cells := 1, slots := 6, locals := 161 }
abbrev kX4_go : Room := { frames := 7, cells := 1, slots := 6, locals := 161 }
abbrev kX4_hangersOf : Room := { frames := 1, cells := 0, slots := 0, locals := 21 }
abbrev kX4_init : Room := { frames := 1, cells := 4, slots := 37, locals := 20 }
abbrev kX4_isNear : Room := { frames := 0, cells := 0, slots := 0, locals := 0 }
abbrev kX4_isNetSpreadAt : Room := { frames := 1, cells := 0, slots := 0, locals := 22 }
abbrev kX4_isWithin : Room := { frames := 0, cells := 0, slots := 0, locals := 0 }
abbrev kX4_join : Room := { frames := 6, cells := 1, slots := 10, locals := 96 }
abbrev kX4_keepAct : Room := { frames := 1, cells := 0, slots := 0, locals := 20 }
abbrev kX4_letGo : Room := { frames := 4, cells := 0, slots := 0, locals := 89 }
abbrev kX4_mean : Room := { frames := 0, cells := 0, slots := 0, locals := 0 }
abbrev kX4_meets : Room := { frames := 6, cells := 1, slots := 6, locals := 96 }
abbrev kX4_mend : Room := { frames := 6, cells := 1, slots := 6, locals := 96 }
abbrev kX4_mount : Room := { frames := 6, cells := 1, slots := 6, locals := 96 }
abbrev kX4_ofCue : Room := { frames := 0, cells := 0, slots := 0, locals := 0 }
abbrev kX4_ofFlyer : Room := { frames := 0, cells := 0, slots := 0, locals := 0 }
abbrev kX4_ofTrapeze : Room := { frames := 4, cells := 0, slots := 0, locals := 89 }
abbrev kX4_openCues : Room := { frames := 0, cells := 0, slots := 0, locals := 0 }
abbrev kX4_passBeats : Room := { frames := 6, cells := 0, slots := 0, locals := 138 }
abbrev kX4_place : Room := { frames := 6, cells := 1, slots := 6, locals := 96 }
abbrev kX4_rig : Room := { frames := 6, cells := 1, slots := 9, locals := 96 }
abbrev kX4_spread : Room := { frames := 6, cells := 1, slots := 6, locals := 96 }
abbrev kX4_takeActBack : Room := { frames := 1, cells := 0, slots := 0, locals := 20 }
abbrev kX4_tally : Room := { frames := 1, cells := 0, slots := 0, locals := 26 }
abbrev kX4_trapeze : Room := { frames := 6, cells := 1, slots := 6, locals := 112 }
abbrev kX4_trapezeNumbered : Room := { frames := 1, cells := 0, slots := 0, locals := 22 }
abbrev kX4_wearRopes : Room := { frames := 4, cells := 0, slots := 0, locals := 89 }
abbrev kX4_weigh : Room := { frames := 6, cells := 1, slots := 6, locals := 96 }
abbrev kX4_wholeTrapezes : Room := { frames := 0, cells := 0, slots := 0, locals := 0 }
abbrev kX5_falls : Room := { frames := 1, cells := 0, slots := 0, locals := 25 }
abbrev kX5_go : Room := { frames := 2, cells := 0, slots := 0, locals := 47 }
abbrev kX5_hang : Room := { frames := 0, cells := 0, slots := 0, locals := 0 }
abbrev kX5_in : Room := { frames := 0, cells := 0, slots := 0, locals := 0 }
abbrev kX5_init : Room := { frames := 1, cells := 4, slots := 0, locals := 20 }
abbrev kX5_isSame : Room := { frames := 7, cells := 204, slots := 1239, locals := 135 }
abbrev kX5_more : Room := { frames := 0, cells := 1, slots := 21, locals := 0 }
abbrev kX5_net : Room := { frames := 0, cells := 0, slots := 0, locals := 0 }
abbrev kX5_open : Room := { frames := 0, cells := 0, slots := 0, locals := 0 }
abbrev kX5_place : Room := { frames := 0, cells := 0, slots := 0, locals := 0 }
abbrev kX5_state : Room := { frames := 0, cells := 0, slots := 0, locals := 0 }
theorem q0 : (Cond.selects "CircusLines" ⟨"CircusLines", "trapezeNumbered", "(I)LCircusLines$Trapeze;"⟩ ⟨"CircusLines", "trapezeNumbered", "(I)LCircusLines$Trapeze;"⟩ : Cond) ∈ lw_T := lw_T_in (i := 0) (by decide +kernel) rfl
theorem q1 : (Cond.selects "java/lang/Throwable" ⟨"java/lang/Throwable", "fillInStackTrace", "(I)Ljava/lang/Throwable;"⟩ ⟨"java/lang/Throwable", "fillInStackTrace", "(I)Ljava/lang/Throwable;"⟩ : Cond) ∈ lw_T := lw_T_in (i := 1) (by decide +kernel) rfl
theorem q2 : (Cond.selects "CircusLines" ⟨"CircusLines", "ofTrapeze", "(LCircusLines$Trapeze;II)I"⟩ ⟨"CircusLines", "ofTrapeze", "(LCircusLines$Trapeze;II)I"⟩ : Cond) ∈ lw_T := lw_T_in (i := 2) (by decide +kernel) rfl
theorem q3 : (Cond.selects "CircusLines" ⟨"CircusLines", "hangersOf", "(I)I"⟩ ⟨"CircusLines", "hangersOf", "(I)I"⟩ : Cond) ∈ lw_T := lw_T_in (i := 3) (by decide +kernel) rfl
theorem q4 : (Cond.selects "CircusLines" ⟨"CircusLines", "flyerNumbered", "(I)LCircusLines$Flyer;"⟩ ⟨"CircusLines", "flyerNumbered", "(I)LCircusLines$Flyer;"⟩ : Cond) ∈ lw_T := lw_T_in (i := 4) (by decide +kernel) rfl
theorem q5 : (Cond.selects "CircusLines" ⟨"CircusLines", "ofFlyer", "(LCircusLines$Flyer;I)I"⟩ ⟨"CircusLines", "ofFlyer", "(LCircusLines$Flyer;I)I"⟩ : Cond) ∈ lw_T := lw_T_in (i := 5) (by decide +kernel) rfl
theorem q6 : (Cond.selects "CircusLines" ⟨"CircusLines", "tally", "(I)I"⟩ ⟨"CircusLines", "tally", "(I)I"⟩ : Cond) ∈ lw_T := lw_T_in (i := 6) (by decide +kernel) rfl
theorem q7 : (Cond.selects "CircusLines" ⟨"CircusLines", "wholeTrapezes", "()I"⟩ ⟨"CircusLines", "wholeTrapezes", "()I"⟩ : Cond) ∈ lw_T := lw_T_in (i := 7) (by decide +kernel) rfl
theorem q8 : (Cond.selects "CircusLines" ⟨"CircusLines", "flyersWhoAre", "(I)I"⟩ ⟨"CircusLines", "flyersWhoAre", "(I)I"⟩ : Cond) ∈ lw_T := lw_T_in (i := 8) (by decide +kernel) rfl
theorem q9 : (Cond.selects "CircusLines" ⟨"CircusLines", "openCues", "()I"⟩ ⟨"CircusLines", "openCues", "()I"⟩ : Cond) ∈ lw_T := lw_T_in (i := 9) (by decide +kernel) rfl
theorem q10 : (Cond.selects "CircusLines" ⟨"CircusLines", "passBeats", "(I)I"⟩ ⟨"CircusLines", "passBeats", "(I)I"⟩ : Cond) ∈ lw_T := lw_T_in (i := 10) (by decide +kernel) rfl
theorem q11 : (Cond.selects "CircusLines" ⟨"CircusLines", "callCues", "()V"⟩ ⟨"CircusLines", "callCues", "()V"⟩ : Cond) ∈ lw_T := lw_T_in (i := 11) (by decide +kernel) rfl
theorem q12 : (Cond.selects "CircusLines" ⟨"CircusLines", "letGo", "(LCircusLines$Cue;)Z"⟩ ⟨"CircusLines", "letGo", "(LCircusLines$Cue;)Z"⟩ : Cond) ∈ lw_T := lw_T_in (i := 12) (by decide +kernel) rfl
theorem q13 : (Cond.selects "CircusLines" ⟨"CircusLines", "endFlights", "()I"⟩ ⟨"CircusLines", "endFlights", "()I"⟩ : Cond) ∈ lw_T := lw_T_in (i := 13) (by decide +kernel) rfl
theorem q14 : (Cond.selects "CircusLines" ⟨"CircusLines", "catcherAt", "(I)I"⟩ ⟨"CircusLines", "catcherAt", "(I)I"⟩ : Cond) ∈ lw_T := lw_T_in (i := 14) (by decide +kernel) rfl
theorem q15 : (Cond.selects "CircusLines" ⟨"CircusLines", "isNetSpreadAt", "(I)Z"⟩ ⟨"CircusLines", "isNetSpreadAt", "(I)Z"⟩ : Cond) ∈ lw_T := lw_T_in (i := 15) (by decide +kernel) rfl
theorem q16 : (Cond.selects "CircusLines" ⟨"CircusLines", "wearRopes", "()V"⟩ ⟨"CircusLines", "wearRopes", "()V"⟩ : Cond) ∈ lw_T := lw_T_in (i := 16) (by decide +kernel) rfl
theorem q17 : (Cond.selects "CircusLines" ⟨"CircusLines", "dropFrom", "(II)V"⟩ ⟨"CircusLines", "dropFrom", "(II)V"⟩ : Cond) ∈ lw_T := lw_T_in (i := 17) (by decide +kernel) rfl
theorem q18 : (Cond.selects "CircusLines" ⟨"CircusLines", "keepAct", "()V"⟩ ⟨"CircusLines", "keepAct", "()V"⟩ : Cond) ∈ lw_T := lw_T_in (i := 18) (by decide +kernel) rfl
theorem q19 : (Cond.selects "CircusLines" ⟨"CircusLines", "takeActBack", "()V"⟩ ⟨"CircusLines", "takeActBack", "()V"⟩ : Cond) ∈ lw_T := lw_T_in (i := 19) (by decide +kernel) rfl
theorem q20 : (Cond.initialized "CircusLinesLaw" : Cond) ∈ lw_T := lw_T_in (i := 20) (by decide +kernel) rfl
theorem q21 : (Cond.initialized "CircusLines" : Cond) ∈ lw_T := lw_T_in (i := 21) (by decide +kernel) rfl
theorem q22 : (Cond.initialized "CircusLinesLaw$Sim" : Cond) ∈ lw_T := lw_T_in (i := 22) (by decide +kernel) rfl
theorem q23 : (Cond.initialized "java/lang/Throwable" : Cond) ∈ lw_T := lw_T_in (i := 23) (by decide +kernel) rfl
theorem q24 : (Cond.initialized "java/lang/Exception" : Cond) ∈ lw_T := lw_T_in (i := 24) (by decide +kernel) rfl
theorem q25 : (Cond.initialized "java/lang/RuntimeException" : Cond) ∈ lw_T := lw_T_in (i := 25) (by decide +kernel) rfl
theorem q26 : (Cond.initialized "java/lang/IllegalArgumentException" : Cond) ∈ lw_T := lw_T_in (i := 26) (by decide +kernel) rfl
theorem q27 : (Cond.initialized "java/lang/IllegalStateException" : Cond) ∈ lw_T := lw_T_in (i := 27) (by decide +kernel) rfl
theorem q28 : (Cond.initialized "CircusLines$Trapeze" : Cond) ∈ lw_T := lw_T_in (i := 28) (by decide +kernel) rfl
theorem q29 : (Cond.initialized "java/lang/IndexOutOfBoundsException" : Cond) ∈ lw_T := lw_T_in (i := 29) (by decide +kernel) rfl
theorem q30 : (Cond.initialized "CircusLines$Flyer" : Cond) ∈ lw_T := lw_T_in (i := 30) (by decide +kernel) rfl
theorem q31 : (Cond.initialized "java/lang/Math" : Cond) ∈ lw_T := lw_T_in (i := 31) (by decide +kernel) rfl
theorem q32 : (Cond.initialized "CircusLines$Net" : Cond) ∈ lw_T := lw_T_in (i := 32) (by decide +kernel) rfl
theorem q33 : (Cond.initialized "CircusLines$Cue" : Cond) ∈ lw_T := lw_T_in (i := 33) (by decide +kernel) rfl
theorem q34 : (Cond.classLink "CircusLinesLaw" 29 "CircusLines" : Cond) ∈ lw_T := lw_T_in (i := 34) (by decide +kernel) rfl
theorem q35 : (Cond.instantiable "CircusLines" 9 : Cond) ∈ lw_T := lw_T_in (i := 35) (by decide +kernel) rfl
theorem q36 : (Cond.methodLink "CircusLinesLaw" 84 ⟨"CircusLines", "<init>", "()V"⟩ : Cond) ∈ lw_T := lw_T_in (i := 36) (by decide +kernel) rfl
theorem q37 : (Cond.instanceMethod ⟨"CircusLines", "<init>", "()V"⟩ : Cond) ∈ lw_T := lw_T_in (i := 37) (by decide +kernel) rfl
theorem q38 : (Cond.code ⟨"CircusLines", "<init>", "()V"⟩ prog_1_method_1_code 1 none : Cond) ∈ lw_T := lw_T_in (i := 38) (by decide +kernel) rfl
theorem q39 : (Cond.methodLink "CircusLines" 1 ⟨"java/lang/Object", "<init>", "()V"⟩ : Cond) ∈ lw_T := lw_T_in (i := 39) (by decide +kernel) rfl
theorem q40 : (Cond.instanceMethod ⟨"java/lang/Object", "<init>", "()V"⟩ : Cond) ∈ lw_T := lw_T_in (i := 40) (by decide +kernel) rfl
theorem q41 : (Cond.code ⟨"java/lang/Object", "<init>", "()V"⟩ object_method_1_code 1 none : Cond) ∈ lw_T := lw_T_in (i := 41) (by decide +kernel) rfl
theorem q42 : (Cond.classLink "CircusLines" 9 "CircusLines$Trapeze" : Cond) ∈ lw_T := lw_T_in (i := 42) (by decide +kernel) rfl
theorem q44 : (Cond.classLink "CircusLines" 15 "CircusLines$Flyer" : Cond) ∈ lw_T := lw_T_in (i := 44) (by decide +kernel) rfl
theorem q46 : (Cond.classLink "CircusLines" 21 "CircusLines$Cue" : Cond) ∈ lw_T := lw_T_in (i := 46) (by decide +kernel) rfl
theorem q48 : (Cond.classLink "CircusLines" 27 "CircusLines$Net" : Cond) ∈ lw_T := lw_T_in (i := 48) (by decide +kernel) rfl
theorem q50 : (Cond.fieldLink "CircusLines" 11 "CircusLines" "trapezes" "[LCircusLines$Trapeze;" : Cond) ∈ lw_T := lw_T_in (i := 50) (by decide +kernel) rfl
theorem q51 : (Cond.fieldLink "CircusLines" 17 "CircusLines" "flyers" "[LCircusLines$Flyer;" : Cond) ∈ lw_T := lw_T_in (i := 51) (by decide +kernel) rfl
theorem q52 : (Cond.fieldLink "CircusLines" 23 "CircusLines" "cues" "[LCircusLines$Cue;" : Cond) ∈ lw_T := lw_T_in (i := 52) (by decide +kernel) rfl
theorem q53 : (Cond.fieldLink "CircusLines" 29 "CircusLines" "nets" "[LCircusLines$Net;" : Cond) ∈ lw_T := lw_T_in (i := 53) (by decide +kernel) rfl
theorem q54 : (Cond.fieldLink "CircusLines" 44 "CircusLines" "trapezeCount" "I" : Cond) ∈ lw_T := lw_T_in (i := 54) (by decide +kernel) rfl
theorem q55 : (Cond.fieldLink "CircusLines" 98 "CircusLines" "flyerCount" "I" : Cond) ∈ lw_T := lw_T_in (i := 55) (by decide +kernel) rfl
theorem q56 : (Cond.fieldLink "CircusLines" 128 "CircusLines" "cueCount" "I" : Cond) ∈ lw_T := lw_T_in (i := 56) (by decide +kernel) rfl
theorem q57 : (Cond.fieldLink "CircusLines" 91 "CircusLines" "netCount" "I" : Cond) ∈ lw_T := lw_T_in (i := 57) (by decide +kernel) rfl
theorem q58 : (Cond.fieldLink "CircusLines" 53 "CircusLines" "beat" "I" : Cond) ∈ lw_T := lw_T_in (i := 58) (by decide +kernel) rfl
theorem q78 : (Cond.methodLink "CircusLinesLaw" 93 ⟨"CircusLines", "trapeze", "(II)I"⟩ : Cond) ∈ lw_T := lw_T_in (i := 78) (by decide +kernel) rfl
theorem q79 : (Cond.instanceMethod ⟨"CircusLines", "trapeze", "(II)I"⟩ : Cond) ∈ lw_T := lw_T_in (i := 79) (by decide +kernel) rfl
theorem q80 : (Cond.selects "CircusLines" ⟨"CircusLines", "trapeze", "(II)I"⟩ ⟨"CircusLines", "trapeze", "(II)I"⟩ : Cond) ∈ lw_T := lw_T_in (i := 80) (by decide +kernel) rfl
theorem q81 : (Cond.code ⟨"CircusLines", "trapeze", "(II)I"⟩ prog_1_method_9_code 4 (some .int) : Cond) ∈ lw_T := lw_T_in (i := 81) (by decide +kernel) rfl
theorem q82 : (Cond.methodLink "CircusLines" 59 ⟨"CircusLines", "trapezeNumbered", "(I)LCircusLines$Trapeze;"⟩ : Cond) ∈ lw_T := lw_T_in (i := 82) (by decide +kernel) rfl
theorem q84 : (Cond.instanceMethod ⟨"CircusLines", "trapezeNumbered", "(I)LCircusLines$Trapeze;"⟩ : Cond) ∈ lw_T := lw_T_in (i := 84) (by decide +kernel) rfl
theorem q85 : (Cond.code ⟨"CircusLines", "trapezeNumbered", "(I)LCircusLines$Trapeze;"⟩ prog_1_method_24_code 2 (some (.object "CircusLines$Trapeze")) : Cond) ∈ lw_T := lw_T_in (i := 85) (by decide +kernel) rfl
theorem q86 : (Cond.methodLink "CircusLines" 33 ⟨"CircusLines", "isWithin", "(III)Z"⟩ : Cond) ∈ lw_T := lw_T_in (i := 86) (by decide +kernel) rfl
theorem q87 : (Cond.static ⟨"CircusLines", "isWithin", "(III)Z"⟩ : Cond) ∈ lw_T := lw_T_in (i := 87) (by decide +kernel) rfl
theorem q88 : (Cond.code ⟨"CircusLines", "isWithin", "(III)Z"⟩ prog_1_method_22_code 3 (some .boolean) : Cond) ∈ lw_T := lw_T_in (i := 88) (by decide +kernel) rfl
theorem q89 : (Cond.classLink "CircusLines" 63 "java/lang/IndexOutOfBoundsException" : Cond) ∈ lw_T := lw_T_in (i := 89) (by decide +kernel) rfl
theorem q90 : (Cond.instantiable "java/lang/IndexOutOfBoundsException" 6 : Cond) ∈ lw_T := lw_T_in (i := 90) (by decide +kernel) rfl
theorem q98 : (Cond.selects "java/lang/IndexOutOfBoundsException" ⟨"java/lang/Throwable", "fillInStackTrace", "(I)Ljava/lang/Throwable;"⟩ ⟨"java/lang/Throwable", "fillInStackTrace", "(I)Ljava/lang/Throwable;"⟩ : Cond) ∈ lw_T := lw_T_in (i := 98) (by decide +kernel) rfl
theorem q99 : (Cond.selects "java/lang/IndexOutOfBoundsException" ⟨"java/lang/Throwable", "fillInStackTrace", "()Ljava/lang/Throwable;"⟩ ⟨"java/lang/Throwable", "fillInStackTrace", "()Ljava/lang/Throwable;"⟩ : Cond) ∈ lw_T := lw_T_in (i := 99) (by decide +kernel) rfl
theorem q110 : (Cond.fieldLink "java/lang/Throwable" 198 "java/lang/Throwable" "backtrace" "Ljava/lang/Object;" : Cond) ∈ lw_T := lw_T_in (i := 110) (by decide +kernel) rfl
theorem q112 : (Cond.instanceMethod ⟨"java/lang/Throwable", "<init>", "()V"⟩ : Cond) ∈ lw_T := lw_T_in (i := 112) (by decide +kernel) rfl
theorem q113 : (Cond.code ⟨"java/lang/Throwable", "<init>", "()V"⟩ prog_16_method_1_code 1 none : Cond) ∈ lw_T := lw_T_in (i := 113) (by decide +kernel) rfl
theorem q114 : (Cond.methodLink "java/lang/Throwable" 1 ⟨"java/lang/Object", "<init>", "()V"⟩ : Cond) ∈ lw_T := lw_T_in (i := 114) (by decide +kernel) rfl
theorem q115 : (Cond.fieldLink "java/lang/Throwable" 13 "java/lang/Throwable" "UNASSIGNED_STACK" "[Ljava/lang/StackTraceElement;" : Cond) ∈ lw_T := lw_T_in (i := 115) (by decide +kernel) rfl
theorem q117 : (Cond.fieldLink "java/lang/Throwable" 20 "java/lang/Throwable" "SUPPRESSED_SENTINEL" "Ljava/util/List;" : Cond) ∈ lw_T := lw_T_in (i := 117) (by decide +kernel) rfl
theorem q119 : (Cond.methodLink "java/lang/Throwable" 27 ⟨"java/lang/Throwable", "fillInStackTrace", "()Ljava/lang/Throwable;"⟩ : Cond) ∈ lw_T := lw_T_in (i := 119) (by decide +kernel) rfl
theorem q120 : (Cond.instanceMethod ⟨"java/lang/Throwable", "fillInStackTrace", "()Ljava/lang/Throwable;"⟩ : Cond) ∈ lw_T := lw_T_in (i := 120) (by decide +kernel) rfl
theorem q122 : (Cond.selects "java/lang/IllegalArgumentException" ⟨"java/lang/Throwable", "fillInStackTrace", "()Ljava/lang/Throwable;"⟩ ⟨"java/lang/Throwable", "fillInStackTrace", "()Ljava/lang/Throwable;"⟩ : Cond) ∈ lw_T := lw_T_in (i := 122) (by decide +kernel) rfl
theorem q123 : (Cond.selects "java/lang/IllegalStateException" ⟨"java/lang/Throwable", "fillInStackTrace", "()Ljava/lang/Throwable;"⟩ ⟨"java/lang/Throwable", "fillInStackTrace", "()Ljava/lang/Throwable;"⟩ : Cond) ∈ lw_T := lw_T_in (i := 123) (by decide +kernel) rfl
theorem q125 : (Cond.methodLink "java/lang/Throwable" 202 ⟨"java/lang/Throwable", "fillInStackTrace", "(I)Ljava/lang/Throwable;"⟩ : Cond) ∈ lw_T := lw_T_in (i := 125) (by decide +kernel) rfl
theorem q127 : (Cond.instanceMethod ⟨"java/lang/Throwable", "fillInStackTrace", "(I)Ljava/lang/Throwable;"⟩ : Cond) ∈ lw_T := lw_T_in (i := 127) (by decide +kernel) rfl
theorem q128 : (Cond.instantiable "java/lang/Throwable" 6 : Cond) ∈ lw_T := lw_T_in (i := 128) (by decide +kernel) rfl
theorem q131 : (Cond.methodLink "CircusLines" 67 ⟨"java/lang/IndexOutOfBoundsException", "<init>", "(Ljava/lang/String;)V"⟩ : Cond) ∈ lw_T := lw_T_in (i := 131) (by decide +kernel) rfl
theorem q132 : (Cond.instanceMethod ⟨"java/lang/IndexOutOfBoundsException", "<init>", "(Ljava/lang/String;)V"⟩ : Cond) ∈ lw_T := lw_T_in (i := 132) (by decide +kernel) rfl
theorem q133 : (Cond.code ⟨"java/lang/IndexOutOfBoundsException", "<init>", "(Ljava/lang/String;)V"⟩ prog_12_method_2_code 2 none : Cond) ∈ lw_T := lw_T_in (i := 133) (by decide +kernel) rfl
theorem q134 : (Cond.methodLink "java/lang/IndexOutOfBoundsException" 7 ⟨"java/lang/RuntimeException", "<init>", "(Ljava/lang/String;)V"⟩ : Cond) ∈ lw_T := lw_T_in (i := 134) (by decide +kernel) rfl
theorem q135 : (Cond.instanceMethod ⟨"java/lang/RuntimeException", "<init>", "(Ljava/lang/String;)V"⟩ : Cond) ∈ lw_T := lw_T_in (i := 135) (by decide +kernel) rfl
theorem q136 : (Cond.code ⟨"java/lang/RuntimeException", "<init>", "(Ljava/lang/String;)V"⟩ prog_14_method_2_code 2 none : Cond) ∈ lw_T := lw_T_in (i := 136) (by decide +kernel) rfl
theorem q137 : (Cond.methodLink "java/lang/RuntimeException" 7 ⟨"java/lang/Exception", "<init>", "(Ljava/lang/String;)V"⟩ : Cond) ∈ lw_T := lw_T_in (i := 137) (by decide +kernel) rfl
theorem q138 : (Cond.instanceMethod ⟨"java/lang/Exception", "<init>", "(Ljava/lang/String;)V"⟩ : Cond) ∈ lw_T := lw_T_in (i := 138) (by decide +kernel) rfl
theorem q139 : (Cond.code ⟨"java/lang/Exception", "<init>", "(Ljava/lang/String;)V"⟩ prog_9_method_2_code 2 none : Cond) ∈ lw_T := lw_T_in (i := 139) (by decide +kernel) rfl
theorem q140 : (Cond.methodLink "java/lang/Exception" 7 ⟨"java/lang/Throwable", "<init>", "(Ljava/lang/String;)V"⟩ : Cond) ∈ lw_T := lw_T_in (i := 140) (by decide +kernel) rfl
theorem q141 : (Cond.instanceMethod ⟨"java/lang/Throwable", "<init>", "(Ljava/lang/String;)V"⟩ : Cond) ∈ lw_T := lw_T_in (i := 141) (by decide +kernel) rfl
theorem q142 : (Cond.code ⟨"java/lang/Throwable", "<init>", "(Ljava/lang/String;)V"⟩ prog_16_method_2_code 2 none : Cond) ∈ lw_T := lw_T_in (i := 142) (by decide +kernel) rfl
theorem q144 : (Cond.fieldLink "java/lang/Throwable" 31 "java/lang/Throwable" "detailMessage" "Ljava/lang/String;" : Cond) ∈ lw_T := lw_T_in (i := 144) (by decide +kernel) rfl
theorem q145 : (Cond.fieldLink "java/lang/Throwable" 7 "java/lang/Throwable" "cause" "Ljava/lang/Throwable;" : Cond) ∈ lw_T := lw_T_in (i := 145) (by decide +kernel) rfl
theorem q146 : (Cond.fieldLink "java/lang/Throwable" 17 "java/lang/Throwable" "stackTrace" "[Ljava/lang/StackTraceElement;" : Cond) ∈ lw_T := lw_T_in (i := 146) (by decide +kernel) rfl
theorem q147 : (Cond.fieldLink "java/lang/Throwable" 24 "java/lang/Throwable" "suppressedExceptions" "Ljava/util/List;" : Cond) ∈ lw_T := lw_T_in (i := 147) (by decide +kernel) rfl
theorem q156 : (Cond.arrayClass .byte : Cond) ∈ lw_T := lw_T_in (i := 156) (by decide +kernel) rfl
theorem q157 : (Cond.methodLink "CircusLines" 138 ⟨"CircusLines", "ofTrapeze", "(LCircusLines$Trapeze;II)I"⟩ : Cond) ∈ lw_T := lw_T_in (i := 157) (by decide +kernel) rfl
theorem q159 : (Cond.instanceMethod ⟨"CircusLines", "ofTrapeze", "(LCircusLines$Trapeze;II)I"⟩ : Cond) ∈ lw_T := lw_T_in (i := 159) (by decide +kernel) rfl
theorem q160 : (Cond.code ⟨"CircusLines", "ofTrapeze", "(LCircusLines$Trapeze;II)I"⟩ prog_1_method_28_code 4 (some .int) : Cond) ∈ lw_T := lw_T_in (i := 160) (by decide +kernel) rfl
theorem q161 : (Cond.methodLink "CircusLines" 161 ⟨"CircusLines$Trapeze", "placeIn", "(I)I"⟩ : Cond) ∈ lw_T := lw_T_in (i := 161) (by decide +kernel) rfl
theorem q162 : (Cond.instanceMethod ⟨"CircusLines$Trapeze", "placeIn", "(I)I"⟩ : Cond) ∈ lw_T := lw_T_in (i := 162) (by decide +kernel) rfl
theorem q163 : (Cond.selects "CircusLines$Trapeze" ⟨"CircusLines$Trapeze", "placeIn", "(I)I"⟩ ⟨"CircusLines$Trapeze", "placeIn", "(I)I"⟩ : Cond) ∈ lw_T := lw_T_in (i := 163) (by decide +kernel) rfl
theorem q164 : (Cond.code ⟨"CircusLines$Trapeze", "placeIn", "(I)I"⟩ prog_5_method_5_code 2 (some .int) : Cond) ∈ lw_T := lw_T_in (i := 164) (by decide +kernel) rfl
theorem q165 : (Cond.methodLink "CircusLines$Trapeze" 32 ⟨"CircusLines$Trapeze", "placeSinceLeftEnd", "(II)I"⟩ : Cond) ∈ lw_T := lw_T_in (i := 165) (by decide +kernel) rfl
theorem q166 : (Cond.instanceMethod ⟨"CircusLines$Trapeze", "placeSinceLeftEnd", "(II)I"⟩ : Cond) ∈ lw_T := lw_T_in (i := 166) (by decide +kernel) rfl
theorem q167 : (Cond.selects "CircusLines$Trapeze" ⟨"CircusLines$Trapeze", "placeSinceLeftEnd", "(II)I"⟩ ⟨"CircusLines$Trapeze", "placeSinceLeftEnd", "(II)I"⟩ : Cond) ∈ lw_T := lw_T_in (i := 167) (by decide +kernel) rfl
theorem q168 : (Cond.code ⟨"CircusLines$Trapeze", "placeSinceLeftEnd", "(II)I"⟩ prog_5_method_7_code 5 (some .int) : Cond) ∈ lw_T := lw_T_in (i := 168) (by decide +kernel) rfl
theorem q169 : (Cond.methodLink "CircusLines$Trapeze" 36 ⟨"CircusLines$Trapeze", "halfSwing", "(I)I"⟩ : Cond) ∈ lw_T := lw_T_in (i := 169) (by decide +kernel) rfl
theorem q170 : (Cond.static ⟨"CircusLines$Trapeze", "halfSwing", "(I)I"⟩ : Cond) ∈ lw_T := lw_T_in (i := 170) (by decide +kernel) rfl
theorem q171 : (Cond.code ⟨"CircusLines$Trapeze", "halfSwing", "(I)I"⟩ prog_5_method_8_code 1 (some .int) : Cond) ∈ lw_T := lw_T_in (i := 171) (by decide +kernel) rfl
theorem q172 : (Cond.methodLink "CircusLines$Trapeze" 40 ⟨"java/lang/Math", "max", "(II)I"⟩ : Cond) ∈ lw_T := lw_T_in (i := 172) (by decide +kernel) rfl
theorem q173 : (Cond.static ⟨"java/lang/Math", "max", "(II)I"⟩ : Cond) ∈ lw_T := lw_T_in (i := 173) (by decide +kernel) rfl
theorem q174 : (Cond.code ⟨"java/lang/Math", "max", "(II)I"⟩ prog_13_method_65_code 2 (some .int) : Cond) ∈ lw_T := lw_T_in (i := 174) (by decide +kernel) rfl
theorem q175 : (Cond.methodLink "CircusLines" 110 ⟨"CircusLines", "hangersOf", "(I)I"⟩ : Cond) ∈ lw_T := lw_T_in (i := 175) (by decide +kernel) rfl
theorem q177 : (Cond.instanceMethod ⟨"CircusLines", "hangersOf", "(I)I"⟩ : Cond) ∈ lw_T := lw_T_in (i := 177) (by decide +kernel) rfl
theorem q178 : (Cond.code ⟨"CircusLines", "hangersOf", "(I)I"⟩ prog_1_method_26_code 7 (some .int) : Cond) ∈ lw_T := lw_T_in (i := 178) (by decide +kernel) rfl
theorem q179 : (Cond.methodLink "CircusLines" 217 ⟨"CircusLines$Flyer", "hangsFrom", "(I)Z"⟩ : Cond) ∈ lw_T := lw_T_in (i := 179) (by decide +kernel) rfl
theorem q180 : (Cond.instanceMethod ⟨"CircusLines$Flyer", "hangsFrom", "(I)Z"⟩ : Cond) ∈ lw_T := lw_T_in (i := 180) (by decide +kernel) rfl
theorem q181 : (Cond.selects "CircusLines$Flyer" ⟨"CircusLines$Flyer", "hangsFrom", "(I)Z"⟩ ⟨"CircusLines$Flyer", "hangsFrom", "(I)Z"⟩ : Cond) ∈ lw_T := lw_T_in (i := 181) (by decide +kernel) rfl
theorem q182 : (Cond.code ⟨"CircusLines$Flyer", "hangsFrom", "(I)Z"⟩ prog_3_method_3_code 2 (some .boolean) : Cond) ∈ lw_T := lw_T_in (i := 182) (by decide +kernel) rfl
theorem q183 : (Cond.methodLink "CircusLinesLaw" 102 ⟨"CircusLines", "flyer", "(II)I"⟩ : Cond) ∈ lw_T := lw_T_in (i := 183) (by decide +kernel) rfl
theorem q184 : (Cond.instanceMethod ⟨"CircusLines", "flyer", "(II)I"⟩ : Cond) ∈ lw_T := lw_T_in (i := 184) (by decide +kernel) rfl
theorem q185 : (Cond.selects "CircusLines" ⟨"CircusLines", "flyer", "(II)I"⟩ ⟨"CircusLines", "flyer", "(II)I"⟩ : Cond) ∈ lw_T := lw_T_in (i := 185) (by decide +kernel) rfl
theorem q186 : (Cond.code ⟨"CircusLines", "flyer", "(II)I"⟩ prog_1_method_10_code 4 (some .int) : Cond) ∈ lw_T := lw_T_in (i := 186) (by decide +kernel) rfl
theorem q187 : (Cond.methodLink "CircusLines" 104 ⟨"CircusLines", "flyerNumbered", "(I)LCircusLines$Flyer;"⟩ : Cond) ∈ lw_T := lw_T_in (i := 187) (by decide +kernel) rfl
theorem q189 : (Cond.instanceMethod ⟨"CircusLines", "flyerNumbered", "(I)LCircusLines$Flyer;"⟩ : Cond) ∈ lw_T := lw_T_in (i := 189) (by decide +kernel) rfl
theorem q190 : (Cond.code ⟨"CircusLines", "flyerNumbered", "(I)LCircusLines$Flyer;"⟩ prog_1_method_25_code 2 (some (.object "CircusLines$Flyer")) : Cond) ∈ lw_T := lw_T_in (i := 190) (by decide +kernel) rfl
theorem q192 : (Cond.methodLink "CircusLines" 144 ⟨"CircusLines", "ofFlyer", "(LCircusLines$Flyer;I)I"⟩ : Cond) ∈ lw_T := lw_T_in (i := 192) (by decide +kernel) rfl
theorem q194 : (Cond.instanceMethod ⟨"CircusLines", "ofFlyer", "(LCircusLines$Flyer;I)I"⟩ : Cond) ∈ lw_T := lw_T_in (i := 194) (by decide +kernel) rfl
theorem q195 : (Cond.code ⟨"CircusLines", "ofFlyer", "(LCircusLines$Flyer;I)I"⟩ prog_1_method_29_code 4 (some .int) : Cond) ∈ lw_T := lw_T_in (i := 195) (by decide +kernel) rfl
theorem q196 : (Cond.methodLink "CircusLinesLaw" 105 ⟨"CircusLines", "called", "(II)I"⟩ : Cond) ∈ lw_T := lw_T_in (i := 196) (by decide +kernel) rfl
theorem q197 : (Cond.instanceMethod ⟨"CircusLines", "called", "(II)I"⟩ : Cond) ∈ lw_T := lw_T_in (i := 197) (by decide +kernel) rfl
theorem q198 : (Cond.selects "CircusLines" ⟨"CircusLines", "called", "(II)I"⟩ ⟨"CircusLines", "called", "(II)I"⟩ : Cond) ∈ lw_T := lw_T_in (i := 198) (by decide +kernel) rfl
theorem q199 : (Cond.code ⟨"CircusLines", "called", "(II)I"⟩ prog_1_method_11_code 4 (some .int) : Cond) ∈ lw_T := lw_T_in (i := 199) (by decide +kernel) rfl
theorem q201 : (Cond.methodLink "CircusLines" 150 ⟨"CircusLines", "ofCue", "(LCircusLines$Cue;I)I"⟩ : Cond) ∈ lw_T := lw_T_in (i := 201) (by decide +kernel) rfl
theorem q202 : (Cond.static ⟨"CircusLines", "ofCue", "(LCircusLines$Cue;I)I"⟩ : Cond) ∈ lw_T := lw_T_in (i := 202) (by decide +kernel) rfl
theorem q203 : (Cond.code ⟨"CircusLines", "ofCue", "(LCircusLines$Cue;I)I"⟩ prog_1_method_30_code 2 (some .int) : Cond) ∈ lw_T := lw_T_in (i := 203) (by decide +kernel) rfl
theorem q204 : (Cond.methodLink "CircusLinesLaw" 89 ⟨"CircusLines", "count", "(I)I"⟩ : Cond) ∈ lw_T := lw_T_in (i := 204) (by decide +kernel) rfl
theorem q205 : (Cond.instanceMethod ⟨"CircusLines", "count", "(I)I"⟩ : Cond) ∈ lw_T := lw_T_in (i := 205) (by decide +kernel) rfl
theorem q206 : (Cond.selects "CircusLines" ⟨"CircusLines", "count", "(I)I"⟩ ⟨"CircusLines", "count", "(I)I"⟩ : Cond) ∈ lw_T := lw_T_in (i := 206) (by decide +kernel) rfl
theorem q207 : (Cond.code ⟨"CircusLines", "count", "(I)I"⟩ prog_1_method_12_code 2 (some .int) : Cond) ∈ lw_T := lw_T_in (i := 207) (by decide +kernel) rfl
theorem q209 : (Cond.methodLink "CircusLines" 156 ⟨"CircusLines", "tally", "(I)I"⟩ : Cond) ∈ lw_T := lw_T_in (i := 209) (by decide +kernel) rfl
theorem q211 : (Cond.instanceMethod ⟨"CircusLines", "tally", "(I)I"⟩ : Cond) ∈ lw_T := lw_T_in (i := 211) (by decide +kernel) rfl
theorem q212 : (Cond.code ⟨"CircusLines", "tally", "(I)I"⟩ prog_1_method_31_code 2 (some .int) : Cond) ∈ lw_T := lw_T_in (i := 212) (by decide +kernel) rfl
theorem q213 : (Cond.methodLink "CircusLines" 249 ⟨"CircusLines", "wholeTrapezes", "()I"⟩ : Cond) ∈ lw_T := lw_T_in (i := 213) (by decide +kernel) rfl
theorem q215 : (Cond.instanceMethod ⟨"CircusLines", "wholeTrapezes", "()I"⟩ : Cond) ∈ lw_T := lw_T_in (i := 215) (by decide +kernel) rfl
theorem q216 : (Cond.code ⟨"CircusLines", "wholeTrapezes", "()I"⟩ prog_1_method_32_code 6 (some .int) : Cond) ∈ lw_T := lw_T_in (i := 216) (by decide +kernel) rfl
theorem q217 : (Cond.methodLink "CircusLines" 253 ⟨"CircusLines", "flyersWhoAre", "(I)I"⟩ : Cond) ∈ lw_T := lw_T_in (i := 217) (by decide +kernel) rfl
theorem q219 : (Cond.instanceMethod ⟨"CircusLines", "flyersWhoAre", "(I)I"⟩ : Cond) ∈ lw_T := lw_T_in (i := 219) (by decide +kernel) rfl
theorem q220 : (Cond.code ⟨"CircusLines", "flyersWhoAre", "(I)I"⟩ prog_1_method_33_code 7 (some .int) : Cond) ∈ lw_T := lw_T_in (i := 220) (by decide +kernel) rfl
theorem q221 : (Cond.methodLink "CircusLines" 256 ⟨"CircusLines", "openCues", "()I"⟩ : Cond) ∈ lw_T := lw_T_in (i := 221) (by decide +kernel) rfl
theorem q223 : (Cond.instanceMethod ⟨"CircusLines", "openCues", "()I"⟩ : Cond) ∈ lw_T := lw_T_in (i := 223) (by decide +kernel) rfl
theorem q224 : (Cond.code ⟨"CircusLines", "openCues", "()I"⟩ prog_1_method_34_code 6 (some .int) : Cond) ∈ lw_T := lw_T_in (i := 224) (by decide +kernel) rfl
theorem q225 : (Cond.methodLink "CircusLinesLaw" 96 ⟨"CircusLines", "place", "(II)I"⟩ : Cond) ∈ lw_T := lw_T_in (i := 225) (by decide +kernel) rfl
theorem q226 : (Cond.instanceMethod ⟨"CircusLines", "place", "(II)I"⟩ : Cond) ∈ lw_T := lw_T_in (i := 226) (by decide +kernel) rfl
theorem q227 : (Cond.selects "CircusLines" ⟨"CircusLines", "place", "(II)I"⟩ ⟨"CircusLines", "place", "(II)I"⟩ : Cond) ∈ lw_T := lw_T_in (i := 227) (by decide +kernel) rfl
theorem q228 : (Cond.code ⟨"CircusLines", "place", "(II)I"⟩ prog_1_method_13_code 4 (some .int) : Cond) ∈ lw_T := lw_T_in (i := 228) (by decide +kernel) rfl
theorem q230 : (Cond.classLink "CircusLines" 37 "java/lang/IllegalArgumentException" : Cond) ∈ lw_T := lw_T_in (i := 230) (by decide +kernel) rfl
theorem q231 : (Cond.instantiable "java/lang/IllegalArgumentException" 6 : Cond) ∈ lw_T := lw_T_in (i := 231) (by decide +kernel) rfl
theorem q233 : (Cond.selects "java/lang/IllegalArgumentException" ⟨"java/lang/Throwable", "fillInStackTrace", "(I)Ljava/lang/Throwable;"⟩ ⟨"java/lang/Throwable", "fillInStackTrace", "(I)Ljava/lang/Throwable;"⟩ : Cond) ∈ lw_T := lw_T_in (i := 233) (by decide +kernel) rfl
theorem q240 : (Cond.methodLink "CircusLines" 41 ⟨"java/lang/IllegalArgumentException", "<init>", "(Ljava/lang/String;)V"⟩ : Cond) ∈ lw_T := lw_T_in (i := 240) (by decide +kernel) rfl
theorem q241 : (Cond.instanceMethod ⟨"java/lang/IllegalArgumentException", "<init>", "(Ljava/lang/String;)V"⟩ : Cond) ∈ lw_T := lw_T_in (i := 241) (by decide +kernel) rfl
theorem q242 : (Cond.code ⟨"java/lang/IllegalArgumentException", "<init>", "(Ljava/lang/String;)V"⟩ prog_10_method_2_code 2 none : Cond) ∈ lw_T := lw_T_in (i := 242) (by decide +kernel) rfl
theorem q243 : (Cond.methodLink "java/lang/IllegalArgumentException" 7 ⟨"java/lang/RuntimeException", "<init>", "(Ljava/lang/String;)V"⟩ : Cond) ∈ lw_T := lw_T_in (i := 243) (by decide +kernel) rfl
theorem q246 : (Cond.methodLink "CircusLinesLaw" 111 ⟨"CircusLines", "go", "(I)I"⟩ : Cond) ∈ lw_T := lw_T_in (i := 246) (by decide +kernel) rfl
theorem q247 : (Cond.instanceMethod ⟨"CircusLines", "go", "(I)I"⟩ : Cond) ∈ lw_T := lw_T_in (i := 247) (by decide +kernel) rfl
theorem q248 : (Cond.selects "CircusLines" ⟨"CircusLines", "go", "(I)I"⟩ ⟨"CircusLines", "go", "(I)I"⟩ : Cond) ∈ lw_T := lw_T_in (i := 248) (by decide +kernel) rfl
theorem q249 : (Cond.code ⟨"CircusLines", "go", "(I)I"⟩ prog_1_method_15_code 2 (some .int) : Cond) ∈ lw_T := lw_T_in (i := 249) (by decide +kernel) rfl
theorem q251 : (Cond.methodLink "CircusLines" 170 ⟨"CircusLines", "passBeats", "(I)I"⟩ : Cond) ∈ lw_T := lw_T_in (i := 251) (by decide +kernel) rfl
theorem q253 : (Cond.instanceMethod ⟨"CircusLines", "passBeats", "(I)I"⟩ : Cond) ∈ lw_T := lw_T_in (i := 253) (by decide +kernel) rfl
theorem q254 : (Cond.code ⟨"CircusLines", "passBeats", "(I)I"⟩ prog_1_method_38_code 4 (some .int) : Cond) ∈ lw_T := lw_T_in (i := 254) (by decide +kernel) rfl
theorem q255 : (Cond.methodLink "CircusLines" 259 ⟨"CircusLines", "callCues", "()V"⟩ : Cond) ∈ lw_T := lw_T_in (i := 255) (by decide +kernel) rfl
theorem q257 : (Cond.instanceMethod ⟨"CircusLines", "callCues", "()V"⟩ : Cond) ∈ lw_T := lw_T_in (i := 257) (by decide +kernel) rfl
theorem q258 : (Cond.code ⟨"CircusLines", "callCues", "()V"⟩ prog_1_method_39_code 5 none : Cond) ∈ lw_T := lw_T_in (i := 258) (by decide +kernel) rfl
theorem q259 : (Cond.methodLink "CircusLines" 268 ⟨"CircusLines", "letGo", "(LCircusLines$Cue;)Z"⟩ : Cond) ∈ lw_T := lw_T_in (i := 259) (by decide +kernel) rfl
theorem q261 : (Cond.instanceMethod ⟨"CircusLines", "letGo", "(LCircusLines$Cue;)Z"⟩ : Cond) ∈ lw_T := lw_T_in (i := 261) (by decide +kernel) rfl
theorem q262 : (Cond.code ⟨"CircusLines", "letGo", "(LCircusLines$Cue;)Z"⟩ prog_1_method_40_code 4 (some .boolean) : Cond) ∈ lw_T := lw_T_in (i := 262) (by decide +kernel) rfl
theorem q263 : (Cond.methodLink "CircusLines" 272 ⟨"CircusLines$Flyer", "flyTo", "(II)V"⟩ : Cond) ∈ lw_T := lw_T_in (i := 263) (by decide +kernel) rfl
theorem q264 : (Cond.instanceMethod ⟨"CircusLines$Flyer", "flyTo", "(II)V"⟩ : Cond) ∈ lw_T := lw_T_in (i := 264) (by decide +kernel) rfl
theorem q265 : (Cond.selects "CircusLines$Flyer" ⟨"CircusLines$Flyer", "flyTo", "(II)V"⟩ ⟨"CircusLines$Flyer", "flyTo", "(II)V"⟩ : Cond) ∈ lw_T := lw_T_in (i := 265) (by decide +kernel) rfl
theorem q266 : (Cond.code ⟨"CircusLines$Flyer", "flyTo", "(II)V"⟩ prog_3_method_6_code 3 none : Cond) ∈ lw_T := lw_T_in (i := 266) (by decide +kernel) rfl
theorem q267 : (Cond.methodLink "CircusLines" 262 ⟨"CircusLines", "endFlights", "()I"⟩ : Cond) ∈ lw_T := lw_T_in (i := 267) (by decide +kernel) rfl
theorem q269 : (Cond.instanceMethod ⟨"CircusLines", "endFlights", "()I"⟩ : Cond) ∈ lw_T := lw_T_in (i := 269) (by decide +kernel) rfl
theorem q270 : (Cond.code ⟨"CircusLines", "endFlights", "()I"⟩ prog_1_method_41_code 7 (some .int) : Cond) ∈ lw_T := lw_T_in (i := 270) (by decide +kernel) rfl
theorem q271 : (Cond.methodLink "CircusLines" 275 ⟨"CircusLines$Flyer", "comesIn", "(I)Z"⟩ : Cond) ∈ lw_T := lw_T_in (i := 271) (by decide +kernel) rfl
theorem q272 : (Cond.instanceMethod ⟨"CircusLines$Flyer", "comesIn", "(I)Z"⟩ : Cond) ∈ lw_T := lw_T_in (i := 272) (by decide +kernel) rfl
theorem q273 : (Cond.selects "CircusLines$Flyer" ⟨"CircusLines$Flyer", "comesIn", "(I)Z"⟩ ⟨"CircusLines$Flyer", "comesIn", "(I)Z"⟩ : Cond) ∈ lw_T := lw_T_in (i := 273) (by decide +kernel) rfl
theorem q274 : (Cond.code ⟨"CircusLines$Flyer", "comesIn", "(I)Z"⟩ prog_3_method_4_code 2 (some .boolean) : Cond) ∈ lw_T := lw_T_in (i := 274) (by decide +kernel) rfl
theorem q275 : (Cond.methodLink "CircusLines" 278 ⟨"CircusLines", "catcherAt", "(I)I"⟩ : Cond) ∈ lw_T := lw_T_in (i := 275) (by decide +kernel) rfl
theorem q277 : (Cond.instanceMethod ⟨"CircusLines", "catcherAt", "(I)I"⟩ : Cond) ∈ lw_T := lw_T_in (i := 277) (by decide +kernel) rfl
theorem q278 : (Cond.code ⟨"CircusLines", "catcherAt", "(I)I"⟩ prog_1_method_42_code 4 (some .int) : Cond) ∈ lw_T := lw_T_in (i := 278) (by decide +kernel) rfl
theorem q279 : (Cond.methodLink "CircusLines" 173 ⟨"CircusLines", "isNear", "(II)Z"⟩ : Cond) ∈ lw_T := lw_T_in (i := 279) (by decide +kernel) rfl
theorem q280 : (Cond.static ⟨"CircusLines", "isNear", "(II)Z"⟩ : Cond) ∈ lw_T := lw_T_in (i := 280) (by decide +kernel) rfl
theorem q281 : (Cond.code ⟨"CircusLines", "isNear", "(II)Z"⟩ prog_1_method_23_code 2 (some .boolean) : Cond) ∈ lw_T := lw_T_in (i := 281) (by decide +kernel) rfl
theorem q282 : (Cond.methodLink "CircusLines" 164 ⟨"CircusLines", "isNetSpreadAt", "(I)Z"⟩ : Cond) ∈ lw_T := lw_T_in (i := 282) (by decide +kernel) rfl
theorem q284 : (Cond.instanceMethod ⟨"CircusLines", "isNetSpreadAt", "(I)Z"⟩ : Cond) ∈ lw_T := lw_T_in (i := 284) (by decide +kernel) rfl
theorem q285 : (Cond.code ⟨"CircusLines", "isNetSpreadAt", "(I)Z"⟩ prog_1_method_27_code 6 (some .boolean) : Cond) ∈ lw_T := lw_T_in (i := 285) (by decide +kernel) rfl
theorem q286 : (Cond.methodLink "CircusLines" 281 ⟨"CircusLines$Flyer", "fall", "(Z)V"⟩ : Cond) ∈ lw_T := lw_T_in (i := 286) (by decide +kernel) rfl
theorem q287 : (Cond.instanceMethod ⟨"CircusLines$Flyer", "fall", "(Z)V"⟩ : Cond) ∈ lw_T := lw_T_in (i := 287) (by decide +kernel) rfl
theorem q288 : (Cond.selects "CircusLines$Flyer" ⟨"CircusLines$Flyer", "fall", "(Z)V"⟩ ⟨"CircusLines$Flyer", "fall", "(Z)V"⟩ : Cond) ∈ lw_T := lw_T_in (i := 288) (by decide +kernel) rfl
theorem q289 : (Cond.code ⟨"CircusLines$Flyer", "fall", "(Z)V"⟩ prog_3_method_7_code 2 none : Cond) ∈ lw_T := lw_T_in (i := 289) (by decide +kernel) rfl
theorem q290 : (Cond.methodLink "CircusLines" 120 ⟨"CircusLines$Flyer", "hangFrom", "(I)V"⟩ : Cond) ∈ lw_T := lw_T_in (i := 290) (by decide +kernel) rfl
theorem q291 : (Cond.instanceMethod ⟨"CircusLines$Flyer", "hangFrom", "(I)V"⟩ : Cond) ∈ lw_T := lw_T_in (i := 291) (by decide +kernel) rfl
theorem q292 : (Cond.selects "CircusLines$Flyer" ⟨"CircusLines$Flyer", "hangFrom", "(I)V"⟩ ⟨"CircusLines$Flyer", "hangFrom", "(I)V"⟩ : Cond) ∈ lw_T := lw_T_in (i := 292) (by decide +kernel) rfl
theorem q293 : (Cond.code ⟨"CircusLines$Flyer", "hangFrom", "(I)V"⟩ prog_3_method_5_code 2 none : Cond) ∈ lw_T := lw_T_in (i := 293) (by decide +kernel) rfl
theorem q294 : (Cond.methodLink "CircusLines" 265 ⟨"CircusLines", "wearRopes", "()V"⟩ : Cond) ∈ lw_T := lw_T_in (i := 294) (by decide +kernel) rfl
theorem q296 : (Cond.instanceMethod ⟨"CircusLines", "wearRopes", "()V"⟩ : Cond) ∈ lw_T := lw_T_in (i := 296) (by decide +kernel) rfl
theorem q297 : (Cond.code ⟨"CircusLines", "wearRopes", "()V"⟩ prog_1_method_43_code 3 none : Cond) ∈ lw_T := lw_T_in (i := 297) (by decide +kernel) rfl
theorem q298 : (Cond.methodLink "CircusLines" 285 ⟨"CircusLines$Trapeze", "isAtLeftEndIn", "(I)Z"⟩ : Cond) ∈ lw_T := lw_T_in (i := 298) (by decide +kernel) rfl
theorem q299 : (Cond.instanceMethod ⟨"CircusLines$Trapeze", "isAtLeftEndIn", "(I)Z"⟩ : Cond) ∈ lw_T := lw_T_in (i := 299) (by decide +kernel) rfl
theorem q300 : (Cond.selects "CircusLines$Trapeze" ⟨"CircusLines$Trapeze", "isAtLeftEndIn", "(I)Z"⟩ ⟨"CircusLines$Trapeze", "isAtLeftEndIn", "(I)Z"⟩ : Cond) ∈ lw_T := lw_T_in (i := 300) (by decide +kernel) rfl
theorem q301 : (Cond.code ⟨"CircusLines$Trapeze", "isAtLeftEndIn", "(I)Z"⟩ prog_5_method_6_code 2 (some .boolean) : Cond) ∈ lw_T := lw_T_in (i := 301) (by decide +kernel) rfl
theorem q302 : (Cond.methodLink "CircusLines" 288 ⟨"CircusLines$Trapeze", "wear", "(I)V"⟩ : Cond) ∈ lw_T := lw_T_in (i := 302) (by decide +kernel) rfl
theorem q303 : (Cond.instanceMethod ⟨"CircusLines$Trapeze", "wear", "(I)V"⟩ : Cond) ∈ lw_T := lw_T_in (i := 303) (by decide +kernel) rfl
theorem q304 : (Cond.selects "CircusLines$Trapeze" ⟨"CircusLines$Trapeze", "wear", "(I)V"⟩ ⟨"CircusLines$Trapeze", "wear", "(I)V"⟩ : Cond) ∈ lw_T := lw_T_in (i := 304) (by decide +kernel) rfl
theorem q305 : (Cond.code ⟨"CircusLines$Trapeze", "wear", "(I)V"⟩ prog_5_method_4_code 2 none : Cond) ∈ lw_T := lw_T_in (i := 305) (by decide +kernel) rfl
theorem q306 : (Cond.methodLink "CircusLines" 291 ⟨"CircusLines", "dropFrom", "(II)V"⟩ : Cond) ∈ lw_T := lw_T_in (i := 306) (by decide +kernel) rfl
theorem q308 : (Cond.instanceMethod ⟨"CircusLines", "dropFrom", "(II)V"⟩ : Cond) ∈ lw_T := lw_T_in (i := 308) (by decide +kernel) rfl
theorem q309 : (Cond.code ⟨"CircusLines", "dropFrom", "(II)V"⟩ prog_1_method_44_code 8 none : Cond) ∈ lw_T := lw_T_in (i := 309) (by decide +kernel) rfl
theorem q310 : (Cond.methodLink "CircusLinesLaw" 99 ⟨"CircusLines", "meets", "(II)I"⟩ : Cond) ∈ lw_T := lw_T_in (i := 310) (by decide +kernel) rfl
theorem q311 : (Cond.instanceMethod ⟨"CircusLines", "meets", "(II)I"⟩ : Cond) ∈ lw_T := lw_T_in (i := 311) (by decide +kernel) rfl
theorem q312 : (Cond.selects "CircusLines" ⟨"CircusLines", "meets", "(II)I"⟩ ⟨"CircusLines", "meets", "(II)I"⟩ : Cond) ∈ lw_T := lw_T_in (i := 312) (by decide +kernel) rfl
theorem q313 : (Cond.code ⟨"CircusLines", "meets", "(II)I"⟩ prog_1_method_16_code 6 (some .int) : Cond) ∈ lw_T := lw_T_in (i := 313) (by decide +kernel) rfl
theorem q314 : (Cond.methodLink "CircusLinesLaw" 108 ⟨"CircusLines", "foresee", "(II)I"⟩ : Cond) ∈ lw_T := lw_T_in (i := 314) (by decide +kernel) rfl
theorem q315 : (Cond.instanceMethod ⟨"CircusLines", "foresee", "(II)I"⟩ : Cond) ∈ lw_T := lw_T_in (i := 315) (by decide +kernel) rfl
theorem q316 : (Cond.selects "CircusLines" ⟨"CircusLines", "foresee", "(II)I"⟩ ⟨"CircusLines", "foresee", "(II)I"⟩ : Cond) ∈ lw_T := lw_T_in (i := 316) (by decide +kernel) rfl
theorem q317 : (Cond.code ⟨"CircusLines", "foresee", "(II)I"⟩ prog_1_method_19_code 5 (some .int) : Cond) ∈ lw_T := lw_T_in (i := 317) (by decide +kernel) rfl
theorem q319 : (Cond.methodLink "CircusLines" 188 ⟨"CircusLines", "keepAct", "()V"⟩ : Cond) ∈ lw_T := lw_T_in (i := 319) (by decide +kernel) rfl
theorem q321 : (Cond.instanceMethod ⟨"CircusLines", "keepAct", "()V"⟩ : Cond) ∈ lw_T := lw_T_in (i := 321) (by decide +kernel) rfl
theorem q322 : (Cond.code ⟨"CircusLines", "keepAct", "()V"⟩ prog_1_method_45_code 5 none : Cond) ∈ lw_T := lw_T_in (i := 322) (by decide +kernel) rfl
theorem q323 : (Cond.methodLink "CircusLines" 294 ⟨"CircusLines$Trapeze", "keep", "()V"⟩ : Cond) ∈ lw_T := lw_T_in (i := 323) (by decide +kernel) rfl
theorem q324 : (Cond.instanceMethod ⟨"CircusLines$Trapeze", "keep", "()V"⟩ : Cond) ∈ lw_T := lw_T_in (i := 324) (by decide +kernel) rfl
theorem q325 : (Cond.selects "CircusLines$Trapeze" ⟨"CircusLines$Trapeze", "keep", "()V"⟩ ⟨"CircusLines$Trapeze", "keep", "()V"⟩ : Cond) ∈ lw_T := lw_T_in (i := 325) (by decide +kernel) rfl
theorem q326 : (Cond.code ⟨"CircusLines$Trapeze", "keep", "()V"⟩ prog_5_method_9_code 1 none : Cond) ∈ lw_T := lw_T_in (i := 326) (by decide +kernel) rfl
theorem q327 : (Cond.methodLink "CircusLines" 297 ⟨"CircusLines$Flyer", "keep", "()V"⟩ : Cond) ∈ lw_T := lw_T_in (i := 327) (by decide +kernel) rfl
theorem q328 : (Cond.instanceMethod ⟨"CircusLines$Flyer", "keep", "()V"⟩ : Cond) ∈ lw_T := lw_T_in (i := 328) (by decide +kernel) rfl
theorem q329 : (Cond.selects "CircusLines$Flyer" ⟨"CircusLines$Flyer", "keep", "()V"⟩ ⟨"CircusLines$Flyer", "keep", "()V"⟩ : Cond) ∈ lw_T := lw_T_in (i := 329) (by decide +kernel) rfl
theorem q330 : (Cond.code ⟨"CircusLines$Flyer", "keep", "()V"⟩ prog_3_method_8_code 1 none : Cond) ∈ lw_T := lw_T_in (i := 330) (by decide +kernel) rfl
theorem q331 : (Cond.methodLink "CircusLines" 298 ⟨"CircusLines$Cue", "keep", "()V"⟩ : Cond) ∈ lw_T := lw_T_in (i := 331) (by decide +kernel) rfl
theorem q332 : (Cond.instanceMethod ⟨"CircusLines$Cue", "keep", "()V"⟩ : Cond) ∈ lw_T := lw_T_in (i := 332) (by decide +kernel) rfl
theorem q333 : (Cond.selects "CircusLines$Cue" ⟨"CircusLines$Cue", "keep", "()V"⟩ ⟨"CircusLines$Cue", "keep", "()V"⟩ : Cond) ∈ lw_T := lw_T_in (i := 333) (by decide +kernel) rfl
theorem q334 : (Cond.code ⟨"CircusLines$Cue", "keep", "()V"⟩ prog_2_method_2_code 1 none : Cond) ∈ lw_T := lw_T_in (i := 334) (by decide +kernel) rfl
theorem q335 : (Cond.methodLink "CircusLines" 191 ⟨"CircusLines", "takeActBack", "()V"⟩ : Cond) ∈ lw_T := lw_T_in (i := 335) (by decide +kernel) rfl
theorem q337 : (Cond.instanceMethod ⟨"CircusLines", "takeActBack", "()V"⟩ : Cond) ∈ lw_T := lw_T_in (i := 337) (by decide +kernel) rfl
theorem q338 : (Cond.code ⟨"CircusLines", "takeActBack", "()V"⟩ prog_1_method_46_code 5 none : Cond) ∈ lw_T := lw_T_in (i := 338) (by decide +kernel) rfl
theorem q339 : (Cond.methodLink "CircusLines" 299 ⟨"CircusLines$Trapeze", "takeBack", "()V"⟩ : Cond) ∈ lw_T := lw_T_in (i := 339) (by decide +kernel) rfl
theorem q340 : (Cond.instanceMethod ⟨"CircusLines$Trapeze", "takeBack", "()V"⟩ : Cond) ∈ lw_T := lw_T_in (i := 340) (by decide +kernel) rfl
theorem q341 : (Cond.selects "CircusLines$Trapeze" ⟨"CircusLines$Trapeze", "takeBack", "()V"⟩ ⟨"CircusLines$Trapeze", "takeBack", "()V"⟩ : Cond) ∈ lw_T := lw_T_in (i := 341) (by decide +kernel) rfl
theorem q342 : (Cond.code ⟨"CircusLines$Trapeze", "takeBack", "()V"⟩ prog_5_method_10_code 1 none : Cond) ∈ lw_T := lw_T_in (i := 342) (by decide +kernel) rfl
theorem q343 : (Cond.methodLink "CircusLines" 302 ⟨"CircusLines$Flyer", "takeBack", "()V"⟩ : Cond) ∈ lw_T := lw_T_in (i := 343) (by decide +kernel) rfl
theorem q344 : (Cond.instanceMethod ⟨"CircusLines$Flyer", "takeBack", "()V"⟩ : Cond) ∈ lw_T := lw_T_in (i := 344) (by decide +kernel) rfl
theorem q345 : (Cond.selects "CircusLines$Flyer" ⟨"CircusLines$Flyer", "takeBack", "()V"⟩ ⟨"CircusLines$Flyer", "takeBack", "()V"⟩ : Cond) ∈ lw_T := lw_T_in (i := 345) (by decide +kernel) rfl
theorem q346 : (Cond.code ⟨"CircusLines$Flyer", "takeBack", "()V"⟩ prog_3_method_9_code 1 none : Cond) ∈ lw_T := lw_T_in (i := 346) (by decide +kernel) rfl
theorem q347 : (Cond.methodLink "CircusLines" 303 ⟨"CircusLines$Cue", "takeBack", "()V"⟩ : Cond) ∈ lw_T := lw_T_in (i := 347) (by decide +kernel) rfl
theorem q348 : (Cond.instanceMethod ⟨"CircusLines$Cue", "takeBack", "()V"⟩ : Cond) ∈ lw_T := lw_T_in (i := 348) (by decide +kernel) rfl
theorem q349 : (Cond.selects "CircusLines$Cue" ⟨"CircusLines$Cue", "takeBack", "()V"⟩ ⟨"CircusLines$Cue", "takeBack", "()V"⟩ : Cond) ∈ lw_T := lw_T_in (i := 349) (by decide +kernel) rfl
theorem q350 : (Cond.code ⟨"CircusLines$Cue", "takeBack", "()V"⟩ prog_2_method_3_code 1 none : Cond) ∈ lw_T := lw_T_in (i := 350) (by decide +kernel) rfl
theorem q351 : (Cond.methodLink "CircusLinesLaw" 114 ⟨"CircusLinesLaw$Sim", "go", "()I"⟩ : Cond) ∈ lw_T := lw_T_in (i := 351) (by decide +kernel) rfl
theorem q352 : (Cond.instanceMethod ⟨"CircusLinesLaw$Sim", "go", "()I"⟩ : Cond) ∈ lw_T := lw_T_in (i := 352) (by decide +kernel) rfl
theorem q353 : (Cond.selects "CircusLinesLaw$Sim" ⟨"CircusLinesLaw$Sim", "go", "()I"⟩ ⟨"CircusLinesLaw$Sim", "go", "()I"⟩ : Cond) ∈ lw_T := lw_T_in (i := 353) (by decide +kernel) rfl
theorem q354 : (Cond.code ⟨"CircusLinesLaw$Sim", "go", "()I"⟩ prog_7_method_10_code 9 (some .int) : Cond) ∈ lw_T := lw_T_in (i := 354) (by decide +kernel) rfl
theorem q355 : (Cond.methodLink "CircusLinesLaw$Sim" 45 ⟨"CircusLinesLaw$Sim", "place", "([II)I"⟩ : Cond) ∈ lw_T := lw_T_in (i := 355) (by decide +kernel) rfl
theorem q356 : (Cond.static ⟨"CircusLinesLaw$Sim", "place", "([II)I"⟩ : Cond) ∈ lw_T := lw_T_in (i := 356) (by decide +kernel) rfl
theorem q357 : (Cond.code ⟨"CircusLinesLaw$Sim", "place", "([II)I"⟩ prog_7_method_5_code 6 (some .int) : Cond) ∈ lw_T := lw_T_in (i := 357) (by decide +kernel) rfl
theorem q358 : (Cond.methodLink "CircusLinesLaw$Sim" 41 ⟨"CircusLinesLaw$Sim", "state", "([IIIII)V"⟩ : Cond) ∈ lw_T := lw_T_in (i := 358) (by decide +kernel) rfl
theorem q359 : (Cond.instanceMethod ⟨"CircusLinesLaw$Sim", "state", "([IIIII)V"⟩ : Cond) ∈ lw_T := lw_T_in (i := 359) (by decide +kernel) rfl
theorem q360 : (Cond.selects "CircusLinesLaw$Sim" ⟨"CircusLinesLaw$Sim", "state", "([IIIII)V"⟩ ⟨"CircusLinesLaw$Sim", "state", "([IIIII)V"⟩ : Cond) ∈ lw_T := lw_T_in (i := 360) (by decide +kernel) rfl
theorem q361 : (Cond.code ⟨"CircusLinesLaw$Sim", "state", "([IIIII)V"⟩ prog_7_method_8_code 6 none : Cond) ∈ lw_T := lw_T_in (i := 361) (by decide +kernel) rfl
theorem q362 : (Cond.methodLink "CircusLinesLaw$Sim" 49 ⟨"CircusLinesLaw$Sim", "hang", "(I)I"⟩ : Cond) ∈ lw_T := lw_T_in (i := 362) (by decide +kernel) rfl
theorem q363 : (Cond.instanceMethod ⟨"CircusLinesLaw$Sim", "hang", "(I)I"⟩ : Cond) ∈ lw_T := lw_T_in (i := 363) (by decide +kernel) rfl
theorem q364 : (Cond.selects "CircusLinesLaw$Sim" ⟨"CircusLinesLaw$Sim", "hang", "(I)I"⟩ ⟨"CircusLinesLaw$Sim", "hang", "(I)I"⟩ : Cond) ∈ lw_T := lw_T_in (i := 364) (by decide +kernel) rfl
theorem q365 : (Cond.code ⟨"CircusLinesLaw$Sim", "hang", "(I)I"⟩ prog_7_method_6_code 7 (some .int) : Cond) ∈ lw_T := lw_T_in (i := 365) (by decide +kernel) rfl
theorem q366 : (Cond.methodLink "CircusLinesLaw$Sim" 53 ⟨"CircusLinesLaw$Sim", "falls", "([II)V"⟩ : Cond) ∈ lw_T := lw_T_in (i := 366) (by decide +kernel) rfl
theorem q367 : (Cond.instanceMethod ⟨"CircusLinesLaw$Sim", "falls", "([II)V"⟩ : Cond) ∈ lw_T := lw_T_in (i := 367) (by decide +kernel) rfl
theorem q368 : (Cond.selects "CircusLinesLaw$Sim" ⟨"CircusLinesLaw$Sim", "falls", "([II)V"⟩ ⟨"CircusLinesLaw$Sim", "falls", "([II)V"⟩ : Cond) ∈ lw_T := lw_T_in (i := 368) (by decide +kernel) rfl
theorem q369 : (Cond.code ⟨"CircusLinesLaw$Sim", "falls", "([II)V"⟩ prog_7_method_9_code 3 none : Cond) ∈ lw_T := lw_T_in (i := 369) (by decide +kernel) rfl
theorem q370 : (Cond.methodLink "CircusLinesLaw$Sim" 37 ⟨"CircusLinesLaw$Sim", "net", "(I)Z"⟩ : Cond) ∈ lw_T := lw_T_in (i := 370) (by decide +kernel) rfl
theorem q371 : (Cond.instanceMethod ⟨"CircusLinesLaw$Sim", "net", "(I)Z"⟩ : Cond) ∈ lw_T := lw_T_in (i := 371) (by decide +kernel) rfl
theorem q372 : (Cond.selects "CircusLinesLaw$Sim" ⟨"CircusLinesLaw$Sim", "net", "(I)Z"⟩ ⟨"CircusLinesLaw$Sim", "net", "(I)Z"⟩ : Cond) ∈ lw_T := lw_T_in (i := 372) (by decide +kernel) rfl
theorem q373 : (Cond.code ⟨"CircusLinesLaw$Sim", "net", "(I)Z"⟩ prog_7_method_7_code 6 (some .boolean) : Cond) ∈ lw_T := lw_T_in (i := 373) (by decide +kernel) rfl
theorem q374 : (Cond.methodLink "CircusLinesLaw" 119 ⟨"CircusLinesLaw$Sim", "isSame", "(LCircusLines;)Z"⟩ : Cond) ∈ lw_T := lw_T_in (i := 374) (by decide +kernel) rfl
theorem q375 : (Cond.instanceMethod ⟨"CircusLinesLaw$Sim", "isSame", "(LCircusLines;)Z"⟩ : Cond) ∈ lw_T := lw_T_in (i := 375) (by decide +kernel) rfl
theorem q376 : (Cond.selects "CircusLinesLaw$Sim" ⟨"CircusLinesLaw$Sim", "isSame", "(LCircusLines;)Z"⟩ ⟨"CircusLinesLaw$Sim", "isSame", "(LCircusLines;)Z"⟩ : Cond) ∈ lw_T := lw_T_in (i := 376) (by decide +kernel) rfl
theorem q377 : (Cond.code ⟨"CircusLinesLaw$Sim", "isSame", "(LCircusLines;)Z"⟩ prog_7_method_13_code 8 (some .boolean) : Cond) ∈ lw_T := lw_T_in (i := 377) (by decide +kernel) rfl
theorem q378 : (Cond.methodLink "CircusLinesLaw$Sim" 57 ⟨"CircusLines", "trapeze", "(II)I"⟩ : Cond) ∈ lw_T := lw_T_in (i := 378) (by decide +kernel) rfl
theorem q379 : (Cond.methodLink "CircusLinesLaw$Sim" 63 ⟨"CircusLines", "flyer", "(II)I"⟩ : Cond) ∈ lw_T := lw_T_in (i := 379) (by decide +kernel) rfl
theorem q380 : (Cond.methodLink "CircusLinesLaw$Sim" 66 ⟨"CircusLines", "called", "(II)I"⟩ : Cond) ∈ lw_T := lw_T_in (i := 380) (by decide +kernel) rfl
theorem q381 : (Cond.methodLink "CircusLinesLaw$Sim" 69 ⟨"CircusLinesLaw$Sim", "in", "(I)I"⟩ : Cond) ∈ lw_T := lw_T_in (i := 381) (by decide +kernel) rfl
theorem q382 : (Cond.instanceMethod ⟨"CircusLinesLaw$Sim", "in", "(I)I"⟩ : Cond) ∈ lw_T := lw_T_in (i := 382) (by decide +kernel) rfl
theorem q383 : (Cond.selects "CircusLinesLaw$Sim" ⟨"CircusLinesLaw$Sim", "in", "(I)I"⟩ ⟨"CircusLinesLaw$Sim", "in", "(I)I"⟩ : Cond) ∈ lw_T := lw_T_in (i := 383) (by decide +kernel) rfl
theorem q384 : (Cond.code ⟨"CircusLinesLaw$Sim", "in", "(I)I"⟩ prog_7_method_11_code 7 (some .int) : Cond) ∈ lw_T := lw_T_in (i := 384) (by decide +kernel) rfl
theorem q385 : (Cond.methodLink "CircusLinesLaw$Sim" 72 ⟨"CircusLinesLaw$Sim", "open", "()I"⟩ : Cond) ∈ lw_T := lw_T_in (i := 385) (by decide +kernel) rfl
theorem q386 : (Cond.instanceMethod ⟨"CircusLinesLaw$Sim", "open", "()I"⟩ : Cond) ∈ lw_T := lw_T_in (i := 386) (by decide +kernel) rfl
theorem q387 : (Cond.selects "CircusLinesLaw$Sim" ⟨"CircusLinesLaw$Sim", "open", "()I"⟩ ⟨"CircusLinesLaw$Sim", "open", "()I"⟩ : Cond) ∈ lw_T := lw_T_in (i := 387) (by decide +kernel) rfl
theorem q388 : (Cond.code ⟨"CircusLinesLaw$Sim", "open", "()I"⟩ prog_7_method_12_code 6 (some .int) : Cond) ∈ lw_T := lw_T_in (i := 388) (by decide +kernel) rfl
theorem q389 : (Cond.methodLink "CircusLinesLaw$Sim" 76 ⟨"CircusLines", "count", "(I)I"⟩ : Cond) ∈ lw_T := lw_T_in (i := 389) (by decide +kernel) rfl
theorem q390 : (Cond.methodLink "CircusLinesLaw$Sim" 79 ⟨"CircusLines", "mean", "()D"⟩ : Cond) ∈ lw_T := lw_T_in (i := 390) (by decide +kernel) rfl
theorem q391 : (Cond.instanceMethod ⟨"CircusLines", "mean", "()D"⟩ : Cond) ∈ lw_T := lw_T_in (i := 391) (by decide +kernel) rfl
theorem q392 : (Cond.selects "CircusLines" ⟨"CircusLines", "mean", "()D"⟩ ⟨"CircusLines", "mean", "()D"⟩ : Cond) ∈ lw_T := lw_T_in (i := 392) (by decide +kernel) rfl
theorem q393 : (Cond.code ⟨"CircusLines", "mean", "()D"⟩ prog_1_method_20_code 6 (some .double) : Cond) ∈ lw_T := lw_T_in (i := 393) (by decide +kernel) rfl
theorem q394 : (Cond.arrayClass .int : Cond) ∈ lw_T := lw_T_in (i := 394) (by decide +kernel) rfl
theorem q395 : (Cond.methodLink "CircusLinesLaw" 76 ⟨"CircusLinesLaw", "cell", "([II)I"⟩ : Cond) ∈ lw_T := lw_T_in (i := 395) (by decide +kernel) rfl
theorem q396 : (Cond.static ⟨"CircusLinesLaw", "cell", "([II)I"⟩ : Cond) ∈ lw_T := lw_T_in (i := 396) (by decide +kernel) rfl
theorem q397 : (Cond.code ⟨"CircusLinesLaw", "cell", "([II)I"⟩ method_3_code 2 (some .int) : Cond) ∈ lw_T := lw_T_in (i := 397) (by decide +kernel) rfl
theorem q399 : (Cond.methodLink "CircusLinesLaw" 80 ⟨"CircusLinesLaw", "act", "(LCircusLines;LCircusLinesLaw$Sim;I)Z"⟩ : Cond) ∈ lw_T := lw_T_in (i := 399) (by decide +kernel) rfl
theorem q400 : (Cond.static ⟨"CircusLinesLaw", "act", "(LCircusLines;LCircusLinesLaw$Sim;I)Z"⟩ : Cond) ∈ lw_T := lw_T_in (i := 400) (by decide +kernel) rfl
theorem q401 : (Cond.code ⟨"CircusLinesLaw", "act", "(LCircusLines;LCircusLinesLaw$Sim;I)Z"⟩ method_4_code 20 (some .boolean) : Cond) ∈ lw_T := lw_T_in (i := 401) rfl rfl
theorem q402 : (Cond.methodLink "CircusLinesLaw" 18 ⟨"CircusLinesLaw", "below", "(II)I"⟩ : Cond) ∈ lw_T := lw_T_in (i := 402) (by decide +kernel) rfl
theorem q403 : (Cond.static ⟨"CircusLinesLaw", "below", "(II)I"⟩ : Cond) ∈ lw_T := lw_T_in (i := 403) (by decide +kernel) rfl
theorem q404 : (Cond.code ⟨"CircusLinesLaw", "below", "(II)I"⟩ method_2_code 2 (some .int) : Cond) ∈ lw_T := lw_T_in (i := 404) (by decide +kernel) rfl
theorem q406 : (Cond.methodLink "CircusLinesLaw" 24 ⟨"CircusLinesLaw$Sim", "more", "([[I[I)[[I"⟩ : Cond) ∈ lw_T := lw_T_in (i := 406) (by decide +kernel) rfl
theorem q407 : (Cond.static ⟨"CircusLinesLaw$Sim", "more", "([[I[I)[[I"⟩ : Cond) ∈ lw_T := lw_T_in (i := 407) (by decide +kernel) rfl
theorem q408 : (Cond.code ⟨"CircusLinesLaw$Sim", "more", "([[I[I)[[I"⟩ prog_7_method_2_code 4 (some (.array (.array .int))) : Cond) ∈ lw_T := lw_T_in (i := 408) (by decide +kernel) rfl
theorem q409 : (Cond.classLink "CircusLinesLaw$Sim" 7 "[I" : Cond) ∈ lw_T := lw_T_in (i := 409) (by decide +kernel) rfl
theorem q411 : (Cond.methodLink "CircusLinesLaw" 28 ⟨"CircusLines", "rig", "(IIII)I"⟩ : Cond) ∈ lw_T := lw_T_in (i := 411) (by decide +kernel) rfl
theorem q412 : (Cond.instanceMethod ⟨"CircusLines", "rig", "(IIII)I"⟩ : Cond) ∈ lw_T := lw_T_in (i := 412) (by decide +kernel) rfl
theorem q413 : (Cond.selects "CircusLines" ⟨"CircusLines", "rig", "(IIII)I"⟩ ⟨"CircusLines", "rig", "(IIII)I"⟩ : Cond) ∈ lw_T := lw_T_in (i := 413) (by decide +kernel) rfl
theorem q414 : (Cond.code ⟨"CircusLines", "rig", "(IIII)I"⟩ prog_1_method_2_code 6 (some .int) : Cond) ∈ lw_T := lw_T_in (i := 414) (by decide +kernel) rfl
theorem q416 : (Cond.classLink "CircusLines" 48 "java/lang/IllegalStateException" : Cond) ∈ lw_T := lw_T_in (i := 416) (by decide +kernel) rfl
theorem q417 : (Cond.instantiable "java/lang/IllegalStateException" 6 : Cond) ∈ lw_T := lw_T_in (i := 417) (by decide +kernel) rfl
theorem q419 : (Cond.selects "java/lang/IllegalStateException" ⟨"java/lang/Throwable", "fillInStackTrace", "(I)Ljava/lang/Throwable;"⟩ ⟨"java/lang/Throwable", "fillInStackTrace", "(I)Ljava/lang/Throwable;"⟩ : Cond) ∈ lw_T := lw_T_in (i := 419) (by decide +kernel) rfl
theorem q426 : (Cond.methodLink "CircusLines" 52 ⟨"java/lang/IllegalStateException", "<init>", "(Ljava/lang/String;)V"⟩ : Cond) ∈ lw_T := lw_T_in (i := 426) (by decide +kernel) rfl
theorem q427 : (Cond.instanceMethod ⟨"java/lang/IllegalStateException", "<init>", "(Ljava/lang/String;)V"⟩ : Cond) ∈ lw_T := lw_T_in (i := 427) (by decide +kernel) rfl
theorem q428 : (Cond.code ⟨"java/lang/IllegalStateException", "<init>", "(Ljava/lang/String;)V"⟩ prog_11_method_2_code 2 none : Cond) ∈ lw_T := lw_T_in (i := 428) (by decide +kernel) rfl
theorem q429 : (Cond.methodLink "java/lang/IllegalStateException" 7 ⟨"java/lang/RuntimeException", "<init>", "(Ljava/lang/String;)V"⟩ : Cond) ∈ lw_T := lw_T_in (i := 429) (by decide +kernel) rfl
theorem q432 : (Cond.instantiable "CircusLines$Trapeze" 9 : Cond) ∈ lw_T := lw_T_in (i := 432) (by decide +kernel) rfl
theorem q433 : (Cond.methodLink "CircusLines" 56 ⟨"CircusLines$Trapeze", "<init>", "(IIIII)V"⟩ : Cond) ∈ lw_T := lw_T_in (i := 433) (by decide +kernel) rfl
theorem q434 : (Cond.instanceMethod ⟨"CircusLines$Trapeze", "<init>", "(IIIII)V"⟩ : Cond) ∈ lw_T := lw_T_in (i := 434) (by decide +kernel) rfl
theorem q435 : (Cond.code ⟨"CircusLines$Trapeze", "<init>", "(IIIII)V"⟩ prog_5_method_1_code 6 none : Cond) ∈ lw_T := lw_T_in (i := 435) (by decide +kernel) rfl
theorem q436 : (Cond.methodLink "CircusLines$Trapeze" 1 ⟨"java/lang/Object", "<init>", "()V"⟩ : Cond) ∈ lw_T := lw_T_in (i := 436) (by decide +kernel) rfl
theorem q437 : (Cond.fieldLink "CircusLines$Trapeze" 7 "CircusLines$Trapeze" "middle" "I" : Cond) ∈ lw_T := lw_T_in (i := 437) (by decide +kernel) rfl
theorem q438 : (Cond.fieldLink "CircusLines" 220 "CircusLines$Trapeze" "middle" "I" : Cond) ∈ lw_T := lw_T_in (i := 438) (by decide +kernel) rfl
theorem q439 : (Cond.fieldLink "CircusLines$Trapeze" 13 "CircusLines$Trapeze" "width" "I" : Cond) ∈ lw_T := lw_T_in (i := 439) (by decide +kernel) rfl
theorem q440 : (Cond.fieldLink "CircusLines" 223 "CircusLines$Trapeze" "width" "I" : Cond) ∈ lw_T := lw_T_in (i := 440) (by decide +kernel) rfl
theorem q441 : (Cond.fieldLink "CircusLines$Trapeze" 19 "CircusLines$Trapeze" "strength" "I" : Cond) ∈ lw_T := lw_T_in (i := 441) (by decide +kernel) rfl
theorem q442 : (Cond.fieldLink "CircusLines" 226 "CircusLines$Trapeze" "strength" "I" : Cond) ∈ lw_T := lw_T_in (i := 442) (by decide +kernel) rfl
theorem q443 : (Cond.fieldLink "CircusLines$Trapeze" 16 "CircusLines$Trapeze" "weight" "I" : Cond) ∈ lw_T := lw_T_in (i := 443) (by decide +kernel) rfl
theorem q444 : (Cond.fieldLink "CircusLines" 76 "CircusLines$Trapeze" "weight" "I" : Cond) ∈ lw_T := lw_T_in (i := 444) (by decide +kernel) rfl
theorem q445 : (Cond.fieldLink "CircusLines$Trapeze" 22 "CircusLines$Trapeze" "leftEndBeat" "I" : Cond) ∈ lw_T := lw_T_in (i := 445) (by decide +kernel) rfl
theorem q446 : (Cond.fieldLink "CircusLines$Trapeze" 29 "CircusLines$Trapeze" "worn" "I" : Cond) ∈ lw_T := lw_T_in (i := 446) (by decide +kernel) rfl
theorem q447 : (Cond.fieldLink "CircusLines" 83 "CircusLines$Trapeze" "worn" "I" : Cond) ∈ lw_T := lw_T_in (i := 447) (by decide +kernel) rfl
theorem q448 : (Cond.fieldLink "CircusLines$Trapeze" 25 "CircusLines$Trapeze" "whole" "Z" : Cond) ∈ lw_T := lw_T_in (i := 448) (by decide +kernel) rfl
theorem q449 : (Cond.fieldLink "CircusLines" 70 "CircusLines$Trapeze" "whole" "Z" : Cond) ∈ lw_T := lw_T_in (i := 449) (by decide +kernel) rfl
theorem q450 : (Cond.fieldLink "CircusLines$Trapeze" 45 "CircusLines$Trapeze" "keptWorn" "I" : Cond) ∈ lw_T := lw_T_in (i := 450) (by decide +kernel) rfl
theorem q451 : (Cond.fieldLink "CircusLines$Trapeze" 48 "CircusLines$Trapeze" "keptWhole" "Z" : Cond) ∈ lw_T := lw_T_in (i := 451) (by decide +kernel) rfl
theorem q471 : (Cond.methodLink "CircusLinesLaw" 33 ⟨"CircusLines", "weigh", "(II)I"⟩ : Cond) ∈ lw_T := lw_T_in (i := 471) (by decide +kernel) rfl
theorem q472 : (Cond.instanceMethod ⟨"CircusLines", "weigh", "(II)I"⟩ : Cond) ∈ lw_T := lw_T_in (i := 472) (by decide +kernel) rfl
theorem q473 : (Cond.selects "CircusLines" ⟨"CircusLines", "weigh", "(II)I"⟩ ⟨"CircusLines", "weigh", "(II)I"⟩ : Cond) ∈ lw_T := lw_T_in (i := 473) (by decide +kernel) rfl
theorem q474 : (Cond.code ⟨"CircusLines", "weigh", "(II)I"⟩ prog_1_method_3_code 5 (some .int) : Cond) ∈ lw_T := lw_T_in (i := 474) (by decide +kernel) rfl
theorem q477 : (Cond.methodLink "CircusLines" 79 ⟨"CircusLines$Trapeze", "setWeight", "(II)V"⟩ : Cond) ∈ lw_T := lw_T_in (i := 477) (by decide +kernel) rfl
theorem q478 : (Cond.instanceMethod ⟨"CircusLines$Trapeze", "setWeight", "(II)V"⟩ : Cond) ∈ lw_T := lw_T_in (i := 478) (by decide +kernel) rfl
theorem q479 : (Cond.selects "CircusLines$Trapeze" ⟨"CircusLines$Trapeze", "setWeight", "(II)V"⟩ ⟨"CircusLines$Trapeze", "setWeight", "(II)V"⟩ : Cond) ∈ lw_T := lw_T_in (i := 479) (by decide +kernel) rfl
theorem q480 : (Cond.code ⟨"CircusLines$Trapeze", "setWeight", "(II)V"⟩ prog_5_method_2_code 3 none : Cond) ∈ lw_T := lw_T_in (i := 480) (by decide +kernel) rfl
theorem q481 : (Cond.methodLink "CircusLinesLaw" 36 ⟨"CircusLines", "mend", "(I)I"⟩ : Cond) ∈ lw_T := lw_T_in (i := 481) (by decide +kernel) rfl
theorem q482 : (Cond.instanceMethod ⟨"CircusLines", "mend", "(I)I"⟩ : Cond) ∈ lw_T := lw_T_in (i := 482) (by decide +kernel) rfl
theorem q483 : (Cond.selects "CircusLines" ⟨"CircusLines", "mend", "(I)I"⟩ ⟨"CircusLines", "mend", "(I)I"⟩ : Cond) ∈ lw_T := lw_T_in (i := 483) (by decide +kernel) rfl
theorem q484 : (Cond.code ⟨"CircusLines", "mend", "(I)I"⟩ prog_1_method_4_code 4 (some .int) : Cond) ∈ lw_T := lw_T_in (i := 484) (by decide +kernel) rfl
theorem q485 : (Cond.methodLink "CircusLines" 86 ⟨"CircusLines$Trapeze", "renewRope", "()V"⟩ : Cond) ∈ lw_T := lw_T_in (i := 485) (by decide +kernel) rfl
theorem q486 : (Cond.instanceMethod ⟨"CircusLines$Trapeze", "renewRope", "()V"⟩ : Cond) ∈ lw_T := lw_T_in (i := 486) (by decide +kernel) rfl
theorem q487 : (Cond.selects "CircusLines$Trapeze" ⟨"CircusLines$Trapeze", "renewRope", "()V"⟩ ⟨"CircusLines$Trapeze", "renewRope", "()V"⟩ : Cond) ∈ lw_T := lw_T_in (i := 487) (by decide +kernel) rfl
theorem q488 : (Cond.code ⟨"CircusLines$Trapeze", "renewRope", "()V"⟩ prog_5_method_3_code 1 none : Cond) ∈ lw_T := lw_T_in (i := 488) (by decide +kernel) rfl
theorem q489 : (Cond.methodLink "CircusLinesLaw" 40 ⟨"CircusLines", "join", "()I"⟩ : Cond) ∈ lw_T := lw_T_in (i := 489) (by decide +kernel) rfl
theorem q490 : (Cond.instanceMethod ⟨"CircusLines", "join", "()I"⟩ : Cond) ∈ lw_T := lw_T_in (i := 490) (by decide +kernel) rfl
theorem q491 : (Cond.selects "CircusLines" ⟨"CircusLines", "join", "()I"⟩ ⟨"CircusLines", "join", "()I"⟩ : Cond) ∈ lw_T := lw_T_in (i := 491) (by decide +kernel) rfl
theorem q492 : (Cond.code ⟨"CircusLines", "join", "()I"⟩ prog_1_method_6_code 2 (some .int) : Cond) ∈ lw_T := lw_T_in (i := 492) (by decide +kernel) rfl
theorem q494 : (Cond.instantiable "CircusLines$Flyer" 10 : Cond) ∈ lw_T := lw_T_in (i := 494) (by decide +kernel) rfl
theorem q496 : (Cond.instanceMethod ⟨"CircusLines$Flyer", "<init>", "()V"⟩ : Cond) ∈ lw_T := lw_T_in (i := 496) (by decide +kernel) rfl
theorem q497 : (Cond.code ⟨"CircusLines$Flyer", "<init>", "()V"⟩ prog_3_method_1_code 1 none : Cond) ∈ lw_T := lw_T_in (i := 497) (by decide +kernel) rfl
theorem q498 : (Cond.methodLink "CircusLines$Flyer" 3 ⟨"java/lang/Object", "<init>", "()V"⟩ : Cond) ∈ lw_T := lw_T_in (i := 498) (by decide +kernel) rfl
theorem q499 : (Cond.fieldLink "CircusLines$Flyer" 9 "CircusLines$Flyer" "state" "I" : Cond) ∈ lw_T := lw_T_in (i := 499) (by decide +kernel) rfl
theorem q500 : (Cond.fieldLink "CircusLines" 229 "CircusLines$Flyer" "state" "I" : Cond) ∈ lw_T := lw_T_in (i := 500) (by decide +kernel) rfl
theorem q501 : (Cond.fieldLink "CircusLines$Flyer" 15 "CircusLines$Flyer" "trapezeNumber" "I" : Cond) ∈ lw_T := lw_T_in (i := 501) (by decide +kernel) rfl
theorem q502 : (Cond.fieldLink "CircusLines" 177 "CircusLines$Flyer" "trapezeNumber" "I" : Cond) ∈ lw_T := lw_T_in (i := 502) (by decide +kernel) rfl
theorem q503 : (Cond.fieldLink "CircusLines$Flyer" 21 "CircusLines$Flyer" "goal" "I" : Cond) ∈ lw_T := lw_T_in (i := 503) (by decide +kernel) rfl
theorem q504 : (Cond.fieldLink "CircusLines" 232 "CircusLines$Flyer" "goal" "I" : Cond) ∈ lw_T := lw_T_in (i := 504) (by decide +kernel) rfl
theorem q505 : (Cond.fieldLink "CircusLines$Flyer" 18 "CircusLines$Flyer" "landingBeat" "I" : Cond) ∈ lw_T := lw_T_in (i := 505) (by decide +kernel) rfl
theorem q506 : (Cond.fieldLink "CircusLines" 235 "CircusLines$Flyer" "landingBeat" "I" : Cond) ∈ lw_T := lw_T_in (i := 506) (by decide +kernel) rfl
theorem q507 : (Cond.fieldLink "CircusLines$Flyer" 36 "CircusLines$Flyer" "caught" "I" : Cond) ∈ lw_T := lw_T_in (i := 507) (by decide +kernel) rfl
theorem q508 : (Cond.fieldLink "CircusLines" 194 "CircusLines$Flyer" "caught" "I" : Cond) ∈ lw_T := lw_T_in (i := 508) (by decide +kernel) rfl
theorem q509 : (Cond.fieldLink "CircusLines$Flyer" 24 "CircusLines$Flyer" "keptState" "I" : Cond) ∈ lw_T := lw_T_in (i := 509) (by decide +kernel) rfl
theorem q510 : (Cond.fieldLink "CircusLines$Flyer" 27 "CircusLines$Flyer" "keptTrapezeNumber" "I" : Cond) ∈ lw_T := lw_T_in (i := 510) (by decide +kernel) rfl
theorem q511 : (Cond.fieldLink "CircusLines$Flyer" 30 "CircusLines$Flyer" "keptGoal" "I" : Cond) ∈ lw_T := lw_T_in (i := 511) (by decide +kernel) rfl
theorem q512 : (Cond.fieldLink "CircusLines$Flyer" 33 "CircusLines$Flyer" "keptLandingBeat" "I" : Cond) ∈ lw_T := lw_T_in (i := 512) (by decide +kernel) rfl
theorem q513 : (Cond.fieldLink "CircusLines$Flyer" 39 "CircusLines$Flyer" "keptCaught" "I" : Cond) ∈ lw_T := lw_T_in (i := 513) (by decide +kernel) rfl
theorem q535 : (Cond.methodLink "CircusLinesLaw" 44 ⟨"CircusLinesLaw$Sim", "hang", "(I)I"⟩ : Cond) ∈ lw_T := lw_T_in (i := 535) (by decide +kernel) rfl
theorem q536 : (Cond.methodLink "CircusLinesLaw" 47 ⟨"CircusLinesLaw$Sim", "state", "([IIIII)V"⟩ : Cond) ∈ lw_T := lw_T_in (i := 536) (by decide +kernel) rfl
theorem q537 : (Cond.methodLink "CircusLinesLaw" 51 ⟨"CircusLines", "mount", "(II)I"⟩ : Cond) ∈ lw_T := lw_T_in (i := 537) (by decide +kernel) rfl
theorem q538 : (Cond.instanceMethod ⟨"CircusLines", "mount", "(II)I"⟩ : Cond) ∈ lw_T := lw_T_in (i := 538) (by decide +kernel) rfl
theorem q539 : (Cond.selects "CircusLines" ⟨"CircusLines", "mount", "(II)I"⟩ ⟨"CircusLines", "mount", "(II)I"⟩ : Cond) ∈ lw_T := lw_T_in (i := 539) (by decide +kernel) rfl
theorem q540 : (Cond.code ⟨"CircusLines", "mount", "(II)I"⟩ prog_1_method_7_code 6 (some .int) : Cond) ∈ lw_T := lw_T_in (i := 540) (by decide +kernel) rfl
theorem q542 : (Cond.methodLink "CircusLines" 114 ⟨"CircusLines$Flyer", "canMount", "()Z"⟩ : Cond) ∈ lw_T := lw_T_in (i := 542) (by decide +kernel) rfl
theorem q543 : (Cond.instanceMethod ⟨"CircusLines$Flyer", "canMount", "()Z"⟩ : Cond) ∈ lw_T := lw_T_in (i := 543) (by decide +kernel) rfl
theorem q544 : (Cond.selects "CircusLines$Flyer" ⟨"CircusLines$Flyer", "canMount", "()Z"⟩ ⟨"CircusLines$Flyer", "canMount", "()Z"⟩ : Cond) ∈ lw_T := lw_T_in (i := 544) (by decide +kernel) rfl
theorem q545 : (Cond.code ⟨"CircusLines$Flyer", "canMount", "()Z"⟩ prog_3_method_2_code 1 (some .boolean) : Cond) ∈ lw_T := lw_T_in (i := 545) (by decide +kernel) rfl
theorem q547 : (Cond.methodLink "CircusLinesLaw" 57 ⟨"java/lang/Math", "min", "(II)I"⟩ : Cond) ∈ lw_T := lw_T_in (i := 547) (by decide +kernel) rfl
theorem q548 : (Cond.static ⟨"java/lang/Math", "min", "(II)I"⟩ : Cond) ∈ lw_T := lw_T_in (i := 548) (by decide +kernel) rfl
theorem q549 : (Cond.code ⟨"java/lang/Math", "min", "(II)I"⟩ prog_13_method_69_code 2 (some .int) : Cond) ∈ lw_T := lw_T_in (i := 549) (by decide +kernel) rfl
theorem q550 : (Cond.methodLink "CircusLinesLaw" 62 ⟨"CircusLines", "spread", "(II)I"⟩ : Cond) ∈ lw_T := lw_T_in (i := 550) (by decide +kernel) rfl
theorem q551 : (Cond.instanceMethod ⟨"CircusLines", "spread", "(II)I"⟩ : Cond) ∈ lw_T := lw_T_in (i := 551) (by decide +kernel) rfl
theorem q552 : (Cond.selects "CircusLines" ⟨"CircusLines", "spread", "(II)I"⟩ ⟨"CircusLines", "spread", "(II)I"⟩ : Cond) ∈ lw_T := lw_T_in (i := 552) (by decide +kernel) rfl
theorem q553 : (Cond.code ⟨"CircusLines", "spread", "(II)I"⟩ prog_1_method_5_code 4 (some .int) : Cond) ∈ lw_T := lw_T_in (i := 553) (by decide +kernel) rfl
theorem q556 : (Cond.instantiable "CircusLines$Net" 2 : Cond) ∈ lw_T := lw_T_in (i := 556) (by decide +kernel) rfl
theorem q557 : (Cond.methodLink "CircusLines" 96 ⟨"CircusLines$Net", "<init>", "(II)V"⟩ : Cond) ∈ lw_T := lw_T_in (i := 557) (by decide +kernel) rfl
theorem q558 : (Cond.instanceMethod ⟨"CircusLines$Net", "<init>", "(II)V"⟩ : Cond) ∈ lw_T := lw_T_in (i := 558) (by decide +kernel) rfl
theorem q559 : (Cond.code ⟨"CircusLines$Net", "<init>", "(II)V"⟩ prog_4_method_1_code 3 none : Cond) ∈ lw_T := lw_T_in (i := 559) (by decide +kernel) rfl
theorem q560 : (Cond.methodLink "CircusLines$Net" 1 ⟨"java/lang/Object", "<init>", "()V"⟩ : Cond) ∈ lw_T := lw_T_in (i := 560) (by decide +kernel) rfl
theorem q561 : (Cond.fieldLink "CircusLines$Net" 7 "CircusLines$Net" "from" "I" : Cond) ∈ lw_T := lw_T_in (i := 561) (by decide +kernel) rfl
theorem q562 : (Cond.fieldLink "CircusLines" 211 "CircusLines$Net" "from" "I" : Cond) ∈ lw_T := lw_T_in (i := 562) (by decide +kernel) rfl
theorem q563 : (Cond.fieldLink "CircusLines$Net" 13 "CircusLines$Net" "to" "I" : Cond) ∈ lw_T := lw_T_in (i := 563) (by decide +kernel) rfl
theorem q564 : (Cond.fieldLink "CircusLines" 214 "CircusLines$Net" "to" "I" : Cond) ∈ lw_T := lw_T_in (i := 564) (by decide +kernel) rfl
theorem q570 : (Cond.methodLink "CircusLinesLaw" 72 ⟨"CircusLines", "cue", "(IIII)I"⟩ : Cond) ∈ lw_T := lw_T_in (i := 570) (by decide +kernel) rfl
theorem q571 : (Cond.instanceMethod ⟨"CircusLines", "cue", "(IIII)I"⟩ : Cond) ∈ lw_T := lw_T_in (i := 571) (by decide +kernel) rfl
theorem q572 : (Cond.selects "CircusLines" ⟨"CircusLines", "cue", "(IIII)I"⟩ ⟨"CircusLines", "cue", "(IIII)I"⟩ : Cond) ∈ lw_T := lw_T_in (i := 572) (by decide +kernel) rfl
theorem q573 : (Cond.code ⟨"CircusLines", "cue", "(IIII)I"⟩ prog_1_method_8_code 6 (some .int) : Cond) ∈ lw_T := lw_T_in (i := 573) (by decide +kernel) rfl
theorem q577 : (Cond.instantiable "CircusLines$Cue" 6 : Cond) ∈ lw_T := lw_T_in (i := 577) (by decide +kernel) rfl
theorem q578 : (Cond.methodLink "CircusLines" 133 ⟨"CircusLines$Cue", "<init>", "(IIII)V"⟩ : Cond) ∈ lw_T := lw_T_in (i := 578) (by decide +kernel) rfl
theorem q579 : (Cond.instanceMethod ⟨"CircusLines$Cue", "<init>", "(IIII)V"⟩ : Cond) ∈ lw_T := lw_T_in (i := 579) (by decide +kernel) rfl
theorem q580 : (Cond.code ⟨"CircusLines$Cue", "<init>", "(IIII)V"⟩ prog_2_method_1_code 5 none : Cond) ∈ lw_T := lw_T_in (i := 580) (by decide +kernel) rfl
theorem q581 : (Cond.methodLink "CircusLines$Cue" 3 ⟨"java/lang/Object", "<init>", "()V"⟩ : Cond) ∈ lw_T := lw_T_in (i := 581) (by decide +kernel) rfl
theorem q582 : (Cond.fieldLink "CircusLines$Cue" 15 "CircusLines$Cue" "beat" "I" : Cond) ∈ lw_T := lw_T_in (i := 582) (by decide +kernel) rfl
theorem q583 : (Cond.fieldLink "CircusLines" 238 "CircusLines$Cue" "beat" "I" : Cond) ∈ lw_T := lw_T_in (i := 583) (by decide +kernel) rfl
theorem q584 : (Cond.fieldLink "CircusLines$Cue" 18 "CircusLines$Cue" "flyerNumber" "I" : Cond) ∈ lw_T := lw_T_in (i := 584) (by decide +kernel) rfl
theorem q585 : (Cond.fieldLink "CircusLines" 239 "CircusLines$Cue" "flyerNumber" "I" : Cond) ∈ lw_T := lw_T_in (i := 585) (by decide +kernel) rfl
theorem q586 : (Cond.fieldLink "CircusLines$Cue" 21 "CircusLines$Cue" "reach" "I" : Cond) ∈ lw_T := lw_T_in (i := 586) (by decide +kernel) rfl
theorem q587 : (Cond.fieldLink "CircusLines" 242 "CircusLines$Cue" "reach" "I" : Cond) ∈ lw_T := lw_T_in (i := 587) (by decide +kernel) rfl
theorem q588 : (Cond.fieldLink "CircusLines$Cue" 24 "CircusLines$Cue" "time" "I" : Cond) ∈ lw_T := lw_T_in (i := 588) (by decide +kernel) rfl
theorem q589 : (Cond.fieldLink "CircusLines" 245 "CircusLines$Cue" "time" "I" : Cond) ∈ lw_T := lw_T_in (i := 589) (by decide +kernel) rfl
theorem q590 : (Cond.fieldLink "CircusLines$Cue" 9 "CircusLines$Cue" "state" "I" : Cond) ∈ lw_T := lw_T_in (i := 590) (by decide +kernel) rfl
theorem q591 : (Cond.fieldLink "CircusLines" 248 "CircusLines$Cue" "state" "I" : Cond) ∈ lw_T := lw_T_in (i := 591) (by decide +kernel) rfl
theorem q592 : (Cond.fieldLink "CircusLines$Cue" 27 "CircusLines$Cue" "keptState" "I" : Cond) ∈ lw_T := lw_T_in (i := 592) (by decide +kernel) rfl
theorem q606 : (Cond.methodLink "CircusLinesLaw" 85 ⟨"CircusLinesLaw", "build", "(LCircusLines;[I)LCircusLinesLaw$Sim;"⟩ : Cond) ∈ lw_T := lw_T_in (i := 606) (by decide +kernel) rfl
theorem q607 : (Cond.static ⟨"CircusLinesLaw", "build", "(LCircusLines;[I)LCircusLinesLaw$Sim;"⟩ : Cond) ∈ lw_T := lw_T_in (i := 607) (by decide +kernel) rfl
theorem q608 : (Cond.code ⟨"CircusLinesLaw", "build", "(LCircusLines;[I)LCircusLinesLaw$Sim;"⟩ method_5_code 4 (some (.object "CircusLinesLaw$Sim")) : Cond) ∈ lw_T := lw_T_in (i := 608) (by decide +kernel) rfl
theorem q609 : (Cond.classLink "CircusLinesLaw" 10 "CircusLinesLaw$Sim" : Cond) ∈ lw_T := lw_T_in (i := 609) (by decide +kernel) rfl
theorem q610 : (Cond.instantiable "CircusLinesLaw$Sim" 5 : Cond) ∈ lw_T := lw_T_in (i := 610) (by decide +kernel) rfl
theorem q612 : (Cond.instanceMethod ⟨"CircusLinesLaw$Sim", "<init>", "()V"⟩ : Cond) ∈ lw_T := lw_T_in (i := 612) (by decide +kernel) rfl
theorem q613 : (Cond.code ⟨"CircusLinesLaw$Sim", "<init>", "()V"⟩ prog_7_method_1_code 1 none : Cond) ∈ lw_T := lw_T_in (i := 613) (by decide +kernel) rfl
theorem q614 : (Cond.methodLink "CircusLinesLaw$Sim" 1 ⟨"java/lang/Object", "<init>", "()V"⟩ : Cond) ∈ lw_T := lw_T_in (i := 614) (by decide +kernel) rfl
theorem q615 : (Cond.fieldLink "CircusLinesLaw$Sim" 9 "CircusLinesLaw$Sim" "rig" "[[I" : Cond) ∈ lw_T := lw_T_in (i := 615) (by decide +kernel) rfl
theorem q616 : (Cond.fieldLink "CircusLinesLaw" 9 "CircusLinesLaw$Sim" "rig" "[[I" : Cond) ∈ lw_T := lw_T_in (i := 616) (by decide +kernel) rfl
theorem q617 : (Cond.fieldLink "CircusLinesLaw$Sim" 15 "CircusLinesLaw$Sim" "flyers" "[[I" : Cond) ∈ lw_T := lw_T_in (i := 617) (by decide +kernel) rfl
theorem q618 : (Cond.fieldLink "CircusLinesLaw" 15 "CircusLinesLaw$Sim" "flyers" "[[I" : Cond) ∈ lw_T := lw_T_in (i := 618) (by decide +kernel) rfl
theorem q619 : (Cond.fieldLink "CircusLinesLaw$Sim" 18 "CircusLinesLaw$Sim" "cues" "[[I" : Cond) ∈ lw_T := lw_T_in (i := 619) (by decide +kernel) rfl
theorem q620 : (Cond.fieldLink "CircusLinesLaw" 65 "CircusLinesLaw$Sim" "cues" "[[I" : Cond) ∈ lw_T := lw_T_in (i := 620) (by decide +kernel) rfl
theorem q621 : (Cond.fieldLink "CircusLinesLaw$Sim" 21 "CircusLinesLaw$Sim" "nets" "[[I" : Cond) ∈ lw_T := lw_T_in (i := 621) (by decide +kernel) rfl
theorem q622 : (Cond.fieldLink "CircusLinesLaw" 54 "CircusLinesLaw$Sim" "nets" "[[I" : Cond) ∈ lw_T := lw_T_in (i := 622) (by decide +kernel) rfl
theorem q623 : (Cond.fieldLink "CircusLinesLaw" 68 "CircusLinesLaw$Sim" "beat" "I" : Cond) ∈ lw_T := lw_T_in (i := 623) (by decide +kernel) rfl
theorem q624 : (Cond.fieldLink "CircusLinesLaw$Sim" 33 "CircusLinesLaw$Sim" "beat" "I" : Cond) ∈ lw_T := lw_T_in (i := 624) (by decide +kernel) rfl
theorem q636 : (Cond.methodLink "CircusLinesLaw" 116 ⟨"java/lang/Math", "abs", "(I)I"⟩ : Cond) ∈ lw_T := lw_T_in (i := 636) (by decide +kernel) rfl
theorem q637 : (Cond.static ⟨"java/lang/Math", "abs", "(I)I"⟩ : Cond) ∈ lw_T := lw_T_in (i := 637) (by decide +kernel) rfl
theorem q638 : (Cond.code ⟨"java/lang/Math", "abs", "(I)I"⟩ prog_13_method_59_code 1 (some .int) : Cond) ∈ lw_T := lw_T_in (i := 638) (by decide +kernel) rfl
theorem q639 : (Cond.classLink "CircusLinesLaw" 92 "[[I" : Cond) ∈ lw_T := lw_T_in (i := 639) (by decide +kernel) rfl
theorem fl_L_9 : g_fl "CircusLinesLaw" 9 5 0 := ⟨_, _, _, rfl, Nat.le_of_ble_eq_true rfl, inX5, q616, rfl⟩
theorem fl_L_15 : g_fl "CircusLinesLaw" 15 5 1 := ⟨_, _, _, rfl, Nat.le_of_ble_eq_true rfl, inX5, q618, rfl⟩
theorem fl_L_54 : g_fl "CircusLinesLaw" 54 5 3 := ⟨_, _, _, rfl, Nat.le_of_ble_eq_true rfl, inX5, q622, rfl⟩
theorem fl_L_65 : g_fl "CircusLinesLaw" 65 5 2 := ⟨_, _, _, rfl, Nat.le_of_ble_eq_true rfl, inX5, q620, rfl⟩
theorem fl_L_68 : g_fl "CircusLinesLaw" 68 5 4 := ⟨_, _, _, rfl, Nat.le_of_ble_eq_true rfl, inX5, q623, rfl⟩
theorem fl_X0_9 : g_fl "CircusLines$Cue" 9 0 4 := ⟨_, _, _, rfl, Nat.le_of_ble_eq_true rfl, inX0, q590, rfl⟩
theorem fl_X0_15 : g_fl "CircusLines$Cue" 15 0 0 := ⟨_, _, _, rfl, Nat.le_of_ble_eq_true rfl, inX0, q582, rfl⟩
theorem fl_X0_18 : g_fl "CircusLines$Cue" 18 0 1 := ⟨_, _, _, rfl, Nat.le_of_ble_eq_true rfl, inX0, q584, rfl⟩
theorem fl_X0_21 : g_fl "CircusLines$Cue" 21 0 2 := ⟨_, _, _, rfl, Nat.le_of_ble_eq_true rfl, inX0, q586, rfl⟩
theorem fl_X0_24 : g_fl "CircusLines$Cue" 24 0 3 := ⟨_, _, _, rfl, Nat.le_of_ble_eq_true rfl, inX0, q588, rfl⟩
theorem fl_X0_27 : g_fl "CircusLines$Cue" 27 0 5 := ⟨_, _, _, rfl, Nat.le_of_ble_eq_true rfl, inX0, q592, rfl⟩
theorem fl_X1_9 : g_fl "CircusLines$Flyer" 9 1 0 := ⟨_, _, _, rfl, Nat.le_of_ble_eq_true rfl, inX1, q499, rfl⟩
theorem fl_X1_15 : g_fl "CircusLines$Flyer" 15 1 1 := ⟨_, _, _, rfl, Nat.le_of_ble_eq_true rfl, inX1, q501, rfl⟩
theorem fl_X1_18 : g_fl "CircusLines$Flyer" 18 1 3 := ⟨_, _, _, rfl, Nat.le_of_ble_eq_true rfl, inX1, q505, rfl⟩
theorem fl_X1_21 : g_fl "CircusLines$Flyer" 21 1 2 := ⟨_, _, _, rfl, Nat.le_of_ble_eq_true rfl, inX1, q503, rfl⟩
theorem fl_X1_24 : g_fl "CircusLines$Flyer" 24 1 5 := ⟨_, _, _, rfl, Nat.le_of_ble_eq_true rfl, inX1, q509, rfl⟩
theorem fl_X1_27 : g_fl "CircusLines$Flyer" 27 1 6 := ⟨_, _, _, rfl, Nat.le_of_ble_eq_true rfl, inX1, q510, rfl⟩
theorem fl_X1_30 : g_fl "CircusLines$Flyer" 30 1 7 := ⟨_, _, _, rfl, Nat.le_of_ble_eq_true rfl, inX1, q511, rfl⟩
theorem fl_X1_33 : g_fl "CircusLines$Flyer" 33 1 8 := ⟨_, _, _, rfl, Nat.le_of_ble_eq_true rfl, inX1, q512, rfl⟩
theorem fl_X1_36 : g_fl "CircusLines$Flyer" 36 1 4 := ⟨_, _, _, rfl, Nat.le_of_ble_eq_true rfl, inX1, q507, rfl⟩
theorem fl_X1_39 : g_fl "CircusLines$Flyer" 39 1 9 := ⟨_, _, _, rfl, Nat.le_of_ble_eq_true rfl, inX1, q513, rfl⟩
theorem fl_X2_7 : g_fl "CircusLines$Net" 7 2 0 := ⟨_, _, _, rfl, Nat.le_of_ble_eq_true rfl, inX2, q561, rfl⟩
theorem fl_X2_13 : g_fl "CircusLines$Net" 13 2 1 := ⟨_, _, _, rfl, Nat.le_of_ble_eq_true rfl, inX2, q563, rfl⟩
theorem fl_X3_7 : g_fl "CircusLines$Trapeze" 7 3 0 := ⟨_, _, _, rfl, Nat.le_of_ble_eq_true rfl, inX3, q437, rfl⟩
theorem fl_X3_13 : g_fl "CircusLines$Trapeze" 13 3 1 := ⟨_, _, _, rfl, Nat.le_of_ble_eq_true rfl, inX3, q439, rfl⟩
theorem fl_X3_16 : g_fl "CircusLines$Trapeze" 16 3 3 := ⟨_, _, _, rfl, Nat.le_of_ble_eq_true rfl, inX3, q443, rfl⟩
theorem fl_X3_19 : g_fl "CircusLines$Trapeze" 19 3 2 := ⟨_, _, _, rfl, Nat.le_of_ble_eq_true rfl, inX3, q441, rfl⟩
theorem fl_X3_22 : g_fl "CircusLines$Trapeze" 22 3 4 := ⟨_, _, _, rfl, Nat.le_of_ble_eq_true rfl, inX3, q445, rfl⟩
theorem fl_X3_25 : g_fl "CircusLines$Trapeze" 25 3 6 := ⟨_, _, _, rfl, Nat.le_of_ble_eq_true rfl, inX3, q448, rfl⟩
theorem fl_X3_29 : g_fl "CircusLines$Trapeze" 29 3 5 := ⟨_, _, _, rfl, Nat.le_of_ble_eq_true rfl, inX3, q446, rfl⟩
theorem fl_X3_45 : g_fl "CircusLines$Trapeze" 45 3 7 := ⟨_, _, _, rfl, Nat.le_of_ble_eq_true rfl, inX3, q450, rfl⟩
theorem fl_X3_48 : g_fl "CircusLines$Trapeze" 48 3 8 := ⟨_, _, _, rfl, Nat.le_of_ble_eq_true rfl, inX3, q451, rfl⟩
theorem fl_X4_11 : g_fl "CircusLines" 11 4 0 := ⟨_, _, _, rfl, Nat.le_of_ble_eq_true rfl, inX4, q50, rfl⟩
theorem fl_X4_17 : g_fl "CircusLines" 17 4 1 := ⟨_, _, _, rfl, Nat.le_of_ble_eq_true rfl, inX4, q51, rfl⟩
theorem fl_X4_23 : g_fl "CircusLines" 23 4 2 := ⟨_, _, _, rfl, Nat.le_of_ble_eq_true rfl, inX4, q52, rfl⟩
theorem fl_X4_29 : g_fl "CircusLines" 29 4 3 := ⟨_, _, _, rfl, Nat.le_of_ble_eq_true rfl, inX4, q53, rfl⟩
theorem fl_X4_44 : g_fl "CircusLines" 44 4 4 := ⟨_, _, _, rfl, Nat.le_of_ble_eq_true rfl, inX4, q54, rfl⟩
theorem fl_X4_53 : g_fl "CircusLines" 53 4 8 := ⟨_, _, _, rfl, Nat.le_of_ble_eq_true rfl, inX4, q58, rfl⟩
theorem fl_X4_70 : g_fl "CircusLines" 70 3 6 := ⟨_, _, _, rfl, Nat.le_of_ble_eq_true rfl, inX3, q449, rfl⟩
theorem fl_X4_76 : g_fl "CircusLines" 76 3 3 := ⟨_, _, _, rfl, Nat.le_of_ble_eq_true rfl, inX3, q444, rfl⟩
theorem fl_X4_83 : g_fl "CircusLines" 83 3 5 := ⟨_, _, _, rfl, Nat.le_of_ble_eq_true rfl, inX3, q447, rfl⟩
theorem fl_X4_91 : g_fl "CircusLines" 91 4 7 := ⟨_, _, _, rfl, Nat.le_of_ble_eq_true rfl, inX4, q57, rfl⟩
theorem fl_X4_98 : g_fl "CircusLines" 98 4 5 := ⟨_, _, _, rfl, Nat.le_of_ble_eq_true rfl, inX4, q55, rfl⟩
theorem fl_X4_128 : g_fl "CircusLines" 128 4 6 := ⟨_, _, _, rfl, Nat.le_of_ble_eq_true rfl, inX4, q56, rfl⟩
theorem fl_X4_177 : g_fl "CircusLines" 177 1 1 := ⟨_, _, _, rfl, Nat.le_of_ble_eq_true rfl, inX1, q502, rfl⟩
theorem fl_X4_194 : g_fl "CircusLines" 194 1 4 := ⟨_, _, _, rfl, Nat.le_of_ble_eq_true rfl, inX1, q508, rfl⟩
theorem fl_X4_211 : g_fl "CircusLines" 211 2 0 := ⟨_, _, _, rfl, Nat.le_of_ble_eq_true rfl, inX2, q562, rfl⟩
theorem fl_X4_214 : g_fl "CircusLines" 214 2 1 := ⟨_, _, _, rfl, Nat.le_of_ble_eq_true rfl, inX2, q564, rfl⟩
theorem fl_X4_220 : g_fl "CircusLines" 220 3 0 := ⟨_, _, _, rfl, Nat.le_of_ble_eq_true rfl, inX3, q438, rfl⟩
theorem fl_X4_223 : g_fl "CircusLines" 223 3 1 := ⟨_, _, _, rfl, Nat.le_of_ble_eq_true rfl, inX3, q440, rfl⟩
theorem fl_X4_226 : g_fl "CircusLines" 226 3 2 := ⟨_, _, _, rfl, Nat.le_of_ble_eq_true rfl, inX3, q442, rfl⟩
theorem fl_X4_229 : g_fl "CircusLines" 229 1 0 := ⟨_, _, _, rfl, Nat.le_of_ble_eq_true rfl, inX1, q500, rfl⟩
theorem fl_X4_232 : g_fl "CircusLines" 232 1 2 := ⟨_, _, _, rfl, Nat.le_of_ble_eq_true rfl, inX1, q504, rfl⟩
theorem fl_X4_235 : g_fl "CircusLines" 235 1 3 := ⟨_, _, _, rfl, Nat.le_of_ble_eq_true rfl, inX1, q506, rfl⟩
theorem fl_X4_238 : g_fl "CircusLines" 238 0 0 := ⟨_, _, _, rfl, Nat.le_of_ble_eq_true rfl, inX0, q583, rfl⟩
theorem fl_X4_239 : g_fl "CircusLines" 239 0 1 := ⟨_, _, _, rfl, Nat.le_of_ble_eq_true rfl, inX0, q585, rfl⟩
theorem fl_X4_242 : g_fl "CircusLines" 242 0 2 := ⟨_, _, _, rfl, Nat.le_of_ble_eq_true rfl, inX0, q587, rfl⟩
theorem fl_X4_245 : g_fl "CircusLines" 245 0 3 := ⟨_, _, _, rfl, Nat.le_of_ble_eq_true rfl, inX0, q589, rfl⟩
theorem fl_X4_248 : g_fl "CircusLines" 248 0 4 := ⟨_, _, _, rfl, Nat.le_of_ble_eq_true rfl, inX0, q591, rfl⟩
theorem fl_X5_9 : g_fl "CircusLinesLaw$Sim" 9 5 0 := ⟨_, _, _, rfl, Nat.le_of_ble_eq_true rfl, inX5, q615, rfl⟩
theorem fl_X5_15 : g_fl "CircusLinesLaw$Sim" 15 5 1 := ⟨_, _, _, rfl, Nat.le_of_ble_eq_true rfl, inX5, q617, rfl⟩
theorem fl_X5_18 : g_fl "CircusLinesLaw$Sim" 18 5 2 := ⟨_, _, _, rfl, Nat.le_of_ble_eq_true rfl, inX5, q619, rfl⟩
theorem fl_X5_21 : g_fl "CircusLinesLaw$Sim" 21 5 3 := ⟨_, _, _, rfl, Nat.le_of_ble_eq_true rfl, inX5, q621, rfl⟩
theorem fl_X5_33 : g_fl "CircusLinesLaw$Sim" 33 5 4 := ⟨_, _, _, rfl, Nat.le_of_ble_eq_true rfl, inX5, q624, rfl⟩
theorem fp_X0_0 : g_fp 0 0 .int true := ⟨_, _, _, tyX0, rfl, tyX0_ok, nmX0, rfl, by decide +kernel⟩
theorem fp_X0_1 : g_fp 0 1 .int true := ⟨_, _, _, tyX0, rfl, tyX0_ok, nmX0, rfl, by decide +kernel⟩
theorem fp_X0_2 : g_fp 0 2 .int true := ⟨_, _, _, tyX0, rfl, tyX0_ok, nmX0, rfl, by decide +kernel⟩
theorem fp_X0_3 : g_fp 0 3 .int true := ⟨_, _, _, tyX0, rfl, tyX0_ok, nmX0, rfl, by decide +kernel⟩
theorem fp_X0_4 : g_fp 0 4 .int false := ⟨_, _, _, tyX0, rfl, tyX0_ok, nmX0, rfl, by decide +kernel⟩
theorem fp_X0_5 : g_fp 0 5 .int false := ⟨_, _, _, tyX0, rfl, tyX0_ok, nmX0, rfl, by decide +kernel⟩
theorem fp_X1_0 : g_fp 1 0 .int false := ⟨_, _, _, tyX1, rfl, tyX1_ok, nmX1, rfl, by decide +kernel⟩
theorem fp_X1_1 : g_fp 1 1 .int false := ⟨_, _, _, tyX1, rfl, tyX1_ok, nmX1, rfl, by decide +kernel⟩
theorem fp_X1_2 : g_fp 1 2 .int false := ⟨_, _, _, tyX1, rfl, tyX1_ok, nmX1, rfl, by decide +kernel⟩
theorem fp_X1_3 : g_fp 1 3 .int false := ⟨_, _, _, tyX1, rfl, tyX1_ok, nmX1, rfl, by decide +kernel⟩
theorem fp_X1_4 : g_fp 1 4 .int false := ⟨_, _, _, tyX1, rfl, tyX1_ok, nmX1, rfl, by decide +kernel⟩
theorem fp_X1_5 : g_fp 1 5 .int false := ⟨_, _, _, tyX1, rfl, tyX1_ok, nmX1, rfl, by decide +kernel⟩
theorem fp_X1_6 : g_fp 1 6 .int false := ⟨_, _, _, tyX1, rfl, tyX1_ok, nmX1, rfl, by decide +kernel⟩
theorem fp_X1_7 : g_fp 1 7 .int false := ⟨_, _, _, tyX1, rfl, tyX1_ok, nmX1, rfl, by decide +kernel⟩
theorem fp_X1_8 : g_fp 1 8 .int false := ⟨_, _, _, tyX1, rfl, tyX1_ok, nmX1, rfl, by decide +kernel⟩
theorem fp_X1_9 : g_fp 1 9 .int false := ⟨_, _, _, tyX1, rfl, tyX1_ok, nmX1, rfl, by decide +kernel⟩
theorem fp_X2_0 : g_fp 2 0 .int true := ⟨_, _, _, tyX2, rfl, tyX2_ok, nmX2, rfl, by decide +kernel⟩
theorem fp_X2_1 : g_fp 2 1 .int true := ⟨_, _, _, tyX2, rfl, tyX2_ok, nmX2, rfl, by decide +kernel⟩
theorem fp_X3_0 : g_fp 3 0 .int true := ⟨_, _, _, tyX3, rfl, tyX3_ok, nmX3, rfl, by decide +kernel⟩
theorem fp_X3_1 : g_fp 3 1 .int true := ⟨_, _, _, tyX3, rfl, tyX3_ok, nmX3, rfl, by decide +kernel⟩
theorem fp_X3_2 : g_fp 3 2 .int true := ⟨_, _, _, tyX3, rfl, tyX3_ok, nmX3, rfl, by decide +kernel⟩
theorem fp_X3_3 : g_fp 3 3 .int false := ⟨_, _, _, tyX3, rfl, tyX3_ok, nmX3, rfl, by decide +kernel⟩
theorem fp_X3_4 : g_fp 3 4 .int false := ⟨_, _, _, tyX3, rfl, tyX3_ok, nmX3, rfl, by decide +kernel⟩
theorem fp_X3_5 : g_fp 3 5 .int false := ⟨_, _, _, tyX3, rfl, tyX3_ok, nmX3, rfl, by decide +kernel⟩
theorem fp_X3_6 : g_fp 3 6 .boolean false := ⟨_, _, _, tyX3, rfl, tyX3_ok, nmX3, rfl, by decide +kernel⟩
theorem fp_X3_7 : g_fp 3 7 .int false := ⟨_, _, _, tyX3, rfl, tyX3_ok, nmX3, rfl, by decide +kernel⟩
theorem fp_X3_8 : g_fp 3 8 .boolean false := ⟨_, _, _, tyX3, rfl, tyX3_ok, nmX3, rfl, by decide +kernel⟩
theorem fp_X4_0 : g_fp 4 0 (.array (.object "CircusLines$Trapeze")) true := ⟨_, _, _, tyX4, rfl, tyX4_ok, nmX4, rfl, by decide +kernel⟩
theorem fp_X4_1 : g_fp 4 1 (.array (.object "CircusLines$Flyer")) true := ⟨_, _, _, tyX4, rfl, tyX4_ok, nmX4, rfl, by decide +kernel⟩
theorem fp_X4_2 : g_fp 4 2 (.array (.object "CircusLines$Cue")) true := ⟨_, _, _, tyX4, rfl, tyX4_ok, nmX4, rfl, by decide +kernel⟩
theorem fp_X4_3 : g_fp 4 3 (.array (.object "CircusLines$Net")) true := ⟨_, _, _, tyX4, rfl, tyX4_ok, nmX4, rfl, by decide +kernel⟩
theorem fp_X4_4 : g_fp 4 4 .int false := ⟨_, _, _, tyX4, rfl, tyX4_ok, nmX4, rfl, by decide +kernel⟩
theorem fp_X4_5 : g_fp 4 5 .int false := ⟨_, _, _, tyX4, rfl, tyX4_ok, nmX4, rfl, by decide +kernel⟩
theorem fp_X4_6 : g_fp 4 6 .int false := ⟨_, _, _, tyX4, rfl, tyX4_ok, nmX4, rfl, by decide +kernel⟩
theorem fp_X4_7 : g_fp 4 7 .int false := ⟨_, _, _, tyX4, rfl, tyX4_ok, nmX4, rfl, by decide +kernel⟩
theorem fp_X4_8 : g_fp 4 8 .int false := ⟨_, _, _, tyX4, rfl, tyX4_ok, nmX4, rfl, by decide +kernel⟩
theorem fp_X5_0 : g_fp 5 0 (.array (.array .int)) false := ⟨_, _, _, tyX5, rfl, tyX5_ok, nmX5, rfl, by decide +kernel⟩
theorem fp_X5_1 : g_fp 5 1 (.array (.array .int)) false := ⟨_, _, _, tyX5, rfl, tyX5_ok, nmX5, rfl, by decide +kernel⟩
theorem fp_X5_2 : g_fp 5 2 (.array (.array .int)) false := ⟨_, _, _, tyX5, rfl, tyX5_ok, nmX5, rfl, by decide +kernel⟩
theorem fp_X5_3 : g_fp 5 3 (.array (.array .int)) false := ⟨_, _, _, tyX5, rfl, tyX5_ok, nmX5, rfl, by decide +kernel⟩
theorem fp_X5_4 : g_fp 5 4 .int false := ⟨_, _, _, tyX5, rfl, tyX5_ok, nmX5, rfl, by decide +kernel⟩
theorem mS_L_act : g_mS yL_act method_4_code 20 (some .boolean) 3 := ⟨q401, q20, ⟨by decide +kernel, by decide +kernel⟩, by decide +kernel, q400⟩
theorem mS_L_below : g_mS yL_below method_2_code 2 (some .int) 2 := ⟨q404, q20, ⟨by decide +kernel, by decide +kernel⟩, by decide +kernel, q403⟩
theorem mS_L_build : g_mS yL_build method_5_code 4 (some (.object "CircusLinesLaw$Sim")) 2 := ⟨q608, q20, ⟨by decide +kernel, by decide +kernel⟩, by decide +kernel, q607⟩
theorem mS_L_cell : g_mS yL_cell method_3_code 2 (some .int) 2 := ⟨q397, q20, ⟨by decide +kernel, by decide +kernel⟩, by decide +kernel, q396⟩
theorem mI_X0_init : g_mI yX0_init prog_2_method_1_code 5 4 := ⟨q580, q33, ⟨by decide +kernel, by decide +kernel⟩, by decide +kernel, q579, rfl⟩
theorem mV_X0_keep : g_mV yX0_keep prog_2_method_2_code 1 none 0 := ⟨q334, q33, ⟨by decide +kernel, by decide +kernel⟩, by decide +kernel, q332, q333⟩
theorem mV_X0_takeBack : g_mV yX0_takeBack prog_2_method_3_code 1 none 0 := ⟨q350, q33, ⟨by decide +kernel, by decide +kernel⟩, by decide +kernel, q348, q349⟩
theorem mI_X1_init : g_mI yX1_init prog_3_method_1_code 1 0 := ⟨q497, q30, ⟨by decide +kernel, by decide +kernel⟩, by decide +kernel, q496, rfl⟩
theorem mV_X1_canMount : g_mV yX1_canMount prog_3_method_2_code 1 (some .boolean) 0 := ⟨q545, q30, ⟨by decide +kernel, by decide +kernel⟩, by decide +kernel, q543, q544⟩
theorem mV_X1_comesIn : g_mV yX1_comesIn prog_3_method_4_code 2 (some .boolean) 1 := ⟨q274, q30, ⟨by decide +kernel, by decide +kernel⟩, by decide +kernel, q272, q273⟩
theorem mV_X1_fall : g_mV yX1_fall prog_3_method_7_code 2 none 1 := ⟨q289, q30, ⟨by decide +kernel, by decide +kernel⟩, by decide +kernel, q287, q288⟩
theorem mV_X1_flyTo : g_mV yX1_flyTo prog_3_method_6_code 3 none 2 := ⟨q266, q30, ⟨by decide +kernel, by decide +kernel⟩, by decide +kernel, q264, q265⟩
theorem mV_X1_hangFrom : g_mV yX1_hangFrom prog_3_method_5_code 2 none 1 := ⟨q293, q30, ⟨by decide +kernel, by decide +kernel⟩, by decide +kernel, q291, q292⟩
theorem mV_X1_hangsFrom : g_mV yX1_hangsFrom prog_3_method_3_code 2 (some .boolean) 1 := ⟨q182, q30, ⟨by decide +kernel, by decide +kernel⟩, by decide +kernel, q180, q181⟩
theorem mV_X1_keep : g_mV yX1_keep prog_3_method_8_code 1 none 0 := ⟨q330, q30, ⟨by decide +kernel, by decide +kernel⟩, by decide +kernel, q328, q329⟩
theorem mV_X1_takeBack : g_mV yX1_takeBack prog_3_method_9_code 1 none 0 := ⟨q346, q30, ⟨by decide +kernel, by decide +kernel⟩, by decide +kernel, q344, q345⟩
theorem mI_X2_init : g_mI yX2_init prog_4_method_1_code 3 2 := ⟨q559, q32, ⟨by decide +kernel, by decide +kernel⟩, by decide +kernel, q558, rfl⟩
theorem mI_X3_init : g_mI yX3_init prog_5_method_1_code 6 5 := ⟨q435, q28, ⟨by decide +kernel, by decide +kernel⟩, by decide +kernel, q434, rfl⟩
theorem mS_X3_halfSwing : g_mS yX3_halfSwing prog_5_method_8_code 1 (some .int) 1 := ⟨q171, q28, ⟨by decide +kernel, by decide +kernel⟩, by decide +kernel, q170⟩
theorem mV_X3_isAtLeftEndIn : g_mV yX3_isAtLeftEndIn prog_5_method_6_code 2 (some .boolean) 1 := ⟨q301, q28, ⟨by decide +kernel, by decide +kernel⟩, by decide +kernel, q299, q300⟩
theorem mV_X3_keep : g_mV yX3_keep prog_5_method_9_code 1 none 0 := ⟨q326, q28, ⟨by decide +kernel, by decide +kernel⟩, by decide +kernel, q324, q325⟩
theorem mV_X3_placeIn : g_mV yX3_placeIn prog_5_method_5_code 2 (some .int) 1 := ⟨q164, q28, ⟨by decide +kernel, by decide +kernel⟩, by decide +kernel, q162, q163⟩
theorem mV_X3_placeSinceLeftEnd : g_mV yX3_placeSinceLeftEnd prog_5_method_7_code 5 (some .int) 2 := ⟨q168, q28, ⟨by decide +kernel, by decide +kernel⟩, by decide +kernel, q166, q167⟩
theorem mV_X3_renewRope : g_mV yX3_renewRope prog_5_method_3_code 1 none 0 := ⟨q488, q28, ⟨by decide +kernel, by decide +kernel⟩, by decide +kernel, q486, q487⟩
theorem mV_X3_setWeight : g_mV yX3_setWeight prog_5_method_2_code 3 none 2 := ⟨q480, q28, ⟨by decide +kernel, by decide +kernel⟩, by decide +kernel, q478, q479⟩
theorem mV_X3_takeBack : g_mV yX3_takeBack prog_5_method_10_code 1 none 0 := ⟨q342, q28, ⟨by decide +kernel, by decide +kernel⟩, by decide +kernel, q340, q341⟩
theorem mV_X3_wear : g_mV yX3_wear prog_5_method_4_code 2 none 1 := ⟨q305, q28, ⟨by decide +kernel, by decide +kernel⟩, by decide +kernel, q303, q304⟩
theorem mI_X4_init : g_mI yX4_init prog_1_method_1_code 1 0 := ⟨q38, q21, ⟨by decide +kernel, by decide +kernel⟩, by decide +kernel, q37, rfl⟩
theorem mV_X4_callCues : g_mV yX4_callCues prog_1_method_39_code 5 none 0 := ⟨q258, q21, ⟨by decide +kernel, by decide +kernel⟩, by decide +kernel, q257, q11⟩
theorem mV_X4_called : g_mV yX4_called prog_1_method_11_code 4 (some .int) 2 := ⟨q199, q21, ⟨by decide +kernel, by decide +kernel⟩, by decide +kernel, q197, q198⟩
theorem mV_X4_catcherAt : g_mV yX4_catcherAt prog_1_method_42_code 4 (some .int) 1 := ⟨q278, q21, ⟨by decide +kernel, by decide +kernel⟩, by decide +kernel, q277, q14⟩
theorem mV_X4_count : g_mV yX4_count prog_1_method_12_code 2 (some .int) 1 := ⟨q207, q21, ⟨by decide +kernel, by decide +kernel⟩, by decide +kernel, q205, q206⟩
theorem mV_X4_cue : g_mV yX4_cue prog_1_method_8_code 6 (some .int) 4 := ⟨q573, q21, ⟨by decide +kernel, by decide +kernel⟩, by decide +kernel, q571, q572⟩
theorem mV_X4_dropFrom : g_mV yX4_dropFrom prog_1_method_44_code 8 none 2 := ⟨q309, q21, ⟨by decide +kernel, by decide +kernel⟩, by decide +kernel, q308, q17⟩
theorem mV_X4_endFlights : g_mV yX4_endFlights prog_1_method_41_code 7 (some .int) 0 := ⟨q270, q21, ⟨by decide +kernel, by decide +kernel⟩, by decide +kernel, q269, q13⟩
theorem mV_X4_flyer : g_mV yX4_flyer prog_1_method_10_code 4 (some .int) 2 := ⟨q186, q21, ⟨by decide +kernel, by decide +kernel⟩, by decide +kernel, q184, q185⟩
theorem mV_X4_flyerNumbered : g_mV yX4_flyerNumbered prog_1_method_25_code 2 (some (.object "CircusLines$Flyer")) 1 := ⟨q190, q21, ⟨by decide +kernel, by decide +kernel⟩, by decide +kernel, q189, q4⟩
theorem mV_X4_flyersWhoAre : g_mV yX4_flyersWhoAre prog_1_method_33_code 7 (some .int) 1 := ⟨q220, q21, ⟨by decide +kernel, by decide +kernel⟩, by decide +kernel, q219, q8⟩
theorem mV_X4_foresee : g_mV yX4_foresee prog_1_method_19_code 5 (some .int) 2 := ⟨q317, q21, ⟨by decide +kernel, by decide +kernel⟩, by decide +kernel, q315, q316⟩
theorem mV_X4_go : g_mV yX4_go prog_1_method_15_code 2 (some .int) 1 := ⟨q249, q21, ⟨by decide +kernel, by decide +kernel⟩, by decide +kernel, q247, q248⟩
theorem mV_X4_hangersOf : g_mV yX4_hangersOf prog_1_method_26_code 7 (some .int) 1 := ⟨q178, q21, ⟨by decide +kernel, by decide +kernel⟩, by decide +kernel, q177, q3⟩
theorem mS_X4_isNear : g_mS yX4_isNear prog_1_method_23_code 2 (some .boolean) 2 := ⟨q281, q21, ⟨by decide +kernel, by decide +kernel⟩, by decide +kernel, q280⟩
theorem mV_X4_isNetSpreadAt : g_mV yX4_isNetSpreadAt prog_1_method_27_code 6 (some .boolean) 1 := ⟨q285, q21, ⟨by decide +kernel, by decide +kernel⟩, by decide +kernel, q284, q15⟩
theorem mS_X4_isWithin : g_mS yX4_isWithin prog_1_method_22_code 3 (some .boolean) 3 := ⟨q88, q21, ⟨by decide +kernel, by decide +kernel⟩, by decide +kernel, q87⟩
theorem mV_X4_join : g_mV yX4_join prog_1_method_6_code 2 (some .int) 0 := ⟨q492, q21, ⟨by decide +kernel, by decide +kernel⟩, by decide +kernel, q490, q491⟩
theorem mV_X4_keepAct : g_mV yX4_keepAct prog_1_method_45_code 5 none 0 := ⟨q322, q21, ⟨by decide +kernel, by decide +kernel⟩, by decide +kernel, q321, q18⟩
theorem mV_X4_letGo : g_mV yX4_letGo prog_1_method_40_code 4 (some .boolean) 1 := ⟨q262, q21, ⟨by decide +kernel, by decide +kernel⟩, by decide +kernel, q261, q12⟩
theorem mV_X4_mean : g_mV yX4_mean prog_1_method_20_code 6 (some .double) 0 := ⟨q393, q21, ⟨by decide +kernel, by decide +kernel⟩, by decide +kernel, q391, q392⟩
theorem mV_X4_meets : g_mV yX4_meets prog_1_method_16_code 6 (some .int) 2 := ⟨q313, q21, ⟨by decide +kernel, by decide +kernel⟩, by decide +kernel, q311, q312⟩
theorem mV_X4_mend : g_mV yX4_mend prog_1_method_4_code 4 (some .int) 1 := ⟨q484, q21, ⟨by decide +kernel, by decide +kernel⟩, by decide +kernel, q482, q483⟩
theorem mV_X4_mount : g_mV yX4_mount prog_1_method_7_code 6 (some .int) 2 := ⟨q540, q21, ⟨by decide +kernel, by decide +kernel⟩, by decide +kernel, q538, q539⟩
theorem mS_X4_ofCue : g_mS yX4_ofCue prog_1_method_30_code 2 (some .int) 2 := ⟨q203, q21, ⟨by decide +kernel, by decide +kernel⟩, by decide +kernel, q202⟩
theorem mV_X4_ofFlyer : g_mV yX4_ofFlyer prog_1_method_29_code 4 (some .int) 2 := ⟨q195, q21, ⟨by decide +kernel, by decide +kernel⟩, by decide +kernel, q194, q5⟩
theorem mV_X4_ofTrapeze : g_mV yX4_ofTrapeze prog_1_method_28_code 4 (some .int) 3 := ⟨q160, q21, ⟨by decide +kernel, by decide +kernel⟩, by decide +kernel, q159, q2⟩
theorem mV_X4_openCues : g_mV yX4_openCues prog_1_method_34_code 6 (some .int) 0 := ⟨q224, q21, ⟨by decide +kernel, by decide +kernel⟩, by decide +kernel, q223, q9⟩
theorem mV_X4_passBeats : g_mV yX4_passBeats prog_1_method_38_code 4 (some .int) 1 := ⟨q254, q21, ⟨by decide +kernel, by decide +kernel⟩, by decide +kernel, q253, q10⟩
theorem mV_X4_place : g_mV yX4_place prog_1_method_13_code 4 (some .int) 2 := ⟨q228, q21, ⟨by decide +kernel, by decide +kernel⟩, by decide +kernel, q226, q227⟩
theorem mV_X4_rig : g_mV yX4_rig prog_1_method_2_code 6 (some .int) 4 := ⟨q414, q21, ⟨by decide +kernel, by decide +kernel⟩, by decide +kernel, q412, q413⟩
theorem mV_X4_spread : g_mV yX4_spread prog_1_method_5_code 4 (some .int) 2 := ⟨q553, q21, ⟨by decide +kernel, by decide +kernel⟩, by decide +kernel, q551, q552⟩
theorem mV_X4_takeActBack : g_mV yX4_takeActBack prog_1_method_46_code 5 none 0 := ⟨q338, q21, ⟨by decide +kernel, by decide +kernel⟩, by decide +kernel, q337, q19⟩
theorem mV_X4_tally : g_mV yX4_tally prog_1_method_31_code 2 (some .int) 1 := ⟨q212, q21, ⟨by decide +kernel, by decide +kernel⟩, by decide +kernel, q211, q6⟩
theorem mV_X4_trapeze : g_mV yX4_trapeze prog_1_method_9_code 4 (some .int) 2 := ⟨q81, q21, ⟨by decide +kernel, by decide +kernel⟩, by decide +kernel, q79, q80⟩
theorem mV_X4_trapezeNumbered : g_mV yX4_trapezeNumbered prog_1_method_24_code 2 (some (.object "CircusLines$Trapeze")) 1 := ⟨q85, q21, ⟨by decide +kernel, by decide +kernel⟩, by decide +kernel, q84, q0⟩
theorem mV_X4_wearRopes : g_mV yX4_wearRopes prog_1_method_43_code 3 none 0 := ⟨q297, q21, ⟨by decide +kernel, by decide +kernel⟩, by decide +kernel, q296, q16⟩
theorem mV_X4_weigh : g_mV yX4_weigh prog_1_method_3_code 5 (some .int) 2 := ⟨q474, q21, ⟨by decide +kernel, by decide +kernel⟩, by decide +kernel, q472, q473⟩
theorem mV_X4_wholeTrapezes : g_mV yX4_wholeTrapezes prog_1_method_32_code 6 (some .int) 0 := ⟨q216, q21, ⟨by decide +kernel, by decide +kernel⟩, by decide +kernel, q215, q7⟩
theorem mI_X5_init : g_mI yX5_init prog_7_method_1_code 1 0 := ⟨q613, q22, ⟨by decide +kernel, by decide +kernel⟩, by decide +kernel, q612, rfl⟩
theorem mV_X5_falls : g_mV yX5_falls prog_7_method_9_code 3 none 2 := ⟨q369, q22, ⟨by decide +kernel, by decide +kernel⟩, by decide +kernel, q367, q368⟩
theorem mV_X5_go : g_mV yX5_go prog_7_method_10_code 9 (some .int) 0 := ⟨q354, q22, ⟨by decide +kernel, by decide +kernel⟩, by decide +kernel, q352, q353⟩
theorem mV_X5_hang : g_mV yX5_hang prog_7_method_6_code 7 (some .int) 1 := ⟨q365, q22, ⟨by decide +kernel, by decide +kernel⟩, by decide +kernel, q363, q364⟩
theorem mV_X5_in : g_mV yX5_in prog_7_method_11_code 7 (some .int) 1 := ⟨q384, q22, ⟨by decide +kernel, by decide +kernel⟩, by decide +kernel, q382, q383⟩
theorem mV_X5_isSame : g_mV yX5_isSame prog_7_method_13_code 8 (some .boolean) 1 := ⟨q377, q22, ⟨by decide +kernel, by decide +kernel⟩, by decide +kernel, q375, q376⟩
theorem mS_X5_more : g_mS yX5_more prog_7_method_2_code 4 (some (.array (.array .int))) 2 := ⟨q408, q22, ⟨by decide +kernel, by decide +kernel⟩, by decide +kernel, q407⟩
theorem mV_X5_net : g_mV yX5_net prog_7_method_7_code 6 (some .boolean) 1 := ⟨q373, q22, ⟨by decide +kernel, by decide +kernel⟩, by decide +kernel, q371, q372⟩
theorem mV_X5_open : g_mV yX5_open prog_7_method_12_code 6 (some .int) 0 := ⟨q388, q22, ⟨by decide +kernel, by decide +kernel⟩, by decide +kernel, q386, q387⟩
theorem mS_X5_place : g_mS yX5_place prog_7_method_5_code 6 (some .int) 2 := ⟨q357, q22, ⟨by decide +kernel, by decide +kernel⟩, by decide +kernel, q356⟩
theorem mV_X5_state : g_mV yX5_state prog_7_method_8_code 6 none 5 := ⟨q361, q22, ⟨by decide +kernel, by decide +kernel⟩, by decide +kernel, q359, q360⟩
