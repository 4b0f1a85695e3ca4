abbrev yX4_init : MethodName := ⟨"CircusLines", "<init>", "()V"⟩
abbrev yX4_netAt : MethodName := ⟨"CircusLines", "netAt", "(I)Z"⟩
abbrev yX4_isNetSpreadAt : MethodName := ⟨"CircusLines", "isNetSpreadAt", "(I)Z"⟩
abbrev yX4_isWithin : MethodName := ⟨"CircusLines", "isWithin", "(III)Z"⟩
abbrev yX4_mean : MethodName := ⟨"CircusLines", "mean", "()D"⟩
abbrev yX4_digest : MethodName := ⟨"CircusLines", "digest", "()J"⟩
abbrev yX4_tally : MethodName := ⟨"CircusLines", "tally", "(I)I"⟩
abbrev yX4_wholeTrapezes : MethodName := ⟨"CircusLines", "wholeTrapezes", "()I"⟩
abbrev yX4_flyersWhoAre : MethodName := ⟨"CircusLines", "flyersWhoAre", "(I)I"⟩
abbrev yX4_openCues : MethodName := ⟨"CircusLines", "openCues", "()I"⟩
abbrev yX4_withTrapezes : MethodName := ⟨"CircusLines", "withTrapezes", "(J)J"⟩
abbrev yX4_ofTrapeze : MethodName := ⟨"CircusLines", "ofTrapeze", "(LCircusLines$Trapeze;II)I"⟩
abbrev yX3_placeIn : MethodName := ⟨"CircusLines$Trapeze", "placeIn", "(I)I"⟩
abbrev yX3_placeSinceLeftEnd : MethodName := ⟨"CircusLines$Trapeze", "placeSinceLeftEnd", "(II)I"⟩
abbrev yX3_halfSwing : MethodName := ⟨"CircusLines$Trapeze", "halfSwing", "(I)I"⟩
abbrev yX4_hangersOf : MethodName := ⟨"CircusLines", "hangersOf", "(I)I"⟩
abbrev yX1_hangsFrom : MethodName := ⟨"CircusLines$Flyer", "hangsFrom", "(I)Z"⟩
abbrev yX4_withFlyers : MethodName := ⟨"CircusLines", "withFlyers", "(J)J"⟩
abbrev yX4_ofFlyer : MethodName := ⟨"CircusLines", "ofFlyer", "(LCircusLines$Flyer;I)I"⟩
abbrev yX4_withCues : MethodName := ⟨"CircusLines", "withCues", "(J)J"⟩
abbrev yX4_ofCue : MethodName := ⟨"CircusLines", "ofCue", "(LCircusLines$Cue;I)I"⟩
abbrev yL_rig : MethodName := ⟨"CircusLinesLaw", "rig", "(LCircusLines;IIII[J)I"⟩
abbrev yX4_rig : MethodName := ⟨"CircusLines", "rig", "(IIII)I"⟩
abbrev yX3_init : MethodName := ⟨"CircusLines$Trapeze", "<init>", "(IIIII)V"⟩
abbrev yL_weigh : MethodName := ⟨"CircusLinesLaw", "weigh", "(LCircusLines;II[J)I"⟩
abbrev yX4_weigh : MethodName := ⟨"CircusLines", "weigh", "(II)I"⟩
abbrev yX4_trapezeNumbered : MethodName := ⟨"CircusLines", "trapezeNumbered", "(I)LCircusLines$Trapeze;"⟩
abbrev yX3_setWeight : MethodName := ⟨"CircusLines$Trapeze", "setWeight", "(II)V"⟩
abbrev yL_mend : MethodName := ⟨"CircusLinesLaw", "mend", "(LCircusLines;I[J)I"⟩
abbrev yX4_mend : MethodName := ⟨"CircusLines", "mend", "(I)I"⟩
abbrev yX3_renewRope : MethodName := ⟨"CircusLines$Trapeze", "renewRope", "()V"⟩
abbrev yL_spread : MethodName := ⟨"CircusLinesLaw", "spread", "(LCircusLines;II[J)I"⟩
abbrev yX4_spread : MethodName := ⟨"CircusLines", "spread", "(II)I"⟩
abbrev yX2_init : MethodName := ⟨"CircusLines$Net", "<init>", "(II)V"⟩
abbrev yL_join : MethodName := ⟨"CircusLinesLaw", "join", "(LCircusLines;[J)I"⟩
abbrev yX4_join : MethodName := ⟨"CircusLines", "join", "()I"⟩
abbrev yX1_init : MethodName := ⟨"CircusLines$Flyer", "<init>", "()V"⟩
abbrev yL_mount : MethodName := ⟨"CircusLinesLaw", "mount", "(LCircusLines;II[J)I"⟩
abbrev yX4_mount : MethodName := ⟨"CircusLines", "mount", "(II)I"⟩
abbrev yX4_flyerNumbered : MethodName := ⟨"CircusLines", "flyerNumbered", "(I)LCircusLines$Flyer;"⟩
abbrev yX1_canMount : MethodName := ⟨"CircusLines$Flyer", "canMount", "()Z"⟩
abbrev yX1_hangFrom : MethodName := ⟨"CircusLines$Flyer", "hangFrom", "(I)V"⟩
abbrev yL_cue : MethodName := ⟨"CircusLinesLaw", "cue", "(LCircusLines;IIII[J)I"⟩
abbrev yX4_cue : MethodName := ⟨"CircusLines", "cue", "(IIII)I"⟩
abbrev yX0_init : MethodName := ⟨"CircusLines$Cue", "<init>", "(IIII)V"⟩
abbrev yL_trapeze : MethodName := ⟨"CircusLinesLaw", "trapeze", "(LCircusLines;II[J)I"⟩
abbrev yX4_trapeze : MethodName := ⟨"CircusLines", "trapeze", "(II)I"⟩
abbrev yL_flyer : MethodName := ⟨"CircusLinesLaw", "flyer", "(LCircusLines;II[J)I"⟩
abbrev yX4_flyer : MethodName := ⟨"CircusLines", "flyer", "(II)I"⟩
abbrev yL_called : MethodName := ⟨"CircusLinesLaw", "called", "(LCircusLines;II[J)I"⟩
abbrev yX4_called : MethodName := ⟨"CircusLines", "called", "(II)I"⟩
abbrev yL_count : MethodName := ⟨"CircusLinesLaw", "count", "(LCircusLines;I[J)I"⟩
abbrev yX4_count : MethodName := ⟨"CircusLines", "count", "(I)I"⟩
abbrev yL_place : MethodName := ⟨"CircusLinesLaw", "place", "(LCircusLines;II[J)I"⟩
abbrev yX4_place : MethodName := ⟨"CircusLines", "place", "(II)I"⟩
abbrev yL_go : MethodName := ⟨"CircusLinesLaw", "go", "(LCircusLines;I[J)I"⟩
abbrev yX4_go : MethodName := ⟨"CircusLines", "go", "(I)I"⟩
abbrev yX4_passBeats : MethodName := ⟨"CircusLines", "passBeats", "(I)I"⟩
abbrev yX4_callCues : MethodName := ⟨"CircusLines", "callCues", "()V"⟩
abbrev yX4_letGo : MethodName := ⟨"CircusLines", "letGo", "(LCircusLines$Cue;)Z"⟩
abbrev yX1_flyTo : MethodName := ⟨"CircusLines$Flyer", "flyTo", "(II)V"⟩
abbrev yX4_endFlights : MethodName := ⟨"CircusLines", "endFlights", "()I"⟩
abbrev yX1_comesIn : MethodName := ⟨"CircusLines$Flyer", "comesIn", "(I)Z"⟩
abbrev yX4_catcherAt : MethodName := ⟨"CircusLines", "catcherAt", "(I)I"⟩
abbrev yX4_isNear : MethodName := ⟨"CircusLines", "isNear", "(II)Z"⟩
abbrev yX1_fall : MethodName := ⟨"CircusLines$Flyer", "fall", "(Z)V"⟩
abbrev yX4_wearRopes : MethodName := ⟨"CircusLines", "wearRopes", "()V"⟩
abbrev yX3_isAtLeftEndIn : MethodName := ⟨"CircusLines$Trapeze", "isAtLeftEndIn", "(I)Z"⟩
abbrev yX3_wear : MethodName := ⟨"CircusLines$Trapeze", "wear", "(I)V"⟩
abbrev yX4_dropFrom : MethodName := ⟨"CircusLines", "dropFrom", "(II)V"⟩
abbrev yL_meets : MethodName := ⟨"CircusLinesLaw", "meets", "(LCircusLines;II[J)I"⟩
abbrev yX4_meets : MethodName := ⟨"CircusLines", "meets", "(II)I"⟩
abbrev yL_flight : MethodName := ⟨"CircusLinesLaw", "flight", "(LCircusLines;II[J)I"⟩
abbrev yX4_flight : MethodName := ⟨"CircusLines", "flight", "(II)I"⟩
abbrev yL_advise : MethodName := ⟨"CircusLinesLaw", "advise", "(LCircusLines;II[J)I"⟩
abbrev yX4_advise : MethodName := ⟨"CircusLines", "advise", "(II)I"⟩
abbrev yL_foresee : MethodName := ⟨"CircusLinesLaw", "foresee", "(LCircusLines;II[J)I"⟩
abbrev yX4_foresee : MethodName := ⟨"CircusLines", "foresee", "(II)I"⟩
abbrev yX4_keepAct : MethodName := ⟨"CircusLines", "keepAct", "()V"⟩
abbrev yX3_keep : MethodName := ⟨"CircusLines$Trapeze", "keep", "()V"⟩
abbrev yX1_keep : MethodName := ⟨"CircusLines$Flyer", "keep", "()V"⟩
abbrev yX0_keep : MethodName := ⟨"CircusLines$Cue", "keep", "()V"⟩
abbrev yX4_takeActBack : MethodName := ⟨"CircusLines", "takeActBack", "()V"⟩
abbrev yX3_takeBack : MethodName := ⟨"CircusLines$Trapeze", "takeBack", "()V"⟩
abbrev yX1_takeBack : MethodName := ⟨"CircusLines$Flyer", "takeBack", "()V"⟩
abbrev yX0_takeBack : MethodName := ⟨"CircusLines$Cue", "takeBack", "()V"⟩
abbrev yX5_init : MethodName := ⟨"CircusLinesModel", "<init>", "()V"⟩
abbrev yX5_thrown : MethodName := ⟨"CircusLinesModel", "thrown", "()I"⟩
abbrev yX5_rig : MethodName := ⟨"CircusLinesModel", "rig", "(IIII)I"⟩
abbrev yX5_isIn : MethodName := ⟨"CircusLinesModel", "isIn", "(III)Z"⟩
abbrev yX5_fail : MethodName := ⟨"CircusLinesModel", "fail", "(I)I"⟩
abbrev yX5_weigh : MethodName := ⟨"CircusLinesModel", "weigh", "(II)I"⟩
abbrev yX5_isTrapeze : MethodName := ⟨"CircusLinesModel", "isTrapeze", "(I)Z"⟩
abbrev yX5_ri : MethodName := ⟨"CircusLinesModel", "ri", "(II)I"⟩
abbrev yX5_setRig : MethodName := ⟨"CircusLinesModel", "setRig", "(III)V"⟩
abbrev yX5_mend : MethodName := ⟨"CircusLinesModel", "mend", "(I)I"⟩
abbrev yX5_spread : MethodName := ⟨"CircusLinesModel", "spread", "(II)I"⟩
abbrev yX5_join : MethodName := ⟨"CircusLinesModel", "join", "()I"⟩
abbrev yX5_set : MethodName := ⟨"CircusLinesModel", "set", "(IIIII)V"⟩
abbrev yX5_mount : MethodName := ⟨"CircusLinesModel", "mount", "(II)I"⟩
abbrev yX5_isFlyer : MethodName := ⟨"CircusLinesModel", "isFlyer", "(I)Z"⟩
abbrev yX5_pe : MethodName := ⟨"CircusLinesModel", "pe", "(II)I"⟩
abbrev yX5_isFree : MethodName := ⟨"CircusLinesModel", "isFree", "(I)Z"⟩
abbrev yX5_hanging : MethodName := ⟨"CircusLinesModel", "hanging", "(I)I"⟩
abbrev yX5_cue : MethodName := ⟨"CircusLinesModel", "cue", "(IIII)I"⟩
abbrev yX5_trapeze : MethodName := ⟨"CircusLinesModel", "trapeze", "(II)I"⟩
abbrev yX5_trapezeTold : MethodName := ⟨"CircusLinesModel", "trapezeTold", "(II)I"⟩
abbrev yX5_placeOf : MethodName := ⟨"CircusLinesModel", "placeOf", "(II)I"⟩
abbrev yX5_swung : MethodName := ⟨"CircusLinesModel", "swung", "(IIII)I"⟩
abbrev yX5_flyer : MethodName := ⟨"CircusLinesModel", "flyer", "(II)I"⟩
abbrev yX5_flyerTold : MethodName := ⟨"CircusLinesModel", "flyerTold", "(II)I"⟩
abbrev yX5_called : MethodName := ⟨"CircusLinesModel", "called", "(II)I"⟩
abbrev yX5_count : MethodName := ⟨"CircusLinesModel", "count", "(I)I"⟩
abbrev yX5_counted : MethodName := ⟨"CircusLinesModel", "counted", "(I)I"⟩
abbrev yX5_inState : MethodName := ⟨"CircusLinesModel", "inState", "(I)I"⟩
abbrev yX5_place : MethodName := ⟨"CircusLinesModel", "place", "(II)I"⟩
abbrev yX5_netAt : MethodName := ⟨"CircusLinesModel", "netAt", "(I)Z"⟩
abbrev yX5_isNet : MethodName := ⟨"CircusLinesModel", "isNet", "(I)Z"⟩
abbrev yX5_go : MethodName := ⟨"CircusLinesModel", "go", "(I)I"⟩
abbrev yX5_caught : MethodName := ⟨"CircusLinesModel", "caught", "()I"⟩
abbrev yX5_beatsOn : MethodName := ⟨"CircusLinesModel", "beatsOn", "(I)V"⟩
abbrev yX5_beatOn : MethodName := ⟨"CircusLinesModel", "beatOn", "()V"⟩
abbrev yX5_cuesOn : MethodName := ⟨"CircusLinesModel", "cuesOn", "()V"⟩
abbrev yX5_land : MethodName := ⟨"CircusLinesModel", "land", "(I)V"⟩
abbrev yX5_isNear : MethodName := ⟨"CircusLinesModel", "isNear", "(II)Z"⟩
abbrev yX5_falls : MethodName := ⟨"CircusLinesModel", "falls", "(II)V"⟩
abbrev yX5_wear : MethodName := ⟨"CircusLinesModel", "wear", "(I)V"⟩
abbrev yX5_meets : MethodName := ⟨"CircusLinesModel", "meets", "(II)I"⟩
abbrev yX5_flight : MethodName := ⟨"CircusLinesModel", "flight", "(II)I"⟩
abbrev yX5_advise : MethodName := ⟨"CircusLinesModel", "advise", "(II)I"⟩
abbrev yX5_foresee : MethodName := ⟨"CircusLinesModel", "foresee", "(II)I"⟩
abbrev yX5_kept : MethodName := ⟨"CircusLinesModel", "kept", "()[[I"⟩
abbrev yX5_bringBack : MethodName := ⟨"CircusLinesModel", "bringBack", "([[I)V"⟩
abbrev yX5_mean : MethodName := ⟨"CircusLinesModel", "mean", "()D"⟩
abbrev yX5_digest : MethodName := ⟨"CircusLinesModel", "digest", "()J"⟩
abbrev kL_advise : Room := { frames := 7, cells := 1, slots := 6, locals := 123 }
abbrev kL_called : Room := { frames := 7, cells := 1, slots := 6, locals := 119 }
abbrev kL_count : Room := { frames := 7, cells := 1, slots := 6, locals := 117 }
abbrev kL_cue : Room := { frames := 7, cells := 1, slots := 6, locals := 121 }
abbrev kL_flight : Room := { frames := 7, cells := 1, slots := 6, locals := 125 }
abbrev kL_flyer : Room := { frames := 7, cells := 1, slots := 6, locals := 119 }
abbrev kL_foresee : Room := { frames := 8, cells := 1, slots := 6, locals := 185 }
abbrev kL_go : Room := { frames := 8, cells := 1, slots := 6, locals := 182 }
abbrev kL_join : Room := { frames := 7, cells := 1, slots := 10, locals := 117 }
abbrev kL_meets : Room := { frames := 7, cells := 1, slots := 6, locals := 121 }
abbrev kL_mend : Room := { frames := 7, cells := 1, slots := 6, locals := 119 }
abbrev kL_mount : Room := { frames := 7, cells := 1, slots := 6, locals := 121 }
abbrev kL_place : Room := { frames := 7, cells := 1, slots := 6, locals := 119 }
abbrev kL_rig : Room := { frames := 7, cells := 1, slots := 9, locals := 121 }
abbrev kL_spread : Room := { frames := 7, cells := 1, slots := 6, locals := 119 }
abbrev kL_trapeze : Room := { frames := 7, cells := 1, slots := 6, locals := 135 }
abbrev kL_weigh : Room := { frames := 7, cells := 1, slots := 6, locals := 120 }
abbrev kX0_init : Room := { frames := 1, cells := 0, slots := 0, locals := 20 }
abbrev kX0_keep : Room := { frames := 0, cells := 0, slots := 0, locals := 0 }
abbrev kX0_takeBack : Room := { frames := 0, cells := 0, slots := 0, locals := 0 }
abbrev kX1_canMount : Room := { frames := 0, cells := 0, slots := 0, locals := 0 }
abbrev kX1_comesIn : Room := { frames := 0, cells := 0, slots := 0, locals := 0 }
abbrev kX1_fall : Room := { frames := 0, cells := 0, slots := 0, locals := 0 }
abbrev kX1_flyTo : Room := { frames := 0, cells := 0, slots := 0, locals := 0 }
abbrev kX1_hangFrom : Room := { frames := 0, cells := 0, slots := 0, locals := 0 }
abbrev kX1_hangsFrom : Room := { frames := 0, cells := 0, slots := 0, locals := 0 }
abbrev kX1_init : Room := { frames := 1, cells := 0, slots := 0, locals := 20 }
abbrev kX1_keep : Room := { frames := 0, cells := 0, slots := 0, locals := 0 }
abbrev kX1_takeBack : Room := { frames := 0, cells := 0, slots := 0, locals := 0 }
abbrev kX2_init : Room := { frames := 1, cells := 0, slots := 0, locals := 20 }
abbrev kX3_halfSwing : Room := { frames := 1, cells := 0, slots := 0, locals := 24 }
abbrev kX3_init : Room := { frames := 1, cells := 0, slots := 0, locals := 20 }
abbrev kX3_isAtLeftEndIn : Room := { frames := 2, cells := 0, slots := 0, locals := 44 }
abbrev kX3_keep : Room := { frames := 0, cells := 0, slots := 0, locals := 0 }
abbrev kX3_placeIn : Room := { frames := 3, cells := 0, slots := 0, locals := 68 }
abbrev kX3_placeSinceLeftEnd : Room := { frames := 2, cells := 0, slots := 0, locals := 44 }
abbrev kX3_renewRope : Room := { frames := 0, cells := 0, slots := 0, locals := 0 }
abbrev kX3_setWeight : Room := { frames := 0, cells := 0, slots := 0, locals := 0 }
abbrev kX3_takeBack : Room := { frames := 0, cells := 0, slots := 0, locals := 0 }
abbrev kX3_wear : Room := { frames := 0, cells := 0, slots := 0, locals := 0 }
abbrev kX4_advise : Room := { frames := 6, cells := 1, slots := 6, locals := 96 }
abbrev kX4_callCues : Room := { frames := 5, cells := 0, slots := 0, locals := 112 }
abbrev kX4_called : Room := { frames := 6, cells := 1, slots := 6, locals := 96 }
abbrev kX4_catcherAt : Room := { frames := 4, cells := 0, slots := 0, locals := 89 }
abbrev kX4_count : Room := { frames := 6, cells := 1, slots := 6, locals := 96 }
abbrev kX4_cue : Room := { frames := 6, cells := 1, slots := 6, locals := 96 }
abbrev kX4_digest : Room := { frames := 6, cells := 0, slots := 0, locals := 139 }
abbrev kX4_dropFrom : Room := { frames := 2, cells := 0, slots := 0, locals := 47 }
abbrev kX4_endFlights : Room := { frames := 5, cells := 0, slots := 0, locals := 112 }
abbrev kX4_flight : Room := { frames := 6, cells := 1, slots := 6, locals := 96 }
abbrev kX4_flyer : Room := { frames := 6, cells := 1, slots := 6, locals := 96 }
abbrev kX4_flyerNumbered : Room := { frames := 1, cells := 0, slots := 0, locals := 22 }
abbrev kX4_flyersWhoAre : Room := { frames := 0, cells := 0, slots := 0, locals := 0 }
abbrev kX4_foresee : Room := { frames := 7, cells := 1, slots := 6, locals := 161 }
abbrev kX4_go : Room := { frames := 7, cells := 1, slots := 6, locals := 161 }
abbrev kX4_hangersOf : Room := { frames := 1, cells := 0, slots := 0, locals := 21 }
abbrev kX4_init : Room := { frames := 1, cells := 4, slots := 37, locals := 20 }
abbrev kX4_isNear : Room := { frames := 0, cells := 0, slots := 0, locals := 0 }
abbrev kX4_isNetSpreadAt : Room := { frames := 1, cells := 0, slots := 0, locals := 22 }
abbrev kX4_isWithin : Room := { frames := 0, cells := 0, slots := 0, locals := 0 }
abbrev kX4_join : Room := { frames := 6, cells := 1, slots := 10, locals := 96 }
abbrev kX4_keepAct : Room := { frames := 1, cells := 0, slots := 0, locals := 20 }
abbrev kX4_letGo : Room := { frames := 4, cells := 0, slots := 0, locals := 89 }
abbrev kX4_mean : Room := { frames := 0, cells := 0, slots := 0, locals := 0 }
abbrev kX4_meets : Room := { frames := 6, cells := 1, slots := 6, locals := 96 }
abbrev kX4_mend : Room := { frames := 6, cells := 1, slots := 6, locals := 96 }
abbrev kX4_mount : Room := { frames := 6, cells := 1, slots := 6, locals := 96 }
abbrev kX4_netAt : Room := { frames := 2, cells := 0, slots := 0, locals := 47 }
abbrev kX4_ofCue : Room := { frames := 0, cells := 0, slots := 0, locals := 0 }
abbrev kX4_ofFlyer : Room := { frames := 0, cells := 0, slots := 0, locals := 0 }
abbrev kX4_ofTrapeze : Room := { frames := 4, cells := 0, slots := 0, locals := 89 }
abbrev kX4_openCues : Room := { frames := 0, cells := 0, slots := 0, locals := 0 }
abbrev kX4_passBeats : Room := { frames := 6, cells := 0, slots := 0, locals := 138 }
abbrev kX4_place : Room := { frames := 6, cells := 1, slots := 6, locals := 96 }
abbrev kX4_rig : Room := { frames := 6, cells := 1, slots := 9, locals := 96 }
abbrev kX4_spread : Room := { frames := 6, cells := 1, slots := 6, locals := 96 }
abbrev kX4_takeActBack : Room := { frames := 1, cells := 0, slots := 0, locals := 20 }
abbrev kX4_tally : Room := { frames := 1, cells := 0, slots := 0, locals := 26 }
abbrev kX4_trapeze : Room := { frames := 6, cells := 1, slots := 6, locals := 112 }
abbrev kX4_trapezeNumbered : Room := { frames := 1, cells := 0, slots := 0, locals := 22 }
abbrev kX4_wearRopes : Room := { frames := 4, cells := 0, slots := 0, locals := 89 }
abbrev kX4_weigh : Room := { frames := 6, cells := 1, slots := 6, locals := 96 }
abbrev kX4_wholeTrapezes : Room := { frames := 0, cells := 0, slots := 0, locals := 0 }
abbrev kX4_withCues : Room := { frames := 1, cells := 0, slots := 0, locals := 21 }
abbrev kX4_withFlyers : Room := { frames := 1, cells := 0, slots := 0, locals := 23 }
abbrev kX4_withTrapezes : Room := { frames := 5, cells := 0, slots := 0, locals := 112 }
abbrev kX5_advise : Room := { frames := 2, cells := 0, slots := 0, locals := 47 }
abbrev kX5_beatOn : Room := { frames := 4, cells := 0, slots := 0, locals := 89 }
abbrev kX5_beatsOn : Room := { frames := 5, cells := 0, slots := 0, locals := 110 }
abbrev kX5_bringBack : Room := { frames := 2, cells := 1, slots := 4, locals := 40 }
abbrev kX5_called : Room := { frames := 1, cells := 0, slots := 0, locals := 22 }
abbrev kX5_caught : Room := { frames := 1, cells := 0, slots := 0, locals := 22 }
abbrev kX5_count : Room := { frames := 3, cells := 0, slots := 0, locals := 68 }
abbrev kX5_counted : Room := { frames := 2, cells := 0, slots := 0, locals := 45 }
abbrev kX5_cue : Room := { frames := 2, cells := 1, slots := 5, locals := 43 }
abbrev kX5_cuesOn : Room := { frames := 2, cells := 0, slots := 0, locals := 47 }
abbrev kX5_digest : Room := { frames := 3, cells := 0, slots := 0, locals := 69 }
abbrev kX5_fail : Room := { frames := 0, cells := 0, slots := 0, locals := 0 }
abbrev kX5_falls : Room := { frames := 2, cells := 0, slots := 0, locals := 44 }
abbrev kX5_flight : Room := { frames := 2, cells := 0, slots := 0, locals := 47 }
abbrev kX5_flyer : Room := { frames := 2, cells := 0, slots := 0, locals := 44 }
abbrev kX5_flyerTold : Room := { frames := 1, cells := 0, slots := 0, locals := 22 }
abbrev kX5_foresee : Room := { frames := 6, cells := 6, slots := 191, locals := 132 }
abbrev kX5_go : Room := { frames := 6, cells := 0, slots := 0, locals := 132 }
abbrev kX5_hanging : Room := { frames := 1, cells := 0, slots := 0, locals := 22 }
abbrev kX5_inState : Room := { frames := 1, cells := 0, slots := 0, locals := 22 }
abbrev kX5_init : Room := { frames := 1, cells := 5, slots := 189, locals := 20 }
abbrev kX5_isFlyer : Room := { frames := 1, cells := 0, slots := 0, locals := 22 }
abbrev kX5_isFree : Room := { frames := 2, cells := 0, slots := 0, locals := 45 }
abbrev kX5_isIn : Room := { frames := 0, cells := 0, slots := 0, locals := 0 }
abbrev kX5_isNear : Room := { frames := 1, cells := 0, slots := 0, locals := 24 }
abbrev kX5_isNet : Room := { frames := 1, cells := 0, slots := 0, locals := 22 }
abbrev kX5_isTrapeze : Room := { frames := 1, cells := 0, slots := 0, locals := 22 }
abbrev kX5_join : Room := { frames := 1, cells := 0, slots := 0, locals := 25 }
abbrev kX5_kept : Room := { frames := 2, cells := 5, slots := 187, locals := 40 }
abbrev kX5_land : Room := { frames := 3, cells := 0, slots := 0, locals := 66 }
abbrev kX5_mean : Room := { frames := 2, cells := 0, slots := 0, locals := 44 }
abbrev kX5_meets : Room := { frames := 2, cells := 0, slots := 0, locals := 47 }
abbrev kX5_mend : Room := { frames := 2, cells := 0, slots := 0, locals := 43 }
abbrev kX5_mount : Room := { frames := 3, cells := 0, slots := 0, locals := 66 }
abbrev kX5_netAt : Room := { frames := 2, cells := 0, slots := 0, locals := 44 }
abbrev kX5_pe : Room := { frames := 0, cells := 0, slots := 0, locals := 0 }
abbrev kX5_place : Room := { frames := 2, cells := 0, slots := 0, locals := 47 }
abbrev kX5_placeOf : Room := { frames := 1, cells := 0, slots := 0, locals := 25 }
abbrev kX5_ri : Room := { frames := 0, cells := 0, slots := 0, locals := 0 }
abbrev kX5_rig : Room := { frames := 2, cells := 1, slots := 7, locals := 40 }
abbrev kX5_set : Room := { frames := 0, cells := 0, slots := 0, locals := 0 }
abbrev kX5_setRig : Room := { frames := 0, cells := 0, slots := 0, locals := 0 }
abbrev kX5_spread : Room := { frames := 1, cells := 0, slots := 0, locals := 22 }
abbrev kX5_swung : Room := { frames := 0, cells := 0, slots := 0, locals := 0 }
abbrev kX5_thrown : Room := { frames := 0, cells := 0, slots := 0, locals := 0 }
abbrev kX5_trapeze : Room := { frames := 3, cells := 0, slots := 0, locals := 69 }
abbrev kX5_trapezeTold : Room := { frames := 2, cells := 0, slots := 0, locals := 47 }
abbrev kX5_wear : Room := { frames := 3, cells := 0, slots := 0, locals := 66 }
abbrev kX5_weigh : Room := { frames := 2, cells := 0, slots := 0, locals := 43 }
theorem q0 : (Cond.selects "CircusLines" ⟨"CircusLines", "isNetSpreadAt", "(I)Z"⟩ ⟨"CircusLines", "isNetSpreadAt", "(I)Z"⟩ : Cond) ∈ lw_T := lw_T_in (i := 0) (by decide +kernel) rfl
theorem q1 : (Cond.selects "CircusLines" ⟨"CircusLines", "tally", "(I)I"⟩ ⟨"CircusLines", "tally", "(I)I"⟩ : Cond) ∈ lw_T := lw_T_in (i := 1) (by decide +kernel) rfl
theorem q2 : (Cond.selects "CircusLines" ⟨"CircusLines", "wholeTrapezes", "()I"⟩ ⟨"CircusLines", "wholeTrapezes", "()I"⟩ : Cond) ∈ lw_T := lw_T_in (i := 2) (by decide +kernel) rfl
theorem q3 : (Cond.selects "CircusLines" ⟨"CircusLines", "flyersWhoAre", "(I)I"⟩ ⟨"CircusLines", "flyersWhoAre", "(I)I"⟩ : Cond) ∈ lw_T := lw_T_in (i := 3) (by decide +kernel) rfl
theorem q4 : (Cond.selects "CircusLines" ⟨"CircusLines", "openCues", "()I"⟩ ⟨"CircusLines", "openCues", "()I"⟩ : Cond) ∈ lw_T := lw_T_in (i := 4) (by decide +kernel) rfl
theorem q5 : (Cond.selects "CircusLines" ⟨"CircusLines", "withTrapezes", "(J)J"⟩ ⟨"CircusLines", "withTrapezes", "(J)J"⟩ : Cond) ∈ lw_T := lw_T_in (i := 5) (by decide +kernel) rfl
theorem q6 : (Cond.selects "CircusLines" ⟨"CircusLines", "ofTrapeze", "(LCircusLines$Trapeze;II)I"⟩ ⟨"CircusLines", "ofTrapeze", "(LCircusLines$Trapeze;II)I"⟩ : Cond) ∈ lw_T := lw_T_in (i := 6) (by decide +kernel) rfl
theorem q7 : (Cond.selects "CircusLines" ⟨"CircusLines", "hangersOf", "(I)I"⟩ ⟨"CircusLines", "hangersOf", "(I)I"⟩ : Cond) ∈ lw_T := lw_T_in (i := 7) (by decide +kernel) rfl
theorem q8 : (Cond.selects "CircusLines" ⟨"CircusLines", "withFlyers", "(J)J"⟩ ⟨"CircusLines", "withFlyers", "(J)J"⟩ : Cond) ∈ lw_T := lw_T_in (i := 8) (by decide +kernel) rfl
theorem q9 : (Cond.selects "CircusLines" ⟨"CircusLines", "ofFlyer", "(LCircusLines$Flyer;I)I"⟩ ⟨"CircusLines", "ofFlyer", "(LCircusLines$Flyer;I)I"⟩ : Cond) ∈ lw_T := lw_T_in (i := 9) (by decide +kernel) rfl
theorem q10 : (Cond.selects "CircusLines" ⟨"CircusLines", "withCues", "(J)J"⟩ ⟨"CircusLines", "withCues", "(J)J"⟩ : Cond) ∈ lw_T := lw_T_in (i := 10) (by decide +kernel) rfl
theorem q11 : (Cond.selects "java/lang/Throwable" ⟨"java/lang/Throwable", "fillInStackTrace", "(I)Ljava/lang/Throwable;"⟩ ⟨"java/lang/Throwable", "fillInStackTrace", "(I)Ljava/lang/Throwable;"⟩ : Cond) ∈ lw_T := lw_T_in (i := 11) (by decide +kernel) rfl
theorem q12 : (Cond.selects "CircusLines" ⟨"CircusLines", "trapezeNumbered", "(I)LCircusLines$Trapeze;"⟩ ⟨"CircusLines", "trapezeNumbered", "(I)LCircusLines$Trapeze;"⟩ : Cond) ∈ lw_T := lw_T_in (i := 12) (by decide +kernel) rfl
theorem q13 : (Cond.selects "CircusLines" ⟨"CircusLines", "flyerNumbered", "(I)LCircusLines$Flyer;"⟩ ⟨"CircusLines", "flyerNumbered", "(I)LCircusLines$Flyer;"⟩ : Cond) ∈ lw_T := lw_T_in (i := 13) (by decide +kernel) rfl
theorem q14 : (Cond.selects "CircusLines" ⟨"CircusLines", "passBeats", "(I)I"⟩ ⟨"CircusLines", "passBeats", "(I)I"⟩ : Cond) ∈ lw_T := lw_T_in (i := 14) (by decide +kernel) rfl
theorem q15 : (Cond.selects "CircusLines" ⟨"CircusLines", "callCues", "()V"⟩ ⟨"CircusLines", "callCues", "()V"⟩ : Cond) ∈ lw_T := lw_T_in (i := 15) (by decide +kernel) rfl
theorem q16 : (Cond.selects "CircusLines" ⟨"CircusLines", "letGo", "(LCircusLines$Cue;)Z"⟩ ⟨"CircusLines", "letGo", "(LCircusLines$Cue;)Z"⟩ : Cond) ∈ lw_T := lw_T_in (i := 16) (by decide +kernel) rfl
theorem q17 : (Cond.selects "CircusLines" ⟨"CircusLines", "endFlights", "()I"⟩ ⟨"CircusLines", "endFlights", "()I"⟩ : Cond) ∈ lw_T := lw_T_in (i := 17) (by decide +kernel) rfl
theorem q18 : (Cond.selects "CircusLines" ⟨"CircusLines", "catcherAt", "(I)I"⟩ ⟨"CircusLines", "catcherAt", "(I)I"⟩ : Cond) ∈ lw_T := lw_T_in (i := 18) (by decide +kernel) rfl
theorem q19 : (Cond.selects "CircusLines" ⟨"CircusLines", "wearRopes", "()V"⟩ ⟨"CircusLines", "wearRopes", "()V"⟩ : Cond) ∈ lw_T := lw_T_in (i := 19) (by decide +kernel) rfl
theorem q20 : (Cond.selects "CircusLines" ⟨"CircusLines", "dropFrom", "(II)V"⟩ ⟨"CircusLines", "dropFrom", "(II)V"⟩ : Cond) ∈ lw_T := lw_T_in (i := 20) (by decide +kernel) rfl
theorem q21 : (Cond.selects "CircusLines" ⟨"CircusLines", "keepAct", "()V"⟩ ⟨"CircusLines", "keepAct", "()V"⟩ : Cond) ∈ lw_T := lw_T_in (i := 21) (by decide +kernel) rfl
theorem q22 : (Cond.selects "CircusLines" ⟨"CircusLines", "takeActBack", "()V"⟩ ⟨"CircusLines", "takeActBack", "()V"⟩ : Cond) ∈ lw_T := lw_T_in (i := 22) (by decide +kernel) rfl
theorem q23 : (Cond.selects "CircusLinesModel" ⟨"CircusLinesModel", "fail", "(I)I"⟩ ⟨"CircusLinesModel", "fail", "(I)I"⟩ : Cond) ∈ lw_T := lw_T_in (i := 23) (by decide +kernel) rfl
theorem q24 : (Cond.selects "CircusLinesModel" ⟨"CircusLinesModel", "isTrapeze", "(I)Z"⟩ ⟨"CircusLinesModel", "isTrapeze", "(I)Z"⟩ : Cond) ∈ lw_T := lw_T_in (i := 24) (by decide +kernel) rfl
theorem q25 : (Cond.selects "CircusLinesModel" ⟨"CircusLinesModel", "ri", "(II)I"⟩ ⟨"CircusLinesModel", "ri", "(II)I"⟩ : Cond) ∈ lw_T := lw_T_in (i := 25) (by decide +kernel) rfl
theorem q26 : (Cond.selects "CircusLinesModel" ⟨"CircusLinesModel", "setRig", "(III)V"⟩ ⟨"CircusLinesModel", "setRig", "(III)V"⟩ : Cond) ∈ lw_T := lw_T_in (i := 26) (by decide +kernel) rfl
theorem q27 : (Cond.selects "CircusLinesModel" ⟨"CircusLinesModel", "set", "(IIIII)V"⟩ ⟨"CircusLinesModel", "set", "(IIIII)V"⟩ : Cond) ∈ lw_T := lw_T_in (i := 27) (by decide +kernel) rfl
theorem q28 : (Cond.selects "CircusLinesModel" ⟨"CircusLinesModel", "isFlyer", "(I)Z"⟩ ⟨"CircusLinesModel", "isFlyer", "(I)Z"⟩ : Cond) ∈ lw_T := lw_T_in (i := 28) (by decide +kernel) rfl
theorem q29 : (Cond.selects "CircusLinesModel" ⟨"CircusLinesModel", "pe", "(II)I"⟩ ⟨"CircusLinesModel", "pe", "(II)I"⟩ : Cond) ∈ lw_T := lw_T_in (i := 29) (by decide +kernel) rfl
theorem q30 : (Cond.selects "CircusLinesModel" ⟨"CircusLinesModel", "isFree", "(I)Z"⟩ ⟨"CircusLinesModel", "isFree", "(I)Z"⟩ : Cond) ∈ lw_T := lw_T_in (i := 30) (by decide +kernel) rfl
theorem q31 : (Cond.selects "CircusLinesModel" ⟨"CircusLinesModel", "hanging", "(I)I"⟩ ⟨"CircusLinesModel", "hanging", "(I)I"⟩ : Cond) ∈ lw_T := lw_T_in (i := 31) (by decide +kernel) rfl
theorem q32 : (Cond.selects "CircusLinesModel" ⟨"CircusLinesModel", "trapezeTold", "(II)I"⟩ ⟨"CircusLinesModel", "trapezeTold", "(II)I"⟩ : Cond) ∈ lw_T := lw_T_in (i := 32) (by decide +kernel) rfl
theorem q33 : (Cond.selects "CircusLinesModel" ⟨"CircusLinesModel", "placeOf", "(II)I"⟩ ⟨"CircusLinesModel", "placeOf", "(II)I"⟩ : Cond) ∈ lw_T := lw_T_in (i := 33) (by decide +kernel) rfl
theorem q34 : (Cond.selects "CircusLinesModel" ⟨"CircusLinesModel", "flyerTold", "(II)I"⟩ ⟨"CircusLinesModel", "flyerTold", "(II)I"⟩ : Cond) ∈ lw_T := lw_T_in (i := 34) (by decide +kernel) rfl
theorem q35 : (Cond.selects "CircusLinesModel" ⟨"CircusLinesModel", "counted", "(I)I"⟩ ⟨"CircusLinesModel", "counted", "(I)I"⟩ : Cond) ∈ lw_T := lw_T_in (i := 35) (by decide +kernel) rfl
theorem q36 : (Cond.selects "CircusLinesModel" ⟨"CircusLinesModel", "inState", "(I)I"⟩ ⟨"CircusLinesModel", "inState", "(I)I"⟩ : Cond) ∈ lw_T := lw_T_in (i := 36) (by decide +kernel) rfl
theorem q37 : (Cond.selects "CircusLinesModel" ⟨"CircusLinesModel", "isNet", "(I)Z"⟩ ⟨"CircusLinesModel", "isNet", "(I)Z"⟩ : Cond) ∈ lw_T := lw_T_in (i := 37) (by decide +kernel) rfl
theorem q38 : (Cond.selects "CircusLinesModel" ⟨"CircusLinesModel", "caught", "()I"⟩ ⟨"CircusLinesModel", "caught", "()I"⟩ : Cond) ∈ lw_T := lw_T_in (i := 38) (by decide +kernel) rfl
theorem q39 : (Cond.selects "CircusLinesModel" ⟨"CircusLinesModel", "beatsOn", "(I)V"⟩ ⟨"CircusLinesModel", "beatsOn", "(I)V"⟩ : Cond) ∈ lw_T := lw_T_in (i := 39) (by decide +kernel) rfl
theorem q40 : (Cond.selects "CircusLinesModel" ⟨"CircusLinesModel", "beatOn", "()V"⟩ ⟨"CircusLinesModel", "beatOn", "()V"⟩ : Cond) ∈ lw_T := lw_T_in (i := 40) (by decide +kernel) rfl
theorem q41 : (Cond.selects "CircusLinesModel" ⟨"CircusLinesModel", "cuesOn", "()V"⟩ ⟨"CircusLinesModel", "cuesOn", "()V"⟩ : Cond) ∈ lw_T := lw_T_in (i := 41) (by decide +kernel) rfl
theorem q42 : (Cond.selects "CircusLinesModel" ⟨"CircusLinesModel", "land", "(I)V"⟩ ⟨"CircusLinesModel", "land", "(I)V"⟩ : Cond) ∈ lw_T := lw_T_in (i := 42) (by decide +kernel) rfl
theorem q43 : (Cond.selects "CircusLinesModel" ⟨"CircusLinesModel", "falls", "(II)V"⟩ ⟨"CircusLinesModel", "falls", "(II)V"⟩ : Cond) ∈ lw_T := lw_T_in (i := 43) (by decide +kernel) rfl
theorem q44 : (Cond.selects "CircusLinesModel" ⟨"CircusLinesModel", "wear", "(I)V"⟩ ⟨"CircusLinesModel", "wear", "(I)V"⟩ : Cond) ∈ lw_T := lw_T_in (i := 44) (by decide +kernel) rfl
theorem q45 : (Cond.selects "CircusLinesModel" ⟨"CircusLinesModel", "kept", "()[[I"⟩ ⟨"CircusLinesModel", "kept", "()[[I"⟩ : Cond) ∈ lw_T := lw_T_in (i := 45) (by decide +kernel) rfl
theorem q46 : (Cond.selects "CircusLinesModel" ⟨"CircusLinesModel", "bringBack", "([[I)V"⟩ ⟨"CircusLinesModel", "bringBack", "([[I)V"⟩ : Cond) ∈ lw_T := lw_T_in (i := 46) (by decide +kernel) rfl
theorem q47 : (Cond.initialized "CircusLinesLaw" : Cond) ∈ lw_T := lw_T_in (i := 47) (by decide +kernel) rfl
theorem q48 : (Cond.initialized "CircusLines" : Cond) ∈ lw_T := lw_T_in (i := 48) (by decide +kernel) rfl
theorem q49 : (Cond.initialized "CircusLinesModel" : Cond) ∈ lw_T := lw_T_in (i := 49) (by decide +kernel) rfl
theorem q50 : (Cond.initialized "java/lang/Throwable" : Cond) ∈ lw_T := lw_T_in (i := 50) (by decide +kernel) rfl
theorem q51 : (Cond.initialized "java/lang/Exception" : Cond) ∈ lw_T := lw_T_in (i := 51) (by decide +kernel) rfl
theorem q52 : (Cond.initialized "java/lang/RuntimeException" : Cond) ∈ lw_T := lw_T_in (i := 52) (by decide +kernel) rfl
theorem q53 : (Cond.initialized "java/lang/IllegalArgumentException" : Cond) ∈ lw_T := lw_T_in (i := 53) (by decide +kernel) rfl
theorem q54 : (Cond.initialized "java/lang/IllegalStateException" : Cond) ∈ lw_T := lw_T_in (i := 54) (by decide +kernel) rfl
theorem q55 : (Cond.initialized "CircusLines$Trapeze" : Cond) ∈ lw_T := lw_T_in (i := 55) (by decide +kernel) rfl
theorem q56 : (Cond.initialized "java/lang/System" : Cond) ∈ lw_T := lw_T_in (i := 56) (by decide +kernel) rfl
theorem q57 : (Cond.initialized "java/lang/IndexOutOfBoundsException" : Cond) ∈ lw_T := lw_T_in (i := 57) (by decide +kernel) rfl
theorem q58 : (Cond.initialized "CircusLines$Net" : Cond) ∈ lw_T := lw_T_in (i := 58) (by decide +kernel) rfl
theorem q59 : (Cond.initialized "CircusLines$Flyer" : Cond) ∈ lw_T := lw_T_in (i := 59) (by decide +kernel) rfl
theorem q60 : (Cond.initialized "CircusLines$Cue" : Cond) ∈ lw_T := lw_T_in (i := 60) (by decide +kernel) rfl
theorem q61 : (Cond.initialized "java/lang/Math" : Cond) ∈ lw_T := lw_T_in (i := 61) (by decide +kernel) rfl
theorem q62 : (Cond.classLink "CircusLinesLaw" 8 "CircusLines" : Cond) ∈ lw_T := lw_T_in (i := 62) (by decide +kernel) rfl
theorem q63 : (Cond.instantiable "CircusLines" 9 : Cond) ∈ lw_T := lw_T_in (i := 63) (by decide +kernel) rfl
theorem q64 : (Cond.methodLink "CircusLinesLaw" 70 ⟨"CircusLines", "<init>", "()V"⟩ : Cond) ∈ lw_T := lw_T_in (i := 64) (by decide +kernel) rfl
theorem q65 : (Cond.instanceMethod ⟨"CircusLines", "<init>", "()V"⟩ : Cond) ∈ lw_T := lw_T_in (i := 65) (by decide +kernel) rfl
theorem q66 : (Cond.code ⟨"CircusLines", "<init>", "()V"⟩ prog_1_method_1_code 1 none : Cond) ∈ lw_T := lw_T_in (i := 66) (by decide +kernel) rfl
theorem q67 : (Cond.methodLink "CircusLines" 1 ⟨"java/lang/Object", "<init>", "()V"⟩ : Cond) ∈ lw_T := lw_T_in (i := 67) (by decide +kernel) rfl
theorem q68 : (Cond.instanceMethod ⟨"java/lang/Object", "<init>", "()V"⟩ : Cond) ∈ lw_T := lw_T_in (i := 68) (by decide +kernel) rfl
theorem q69 : (Cond.code ⟨"java/lang/Object", "<init>", "()V"⟩ object_method_1_code 1 none : Cond) ∈ lw_T := lw_T_in (i := 69) (by decide +kernel) rfl
theorem q70 : (Cond.classLink "CircusLines" 9 "CircusLines$Trapeze" : Cond) ∈ lw_T := lw_T_in (i := 70) (by decide +kernel) rfl
theorem q72 : (Cond.classLink "CircusLines" 15 "CircusLines$Flyer" : Cond) ∈ lw_T := lw_T_in (i := 72) (by decide +kernel) rfl
theorem q74 : (Cond.classLink "CircusLines" 21 "CircusLines$Cue" : Cond) ∈ lw_T := lw_T_in (i := 74) (by decide +kernel) rfl
theorem q76 : (Cond.classLink "CircusLines" 27 "CircusLines$Net" : Cond) ∈ lw_T := lw_T_in (i := 76) (by decide +kernel) rfl
theorem q78 : (Cond.fieldLink "CircusLines" 11 "CircusLines" "trapezes" "[LCircusLines$Trapeze;" : Cond) ∈ lw_T := lw_T_in (i := 78) (by decide +kernel) rfl
theorem q79 : (Cond.fieldLink "CircusLines" 17 "CircusLines" "flyers" "[LCircusLines$Flyer;" : Cond) ∈ lw_T := lw_T_in (i := 79) (by decide +kernel) rfl
theorem q80 : (Cond.fieldLink "CircusLines" 23 "CircusLines" "cues" "[LCircusLines$Cue;" : Cond) ∈ lw_T := lw_T_in (i := 80) (by decide +kernel) rfl
theorem q81 : (Cond.fieldLink "CircusLines" 29 "CircusLines" "nets" "[LCircusLines$Net;" : Cond) ∈ lw_T := lw_T_in (i := 81) (by decide +kernel) rfl
theorem q82 : (Cond.fieldLink "CircusLines" 44 "CircusLines" "trapezeCount" "I" : Cond) ∈ lw_T := lw_T_in (i := 82) (by decide +kernel) rfl
theorem q83 : (Cond.fieldLink "CircusLines" 98 "CircusLines" "flyerCount" "I" : Cond) ∈ lw_T := lw_T_in (i := 83) (by decide +kernel) rfl
theorem q84 : (Cond.fieldLink "CircusLines" 128 "CircusLines" "cueCount" "I" : Cond) ∈ lw_T := lw_T_in (i := 84) (by decide +kernel) rfl
theorem q85 : (Cond.fieldLink "CircusLines" 91 "CircusLines" "netCount" "I" : Cond) ∈ lw_T := lw_T_in (i := 85) (by decide +kernel) rfl
theorem q86 : (Cond.fieldLink "CircusLines" 53 "CircusLines" "beat" "I" : Cond) ∈ lw_T := lw_T_in (i := 86) (by decide +kernel) rfl
theorem q106 : (Cond.methodLink "CircusLinesLaw" 119 ⟨"CircusLines", "netAt", "(I)Z"⟩ : Cond) ∈ lw_T := lw_T_in (i := 106) (by decide +kernel) rfl
theorem q107 : (Cond.instanceMethod ⟨"CircusLines", "netAt", "(I)Z"⟩ : Cond) ∈ lw_T := lw_T_in (i := 107) (by decide +kernel) rfl
theorem q108 : (Cond.selects "CircusLines" ⟨"CircusLines", "netAt", "(I)Z"⟩ ⟨"CircusLines", "netAt", "(I)Z"⟩ : Cond) ∈ lw_T := lw_T_in (i := 108) (by decide +kernel) rfl
theorem q109 : (Cond.code ⟨"CircusLines", "netAt", "(I)Z"⟩ prog_1_method_14_code 2 (some .boolean) : Cond) ∈ lw_T := lw_T_in (i := 109) (by decide +kernel) rfl
theorem q110 : (Cond.methodLink "CircusLines" 164 ⟨"CircusLines", "isNetSpreadAt", "(I)Z"⟩ : Cond) ∈ lw_T := lw_T_in (i := 110) (by decide +kernel) rfl
theorem q112 : (Cond.instanceMethod ⟨"CircusLines", "isNetSpreadAt", "(I)Z"⟩ : Cond) ∈ lw_T := lw_T_in (i := 112) (by decide +kernel) rfl
theorem q113 : (Cond.code ⟨"CircusLines", "isNetSpreadAt", "(I)Z"⟩ prog_1_method_27_code 6 (some .boolean) : Cond) ∈ lw_T := lw_T_in (i := 113) (by decide +kernel) rfl
theorem q114 : (Cond.methodLink "CircusLines" 33 ⟨"CircusLines", "isWithin", "(III)Z"⟩ : Cond) ∈ lw_T := lw_T_in (i := 114) (by decide +kernel) rfl
theorem q115 : (Cond.static ⟨"CircusLines", "isWithin", "(III)Z"⟩ : Cond) ∈ lw_T := lw_T_in (i := 115) (by decide +kernel) rfl
theorem q116 : (Cond.code ⟨"CircusLines", "isWithin", "(III)Z"⟩ prog_1_method_22_code 3 (some .boolean) : Cond) ∈ lw_T := lw_T_in (i := 116) (by decide +kernel) rfl
theorem q117 : (Cond.methodLink "CircusLinesLaw" 139 ⟨"CircusLines", "mean", "()D"⟩ : Cond) ∈ lw_T := lw_T_in (i := 117) (by decide +kernel) rfl
theorem q118 : (Cond.instanceMethod ⟨"CircusLines", "mean", "()D"⟩ : Cond) ∈ lw_T := lw_T_in (i := 118) (by decide +kernel) rfl
theorem q119 : (Cond.selects "CircusLines" ⟨"CircusLines", "mean", "()D"⟩ ⟨"CircusLines", "mean", "()D"⟩ : Cond) ∈ lw_T := lw_T_in (i := 119) (by decide +kernel) rfl
theorem q120 : (Cond.code ⟨"CircusLines", "mean", "()D"⟩ prog_1_method_20_code 6 (some .double) : Cond) ∈ lw_T := lw_T_in (i := 120) (by decide +kernel) rfl
theorem q121 : (Cond.methodLink "CircusLinesLaw" 144 ⟨"CircusLines", "digest", "()J"⟩ : Cond) ∈ lw_T := lw_T_in (i := 121) (by decide +kernel) rfl
theorem q122 : (Cond.instanceMethod ⟨"CircusLines", "digest", "()J"⟩ : Cond) ∈ lw_T := lw_T_in (i := 122) (by decide +kernel) rfl
theorem q123 : (Cond.selects "CircusLines" ⟨"CircusLines", "digest", "()J"⟩ ⟨"CircusLines", "digest", "()J"⟩ : Cond) ∈ lw_T := lw_T_in (i := 123) (by decide +kernel) rfl
theorem q124 : (Cond.code ⟨"CircusLines", "digest", "()J"⟩ prog_1_method_21_code 7 (some .long) : Cond) ∈ lw_T := lw_T_in (i := 124) (by decide +kernel) rfl
theorem q125 : (Cond.constantLong "CircusLines" 197 (1061 : Int64) : Cond) ∈ lw_T := lw_T_in (i := 125) (by decide +kernel) rfl
theorem q126 : (Cond.constantLong "CircusLines" 199 (31 : Int64) : Cond) ∈ lw_T := lw_T_in (i := 126) (by decide +kernel) rfl
theorem q127 : (Cond.methodLink "CircusLines" 156 ⟨"CircusLines", "tally", "(I)I"⟩ : Cond) ∈ lw_T := lw_T_in (i := 127) (by decide +kernel) rfl
theorem q129 : (Cond.instanceMethod ⟨"CircusLines", "tally", "(I)I"⟩ : Cond) ∈ lw_T := lw_T_in (i := 129) (by decide +kernel) rfl
theorem q130 : (Cond.code ⟨"CircusLines", "tally", "(I)I"⟩ prog_1_method_31_code 2 (some .int) : Cond) ∈ lw_T := lw_T_in (i := 130) (by decide +kernel) rfl
theorem q131 : (Cond.methodLink "CircusLines" 249 ⟨"CircusLines", "wholeTrapezes", "()I"⟩ : Cond) ∈ lw_T := lw_T_in (i := 131) (by decide +kernel) rfl
theorem q133 : (Cond.instanceMethod ⟨"CircusLines", "wholeTrapezes", "()I"⟩ : Cond) ∈ lw_T := lw_T_in (i := 133) (by decide +kernel) rfl
theorem q134 : (Cond.code ⟨"CircusLines", "wholeTrapezes", "()I"⟩ prog_1_method_32_code 6 (some .int) : Cond) ∈ lw_T := lw_T_in (i := 134) (by decide +kernel) rfl
theorem q135 : (Cond.methodLink "CircusLines" 253 ⟨"CircusLines", "flyersWhoAre", "(I)I"⟩ : Cond) ∈ lw_T := lw_T_in (i := 135) (by decide +kernel) rfl
theorem q137 : (Cond.instanceMethod ⟨"CircusLines", "flyersWhoAre", "(I)I"⟩ : Cond) ∈ lw_T := lw_T_in (i := 137) (by decide +kernel) rfl
theorem q138 : (Cond.code ⟨"CircusLines", "flyersWhoAre", "(I)I"⟩ prog_1_method_33_code 7 (some .int) : Cond) ∈ lw_T := lw_T_in (i := 138) (by decide +kernel) rfl
theorem q139 : (Cond.methodLink "CircusLines" 256 ⟨"CircusLines", "openCues", "()I"⟩ : Cond) ∈ lw_T := lw_T_in (i := 139) (by decide +kernel) rfl
theorem q141 : (Cond.instanceMethod ⟨"CircusLines", "openCues", "()I"⟩ : Cond) ∈ lw_T := lw_T_in (i := 141) (by decide +kernel) rfl
theorem q142 : (Cond.code ⟨"CircusLines", "openCues", "()I"⟩ prog_1_method_34_code 6 (some .int) : Cond) ∈ lw_T := lw_T_in (i := 142) (by decide +kernel) rfl
theorem q143 : (Cond.methodLink "CircusLines" 201 ⟨"CircusLines", "withTrapezes", "(J)J"⟩ : Cond) ∈ lw_T := lw_T_in (i := 143) (by decide +kernel) rfl
theorem q145 : (Cond.instanceMethod ⟨"CircusLines", "withTrapezes", "(J)J"⟩ : Cond) ∈ lw_T := lw_T_in (i := 145) (by decide +kernel) rfl
theorem q146 : (Cond.code ⟨"CircusLines", "withTrapezes", "(J)J"⟩ prog_1_method_35_code 8 (some .long) : Cond) ∈ lw_T := lw_T_in (i := 146) (by decide +kernel) rfl
theorem q147 : (Cond.methodLink "CircusLines" 138 ⟨"CircusLines", "ofTrapeze", "(LCircusLines$Trapeze;II)I"⟩ : Cond) ∈ lw_T := lw_T_in (i := 147) (by decide +kernel) rfl
theorem q149 : (Cond.instanceMethod ⟨"CircusLines", "ofTrapeze", "(LCircusLines$Trapeze;II)I"⟩ : Cond) ∈ lw_T := lw_T_in (i := 149) (by decide +kernel) rfl
theorem q150 : (Cond.code ⟨"CircusLines", "ofTrapeze", "(LCircusLines$Trapeze;II)I"⟩ prog_1_method_28_code 4 (some .int) : Cond) ∈ lw_T := lw_T_in (i := 150) (by decide +kernel) rfl
theorem q151 : (Cond.methodLink "CircusLines" 161 ⟨"CircusLines$Trapeze", "placeIn", "(I)I"⟩ : Cond) ∈ lw_T := lw_T_in (i := 151) (by decide +kernel) rfl
theorem q152 : (Cond.instanceMethod ⟨"CircusLines$Trapeze", "placeIn", "(I)I"⟩ : Cond) ∈ lw_T := lw_T_in (i := 152) (by decide +kernel) rfl
theorem q153 : (Cond.selects "CircusLines$Trapeze" ⟨"CircusLines$Trapeze", "placeIn", "(I)I"⟩ ⟨"CircusLines$Trapeze", "placeIn", "(I)I"⟩ : Cond) ∈ lw_T := lw_T_in (i := 153) (by decide +kernel) rfl
theorem q154 : (Cond.code ⟨"CircusLines$Trapeze", "placeIn", "(I)I"⟩ prog_5_method_5_code 2 (some .int) : Cond) ∈ lw_T := lw_T_in (i := 154) (by decide +kernel) rfl
theorem q155 : (Cond.methodLink "CircusLines$Trapeze" 32 ⟨"CircusLines$Trapeze", "placeSinceLeftEnd", "(II)I"⟩ : Cond) ∈ lw_T := lw_T_in (i := 155) (by decide +kernel) rfl
theorem q156 : (Cond.instanceMethod ⟨"CircusLines$Trapeze", "placeSinceLeftEnd", "(II)I"⟩ : Cond) ∈ lw_T := lw_T_in (i := 156) (by decide +kernel) rfl
theorem q157 : (Cond.selects "CircusLines$Trapeze" ⟨"CircusLines$Trapeze", "placeSinceLeftEnd", "(II)I"⟩ ⟨"CircusLines$Trapeze", "placeSinceLeftEnd", "(II)I"⟩ : Cond) ∈ lw_T := lw_T_in (i := 157) (by decide +kernel) rfl
theorem q158 : (Cond.code ⟨"CircusLines$Trapeze", "placeSinceLeftEnd", "(II)I"⟩ prog_5_method_7_code 5 (some .int) : Cond) ∈ lw_T := lw_T_in (i := 158) (by decide +kernel) rfl
theorem q159 : (Cond.methodLink "CircusLines$Trapeze" 36 ⟨"CircusLines$Trapeze", "halfSwing", "(I)I"⟩ : Cond) ∈ lw_T := lw_T_in (i := 159) (by decide +kernel) rfl
theorem q160 : (Cond.static ⟨"CircusLines$Trapeze", "halfSwing", "(I)I"⟩ : Cond) ∈ lw_T := lw_T_in (i := 160) (by decide +kernel) rfl
theorem q161 : (Cond.code ⟨"CircusLines$Trapeze", "halfSwing", "(I)I"⟩ prog_5_method_8_code 1 (some .int) : Cond) ∈ lw_T := lw_T_in (i := 161) (by decide +kernel) rfl
theorem q162 : (Cond.methodLink "CircusLines$Trapeze" 40 ⟨"java/lang/Math", "max", "(II)I"⟩ : Cond) ∈ lw_T := lw_T_in (i := 162) (by decide +kernel) rfl
theorem q163 : (Cond.static ⟨"java/lang/Math", "max", "(II)I"⟩ : Cond) ∈ lw_T := lw_T_in (i := 163) (by decide +kernel) rfl
theorem q164 : (Cond.code ⟨"java/lang/Math", "max", "(II)I"⟩ prog_13_method_65_code 2 (some .int) : Cond) ∈ lw_T := lw_T_in (i := 164) (by decide +kernel) rfl
theorem q165 : (Cond.methodLink "CircusLines" 110 ⟨"CircusLines", "hangersOf", "(I)I"⟩ : Cond) ∈ lw_T := lw_T_in (i := 165) (by decide +kernel) rfl
theorem q167 : (Cond.instanceMethod ⟨"CircusLines", "hangersOf", "(I)I"⟩ : Cond) ∈ lw_T := lw_T_in (i := 167) (by decide +kernel) rfl
theorem q168 : (Cond.code ⟨"CircusLines", "hangersOf", "(I)I"⟩ prog_1_method_26_code 7 (some .int) : Cond) ∈ lw_T := lw_T_in (i := 168) (by decide +kernel) rfl
theorem q169 : (Cond.methodLink "CircusLines" 217 ⟨"CircusLines$Flyer", "hangsFrom", "(I)Z"⟩ : Cond) ∈ lw_T := lw_T_in (i := 169) (by decide +kernel) rfl
theorem q170 : (Cond.instanceMethod ⟨"CircusLines$Flyer", "hangsFrom", "(I)Z"⟩ : Cond) ∈ lw_T := lw_T_in (i := 170) (by decide +kernel) rfl
theorem q171 : (Cond.selects "CircusLines$Flyer" ⟨"CircusLines$Flyer", "hangsFrom", "(I)Z"⟩ ⟨"CircusLines$Flyer", "hangsFrom", "(I)Z"⟩ : Cond) ∈ lw_T := lw_T_in (i := 171) (by decide +kernel) rfl
theorem q172 : (Cond.code ⟨"CircusLines$Flyer", "hangsFrom", "(I)Z"⟩ prog_3_method_3_code 2 (some .boolean) : Cond) ∈ lw_T := lw_T_in (i := 172) (by decide +kernel) rfl
theorem q173 : (Cond.methodLink "CircusLines" 205 ⟨"CircusLines", "withFlyers", "(J)J"⟩ : Cond) ∈ lw_T := lw_T_in (i := 173) (by decide +kernel) rfl
theorem q175 : (Cond.instanceMethod ⟨"CircusLines", "withFlyers", "(J)J"⟩ : Cond) ∈ lw_T := lw_T_in (i := 175) (by decide +kernel) rfl
theorem q176 : (Cond.code ⟨"CircusLines", "withFlyers", "(J)J"⟩ prog_1_method_36_code 10 (some .long) : Cond) ∈ lw_T := lw_T_in (i := 176) (by decide +kernel) rfl
theorem q177 : (Cond.methodLink "CircusLines" 144 ⟨"CircusLines", "ofFlyer", "(LCircusLines$Flyer;I)I"⟩ : Cond) ∈ lw_T := lw_T_in (i := 177) (by decide +kernel) rfl
theorem q179 : (Cond.instanceMethod ⟨"CircusLines", "ofFlyer", "(LCircusLines$Flyer;I)I"⟩ : Cond) ∈ lw_T := lw_T_in (i := 179) (by decide +kernel) rfl
theorem q180 : (Cond.code ⟨"CircusLines", "ofFlyer", "(LCircusLines$Flyer;I)I"⟩ prog_1_method_29_code 4 (some .int) : Cond) ∈ lw_T := lw_T_in (i := 180) (by decide +kernel) rfl
theorem q181 : (Cond.methodLink "CircusLines" 208 ⟨"CircusLines", "withCues", "(J)J"⟩ : Cond) ∈ lw_T := lw_T_in (i := 181) (by decide +kernel) rfl
theorem q183 : (Cond.instanceMethod ⟨"CircusLines", "withCues", "(J)J"⟩ : Cond) ∈ lw_T := lw_T_in (i := 183) (by decide +kernel) rfl
theorem q184 : (Cond.code ⟨"CircusLines", "withCues", "(J)J"⟩ prog_1_method_37_code 10 (some .long) : Cond) ∈ lw_T := lw_T_in (i := 184) (by decide +kernel) rfl
theorem q185 : (Cond.methodLink "CircusLines" 150 ⟨"CircusLines", "ofCue", "(LCircusLines$Cue;I)I"⟩ : Cond) ∈ lw_T := lw_T_in (i := 185) (by decide +kernel) rfl
theorem q186 : (Cond.static ⟨"CircusLines", "ofCue", "(LCircusLines$Cue;I)I"⟩ : Cond) ∈ lw_T := lw_T_in (i := 186) (by decide +kernel) rfl
theorem q187 : (Cond.code ⟨"CircusLines", "ofCue", "(LCircusLines$Cue;I)I"⟩ prog_1_method_30_code 2 (some .int) : Cond) ∈ lw_T := lw_T_in (i := 187) (by decide +kernel) rfl
theorem q188 : (Cond.methodLink "CircusLinesLaw" 74 ⟨"CircusLinesLaw", "rig", "(LCircusLines;IIII[J)I"⟩ : Cond) ∈ lw_T := lw_T_in (i := 188) (by decide +kernel) rfl
theorem q189 : (Cond.static ⟨"CircusLinesLaw", "rig", "(LCircusLines;IIII[J)I"⟩ : Cond) ∈ lw_T := lw_T_in (i := 189) (by decide +kernel) rfl
theorem q190 : (Cond.codeWith ⟨"CircusLinesLaw", "rig", "(LCircusLines;IIII[J)I"⟩ method_3_code 7 (some .int) [(0, 14, 17, 13), (0, 14, 21, 15)] : Cond) ∈ lw_T := lw_T_in (i := 190) (by decide +kernel) rfl
theorem q191 : (Cond.classLink "CircusLinesLaw" 13 "java/lang/IllegalArgumentException" : Cond) ∈ lw_T := lw_T_in (i := 191) (by decide +kernel) rfl
theorem q192 : (Cond.classLink "CircusLinesLaw" 15 "java/lang/IllegalStateException" : Cond) ∈ lw_T := lw_T_in (i := 192) (by decide +kernel) rfl
theorem q193 : (Cond.methodLink "CircusLinesLaw" 7 ⟨"CircusLines", "rig", "(IIII)I"⟩ : Cond) ∈ lw_T := lw_T_in (i := 193) (by decide +kernel) rfl
theorem q194 : (Cond.instanceMethod ⟨"CircusLines", "rig", "(IIII)I"⟩ : Cond) ∈ lw_T := lw_T_in (i := 194) (by decide +kernel) rfl
theorem q195 : (Cond.selects "CircusLines" ⟨"CircusLines", "rig", "(IIII)I"⟩ ⟨"CircusLines", "rig", "(IIII)I"⟩ : Cond) ∈ lw_T := lw_T_in (i := 195) (by decide +kernel) rfl
theorem q196 : (Cond.code ⟨"CircusLines", "rig", "(IIII)I"⟩ prog_1_method_2_code 6 (some .int) : Cond) ∈ lw_T := lw_T_in (i := 196) (by decide +kernel) rfl
theorem q197 : (Cond.classLink "CircusLines" 37 "java/lang/IllegalArgumentException" : Cond) ∈ lw_T := lw_T_in (i := 197) (by decide +kernel) rfl
theorem q198 : (Cond.instantiable "java/lang/IllegalArgumentException" 6 : Cond) ∈ lw_T := lw_T_in (i := 198) (by decide +kernel) rfl
theorem q206 : (Cond.selects "java/lang/IllegalArgumentException" ⟨"java/lang/Throwable", "fillInStackTrace", "(I)Ljava/lang/Throwable;"⟩ ⟨"java/lang/Throwable", "fillInStackTrace", "(I)Ljava/lang/Throwable;"⟩ : Cond) ∈ lw_T := lw_T_in (i := 206) (by decide +kernel) rfl
theorem q207 : (Cond.selects "java/lang/IllegalArgumentException" ⟨"java/lang/Throwable", "fillInStackTrace", "()Ljava/lang/Throwable;"⟩ ⟨"java/lang/Throwable", "fillInStackTrace", "()Ljava/lang/Throwable;"⟩ : Cond) ∈ lw_T := lw_T_in (i := 207) (by decide +kernel) rfl
theorem q218 : (Cond.fieldLink "java/lang/Throwable" 198 "java/lang/Throwable" "backtrace" "Ljava/lang/Object;" : Cond) ∈ lw_T := lw_T_in (i := 218) (by decide +kernel) rfl
theorem q220 : (Cond.instanceMethod ⟨"java/lang/Throwable", "<init>", "()V"⟩ : Cond) ∈ lw_T := lw_T_in (i := 220) (by decide +kernel) rfl
theorem q221 : (Cond.code ⟨"java/lang/Throwable", "<init>", "()V"⟩ prog_17_method_1_code 1 none : Cond) ∈ lw_T := lw_T_in (i := 221) (by decide +kernel) rfl
theorem q222 : (Cond.methodLink "java/lang/Throwable" 1 ⟨"java/lang/Object", "<init>", "()V"⟩ : Cond) ∈ lw_T := lw_T_in (i := 222) (by decide +kernel) rfl
theorem q223 : (Cond.fieldLink "java/lang/Throwable" 13 "java/lang/Throwable" "UNASSIGNED_STACK" "[Ljava/lang/StackTraceElement;" : Cond) ∈ lw_T := lw_T_in (i := 223) (by decide +kernel) rfl
theorem q225 : (Cond.fieldLink "java/lang/Throwable" 20 "java/lang/Throwable" "SUPPRESSED_SENTINEL" "Ljava/util/List;" : Cond) ∈ lw_T := lw_T_in (i := 225) (by decide +kernel) rfl
theorem q227 : (Cond.methodLink "java/lang/Throwable" 27 ⟨"java/lang/Throwable", "fillInStackTrace", "()Ljava/lang/Throwable;"⟩ : Cond) ∈ lw_T := lw_T_in (i := 227) (by decide +kernel) rfl
theorem q228 : (Cond.instanceMethod ⟨"java/lang/Throwable", "fillInStackTrace", "()Ljava/lang/Throwable;"⟩ : Cond) ∈ lw_T := lw_T_in (i := 228) (by decide +kernel) rfl
theorem q230 : (Cond.selects "java/lang/IllegalStateException" ⟨"java/lang/Throwable", "fillInStackTrace", "()Ljava/lang/Throwable;"⟩ ⟨"java/lang/Throwable", "fillInStackTrace", "()Ljava/lang/Throwable;"⟩ : Cond) ∈ lw_T := lw_T_in (i := 230) (by decide +kernel) rfl
theorem q231 : (Cond.selects "java/lang/IndexOutOfBoundsException" ⟨"java/lang/Throwable", "fillInStackTrace", "()Ljava/lang/Throwable;"⟩ ⟨"java/lang/Throwable", "fillInStackTrace", "()Ljava/lang/Throwable;"⟩ : Cond) ∈ lw_T := lw_T_in (i := 231) (by decide +kernel) rfl
theorem q233 : (Cond.methodLink "java/lang/Throwable" 202 ⟨"java/lang/Throwable", "fillInStackTrace", "(I)Ljava/lang/Throwable;"⟩ : Cond) ∈ lw_T := lw_T_in (i := 233) (by decide +kernel) rfl
theorem q235 : (Cond.instanceMethod ⟨"java/lang/Throwable", "fillInStackTrace", "(I)Ljava/lang/Throwable;"⟩ : Cond) ∈ lw_T := lw_T_in (i := 235) (by decide +kernel) rfl
theorem q236 : (Cond.instantiable "java/lang/Throwable" 6 : Cond) ∈ lw_T := lw_T_in (i := 236) (by decide +kernel) rfl
theorem q239 : (Cond.methodLink "CircusLines" 41 ⟨"java/lang/IllegalArgumentException", "<init>", "(Ljava/lang/String;)V"⟩ : Cond) ∈ lw_T := lw_T_in (i := 239) (by decide +kernel) rfl
theorem q240 : (Cond.instanceMethod ⟨"java/lang/IllegalArgumentException", "<init>", "(Ljava/lang/String;)V"⟩ : Cond) ∈ lw_T := lw_T_in (i := 240) (by decide +kernel) rfl
theorem q241 : (Cond.code ⟨"java/lang/IllegalArgumentException", "<init>", "(Ljava/lang/String;)V"⟩ prog_10_method_2_code 2 none : Cond) ∈ lw_T := lw_T_in (i := 241) (by decide +kernel) rfl
theorem q242 : (Cond.methodLink "java/lang/IllegalArgumentException" 7 ⟨"java/lang/RuntimeException", "<init>", "(Ljava/lang/String;)V"⟩ : Cond) ∈ lw_T := lw_T_in (i := 242) (by decide +kernel) rfl
theorem q243 : (Cond.instanceMethod ⟨"java/lang/RuntimeException", "<init>", "(Ljava/lang/String;)V"⟩ : Cond) ∈ lw_T := lw_T_in (i := 243) (by decide +kernel) rfl
theorem q244 : (Cond.code ⟨"java/lang/RuntimeException", "<init>", "(Ljava/lang/String;)V"⟩ prog_14_method_2_code 2 none : Cond) ∈ lw_T := lw_T_in (i := 244) (by decide +kernel) rfl
theorem q245 : (Cond.methodLink "java/lang/RuntimeException" 7 ⟨"java/lang/Exception", "<init>", "(Ljava/lang/String;)V"⟩ : Cond) ∈ lw_T := lw_T_in (i := 245) (by decide +kernel) rfl
theorem q246 : (Cond.instanceMethod ⟨"java/lang/Exception", "<init>", "(Ljava/lang/String;)V"⟩ : Cond) ∈ lw_T := lw_T_in (i := 246) (by decide +kernel) rfl
theorem q247 : (Cond.code ⟨"java/lang/Exception", "<init>", "(Ljava/lang/String;)V"⟩ prog_9_method_2_code 2 none : Cond) ∈ lw_T := lw_T_in (i := 247) (by decide +kernel) rfl
theorem q248 : (Cond.methodLink "java/lang/Exception" 7 ⟨"java/lang/Throwable", "<init>", "(Ljava/lang/String;)V"⟩ : Cond) ∈ lw_T := lw_T_in (i := 248) (by decide +kernel) rfl
theorem q249 : (Cond.instanceMethod ⟨"java/lang/Throwable", "<init>", "(Ljava/lang/String;)V"⟩ : Cond) ∈ lw_T := lw_T_in (i := 249) (by decide +kernel) rfl
theorem q250 : (Cond.code ⟨"java/lang/Throwable", "<init>", "(Ljava/lang/String;)V"⟩ prog_17_method_2_code 2 none : Cond) ∈ lw_T := lw_T_in (i := 250) (by decide +kernel) rfl
theorem q252 : (Cond.fieldLink "java/lang/Throwable" 31 "java/lang/Throwable" "detailMessage" "Ljava/lang/String;" : Cond) ∈ lw_T := lw_T_in (i := 252) (by decide +kernel) rfl
theorem q253 : (Cond.fieldLink "java/lang/Throwable" 7 "java/lang/Throwable" "cause" "Ljava/lang/Throwable;" : Cond) ∈ lw_T := lw_T_in (i := 253) (by decide +kernel) rfl
theorem q254 : (Cond.fieldLink "java/lang/Throwable" 17 "java/lang/Throwable" "stackTrace" "[Ljava/lang/StackTraceElement;" : Cond) ∈ lw_T := lw_T_in (i := 254) (by decide +kernel) rfl
theorem q255 : (Cond.fieldLink "java/lang/Throwable" 24 "java/lang/Throwable" "suppressedExceptions" "Ljava/util/List;" : Cond) ∈ lw_T := lw_T_in (i := 255) (by decide +kernel) rfl
theorem q264 : (Cond.arrayClass .byte : Cond) ∈ lw_T := lw_T_in (i := 264) (by decide +kernel) rfl
theorem q265 : (Cond.classLink "CircusLines" 48 "java/lang/IllegalStateException" : Cond) ∈ lw_T := lw_T_in (i := 265) (by decide +kernel) rfl
theorem q266 : (Cond.instantiable "java/lang/IllegalStateException" 6 : Cond) ∈ lw_T := lw_T_in (i := 266) (by decide +kernel) rfl
theorem q268 : (Cond.selects "java/lang/IllegalStateException" ⟨"java/lang/Throwable", "fillInStackTrace", "(I)Ljava/lang/Throwable;"⟩ ⟨"java/lang/Throwable", "fillInStackTrace", "(I)Ljava/lang/Throwable;"⟩ : Cond) ∈ lw_T := lw_T_in (i := 268) (by decide +kernel) rfl
theorem q275 : (Cond.methodLink "CircusLines" 52 ⟨"java/lang/IllegalStateException", "<init>", "(Ljava/lang/String;)V"⟩ : Cond) ∈ lw_T := lw_T_in (i := 275) (by decide +kernel) rfl
theorem q276 : (Cond.instanceMethod ⟨"java/lang/IllegalStateException", "<init>", "(Ljava/lang/String;)V"⟩ : Cond) ∈ lw_T := lw_T_in (i := 276) (by decide +kernel) rfl
theorem q277 : (Cond.code ⟨"java/lang/IllegalStateException", "<init>", "(Ljava/lang/String;)V"⟩ prog_11_method_2_code 2 none : Cond) ∈ lw_T := lw_T_in (i := 277) (by decide +kernel) rfl
theorem q278 : (Cond.methodLink "java/lang/IllegalStateException" 7 ⟨"java/lang/RuntimeException", "<init>", "(Ljava/lang/String;)V"⟩ : Cond) ∈ lw_T := lw_T_in (i := 278) (by decide +kernel) rfl
theorem q281 : (Cond.instantiable "CircusLines$Trapeze" 9 : Cond) ∈ lw_T := lw_T_in (i := 281) (by decide +kernel) rfl
theorem q282 : (Cond.methodLink "CircusLines" 56 ⟨"CircusLines$Trapeze", "<init>", "(IIIII)V"⟩ : Cond) ∈ lw_T := lw_T_in (i := 282) (by decide +kernel) rfl
theorem q283 : (Cond.instanceMethod ⟨"CircusLines$Trapeze", "<init>", "(IIIII)V"⟩ : Cond) ∈ lw_T := lw_T_in (i := 283) (by decide +kernel) rfl
theorem q284 : (Cond.code ⟨"CircusLines$Trapeze", "<init>", "(IIIII)V"⟩ prog_5_method_1_code 6 none : Cond) ∈ lw_T := lw_T_in (i := 284) (by decide +kernel) rfl
theorem q285 : (Cond.methodLink "CircusLines$Trapeze" 1 ⟨"java/lang/Object", "<init>", "()V"⟩ : Cond) ∈ lw_T := lw_T_in (i := 285) (by decide +kernel) rfl
theorem q286 : (Cond.fieldLink "CircusLines$Trapeze" 7 "CircusLines$Trapeze" "middle" "I" : Cond) ∈ lw_T := lw_T_in (i := 286) (by decide +kernel) rfl
theorem q287 : (Cond.fieldLink "CircusLines" 220 "CircusLines$Trapeze" "middle" "I" : Cond) ∈ lw_T := lw_T_in (i := 287) (by decide +kernel) rfl
theorem q288 : (Cond.fieldLink "CircusLines$Trapeze" 13 "CircusLines$Trapeze" "width" "I" : Cond) ∈ lw_T := lw_T_in (i := 288) (by decide +kernel) rfl
theorem q289 : (Cond.fieldLink "CircusLines" 223 "CircusLines$Trapeze" "width" "I" : Cond) ∈ lw_T := lw_T_in (i := 289) (by decide +kernel) rfl
theorem q290 : (Cond.fieldLink "CircusLines$Trapeze" 19 "CircusLines$Trapeze" "strength" "I" : Cond) ∈ lw_T := lw_T_in (i := 290) (by decide +kernel) rfl
theorem q291 : (Cond.fieldLink "CircusLines" 226 "CircusLines$Trapeze" "strength" "I" : Cond) ∈ lw_T := lw_T_in (i := 291) (by decide +kernel) rfl
theorem q292 : (Cond.fieldLink "CircusLines$Trapeze" 16 "CircusLines$Trapeze" "weight" "I" : Cond) ∈ lw_T := lw_T_in (i := 292) (by decide +kernel) rfl
theorem q293 : (Cond.fieldLink "CircusLines" 76 "CircusLines$Trapeze" "weight" "I" : Cond) ∈ lw_T := lw_T_in (i := 293) (by decide +kernel) rfl
theorem q294 : (Cond.fieldLink "CircusLines$Trapeze" 22 "CircusLines$Trapeze" "leftEndBeat" "I" : Cond) ∈ lw_T := lw_T_in (i := 294) (by decide +kernel) rfl
theorem q295 : (Cond.fieldLink "CircusLines$Trapeze" 29 "CircusLines$Trapeze" "worn" "I" : Cond) ∈ lw_T := lw_T_in (i := 295) (by decide +kernel) rfl
theorem q296 : (Cond.fieldLink "CircusLines" 83 "CircusLines$Trapeze" "worn" "I" : Cond) ∈ lw_T := lw_T_in (i := 296) (by decide +kernel) rfl
theorem q297 : (Cond.fieldLink "CircusLines$Trapeze" 25 "CircusLines$Trapeze" "whole" "Z" : Cond) ∈ lw_T := lw_T_in (i := 297) (by decide +kernel) rfl
theorem q298 : (Cond.fieldLink "CircusLines" 70 "CircusLines$Trapeze" "whole" "Z" : Cond) ∈ lw_T := lw_T_in (i := 298) (by decide +kernel) rfl
theorem q299 : (Cond.fieldLink "CircusLines$Trapeze" 45 "CircusLines$Trapeze" "keptWorn" "I" : Cond) ∈ lw_T := lw_T_in (i := 299) (by decide +kernel) rfl
theorem q300 : (Cond.fieldLink "CircusLines$Trapeze" 48 "CircusLines$Trapeze" "keptWhole" "Z" : Cond) ∈ lw_T := lw_T_in (i := 300) (by decide +kernel) rfl
theorem q320 : (Cond.methodLink "CircusLinesLaw" 83 ⟨"CircusLinesLaw", "weigh", "(LCircusLines;II[J)I"⟩ : Cond) ∈ lw_T := lw_T_in (i := 320) (by decide +kernel) rfl
theorem q321 : (Cond.static ⟨"CircusLinesLaw", "weigh", "(LCircusLines;II[J)I"⟩ : Cond) ∈ lw_T := lw_T_in (i := 321) (by decide +kernel) rfl
theorem q322 : (Cond.codeWith ⟨"CircusLinesLaw", "weigh", "(LCircusLines;II[J)I"⟩ method_4_code 5 (some .int) [(0, 10, 13, 21), (0, 10, 17, 13), (0, 10, 21, 15)] : Cond) ∈ lw_T := lw_T_in (i := 322) (by decide +kernel) rfl
theorem q323 : (Cond.classLink "CircusLinesLaw" 21 "java/lang/IndexOutOfBoundsException" : Cond) ∈ lw_T := lw_T_in (i := 323) (by decide +kernel) rfl
theorem q324 : (Cond.methodLink "CircusLinesLaw" 17 ⟨"CircusLines", "weigh", "(II)I"⟩ : Cond) ∈ lw_T := lw_T_in (i := 324) (by decide +kernel) rfl
theorem q325 : (Cond.instanceMethod ⟨"CircusLines", "weigh", "(II)I"⟩ : Cond) ∈ lw_T := lw_T_in (i := 325) (by decide +kernel) rfl
theorem q326 : (Cond.selects "CircusLines" ⟨"CircusLines", "weigh", "(II)I"⟩ ⟨"CircusLines", "weigh", "(II)I"⟩ : Cond) ∈ lw_T := lw_T_in (i := 326) (by decide +kernel) rfl
theorem q327 : (Cond.code ⟨"CircusLines", "weigh", "(II)I"⟩ prog_1_method_3_code 5 (some .int) : Cond) ∈ lw_T := lw_T_in (i := 327) (by decide +kernel) rfl
theorem q328 : (Cond.methodLink "CircusLines" 59 ⟨"CircusLines", "trapezeNumbered", "(I)LCircusLines$Trapeze;"⟩ : Cond) ∈ lw_T := lw_T_in (i := 328) (by decide +kernel) rfl
theorem q330 : (Cond.instanceMethod ⟨"CircusLines", "trapezeNumbered", "(I)LCircusLines$Trapeze;"⟩ : Cond) ∈ lw_T := lw_T_in (i := 330) (by decide +kernel) rfl
theorem q331 : (Cond.code ⟨"CircusLines", "trapezeNumbered", "(I)LCircusLines$Trapeze;"⟩ prog_1_method_24_code 2 (some (.object "CircusLines$Trapeze")) : Cond) ∈ lw_T := lw_T_in (i := 331) (by decide +kernel) rfl
theorem q332 : (Cond.classLink "CircusLines" 63 "java/lang/IndexOutOfBoundsException" : Cond) ∈ lw_T := lw_T_in (i := 332) (by decide +kernel) rfl
theorem q333 : (Cond.instantiable "java/lang/IndexOutOfBoundsException" 6 : Cond) ∈ lw_T := lw_T_in (i := 333) (by decide +kernel) rfl
theorem q335 : (Cond.selects "java/lang/IndexOutOfBoundsException" ⟨"java/lang/Throwable", "fillInStackTrace", "(I)Ljava/lang/Throwable;"⟩ ⟨"java/lang/Throwable", "fillInStackTrace", "(I)Ljava/lang/Throwable;"⟩ : Cond) ∈ lw_T := lw_T_in (i := 335) (by decide +kernel) rfl
theorem q342 : (Cond.methodLink "CircusLines" 67 ⟨"java/lang/IndexOutOfBoundsException", "<init>", "(Ljava/lang/String;)V"⟩ : Cond) ∈ lw_T := lw_T_in (i := 342) (by decide +kernel) rfl
theorem q343 : (Cond.instanceMethod ⟨"java/lang/IndexOutOfBoundsException", "<init>", "(Ljava/lang/String;)V"⟩ : Cond) ∈ lw_T := lw_T_in (i := 343) (by decide +kernel) rfl
theorem q344 : (Cond.code ⟨"java/lang/IndexOutOfBoundsException", "<init>", "(Ljava/lang/String;)V"⟩ prog_12_method_2_code 2 none : Cond) ∈ lw_T := lw_T_in (i := 344) (by decide +kernel) rfl
theorem q345 : (Cond.methodLink "java/lang/IndexOutOfBoundsException" 7 ⟨"java/lang/RuntimeException", "<init>", "(Ljava/lang/String;)V"⟩ : Cond) ∈ lw_T := lw_T_in (i := 345) (by decide +kernel) rfl
theorem q350 : (Cond.methodLink "CircusLines" 79 ⟨"CircusLines$Trapeze", "setWeight", "(II)V"⟩ : Cond) ∈ lw_T := lw_T_in (i := 350) (by decide +kernel) rfl
theorem q351 : (Cond.instanceMethod ⟨"CircusLines$Trapeze", "setWeight", "(II)V"⟩ : Cond) ∈ lw_T := lw_T_in (i := 351) (by decide +kernel) rfl
theorem q352 : (Cond.selects "CircusLines$Trapeze" ⟨"CircusLines$Trapeze", "setWeight", "(II)V"⟩ ⟨"CircusLines$Trapeze", "setWeight", "(II)V"⟩ : Cond) ∈ lw_T := lw_T_in (i := 352) (by decide +kernel) rfl
theorem q353 : (Cond.code ⟨"CircusLines$Trapeze", "setWeight", "(II)V"⟩ prog_5_method_2_code 3 none : Cond) ∈ lw_T := lw_T_in (i := 353) (by decide +kernel) rfl
theorem q354 : (Cond.methodLink "CircusLinesLaw" 87 ⟨"CircusLinesLaw", "mend", "(LCircusLines;I[J)I"⟩ : Cond) ∈ lw_T := lw_T_in (i := 354) (by decide +kernel) rfl
theorem q355 : (Cond.static ⟨"CircusLinesLaw", "mend", "(LCircusLines;I[J)I"⟩ : Cond) ∈ lw_T := lw_T_in (i := 355) (by decide +kernel) rfl
theorem q356 : (Cond.codeWith ⟨"CircusLinesLaw", "mend", "(LCircusLines;I[J)I"⟩ method_5_code 4 (some .int) [(0, 9, 12, 21)] : Cond) ∈ lw_T := lw_T_in (i := 356) (by decide +kernel) rfl
theorem q357 : (Cond.methodLink "CircusLinesLaw" 23 ⟨"CircusLines", "mend", "(I)I"⟩ : Cond) ∈ lw_T := lw_T_in (i := 357) (by decide +kernel) rfl
theorem q358 : (Cond.instanceMethod ⟨"CircusLines", "mend", "(I)I"⟩ : Cond) ∈ lw_T := lw_T_in (i := 358) (by decide +kernel) rfl
theorem q359 : (Cond.selects "CircusLines" ⟨"CircusLines", "mend", "(I)I"⟩ ⟨"CircusLines", "mend", "(I)I"⟩ : Cond) ∈ lw_T := lw_T_in (i := 359) (by decide +kernel) rfl
theorem q360 : (Cond.code ⟨"CircusLines", "mend", "(I)I"⟩ prog_1_method_4_code 4 (some .int) : Cond) ∈ lw_T := lw_T_in (i := 360) (by decide +kernel) rfl
theorem q361 : (Cond.methodLink "CircusLines" 86 ⟨"CircusLines$Trapeze", "renewRope", "()V"⟩ : Cond) ∈ lw_T := lw_T_in (i := 361) (by decide +kernel) rfl
theorem q362 : (Cond.instanceMethod ⟨"CircusLines$Trapeze", "renewRope", "()V"⟩ : Cond) ∈ lw_T := lw_T_in (i := 362) (by decide +kernel) rfl
theorem q363 : (Cond.selects "CircusLines$Trapeze" ⟨"CircusLines$Trapeze", "renewRope", "()V"⟩ ⟨"CircusLines$Trapeze", "renewRope", "()V"⟩ : Cond) ∈ lw_T := lw_T_in (i := 363) (by decide +kernel) rfl
theorem q364 : (Cond.code ⟨"CircusLines$Trapeze", "renewRope", "()V"⟩ prog_5_method_3_code 1 none : Cond) ∈ lw_T := lw_T_in (i := 364) (by decide +kernel) rfl
theorem q365 : (Cond.methodLink "CircusLinesLaw" 91 ⟨"CircusLinesLaw", "spread", "(LCircusLines;II[J)I"⟩ : Cond) ∈ lw_T := lw_T_in (i := 365) (by decide +kernel) rfl
theorem q366 : (Cond.static ⟨"CircusLinesLaw", "spread", "(LCircusLines;II[J)I"⟩ : Cond) ∈ lw_T := lw_T_in (i := 366) (by decide +kernel) rfl
theorem q367 : (Cond.codeWith ⟨"CircusLinesLaw", "spread", "(LCircusLines;II[J)I"⟩ method_6_code 5 (some .int) [(0, 10, 13, 13), (0, 10, 17, 15)] : Cond) ∈ lw_T := lw_T_in (i := 367) (by decide +kernel) rfl
theorem q368 : (Cond.methodLink "CircusLinesLaw" 27 ⟨"CircusLines", "spread", "(II)I"⟩ : Cond) ∈ lw_T := lw_T_in (i := 368) (by decide +kernel) rfl
theorem q369 : (Cond.instanceMethod ⟨"CircusLines", "spread", "(II)I"⟩ : Cond) ∈ lw_T := lw_T_in (i := 369) (by decide +kernel) rfl
theorem q370 : (Cond.selects "CircusLines" ⟨"CircusLines", "spread", "(II)I"⟩ ⟨"CircusLines", "spread", "(II)I"⟩ : Cond) ∈ lw_T := lw_T_in (i := 370) (by decide +kernel) rfl
theorem q371 : (Cond.code ⟨"CircusLines", "spread", "(II)I"⟩ prog_1_method_5_code 4 (some .int) : Cond) ∈ lw_T := lw_T_in (i := 371) (by decide +kernel) rfl
theorem q374 : (Cond.instantiable "CircusLines$Net" 2 : Cond) ∈ lw_T := lw_T_in (i := 374) (by decide +kernel) rfl
theorem q375 : (Cond.methodLink "CircusLines" 96 ⟨"CircusLines$Net", "<init>", "(II)V"⟩ : Cond) ∈ lw_T := lw_T_in (i := 375) (by decide +kernel) rfl
theorem q376 : (Cond.instanceMethod ⟨"CircusLines$Net", "<init>", "(II)V"⟩ : Cond) ∈ lw_T := lw_T_in (i := 376) (by decide +kernel) rfl
theorem q377 : (Cond.code ⟨"CircusLines$Net", "<init>", "(II)V"⟩ prog_4_method_1_code 3 none : Cond) ∈ lw_T := lw_T_in (i := 377) (by decide +kernel) rfl
theorem q378 : (Cond.methodLink "CircusLines$Net" 1 ⟨"java/lang/Object", "<init>", "()V"⟩ : Cond) ∈ lw_T := lw_T_in (i := 378) (by decide +kernel) rfl
theorem q379 : (Cond.fieldLink "CircusLines$Net" 7 "CircusLines$Net" "from" "I" : Cond) ∈ lw_T := lw_T_in (i := 379) (by decide +kernel) rfl
theorem q380 : (Cond.fieldLink "CircusLines" 211 "CircusLines$Net" "from" "I" : Cond) ∈ lw_T := lw_T_in (i := 380) (by decide +kernel) rfl
theorem q381 : (Cond.fieldLink "CircusLines$Net" 13 "CircusLines$Net" "to" "I" : Cond) ∈ lw_T := lw_T_in (i := 381) (by decide +kernel) rfl
theorem q382 : (Cond.fieldLink "CircusLines" 214 "CircusLines$Net" "to" "I" : Cond) ∈ lw_T := lw_T_in (i := 382) (by decide +kernel) rfl
theorem q388 : (Cond.methodLink "CircusLinesLaw" 94 ⟨"CircusLinesLaw", "join", "(LCircusLines;[J)I"⟩ : Cond) ∈ lw_T := lw_T_in (i := 388) (by decide +kernel) rfl
theorem q389 : (Cond.static ⟨"CircusLinesLaw", "join", "(LCircusLines;[J)I"⟩ : Cond) ∈ lw_T := lw_T_in (i := 389) (by decide +kernel) rfl
theorem q390 : (Cond.codeWith ⟨"CircusLinesLaw", "join", "(LCircusLines;[J)I"⟩ method_7_code 3 (some .int) [(0, 8, 11, 15)] : Cond) ∈ lw_T := lw_T_in (i := 390) (by decide +kernel) rfl
theorem q391 : (Cond.methodLink "CircusLinesLaw" 30 ⟨"CircusLines", "join", "()I"⟩ : Cond) ∈ lw_T := lw_T_in (i := 391) (by decide +kernel) rfl
theorem q392 : (Cond.instanceMethod ⟨"CircusLines", "join", "()I"⟩ : Cond) ∈ lw_T := lw_T_in (i := 392) (by decide +kernel) rfl
theorem q393 : (Cond.selects "CircusLines" ⟨"CircusLines", "join", "()I"⟩ ⟨"CircusLines", "join", "()I"⟩ : Cond) ∈ lw_T := lw_T_in (i := 393) (by decide +kernel) rfl
theorem q394 : (Cond.code ⟨"CircusLines", "join", "()I"⟩ prog_1_method_6_code 2 (some .int) : Cond) ∈ lw_T := lw_T_in (i := 394) (by decide +kernel) rfl
theorem q396 : (Cond.instantiable "CircusLines$Flyer" 10 : Cond) ∈ lw_T := lw_T_in (i := 396) (by decide +kernel) rfl
theorem q398 : (Cond.instanceMethod ⟨"CircusLines$Flyer", "<init>", "()V"⟩ : Cond) ∈ lw_T := lw_T_in (i := 398) (by decide +kernel) rfl
theorem q399 : (Cond.code ⟨"CircusLines$Flyer", "<init>", "()V"⟩ prog_3_method_1_code 1 none : Cond) ∈ lw_T := lw_T_in (i := 399) (by decide +kernel) rfl
theorem q400 : (Cond.methodLink "CircusLines$Flyer" 3 ⟨"java/lang/Object", "<init>", "()V"⟩ : Cond) ∈ lw_T := lw_T_in (i := 400) (by decide +kernel) rfl
theorem q401 : (Cond.fieldLink "CircusLines$Flyer" 9 "CircusLines$Flyer" "state" "I" : Cond) ∈ lw_T := lw_T_in (i := 401) (by decide +kernel) rfl
theorem q402 : (Cond.fieldLink "CircusLines" 229 "CircusLines$Flyer" "state" "I" : Cond) ∈ lw_T := lw_T_in (i := 402) (by decide +kernel) rfl
theorem q403 : (Cond.fieldLink "CircusLines$Flyer" 15 "CircusLines$Flyer" "trapezeNumber" "I" : Cond) ∈ lw_T := lw_T_in (i := 403) (by decide +kernel) rfl
theorem q404 : (Cond.fieldLink "CircusLines" 177 "CircusLines$Flyer" "trapezeNumber" "I" : Cond) ∈ lw_T := lw_T_in (i := 404) (by decide +kernel) rfl
theorem q405 : (Cond.fieldLink "CircusLines$Flyer" 21 "CircusLines$Flyer" "goal" "I" : Cond) ∈ lw_T := lw_T_in (i := 405) (by decide +kernel) rfl
theorem q406 : (Cond.fieldLink "CircusLines" 232 "CircusLines$Flyer" "goal" "I" : Cond) ∈ lw_T := lw_T_in (i := 406) (by decide +kernel) rfl
theorem q407 : (Cond.fieldLink "CircusLines$Flyer" 18 "CircusLines$Flyer" "landingBeat" "I" : Cond) ∈ lw_T := lw_T_in (i := 407) (by decide +kernel) rfl
theorem q408 : (Cond.fieldLink "CircusLines" 235 "CircusLines$Flyer" "landingBeat" "I" : Cond) ∈ lw_T := lw_T_in (i := 408) (by decide +kernel) rfl
theorem q409 : (Cond.fieldLink "CircusLines$Flyer" 36 "CircusLines$Flyer" "caught" "I" : Cond) ∈ lw_T := lw_T_in (i := 409) (by decide +kernel) rfl
theorem q410 : (Cond.fieldLink "CircusLines" 194 "CircusLines$Flyer" "caught" "I" : Cond) ∈ lw_T := lw_T_in (i := 410) (by decide +kernel) rfl
theorem q411 : (Cond.fieldLink "CircusLines$Flyer" 24 "CircusLines$Flyer" "keptState" "I" : Cond) ∈ lw_T := lw_T_in (i := 411) (by decide +kernel) rfl
theorem q412 : (Cond.fieldLink "CircusLines$Flyer" 27 "CircusLines$Flyer" "keptTrapezeNumber" "I" : Cond) ∈ lw_T := lw_T_in (i := 412) (by decide +kernel) rfl
theorem q413 : (Cond.fieldLink "CircusLines$Flyer" 30 "CircusLines$Flyer" "keptGoal" "I" : Cond) ∈ lw_T := lw_T_in (i := 413) (by decide +kernel) rfl
theorem q414 : (Cond.fieldLink "CircusLines$Flyer" 33 "CircusLines$Flyer" "keptLandingBeat" "I" : Cond) ∈ lw_T := lw_T_in (i := 414) (by decide +kernel) rfl
theorem q415 : (Cond.fieldLink "CircusLines$Flyer" 39 "CircusLines$Flyer" "keptCaught" "I" : Cond) ∈ lw_T := lw_T_in (i := 415) (by decide +kernel) rfl
theorem q437 : (Cond.methodLink "CircusLinesLaw" 98 ⟨"CircusLinesLaw", "mount", "(LCircusLines;II[J)I"⟩ : Cond) ∈ lw_T := lw_T_in (i := 437) (by decide +kernel) rfl
theorem q438 : (Cond.static ⟨"CircusLinesLaw", "mount", "(LCircusLines;II[J)I"⟩ : Cond) ∈ lw_T := lw_T_in (i := 438) (by decide +kernel) rfl
theorem q439 : (Cond.codeWith ⟨"CircusLinesLaw", "mount", "(LCircusLines;II[J)I"⟩ method_8_code 5 (some .int) [(0, 10, 13, 21), (0, 10, 17, 15)] : Cond) ∈ lw_T := lw_T_in (i := 439) (by decide +kernel) rfl
theorem q440 : (Cond.methodLink "CircusLinesLaw" 34 ⟨"CircusLines", "mount", "(II)I"⟩ : Cond) ∈ lw_T := lw_T_in (i := 440) (by decide +kernel) rfl
theorem q441 : (Cond.instanceMethod ⟨"CircusLines", "mount", "(II)I"⟩ : Cond) ∈ lw_T := lw_T_in (i := 441) (by decide +kernel) rfl
theorem q442 : (Cond.selects "CircusLines" ⟨"CircusLines", "mount", "(II)I"⟩ ⟨"CircusLines", "mount", "(II)I"⟩ : Cond) ∈ lw_T := lw_T_in (i := 442) (by decide +kernel) rfl
theorem q443 : (Cond.code ⟨"CircusLines", "mount", "(II)I"⟩ prog_1_method_7_code 6 (some .int) : Cond) ∈ lw_T := lw_T_in (i := 443) (by decide +kernel) rfl
theorem q444 : (Cond.methodLink "CircusLines" 104 ⟨"CircusLines", "flyerNumbered", "(I)LCircusLines$Flyer;"⟩ : Cond) ∈ lw_T := lw_T_in (i := 444) (by decide +kernel) rfl
theorem q446 : (Cond.instanceMethod ⟨"CircusLines", "flyerNumbered", "(I)LCircusLines$Flyer;"⟩ : Cond) ∈ lw_T := lw_T_in (i := 446) (by decide +kernel) rfl
theorem q447 : (Cond.code ⟨"CircusLines", "flyerNumbered", "(I)LCircusLines$Flyer;"⟩ prog_1_method_25_code 2 (some (.object "CircusLines$Flyer")) : Cond) ∈ lw_T := lw_T_in (i := 447) (by decide +kernel) rfl
theorem q449 : (Cond.methodLink "CircusLines" 114 ⟨"CircusLines$Flyer", "canMount", "()Z"⟩ : Cond) ∈ lw_T := lw_T_in (i := 449) (by decide +kernel) rfl
theorem q450 : (Cond.instanceMethod ⟨"CircusLines$Flyer", "canMount", "()Z"⟩ : Cond) ∈ lw_T := lw_T_in (i := 450) (by decide +kernel) rfl
theorem q451 : (Cond.selects "CircusLines$Flyer" ⟨"CircusLines$Flyer", "canMount", "()Z"⟩ ⟨"CircusLines$Flyer", "canMount", "()Z"⟩ : Cond) ∈ lw_T := lw_T_in (i := 451) (by decide +kernel) rfl
theorem q452 : (Cond.code ⟨"CircusLines$Flyer", "canMount", "()Z"⟩ prog_3_method_2_code 1 (some .boolean) : Cond) ∈ lw_T := lw_T_in (i := 452) (by decide +kernel) rfl
theorem q454 : (Cond.methodLink "CircusLines" 120 ⟨"CircusLines$Flyer", "hangFrom", "(I)V"⟩ : Cond) ∈ lw_T := lw_T_in (i := 454) (by decide +kernel) rfl
theorem q455 : (Cond.instanceMethod ⟨"CircusLines$Flyer", "hangFrom", "(I)V"⟩ : Cond) ∈ lw_T := lw_T_in (i := 455) (by decide +kernel) rfl
theorem q456 : (Cond.selects "CircusLines$Flyer" ⟨"CircusLines$Flyer", "hangFrom", "(I)V"⟩ ⟨"CircusLines$Flyer", "hangFrom", "(I)V"⟩ : Cond) ∈ lw_T := lw_T_in (i := 456) (by decide +kernel) rfl
theorem q457 : (Cond.code ⟨"CircusLines$Flyer", "hangFrom", "(I)V"⟩ prog_3_method_5_code 2 none : Cond) ∈ lw_T := lw_T_in (i := 457) (by decide +kernel) rfl
theorem q458 : (Cond.methodLink "CircusLinesLaw" 101 ⟨"CircusLinesLaw", "cue", "(LCircusLines;IIII[J)I"⟩ : Cond) ∈ lw_T := lw_T_in (i := 458) (by decide +kernel) rfl
theorem q459 : (Cond.static ⟨"CircusLinesLaw", "cue", "(LCircusLines;IIII[J)I"⟩ : Cond) ∈ lw_T := lw_T_in (i := 459) (by decide +kernel) rfl
theorem q460 : (Cond.codeWith ⟨"CircusLinesLaw", "cue", "(LCircusLines;IIII[J)I"⟩ method_9_code 7 (some .int) [(0, 14, 17, 21), (0, 14, 21, 13), (0, 14, 25, 15)] : Cond) ∈ lw_T := lw_T_in (i := 460) (by decide +kernel) rfl
theorem q461 : (Cond.methodLink "CircusLinesLaw" 37 ⟨"CircusLines", "cue", "(IIII)I"⟩ : Cond) ∈ lw_T := lw_T_in (i := 461) (by decide +kernel) rfl
theorem q462 : (Cond.instanceMethod ⟨"CircusLines", "cue", "(IIII)I"⟩ : Cond) ∈ lw_T := lw_T_in (i := 462) (by decide +kernel) rfl
theorem q463 : (Cond.selects "CircusLines" ⟨"CircusLines", "cue", "(IIII)I"⟩ ⟨"CircusLines", "cue", "(IIII)I"⟩ : Cond) ∈ lw_T := lw_T_in (i := 463) (by decide +kernel) rfl
theorem q464 : (Cond.code ⟨"CircusLines", "cue", "(IIII)I"⟩ prog_1_method_8_code 6 (some .int) : Cond) ∈ lw_T := lw_T_in (i := 464) (by decide +kernel) rfl
theorem q468 : (Cond.instantiable "CircusLines$Cue" 6 : Cond) ∈ lw_T := lw_T_in (i := 468) (by decide +kernel) rfl
theorem q469 : (Cond.methodLink "CircusLines" 133 ⟨"CircusLines$Cue", "<init>", "(IIII)V"⟩ : Cond) ∈ lw_T := lw_T_in (i := 469) (by decide +kernel) rfl
theorem q470 : (Cond.instanceMethod ⟨"CircusLines$Cue", "<init>", "(IIII)V"⟩ : Cond) ∈ lw_T := lw_T_in (i := 470) (by decide +kernel) rfl
theorem q471 : (Cond.code ⟨"CircusLines$Cue", "<init>", "(IIII)V"⟩ prog_2_method_1_code 5 none : Cond) ∈ lw_T := lw_T_in (i := 471) (by decide +kernel) rfl
theorem q472 : (Cond.methodLink "CircusLines$Cue" 3 ⟨"java/lang/Object", "<init>", "()V"⟩ : Cond) ∈ lw_T := lw_T_in (i := 472) (by decide +kernel) rfl
theorem q473 : (Cond.fieldLink "CircusLines$Cue" 15 "CircusLines$Cue" "beat" "I" : Cond) ∈ lw_T := lw_T_in (i := 473) (by decide +kernel) rfl
theorem q474 : (Cond.fieldLink "CircusLines" 238 "CircusLines$Cue" "beat" "I" : Cond) ∈ lw_T := lw_T_in (i := 474) (by decide +kernel) rfl
theorem q475 : (Cond.fieldLink "CircusLines$Cue" 18 "CircusLines$Cue" "flyerNumber" "I" : Cond) ∈ lw_T := lw_T_in (i := 475) (by decide +kernel) rfl
theorem q476 : (Cond.fieldLink "CircusLines" 239 "CircusLines$Cue" "flyerNumber" "I" : Cond) ∈ lw_T := lw_T_in (i := 476) (by decide +kernel) rfl
theorem q477 : (Cond.fieldLink "CircusLines$Cue" 21 "CircusLines$Cue" "reach" "I" : Cond) ∈ lw_T := lw_T_in (i := 477) (by decide +kernel) rfl
theorem q478 : (Cond.fieldLink "CircusLines" 242 "CircusLines$Cue" "reach" "I" : Cond) ∈ lw_T := lw_T_in (i := 478) (by decide +kernel) rfl
theorem q479 : (Cond.fieldLink "CircusLines$Cue" 24 "CircusLines$Cue" "time" "I" : Cond) ∈ lw_T := lw_T_in (i := 479) (by decide +kernel) rfl
theorem q480 : (Cond.fieldLink "CircusLines" 245 "CircusLines$Cue" "time" "I" : Cond) ∈ lw_T := lw_T_in (i := 480) (by decide +kernel) rfl
theorem q481 : (Cond.fieldLink "CircusLines$Cue" 9 "CircusLines$Cue" "state" "I" : Cond) ∈ lw_T := lw_T_in (i := 481) (by decide +kernel) rfl
theorem q482 : (Cond.fieldLink "CircusLines" 248 "CircusLines$Cue" "state" "I" : Cond) ∈ lw_T := lw_T_in (i := 482) (by decide +kernel) rfl
theorem q483 : (Cond.fieldLink "CircusLines$Cue" 27 "CircusLines$Cue" "keptState" "I" : Cond) ∈ lw_T := lw_T_in (i := 483) (by decide +kernel) rfl
theorem q497 : (Cond.methodLink "CircusLinesLaw" 104 ⟨"CircusLinesLaw", "trapeze", "(LCircusLines;II[J)I"⟩ : Cond) ∈ lw_T := lw_T_in (i := 497) (by decide +kernel) rfl
theorem q498 : (Cond.static ⟨"CircusLinesLaw", "trapeze", "(LCircusLines;II[J)I"⟩ : Cond) ∈ lw_T := lw_T_in (i := 498) (by decide +kernel) rfl
theorem q499 : (Cond.codeWith ⟨"CircusLinesLaw", "trapeze", "(LCircusLines;II[J)I"⟩ method_10_code 5 (some .int) [(0, 10, 13, 21)] : Cond) ∈ lw_T := lw_T_in (i := 499) (by decide +kernel) rfl
theorem q500 : (Cond.methodLink "CircusLinesLaw" 40 ⟨"CircusLines", "trapeze", "(II)I"⟩ : Cond) ∈ lw_T := lw_T_in (i := 500) (by decide +kernel) rfl
theorem q501 : (Cond.instanceMethod ⟨"CircusLines", "trapeze", "(II)I"⟩ : Cond) ∈ lw_T := lw_T_in (i := 501) (by decide +kernel) rfl
theorem q502 : (Cond.selects "CircusLines" ⟨"CircusLines", "trapeze", "(II)I"⟩ ⟨"CircusLines", "trapeze", "(II)I"⟩ : Cond) ∈ lw_T := lw_T_in (i := 502) (by decide +kernel) rfl
theorem q503 : (Cond.code ⟨"CircusLines", "trapeze", "(II)I"⟩ prog_1_method_9_code 4 (some .int) : Cond) ∈ lw_T := lw_T_in (i := 503) (by decide +kernel) rfl
theorem q505 : (Cond.methodLink "CircusLinesLaw" 107 ⟨"CircusLinesLaw", "flyer", "(LCircusLines;II[J)I"⟩ : Cond) ∈ lw_T := lw_T_in (i := 505) (by decide +kernel) rfl
theorem q506 : (Cond.static ⟨"CircusLinesLaw", "flyer", "(LCircusLines;II[J)I"⟩ : Cond) ∈ lw_T := lw_T_in (i := 506) (by decide +kernel) rfl
theorem q507 : (Cond.codeWith ⟨"CircusLinesLaw", "flyer", "(LCircusLines;II[J)I"⟩ method_11_code 5 (some .int) [(0, 10, 13, 21)] : Cond) ∈ lw_T := lw_T_in (i := 507) (by decide +kernel) rfl
theorem q508 : (Cond.methodLink "CircusLinesLaw" 43 ⟨"CircusLines", "flyer", "(II)I"⟩ : Cond) ∈ lw_T := lw_T_in (i := 508) (by decide +kernel) rfl
theorem q509 : (Cond.instanceMethod ⟨"CircusLines", "flyer", "(II)I"⟩ : Cond) ∈ lw_T := lw_T_in (i := 509) (by decide +kernel) rfl
theorem q510 : (Cond.selects "CircusLines" ⟨"CircusLines", "flyer", "(II)I"⟩ ⟨"CircusLines", "flyer", "(II)I"⟩ : Cond) ∈ lw_T := lw_T_in (i := 510) (by decide +kernel) rfl
theorem q511 : (Cond.code ⟨"CircusLines", "flyer", "(II)I"⟩ prog_1_method_10_code 4 (some .int) : Cond) ∈ lw_T := lw_T_in (i := 511) (by decide +kernel) rfl
theorem q513 : (Cond.methodLink "CircusLinesLaw" 110 ⟨"CircusLinesLaw", "called", "(LCircusLines;II[J)I"⟩ : Cond) ∈ lw_T := lw_T_in (i := 513) (by decide +kernel) rfl
theorem q514 : (Cond.static ⟨"CircusLinesLaw", "called", "(LCircusLines;II[J)I"⟩ : Cond) ∈ lw_T := lw_T_in (i := 514) (by decide +kernel) rfl
theorem q515 : (Cond.codeWith ⟨"CircusLinesLaw", "called", "(LCircusLines;II[J)I"⟩ method_12_code 5 (some .int) [(0, 10, 13, 21)] : Cond) ∈ lw_T := lw_T_in (i := 515) (by decide +kernel) rfl
theorem q516 : (Cond.methodLink "CircusLinesLaw" 46 ⟨"CircusLines", "called", "(II)I"⟩ : Cond) ∈ lw_T := lw_T_in (i := 516) (by decide +kernel) rfl
theorem q517 : (Cond.instanceMethod ⟨"CircusLines", "called", "(II)I"⟩ : Cond) ∈ lw_T := lw_T_in (i := 517) (by decide +kernel) rfl
theorem q518 : (Cond.selects "CircusLines" ⟨"CircusLines", "called", "(II)I"⟩ ⟨"CircusLines", "called", "(II)I"⟩ : Cond) ∈ lw_T := lw_T_in (i := 518) (by decide +kernel) rfl
theorem q519 : (Cond.code ⟨"CircusLines", "called", "(II)I"⟩ prog_1_method_11_code 4 (some .int) : Cond) ∈ lw_T := lw_T_in (i := 519) (by decide +kernel) rfl
theorem q521 : (Cond.methodLink "CircusLinesLaw" 113 ⟨"CircusLinesLaw", "count", "(LCircusLines;I[J)I"⟩ : Cond) ∈ lw_T := lw_T_in (i := 521) (by decide +kernel) rfl
theorem q522 : (Cond.static ⟨"CircusLinesLaw", "count", "(LCircusLines;I[J)I"⟩ : Cond) ∈ lw_T := lw_T_in (i := 522) (by decide +kernel) rfl
theorem q523 : (Cond.codeWith ⟨"CircusLinesLaw", "count", "(LCircusLines;I[J)I"⟩ method_13_code 4 (some .int) [(0, 9, 12, 21)] : Cond) ∈ lw_T := lw_T_in (i := 523) (by decide +kernel) rfl
theorem q524 : (Cond.methodLink "CircusLinesLaw" 49 ⟨"CircusLines", "count", "(I)I"⟩ : Cond) ∈ lw_T := lw_T_in (i := 524) (by decide +kernel) rfl
theorem q525 : (Cond.instanceMethod ⟨"CircusLines", "count", "(I)I"⟩ : Cond) ∈ lw_T := lw_T_in (i := 525) (by decide +kernel) rfl
theorem q526 : (Cond.selects "CircusLines" ⟨"CircusLines", "count", "(I)I"⟩ ⟨"CircusLines", "count", "(I)I"⟩ : Cond) ∈ lw_T := lw_T_in (i := 526) (by decide +kernel) rfl
theorem q527 : (Cond.code ⟨"CircusLines", "count", "(I)I"⟩ prog_1_method_12_code 2 (some .int) : Cond) ∈ lw_T := lw_T_in (i := 527) (by decide +kernel) rfl
theorem q529 : (Cond.methodLink "CircusLinesLaw" 116 ⟨"CircusLinesLaw", "place", "(LCircusLines;II[J)I"⟩ : Cond) ∈ lw_T := lw_T_in (i := 529) (by decide +kernel) rfl
theorem q530 : (Cond.static ⟨"CircusLinesLaw", "place", "(LCircusLines;II[J)I"⟩ : Cond) ∈ lw_T := lw_T_in (i := 530) (by decide +kernel) rfl
theorem q531 : (Cond.codeWith ⟨"CircusLinesLaw", "place", "(LCircusLines;II[J)I"⟩ method_14_code 5 (some .int) [(0, 10, 13, 21), (0, 10, 17, 13)] : Cond) ∈ lw_T := lw_T_in (i := 531) (by decide +kernel) rfl
theorem q532 : (Cond.methodLink "CircusLinesLaw" 52 ⟨"CircusLines", "place", "(II)I"⟩ : Cond) ∈ lw_T := lw_T_in (i := 532) (by decide +kernel) rfl
theorem q533 : (Cond.instanceMethod ⟨"CircusLines", "place", "(II)I"⟩ : Cond) ∈ lw_T := lw_T_in (i := 533) (by decide +kernel) rfl
theorem q534 : (Cond.selects "CircusLines" ⟨"CircusLines", "place", "(II)I"⟩ ⟨"CircusLines", "place", "(II)I"⟩ : Cond) ∈ lw_T := lw_T_in (i := 534) (by decide +kernel) rfl
theorem q535 : (Cond.code ⟨"CircusLines", "place", "(II)I"⟩ prog_1_method_13_code 4 (some .int) : Cond) ∈ lw_T := lw_T_in (i := 535) (by decide +kernel) rfl
theorem q537 : (Cond.methodLink "CircusLinesLaw" 124 ⟨"CircusLinesLaw", "go", "(LCircusLines;I[J)I"⟩ : Cond) ∈ lw_T := lw_T_in (i := 537) (by decide +kernel) rfl
theorem q538 : (Cond.static ⟨"CircusLinesLaw", "go", "(LCircusLines;I[J)I"⟩ : Cond) ∈ lw_T := lw_T_in (i := 538) (by decide +kernel) rfl
theorem q539 : (Cond.codeWith ⟨"CircusLinesLaw", "go", "(LCircusLines;I[J)I"⟩ method_15_code 4 (some .int) [(0, 9, 12, 13)] : Cond) ∈ lw_T := lw_T_in (i := 539) (by decide +kernel) rfl
theorem q540 : (Cond.methodLink "CircusLinesLaw" 55 ⟨"CircusLines", "go", "(I)I"⟩ : Cond) ∈ lw_T := lw_T_in (i := 540) (by decide +kernel) rfl
theorem q541 : (Cond.instanceMethod ⟨"CircusLines", "go", "(I)I"⟩ : Cond) ∈ lw_T := lw_T_in (i := 541) (by decide +kernel) rfl
theorem q542 : (Cond.selects "CircusLines" ⟨"CircusLines", "go", "(I)I"⟩ ⟨"CircusLines", "go", "(I)I"⟩ : Cond) ∈ lw_T := lw_T_in (i := 542) (by decide +kernel) rfl
theorem q543 : (Cond.code ⟨"CircusLines", "go", "(I)I"⟩ prog_1_method_15_code 2 (some .int) : Cond) ∈ lw_T := lw_T_in (i := 543) (by decide +kernel) rfl
theorem q545 : (Cond.methodLink "CircusLines" 170 ⟨"CircusLines", "passBeats", "(I)I"⟩ : Cond) ∈ lw_T := lw_T_in (i := 545) (by decide +kernel) rfl
theorem q547 : (Cond.instanceMethod ⟨"CircusLines", "passBeats", "(I)I"⟩ : Cond) ∈ lw_T := lw_T_in (i := 547) (by decide +kernel) rfl
theorem q548 : (Cond.code ⟨"CircusLines", "passBeats", "(I)I"⟩ prog_1_method_38_code 4 (some .int) : Cond) ∈ lw_T := lw_T_in (i := 548) (by decide +kernel) rfl
theorem q549 : (Cond.methodLink "CircusLines" 259 ⟨"CircusLines", "callCues", "()V"⟩ : Cond) ∈ lw_T := lw_T_in (i := 549) (by decide +kernel) rfl
theorem q551 : (Cond.instanceMethod ⟨"CircusLines", "callCues", "()V"⟩ : Cond) ∈ lw_T := lw_T_in (i := 551) (by decide +kernel) rfl
theorem q552 : (Cond.code ⟨"CircusLines", "callCues", "()V"⟩ prog_1_method_39_code 5 none : Cond) ∈ lw_T := lw_T_in (i := 552) (by decide +kernel) rfl
theorem q553 : (Cond.methodLink "CircusLines" 268 ⟨"CircusLines", "letGo", "(LCircusLines$Cue;)Z"⟩ : Cond) ∈ lw_T := lw_T_in (i := 553) (by decide +kernel) rfl
theorem q555 : (Cond.instanceMethod ⟨"CircusLines", "letGo", "(LCircusLines$Cue;)Z"⟩ : Cond) ∈ lw_T := lw_T_in (i := 555) (by decide +kernel) rfl
theorem q556 : (Cond.code ⟨"CircusLines", "letGo", "(LCircusLines$Cue;)Z"⟩ prog_1_method_40_code 4 (some .boolean) : Cond) ∈ lw_T := lw_T_in (i := 556) (by decide +kernel) rfl
theorem q557 : (Cond.methodLink "CircusLines" 272 ⟨"CircusLines$Flyer", "flyTo", "(II)V"⟩ : Cond) ∈ lw_T := lw_T_in (i := 557) (by decide +kernel) rfl
theorem q558 : (Cond.instanceMethod ⟨"CircusLines$Flyer", "flyTo", "(II)V"⟩ : Cond) ∈ lw_T := lw_T_in (i := 558) (by decide +kernel) rfl
theorem q559 : (Cond.selects "CircusLines$Flyer" ⟨"CircusLines$Flyer", "flyTo", "(II)V"⟩ ⟨"CircusLines$Flyer", "flyTo", "(II)V"⟩ : Cond) ∈ lw_T := lw_T_in (i := 559) (by decide +kernel) rfl
theorem q560 : (Cond.code ⟨"CircusLines$Flyer", "flyTo", "(II)V"⟩ prog_3_method_6_code 3 none : Cond) ∈ lw_T := lw_T_in (i := 560) (by decide +kernel) rfl
theorem q561 : (Cond.methodLink "CircusLines" 262 ⟨"CircusLines", "endFlights", "()I"⟩ : Cond) ∈ lw_T := lw_T_in (i := 561) (by decide +kernel) rfl
theorem q563 : (Cond.instanceMethod ⟨"CircusLines", "endFlights", "()I"⟩ : Cond) ∈ lw_T := lw_T_in (i := 563) (by decide +kernel) rfl
theorem q564 : (Cond.code ⟨"CircusLines", "endFlights", "()I"⟩ prog_1_method_41_code 7 (some .int) : Cond) ∈ lw_T := lw_T_in (i := 564) (by decide +kernel) rfl
theorem q565 : (Cond.methodLink "CircusLines" 275 ⟨"CircusLines$Flyer", "comesIn", "(I)Z"⟩ : Cond) ∈ lw_T := lw_T_in (i := 565) (by decide +kernel) rfl
theorem q566 : (Cond.instanceMethod ⟨"CircusLines$Flyer", "comesIn", "(I)Z"⟩ : Cond) ∈ lw_T := lw_T_in (i := 566) (by decide +kernel) rfl
theorem q567 : (Cond.selects "CircusLines$Flyer" ⟨"CircusLines$Flyer", "comesIn", "(I)Z"⟩ ⟨"CircusLines$Flyer", "comesIn", "(I)Z"⟩ : Cond) ∈ lw_T := lw_T_in (i := 567) (by decide +kernel) rfl
theorem q568 : (Cond.code ⟨"CircusLines$Flyer", "comesIn", "(I)Z"⟩ prog_3_method_4_code 2 (some .boolean) : Cond) ∈ lw_T := lw_T_in (i := 568) (by decide +kernel) rfl
theorem q569 : (Cond.methodLink "CircusLines" 278 ⟨"CircusLines", "catcherAt", "(I)I"⟩ : Cond) ∈ lw_T := lw_T_in (i := 569) (by decide +kernel) rfl
theorem q571 : (Cond.instanceMethod ⟨"CircusLines", "catcherAt", "(I)I"⟩ : Cond) ∈ lw_T := lw_T_in (i := 571) (by decide +kernel) rfl
theorem q572 : (Cond.code ⟨"CircusLines", "catcherAt", "(I)I"⟩ prog_1_method_42_code 4 (some .int) : Cond) ∈ lw_T := lw_T_in (i := 572) (by decide +kernel) rfl
theorem q573 : (Cond.methodLink "CircusLines" 173 ⟨"CircusLines", "isNear", "(II)Z"⟩ : Cond) ∈ lw_T := lw_T_in (i := 573) (by decide +kernel) rfl
theorem q574 : (Cond.static ⟨"CircusLines", "isNear", "(II)Z"⟩ : Cond) ∈ lw_T := lw_T_in (i := 574) (by decide +kernel) rfl
theorem q575 : (Cond.code ⟨"CircusLines", "isNear", "(II)Z"⟩ prog_1_method_23_code 2 (some .boolean) : Cond) ∈ lw_T := lw_T_in (i := 575) (by decide +kernel) rfl
theorem q576 : (Cond.methodLink "CircusLines" 281 ⟨"CircusLines$Flyer", "fall", "(Z)V"⟩ : Cond) ∈ lw_T := lw_T_in (i := 576) (by decide +kernel) rfl
theorem q577 : (Cond.instanceMethod ⟨"CircusLines$Flyer", "fall", "(Z)V"⟩ : Cond) ∈ lw_T := lw_T_in (i := 577) (by decide +kernel) rfl
theorem q578 : (Cond.selects "CircusLines$Flyer" ⟨"CircusLines$Flyer", "fall", "(Z)V"⟩ ⟨"CircusLines$Flyer", "fall", "(Z)V"⟩ : Cond) ∈ lw_T := lw_T_in (i := 578) (by decide +kernel) rfl
theorem q579 : (Cond.code ⟨"CircusLines$Flyer", "fall", "(Z)V"⟩ prog_3_method_7_code 2 none : Cond) ∈ lw_T := lw_T_in (i := 579) (by decide +kernel) rfl
theorem q580 : (Cond.methodLink "CircusLines" 265 ⟨"CircusLines", "wearRopes", "()V"⟩ : Cond) ∈ lw_T := lw_T_in (i := 580) (by decide +kernel) rfl
theorem q582 : (Cond.instanceMethod ⟨"CircusLines", "wearRopes", "()V"⟩ : Cond) ∈ lw_T := lw_T_in (i := 582) (by decide +kernel) rfl
theorem q583 : (Cond.code ⟨"CircusLines", "wearRopes", "()V"⟩ prog_1_method_43_code 3 none : Cond) ∈ lw_T := lw_T_in (i := 583) (by decide +kernel) rfl
theorem q584 : (Cond.methodLink "CircusLines" 285 ⟨"CircusLines$Trapeze", "isAtLeftEndIn", "(I)Z"⟩ : Cond) ∈ lw_T := lw_T_in (i := 584) (by decide +kernel) rfl
theorem q585 : (Cond.instanceMethod ⟨"CircusLines$Trapeze", "isAtLeftEndIn", "(I)Z"⟩ : Cond) ∈ lw_T := lw_T_in (i := 585) (by decide +kernel) rfl
theorem q586 : (Cond.selects "CircusLines$Trapeze" ⟨"CircusLines$Trapeze", "isAtLeftEndIn", "(I)Z"⟩ ⟨"CircusLines$Trapeze", "isAtLeftEndIn", "(I)Z"⟩ : Cond) ∈ lw_T := lw_T_in (i := 586) (by decide +kernel) rfl
theorem q587 : (Cond.code ⟨"CircusLines$Trapeze", "isAtLeftEndIn", "(I)Z"⟩ prog_5_method_6_code 2 (some .boolean) : Cond) ∈ lw_T := lw_T_in (i := 587) (by decide +kernel) rfl
theorem q588 : (Cond.methodLink "CircusLines" 288 ⟨"CircusLines$Trapeze", "wear", "(I)V"⟩ : Cond) ∈ lw_T := lw_T_in (i := 588) (by decide +kernel) rfl
theorem q589 : (Cond.instanceMethod ⟨"CircusLines$Trapeze", "wear", "(I)V"⟩ : Cond) ∈ lw_T := lw_T_in (i := 589) (by decide +kernel) rfl
theorem q590 : (Cond.selects "CircusLines$Trapeze" ⟨"CircusLines$Trapeze", "wear", "(I)V"⟩ ⟨"CircusLines$Trapeze", "wear", "(I)V"⟩ : Cond) ∈ lw_T := lw_T_in (i := 590) (by decide +kernel) rfl
theorem q591 : (Cond.code ⟨"CircusLines$Trapeze", "wear", "(I)V"⟩ prog_5_method_4_code 2 none : Cond) ∈ lw_T := lw_T_in (i := 591) (by decide +kernel) rfl
theorem q592 : (Cond.methodLink "CircusLines" 291 ⟨"CircusLines", "dropFrom", "(II)V"⟩ : Cond) ∈ lw_T := lw_T_in (i := 592) (by decide +kernel) rfl
theorem q594 : (Cond.instanceMethod ⟨"CircusLines", "dropFrom", "(II)V"⟩ : Cond) ∈ lw_T := lw_T_in (i := 594) (by decide +kernel) rfl
theorem q595 : (Cond.code ⟨"CircusLines", "dropFrom", "(II)V"⟩ prog_1_method_44_code 8 none : Cond) ∈ lw_T := lw_T_in (i := 595) (by decide +kernel) rfl
theorem q596 : (Cond.methodLink "CircusLinesLaw" 127 ⟨"CircusLinesLaw", "meets", "(LCircusLines;II[J)I"⟩ : Cond) ∈ lw_T := lw_T_in (i := 596) (by decide +kernel) rfl
theorem q597 : (Cond.static ⟨"CircusLinesLaw", "meets", "(LCircusLines;II[J)I"⟩ : Cond) ∈ lw_T := lw_T_in (i := 597) (by decide +kernel) rfl
theorem q598 : (Cond.codeWith ⟨"CircusLinesLaw", "meets", "(LCircusLines;II[J)I"⟩ method_16_code 5 (some .int) [(0, 10, 13, 21)] : Cond) ∈ lw_T := lw_T_in (i := 598) (by decide +kernel) rfl
theorem q599 : (Cond.methodLink "CircusLinesLaw" 58 ⟨"CircusLines", "meets", "(II)I"⟩ : Cond) ∈ lw_T := lw_T_in (i := 599) (by decide +kernel) rfl
theorem q600 : (Cond.instanceMethod ⟨"CircusLines", "meets", "(II)I"⟩ : Cond) ∈ lw_T := lw_T_in (i := 600) (by decide +kernel) rfl
theorem q601 : (Cond.selects "CircusLines" ⟨"CircusLines", "meets", "(II)I"⟩ ⟨"CircusLines", "meets", "(II)I"⟩ : Cond) ∈ lw_T := lw_T_in (i := 601) (by decide +kernel) rfl
theorem q602 : (Cond.code ⟨"CircusLines", "meets", "(II)I"⟩ prog_1_method_16_code 6 (some .int) : Cond) ∈ lw_T := lw_T_in (i := 602) (by decide +kernel) rfl
theorem q603 : (Cond.methodLink "CircusLinesLaw" 130 ⟨"CircusLinesLaw", "flight", "(LCircusLines;II[J)I"⟩ : Cond) ∈ lw_T := lw_T_in (i := 603) (by decide +kernel) rfl
theorem q604 : (Cond.static ⟨"CircusLinesLaw", "flight", "(LCircusLines;II[J)I"⟩ : Cond) ∈ lw_T := lw_T_in (i := 604) (by decide +kernel) rfl
theorem q605 : (Cond.codeWith ⟨"CircusLinesLaw", "flight", "(LCircusLines;II[J)I"⟩ method_17_code 5 (some .int) [(0, 10, 13, 21)] : Cond) ∈ lw_T := lw_T_in (i := 605) (by decide +kernel) rfl
theorem q606 : (Cond.methodLink "CircusLinesLaw" 61 ⟨"CircusLines", "flight", "(II)I"⟩ : Cond) ∈ lw_T := lw_T_in (i := 606) (by decide +kernel) rfl
theorem q607 : (Cond.instanceMethod ⟨"CircusLines", "flight", "(II)I"⟩ : Cond) ∈ lw_T := lw_T_in (i := 607) (by decide +kernel) rfl
theorem q608 : (Cond.selects "CircusLines" ⟨"CircusLines", "flight", "(II)I"⟩ ⟨"CircusLines", "flight", "(II)I"⟩ : Cond) ∈ lw_T := lw_T_in (i := 608) (by decide +kernel) rfl
theorem q609 : (Cond.code ⟨"CircusLines", "flight", "(II)I"⟩ prog_1_method_17_code 10 (some .int) : Cond) ∈ lw_T := lw_T_in (i := 609) (by decide +kernel) rfl
theorem q610 : (Cond.methodLink "CircusLinesLaw" 133 ⟨"CircusLinesLaw", "advise", "(LCircusLines;II[J)I"⟩ : Cond) ∈ lw_T := lw_T_in (i := 610) (by decide +kernel) rfl
theorem q611 : (Cond.static ⟨"CircusLinesLaw", "advise", "(LCircusLines;II[J)I"⟩ : Cond) ∈ lw_T := lw_T_in (i := 611) (by decide +kernel) rfl
theorem q612 : (Cond.codeWith ⟨"CircusLinesLaw", "advise", "(LCircusLines;II[J)I"⟩ method_18_code 5 (some .int) [(0, 10, 13, 21), (0, 10, 17, 13)] : Cond) ∈ lw_T := lw_T_in (i := 612) (by decide +kernel) rfl
theorem q613 : (Cond.methodLink "CircusLinesLaw" 64 ⟨"CircusLines", "advise", "(II)I"⟩ : Cond) ∈ lw_T := lw_T_in (i := 613) (by decide +kernel) rfl
theorem q614 : (Cond.instanceMethod ⟨"CircusLines", "advise", "(II)I"⟩ : Cond) ∈ lw_T := lw_T_in (i := 614) (by decide +kernel) rfl
theorem q615 : (Cond.selects "CircusLines" ⟨"CircusLines", "advise", "(II)I"⟩ ⟨"CircusLines", "advise", "(II)I"⟩ : Cond) ∈ lw_T := lw_T_in (i := 615) (by decide +kernel) rfl
theorem q616 : (Cond.code ⟨"CircusLines", "advise", "(II)I"⟩ prog_1_method_18_code 8 (some .int) : Cond) ∈ lw_T := lw_T_in (i := 616) (by decide +kernel) rfl
theorem q618 : (Cond.methodLink "CircusLines" 182 ⟨"CircusLines$Trapeze", "placeSinceLeftEnd", "(II)I"⟩ : Cond) ∈ lw_T := lw_T_in (i := 618) (by decide +kernel) rfl
theorem q619 : (Cond.methodLink "CircusLinesLaw" 136 ⟨"CircusLinesLaw", "foresee", "(LCircusLines;II[J)I"⟩ : Cond) ∈ lw_T := lw_T_in (i := 619) (by decide +kernel) rfl
theorem q620 : (Cond.static ⟨"CircusLinesLaw", "foresee", "(LCircusLines;II[J)I"⟩ : Cond) ∈ lw_T := lw_T_in (i := 620) (by decide +kernel) rfl
theorem q621 : (Cond.codeWith ⟨"CircusLinesLaw", "foresee", "(LCircusLines;II[J)I"⟩ method_19_code 5 (some .int) [(0, 10, 13, 13), (0, 10, 17, 21)] : Cond) ∈ lw_T := lw_T_in (i := 621) (by decide +kernel) rfl
theorem q622 : (Cond.methodLink "CircusLinesLaw" 67 ⟨"CircusLines", "foresee", "(II)I"⟩ : Cond) ∈ lw_T := lw_T_in (i := 622) (by decide +kernel) rfl
theorem q623 : (Cond.instanceMethod ⟨"CircusLines", "foresee", "(II)I"⟩ : Cond) ∈ lw_T := lw_T_in (i := 623) (by decide +kernel) rfl
theorem q624 : (Cond.selects "CircusLines" ⟨"CircusLines", "foresee", "(II)I"⟩ ⟨"CircusLines", "foresee", "(II)I"⟩ : Cond) ∈ lw_T := lw_T_in (i := 624) (by decide +kernel) rfl
theorem q625 : (Cond.code ⟨"CircusLines", "foresee", "(II)I"⟩ prog_1_method_19_code 5 (some .int) : Cond) ∈ lw_T := lw_T_in (i := 625) (by decide +kernel) rfl
theorem q627 : (Cond.methodLink "CircusLines" 188 ⟨"CircusLines", "keepAct", "()V"⟩ : Cond) ∈ lw_T := lw_T_in (i := 627) (by decide +kernel) rfl
theorem q629 : (Cond.instanceMethod ⟨"CircusLines", "keepAct", "()V"⟩ : Cond) ∈ lw_T := lw_T_in (i := 629) (by decide +kernel) rfl
theorem q630 : (Cond.code ⟨"CircusLines", "keepAct", "()V"⟩ prog_1_method_45_code 5 none : Cond) ∈ lw_T := lw_T_in (i := 630) (by decide +kernel) rfl
theorem q631 : (Cond.methodLink "CircusLines" 294 ⟨"CircusLines$Trapeze", "keep", "()V"⟩ : Cond) ∈ lw_T := lw_T_in (i := 631) (by decide +kernel) rfl
theorem q632 : (Cond.instanceMethod ⟨"CircusLines$Trapeze", "keep", "()V"⟩ : Cond) ∈ lw_T := lw_T_in (i := 632) (by decide +kernel) rfl
theorem q633 : (Cond.selects "CircusLines$Trapeze" ⟨"CircusLines$Trapeze", "keep", "()V"⟩ ⟨"CircusLines$Trapeze", "keep", "()V"⟩ : Cond) ∈ lw_T := lw_T_in (i := 633) (by decide +kernel) rfl
theorem q634 : (Cond.code ⟨"CircusLines$Trapeze", "keep", "()V"⟩ prog_5_method_9_code 1 none : Cond) ∈ lw_T := lw_T_in (i := 634) (by decide +kernel) rfl
theorem q635 : (Cond.methodLink "CircusLines" 297 ⟨"CircusLines$Flyer", "keep", "()V"⟩ : Cond) ∈ lw_T := lw_T_in (i := 635) (by decide +kernel) rfl
theorem q636 : (Cond.instanceMethod ⟨"CircusLines$Flyer", "keep", "()V"⟩ : Cond) ∈ lw_T := lw_T_in (i := 636) (by decide +kernel) rfl
theorem q637 : (Cond.selects "CircusLines$Flyer" ⟨"CircusLines$Flyer", "keep", "()V"⟩ ⟨"CircusLines$Flyer", "keep", "()V"⟩ : Cond) ∈ lw_T := lw_T_in (i := 637) (by decide +kernel) rfl
theorem q638 : (Cond.code ⟨"CircusLines$Flyer", "keep", "()V"⟩ prog_3_method_8_code 1 none : Cond) ∈ lw_T := lw_T_in (i := 638) (by decide +kernel) rfl
theorem q639 : (Cond.methodLink "CircusLines" 298 ⟨"CircusLines$Cue", "keep", "()V"⟩ : Cond) ∈ lw_T := lw_T_in (i := 639) (by decide +kernel) rfl
theorem q640 : (Cond.instanceMethod ⟨"CircusLines$Cue", "keep", "()V"⟩ : Cond) ∈ lw_T := lw_T_in (i := 640) (by decide +kernel) rfl
theorem q641 : (Cond.selects "CircusLines$Cue" ⟨"CircusLines$Cue", "keep", "()V"⟩ ⟨"CircusLines$Cue", "keep", "()V"⟩ : Cond) ∈ lw_T := lw_T_in (i := 641) (by decide +kernel) rfl
theorem q642 : (Cond.code ⟨"CircusLines$Cue", "keep", "()V"⟩ prog_2_method_2_code 1 none : Cond) ∈ lw_T := lw_T_in (i := 642) (by decide +kernel) rfl
theorem q643 : (Cond.methodLink "CircusLines" 191 ⟨"CircusLines", "takeActBack", "()V"⟩ : Cond) ∈ lw_T := lw_T_in (i := 643) (by decide +kernel) rfl
theorem q645 : (Cond.instanceMethod ⟨"CircusLines", "takeActBack", "()V"⟩ : Cond) ∈ lw_T := lw_T_in (i := 645) (by decide +kernel) rfl
theorem q646 : (Cond.code ⟨"CircusLines", "takeActBack", "()V"⟩ prog_1_method_46_code 5 none : Cond) ∈ lw_T := lw_T_in (i := 646) (by decide +kernel) rfl
theorem q647 : (Cond.methodLink "CircusLines" 299 ⟨"CircusLines$Trapeze", "takeBack", "()V"⟩ : Cond) ∈ lw_T := lw_T_in (i := 647) (by decide +kernel) rfl
theorem q648 : (Cond.instanceMethod ⟨"CircusLines$Trapeze", "takeBack", "()V"⟩ : Cond) ∈ lw_T := lw_T_in (i := 648) (by decide +kernel) rfl
theorem q649 : (Cond.selects "CircusLines$Trapeze" ⟨"CircusLines$Trapeze", "takeBack", "()V"⟩ ⟨"CircusLines$Trapeze", "takeBack", "()V"⟩ : Cond) ∈ lw_T := lw_T_in (i := 649) (by decide +kernel) rfl
theorem q650 : (Cond.code ⟨"CircusLines$Trapeze", "takeBack", "()V"⟩ prog_5_method_10_code 1 none : Cond) ∈ lw_T := lw_T_in (i := 650) (by decide +kernel) rfl
theorem q651 : (Cond.methodLink "CircusLines" 302 ⟨"CircusLines$Flyer", "takeBack", "()V"⟩ : Cond) ∈ lw_T := lw_T_in (i := 651) (by decide +kernel) rfl
theorem q652 : (Cond.instanceMethod ⟨"CircusLines$Flyer", "takeBack", "()V"⟩ : Cond) ∈ lw_T := lw_T_in (i := 652) (by decide +kernel) rfl
theorem q653 : (Cond.selects "CircusLines$Flyer" ⟨"CircusLines$Flyer", "takeBack", "()V"⟩ ⟨"CircusLines$Flyer", "takeBack", "()V"⟩ : Cond) ∈ lw_T := lw_T_in (i := 653) (by decide +kernel) rfl
theorem q654 : (Cond.code ⟨"CircusLines$Flyer", "takeBack", "()V"⟩ prog_3_method_9_code 1 none : Cond) ∈ lw_T := lw_T_in (i := 654) (by decide +kernel) rfl
theorem q655 : (Cond.methodLink "CircusLines" 303 ⟨"CircusLines$Cue", "takeBack", "()V"⟩ : Cond) ∈ lw_T := lw_T_in (i := 655) (by decide +kernel) rfl
theorem q656 : (Cond.instanceMethod ⟨"CircusLines$Cue", "takeBack", "()V"⟩ : Cond) ∈ lw_T := lw_T_in (i := 656) (by decide +kernel) rfl
theorem q657 : (Cond.selects "CircusLines$Cue" ⟨"CircusLines$Cue", "takeBack", "()V"⟩ ⟨"CircusLines$Cue", "takeBack", "()V"⟩ : Cond) ∈ lw_T := lw_T_in (i := 657) (by decide +kernel) rfl
theorem q658 : (Cond.code ⟨"CircusLines$Cue", "takeBack", "()V"⟩ prog_2_method_3_code 1 none : Cond) ∈ lw_T := lw_T_in (i := 658) (by decide +kernel) rfl
theorem q659 : (Cond.classLink "CircusLinesLaw" 71 "CircusLinesModel" : Cond) ∈ lw_T := lw_T_in (i := 659) (by decide +kernel) rfl
theorem q660 : (Cond.instantiable "CircusLinesModel" 10 : Cond) ∈ lw_T := lw_T_in (i := 660) (by decide +kernel) rfl
theorem q661 : (Cond.methodLink "CircusLinesLaw" 73 ⟨"CircusLinesModel", "<init>", "()V"⟩ : Cond) ∈ lw_T := lw_T_in (i := 661) (by decide +kernel) rfl
theorem q662 : (Cond.instanceMethod ⟨"CircusLinesModel", "<init>", "()V"⟩ : Cond) ∈ lw_T := lw_T_in (i := 662) (by decide +kernel) rfl
theorem q663 : (Cond.code ⟨"CircusLinesModel", "<init>", "()V"⟩ prog_7_method_1_code 1 none : Cond) ∈ lw_T := lw_T_in (i := 663) (by decide +kernel) rfl
theorem q664 : (Cond.methodLink "CircusLinesModel" 1 ⟨"java/lang/Object", "<init>", "()V"⟩ : Cond) ∈ lw_T := lw_T_in (i := 664) (by decide +kernel) rfl
theorem q665 : (Cond.fieldLink "CircusLinesModel" 25 "CircusLinesModel" "thrown" "I" : Cond) ∈ lw_T := lw_T_in (i := 665) (by decide +kernel) rfl
theorem q666 : (Cond.fieldLink "CircusLinesModel" 29 "CircusLinesModel" "trapezes" "I" : Cond) ∈ lw_T := lw_T_in (i := 666) (by decide +kernel) rfl
theorem q667 : (Cond.fieldLink "CircusLinesModel" 36 "CircusLinesModel" "flyers" "I" : Cond) ∈ lw_T := lw_T_in (i := 667) (by decide +kernel) rfl
theorem q668 : (Cond.fieldLink "CircusLinesModel" 80 "CircusLinesModel" "cues" "I" : Cond) ∈ lw_T := lw_T_in (i := 668) (by decide +kernel) rfl
theorem q669 : (Cond.fieldLink "CircusLinesModel" 61 "CircusLinesModel" "nets" "I" : Cond) ∈ lw_T := lw_T_in (i := 669) (by decide +kernel) rfl
theorem q670 : (Cond.fieldLink "CircusLinesModel" 9 "CircusLinesModel" "rig" "[I" : Cond) ∈ lw_T := lw_T_in (i := 670) (by decide +kernel) rfl
theorem q671 : (Cond.fieldLink "CircusLinesModel" 13 "CircusLinesModel" "people" "[I" : Cond) ∈ lw_T := lw_T_in (i := 671) (by decide +kernel) rfl
theorem q672 : (Cond.fieldLink "CircusLinesModel" 16 "CircusLinesModel" "calls" "[I" : Cond) ∈ lw_T := lw_T_in (i := 672) (by decide +kernel) rfl
theorem q673 : (Cond.fieldLink "CircusLinesModel" 19 "CircusLinesModel" "spans" "[I" : Cond) ∈ lw_T := lw_T_in (i := 673) (by decide +kernel) rfl
theorem q674 : (Cond.fieldLink "CircusLinesModel" 22 "CircusLinesModel" "now" "[I" : Cond) ∈ lw_T := lw_T_in (i := 674) (by decide +kernel) rfl
theorem q696 : (Cond.arrayClass .int : Cond) ∈ lw_T := lw_T_in (i := 696) (by decide +kernel) rfl
theorem q697 : (Cond.methodLink "CircusLinesLaw" 80 ⟨"CircusLinesModel", "thrown", "()I"⟩ : Cond) ∈ lw_T := lw_T_in (i := 697) (by decide +kernel) rfl
theorem q698 : (Cond.instanceMethod ⟨"CircusLinesModel", "thrown", "()I"⟩ : Cond) ∈ lw_T := lw_T_in (i := 698) (by decide +kernel) rfl
theorem q699 : (Cond.selects "CircusLinesModel" ⟨"CircusLinesModel", "thrown", "()I"⟩ ⟨"CircusLinesModel", "thrown", "()I"⟩ : Cond) ∈ lw_T := lw_T_in (i := 699) (by decide +kernel) rfl
theorem q700 : (Cond.code ⟨"CircusLinesModel", "thrown", "()I"⟩ prog_7_method_2_code 1 (some .int) : Cond) ∈ lw_T := lw_T_in (i := 700) (by decide +kernel) rfl
theorem q701 : (Cond.methodLink "CircusLinesLaw" 79 ⟨"CircusLinesModel", "rig", "(IIII)I"⟩ : Cond) ∈ lw_T := lw_T_in (i := 701) (by decide +kernel) rfl
theorem q702 : (Cond.instanceMethod ⟨"CircusLinesModel", "rig", "(IIII)I"⟩ : Cond) ∈ lw_T := lw_T_in (i := 702) (by decide +kernel) rfl
theorem q703 : (Cond.selects "CircusLinesModel" ⟨"CircusLinesModel", "rig", "(IIII)I"⟩ ⟨"CircusLinesModel", "rig", "(IIII)I"⟩ : Cond) ∈ lw_T := lw_T_in (i := 703) (by decide +kernel) rfl
theorem q704 : (Cond.code ⟨"CircusLinesModel", "rig", "(IIII)I"⟩ prog_7_method_11_code 6 (some .int) : Cond) ∈ lw_T := lw_T_in (i := 704) (by decide +kernel) rfl
theorem q705 : (Cond.methodLink "CircusLinesModel" 32 ⟨"CircusLinesModel", "isIn", "(III)Z"⟩ : Cond) ∈ lw_T := lw_T_in (i := 705) (by decide +kernel) rfl
theorem q706 : (Cond.static ⟨"CircusLinesModel", "isIn", "(III)Z"⟩ : Cond) ∈ lw_T := lw_T_in (i := 706) (by decide +kernel) rfl
theorem q707 : (Cond.code ⟨"CircusLinesModel", "isIn", "(III)Z"⟩ prog_7_method_4_code 3 (some .boolean) : Cond) ∈ lw_T := lw_T_in (i := 707) (by decide +kernel) rfl
theorem q708 : (Cond.methodLink "CircusLinesModel" 39 ⟨"CircusLinesModel", "fail", "(I)I"⟩ : Cond) ∈ lw_T := lw_T_in (i := 708) (by decide +kernel) rfl
theorem q710 : (Cond.instanceMethod ⟨"CircusLinesModel", "fail", "(I)I"⟩ : Cond) ∈ lw_T := lw_T_in (i := 710) (by decide +kernel) rfl
theorem q711 : (Cond.code ⟨"CircusLinesModel", "fail", "(I)I"⟩ prog_7_method_3_code 2 (some .int) : Cond) ∈ lw_T := lw_T_in (i := 711) (by decide +kernel) rfl
theorem q712 : (Cond.methodLink "CircusLinesModel" 43 ⟨"java/lang/System", "arraycopy", "(Ljava/lang/Object;ILjava/lang/Object;II)V"⟩ : Cond) ∈ lw_T := lw_T_in (i := 712) (by decide +kernel) rfl
theorem q713 : (Cond.static ⟨"java/lang/System", "arraycopy", "(Ljava/lang/Object;ILjava/lang/Object;II)V"⟩ : Cond) ∈ lw_T := lw_T_in (i := 713) (by decide +kernel) rfl
theorem q715 : (Cond.methodLink "CircusLinesLaw" 86 ⟨"CircusLinesModel", "weigh", "(II)I"⟩ : Cond) ∈ lw_T := lw_T_in (i := 715) (by decide +kernel) rfl
theorem q716 : (Cond.instanceMethod ⟨"CircusLinesModel", "weigh", "(II)I"⟩ : Cond) ∈ lw_T := lw_T_in (i := 716) (by decide +kernel) rfl
theorem q717 : (Cond.selects "CircusLinesModel" ⟨"CircusLinesModel", "weigh", "(II)I"⟩ ⟨"CircusLinesModel", "weigh", "(II)I"⟩ : Cond) ∈ lw_T := lw_T_in (i := 717) (by decide +kernel) rfl
theorem q718 : (Cond.code ⟨"CircusLinesModel", "weigh", "(II)I"⟩ prog_7_method_12_code 4 (some .int) : Cond) ∈ lw_T := lw_T_in (i := 718) (by decide +kernel) rfl
theorem q719 : (Cond.methodLink "CircusLinesModel" 49 ⟨"CircusLinesModel", "isTrapeze", "(I)Z"⟩ : Cond) ∈ lw_T := lw_T_in (i := 719) (by decide +kernel) rfl
theorem q721 : (Cond.instanceMethod ⟨"CircusLinesModel", "isTrapeze", "(I)Z"⟩ : Cond) ∈ lw_T := lw_T_in (i := 721) (by decide +kernel) rfl
theorem q722 : (Cond.code ⟨"CircusLinesModel", "isTrapeze", "(I)Z"⟩ prog_7_method_5_code 2 (some .boolean) : Cond) ∈ lw_T := lw_T_in (i := 722) (by decide +kernel) rfl
theorem q723 : (Cond.methodLink "CircusLinesModel" 53 ⟨"CircusLinesModel", "ri", "(II)I"⟩ : Cond) ∈ lw_T := lw_T_in (i := 723) (by decide +kernel) rfl
theorem q725 : (Cond.instanceMethod ⟨"CircusLinesModel", "ri", "(II)I"⟩ : Cond) ∈ lw_T := lw_T_in (i := 725) (by decide +kernel) rfl
theorem q726 : (Cond.code ⟨"CircusLinesModel", "ri", "(II)I"⟩ prog_7_method_7_code 3 (some .int) : Cond) ∈ lw_T := lw_T_in (i := 726) (by decide +kernel) rfl
theorem q727 : (Cond.methodLink "CircusLinesModel" 57 ⟨"CircusLinesModel", "setRig", "(III)V"⟩ : Cond) ∈ lw_T := lw_T_in (i := 727) (by decide +kernel) rfl
theorem q729 : (Cond.instanceMethod ⟨"CircusLinesModel", "setRig", "(III)V"⟩ : Cond) ∈ lw_T := lw_T_in (i := 729) (by decide +kernel) rfl
theorem q730 : (Cond.code ⟨"CircusLinesModel", "setRig", "(III)V"⟩ prog_7_method_8_code 4 none : Cond) ∈ lw_T := lw_T_in (i := 730) (by decide +kernel) rfl
theorem q731 : (Cond.methodLink "CircusLinesLaw" 90 ⟨"CircusLinesModel", "mend", "(I)I"⟩ : Cond) ∈ lw_T := lw_T_in (i := 731) (by decide +kernel) rfl
theorem q732 : (Cond.instanceMethod ⟨"CircusLinesModel", "mend", "(I)I"⟩ : Cond) ∈ lw_T := lw_T_in (i := 732) (by decide +kernel) rfl
theorem q733 : (Cond.selects "CircusLinesModel" ⟨"CircusLinesModel", "mend", "(I)I"⟩ ⟨"CircusLinesModel", "mend", "(I)I"⟩ : Cond) ∈ lw_T := lw_T_in (i := 733) (by decide +kernel) rfl
theorem q734 : (Cond.code ⟨"CircusLinesModel", "mend", "(I)I"⟩ prog_7_method_13_code 3 (some .int) : Cond) ∈ lw_T := lw_T_in (i := 734) (by decide +kernel) rfl
theorem q735 : (Cond.methodLink "CircusLinesLaw" 93 ⟨"CircusLinesModel", "spread", "(II)I"⟩ : Cond) ∈ lw_T := lw_T_in (i := 735) (by decide +kernel) rfl
theorem q736 : (Cond.instanceMethod ⟨"CircusLinesModel", "spread", "(II)I"⟩ : Cond) ∈ lw_T := lw_T_in (i := 736) (by decide +kernel) rfl
theorem q737 : (Cond.selects "CircusLinesModel" ⟨"CircusLinesModel", "spread", "(II)I"⟩ ⟨"CircusLinesModel", "spread", "(II)I"⟩ : Cond) ∈ lw_T := lw_T_in (i := 737) (by decide +kernel) rfl
theorem q738 : (Cond.code ⟨"CircusLinesModel", "spread", "(II)I"⟩ prog_7_method_14_code 3 (some .int) : Cond) ∈ lw_T := lw_T_in (i := 738) (by decide +kernel) rfl
theorem q739 : (Cond.methodLink "CircusLinesLaw" 97 ⟨"CircusLinesModel", "join", "()I"⟩ : Cond) ∈ lw_T := lw_T_in (i := 739) (by decide +kernel) rfl
theorem q740 : (Cond.instanceMethod ⟨"CircusLinesModel", "join", "()I"⟩ : Cond) ∈ lw_T := lw_T_in (i := 740) (by decide +kernel) rfl
theorem q741 : (Cond.selects "CircusLinesModel" ⟨"CircusLinesModel", "join", "()I"⟩ ⟨"CircusLinesModel", "join", "()I"⟩ : Cond) ∈ lw_T := lw_T_in (i := 741) (by decide +kernel) rfl
theorem q742 : (Cond.code ⟨"CircusLinesModel", "join", "()I"⟩ prog_7_method_15_code 1 (some .int) : Cond) ∈ lw_T := lw_T_in (i := 742) (by decide +kernel) rfl
theorem q743 : (Cond.methodLink "CircusLinesModel" 64 ⟨"CircusLinesModel", "set", "(IIIII)V"⟩ : Cond) ∈ lw_T := lw_T_in (i := 743) (by decide +kernel) rfl
theorem q745 : (Cond.instanceMethod ⟨"CircusLinesModel", "set", "(IIIII)V"⟩ : Cond) ∈ lw_T := lw_T_in (i := 745) (by decide +kernel) rfl
theorem q746 : (Cond.code ⟨"CircusLinesModel", "set", "(IIIII)V"⟩ prog_7_method_10_code 6 none : Cond) ∈ lw_T := lw_T_in (i := 746) (by decide +kernel) rfl
theorem q747 : (Cond.methodLink "CircusLinesLaw" 100 ⟨"CircusLinesModel", "mount", "(II)I"⟩ : Cond) ∈ lw_T := lw_T_in (i := 747) (by decide +kernel) rfl
theorem q748 : (Cond.instanceMethod ⟨"CircusLinesModel", "mount", "(II)I"⟩ : Cond) ∈ lw_T := lw_T_in (i := 748) (by decide +kernel) rfl
theorem q749 : (Cond.selects "CircusLinesModel" ⟨"CircusLinesModel", "mount", "(II)I"⟩ ⟨"CircusLinesModel", "mount", "(II)I"⟩ : Cond) ∈ lw_T := lw_T_in (i := 749) (by decide +kernel) rfl
theorem q750 : (Cond.code ⟨"CircusLinesModel", "mount", "(II)I"⟩ prog_7_method_18_code 3 (some .int) : Cond) ∈ lw_T := lw_T_in (i := 750) (by decide +kernel) rfl
theorem q751 : (Cond.methodLink "CircusLinesModel" 74 ⟨"CircusLinesModel", "isFlyer", "(I)Z"⟩ : Cond) ∈ lw_T := lw_T_in (i := 751) (by decide +kernel) rfl
theorem q753 : (Cond.instanceMethod ⟨"CircusLinesModel", "isFlyer", "(I)Z"⟩ : Cond) ∈ lw_T := lw_T_in (i := 753) (by decide +kernel) rfl
theorem q754 : (Cond.code ⟨"CircusLinesModel", "isFlyer", "(I)Z"⟩ prog_7_method_6_code 2 (some .boolean) : Cond) ∈ lw_T := lw_T_in (i := 754) (by decide +kernel) rfl
theorem q755 : (Cond.methodLink "CircusLinesModel" 68 ⟨"CircusLinesModel", "pe", "(II)I"⟩ : Cond) ∈ lw_T := lw_T_in (i := 755) (by decide +kernel) rfl
theorem q757 : (Cond.instanceMethod ⟨"CircusLinesModel", "pe", "(II)I"⟩ : Cond) ∈ lw_T := lw_T_in (i := 757) (by decide +kernel) rfl
theorem q758 : (Cond.code ⟨"CircusLinesModel", "pe", "(II)I"⟩ prog_7_method_9_code 3 (some .int) : Cond) ∈ lw_T := lw_T_in (i := 758) (by decide +kernel) rfl
theorem q759 : (Cond.methodLink "CircusLinesModel" 77 ⟨"CircusLinesModel", "isFree", "(I)Z"⟩ : Cond) ∈ lw_T := lw_T_in (i := 759) (by decide +kernel) rfl
theorem q761 : (Cond.instanceMethod ⟨"CircusLinesModel", "isFree", "(I)Z"⟩ : Cond) ∈ lw_T := lw_T_in (i := 761) (by decide +kernel) rfl
theorem q762 : (Cond.code ⟨"CircusLinesModel", "isFree", "(I)Z"⟩ prog_7_method_17_code 2 (some .boolean) : Cond) ∈ lw_T := lw_T_in (i := 762) (by decide +kernel) rfl
theorem q763 : (Cond.methodLink "CircusLinesModel" 71 ⟨"CircusLinesModel", "hanging", "(I)I"⟩ : Cond) ∈ lw_T := lw_T_in (i := 763) (by decide +kernel) rfl
theorem q765 : (Cond.instanceMethod ⟨"CircusLinesModel", "hanging", "(I)I"⟩ : Cond) ∈ lw_T := lw_T_in (i := 765) (by decide +kernel) rfl
theorem q766 : (Cond.code ⟨"CircusLinesModel", "hanging", "(I)I"⟩ prog_7_method_16_code 4 (some .int) : Cond) ∈ lw_T := lw_T_in (i := 766) (by decide +kernel) rfl
theorem q767 : (Cond.methodLink "CircusLinesLaw" 103 ⟨"CircusLinesModel", "cue", "(IIII)I"⟩ : Cond) ∈ lw_T := lw_T_in (i := 767) (by decide +kernel) rfl
theorem q768 : (Cond.instanceMethod ⟨"CircusLinesModel", "cue", "(IIII)I"⟩ : Cond) ∈ lw_T := lw_T_in (i := 768) (by decide +kernel) rfl
theorem q769 : (Cond.selects "CircusLinesModel" ⟨"CircusLinesModel", "cue", "(IIII)I"⟩ ⟨"CircusLinesModel", "cue", "(IIII)I"⟩ : Cond) ∈ lw_T := lw_T_in (i := 769) (by decide +kernel) rfl
theorem q770 : (Cond.code ⟨"CircusLinesModel", "cue", "(IIII)I"⟩ prog_7_method_19_code 6 (some .int) : Cond) ∈ lw_T := lw_T_in (i := 770) (by decide +kernel) rfl
theorem q771 : (Cond.methodLink "CircusLinesLaw" 106 ⟨"CircusLinesModel", "trapeze", "(II)I"⟩ : Cond) ∈ lw_T := lw_T_in (i := 771) (by decide +kernel) rfl
theorem q772 : (Cond.instanceMethod ⟨"CircusLinesModel", "trapeze", "(II)I"⟩ : Cond) ∈ lw_T := lw_T_in (i := 772) (by decide +kernel) rfl
theorem q773 : (Cond.selects "CircusLinesModel" ⟨"CircusLinesModel", "trapeze", "(II)I"⟩ ⟨"CircusLinesModel", "trapeze", "(II)I"⟩ : Cond) ∈ lw_T := lw_T_in (i := 773) (by decide +kernel) rfl
theorem q774 : (Cond.code ⟨"CircusLinesModel", "trapeze", "(II)I"⟩ prog_7_method_23_code 3 (some .int) : Cond) ∈ lw_T := lw_T_in (i := 774) (by decide +kernel) rfl
theorem q775 : (Cond.methodLink "CircusLinesModel" 90 ⟨"CircusLinesModel", "trapezeTold", "(II)I"⟩ : Cond) ∈ lw_T := lw_T_in (i := 775) (by decide +kernel) rfl
theorem q777 : (Cond.instanceMethod ⟨"CircusLinesModel", "trapezeTold", "(II)I"⟩ : Cond) ∈ lw_T := lw_T_in (i := 777) (by decide +kernel) rfl
theorem q778 : (Cond.code ⟨"CircusLinesModel", "trapezeTold", "(II)I"⟩ prog_7_method_22_code 3 (some .int) : Cond) ∈ lw_T := lw_T_in (i := 778) (by decide +kernel) rfl
theorem q779 : (Cond.methodLink "CircusLinesModel" 87 ⟨"CircusLinesModel", "placeOf", "(II)I"⟩ : Cond) ∈ lw_T := lw_T_in (i := 779) (by decide +kernel) rfl
theorem q781 : (Cond.instanceMethod ⟨"CircusLinesModel", "placeOf", "(II)I"⟩ : Cond) ∈ lw_T := lw_T_in (i := 781) (by decide +kernel) rfl
theorem q782 : (Cond.code ⟨"CircusLinesModel", "placeOf", "(II)I"⟩ prog_7_method_21_code 3 (some .int) : Cond) ∈ lw_T := lw_T_in (i := 782) (by decide +kernel) rfl
theorem q783 : (Cond.methodLink "CircusLinesModel" 83 ⟨"CircusLinesModel", "swung", "(IIII)I"⟩ : Cond) ∈ lw_T := lw_T_in (i := 783) (by decide +kernel) rfl
theorem q784 : (Cond.static ⟨"CircusLinesModel", "swung", "(IIII)I"⟩ : Cond) ∈ lw_T := lw_T_in (i := 784) (by decide +kernel) rfl
theorem q785 : (Cond.code ⟨"CircusLinesModel", "swung", "(IIII)I"⟩ prog_7_method_20_code 6 (some .int) : Cond) ∈ lw_T := lw_T_in (i := 785) (by decide +kernel) rfl
theorem q786 : (Cond.methodLink "CircusLinesLaw" 109 ⟨"CircusLinesModel", "flyer", "(II)I"⟩ : Cond) ∈ lw_T := lw_T_in (i := 786) (by decide +kernel) rfl
theorem q787 : (Cond.instanceMethod ⟨"CircusLinesModel", "flyer", "(II)I"⟩ : Cond) ∈ lw_T := lw_T_in (i := 787) (by decide +kernel) rfl
theorem q788 : (Cond.selects "CircusLinesModel" ⟨"CircusLinesModel", "flyer", "(II)I"⟩ ⟨"CircusLinesModel", "flyer", "(II)I"⟩ : Cond) ∈ lw_T := lw_T_in (i := 788) (by decide +kernel) rfl
theorem q789 : (Cond.code ⟨"CircusLinesModel", "flyer", "(II)I"⟩ prog_7_method_25_code 3 (some .int) : Cond) ∈ lw_T := lw_T_in (i := 789) (by decide +kernel) rfl
theorem q790 : (Cond.methodLink "CircusLinesModel" 93 ⟨"CircusLinesModel", "flyerTold", "(II)I"⟩ : Cond) ∈ lw_T := lw_T_in (i := 790) (by decide +kernel) rfl
theorem q792 : (Cond.instanceMethod ⟨"CircusLinesModel", "flyerTold", "(II)I"⟩ : Cond) ∈ lw_T := lw_T_in (i := 792) (by decide +kernel) rfl
theorem q793 : (Cond.code ⟨"CircusLinesModel", "flyerTold", "(II)I"⟩ prog_7_method_24_code 3 (some .int) : Cond) ∈ lw_T := lw_T_in (i := 793) (by decide +kernel) rfl
theorem q794 : (Cond.methodLink "CircusLinesLaw" 112 ⟨"CircusLinesModel", "called", "(II)I"⟩ : Cond) ∈ lw_T := lw_T_in (i := 794) (by decide +kernel) rfl
theorem q795 : (Cond.instanceMethod ⟨"CircusLinesModel", "called", "(II)I"⟩ : Cond) ∈ lw_T := lw_T_in (i := 795) (by decide +kernel) rfl
theorem q796 : (Cond.selects "CircusLinesModel" ⟨"CircusLinesModel", "called", "(II)I"⟩ ⟨"CircusLinesModel", "called", "(II)I"⟩ : Cond) ∈ lw_T := lw_T_in (i := 796) (by decide +kernel) rfl
theorem q797 : (Cond.code ⟨"CircusLinesModel", "called", "(II)I"⟩ prog_7_method_26_code 3 (some .int) : Cond) ∈ lw_T := lw_T_in (i := 797) (by decide +kernel) rfl
theorem q798 : (Cond.methodLink "CircusLinesLaw" 115 ⟨"CircusLinesModel", "count", "(I)I"⟩ : Cond) ∈ lw_T := lw_T_in (i := 798) (by decide +kernel) rfl
theorem q799 : (Cond.instanceMethod ⟨"CircusLinesModel", "count", "(I)I"⟩ : Cond) ∈ lw_T := lw_T_in (i := 799) (by decide +kernel) rfl
theorem q800 : (Cond.selects "CircusLinesModel" ⟨"CircusLinesModel", "count", "(I)I"⟩ ⟨"CircusLinesModel", "count", "(I)I"⟩ : Cond) ∈ lw_T := lw_T_in (i := 800) (by decide +kernel) rfl
theorem q801 : (Cond.code ⟨"CircusLinesModel", "count", "(I)I"⟩ prog_7_method_29_code 2 (some .int) : Cond) ∈ lw_T := lw_T_in (i := 801) (by decide +kernel) rfl
theorem q802 : (Cond.methodLink "CircusLinesModel" 99 ⟨"CircusLinesModel", "counted", "(I)I"⟩ : Cond) ∈ lw_T := lw_T_in (i := 802) (by decide +kernel) rfl
theorem q804 : (Cond.instanceMethod ⟨"CircusLinesModel", "counted", "(I)I"⟩ : Cond) ∈ lw_T := lw_T_in (i := 804) (by decide +kernel) rfl
theorem q805 : (Cond.code ⟨"CircusLinesModel", "counted", "(I)I"⟩ prog_7_method_28_code 4 (some .int) : Cond) ∈ lw_T := lw_T_in (i := 805) (by decide +kernel) rfl
theorem q806 : (Cond.methodLink "CircusLinesModel" 96 ⟨"CircusLinesModel", "inState", "(I)I"⟩ : Cond) ∈ lw_T := lw_T_in (i := 806) (by decide +kernel) rfl
theorem q808 : (Cond.instanceMethod ⟨"CircusLinesModel", "inState", "(I)I"⟩ : Cond) ∈ lw_T := lw_T_in (i := 808) (by decide +kernel) rfl
theorem q809 : (Cond.code ⟨"CircusLinesModel", "inState", "(I)I"⟩ prog_7_method_27_code 4 (some .int) : Cond) ∈ lw_T := lw_T_in (i := 809) (by decide +kernel) rfl
theorem q810 : (Cond.methodLink "CircusLinesLaw" 118 ⟨"CircusLinesModel", "place", "(II)I"⟩ : Cond) ∈ lw_T := lw_T_in (i := 810) (by decide +kernel) rfl
theorem q811 : (Cond.instanceMethod ⟨"CircusLinesModel", "place", "(II)I"⟩ : Cond) ∈ lw_T := lw_T_in (i := 811) (by decide +kernel) rfl
theorem q812 : (Cond.selects "CircusLinesModel" ⟨"CircusLinesModel", "place", "(II)I"⟩ ⟨"CircusLinesModel", "place", "(II)I"⟩ : Cond) ∈ lw_T := lw_T_in (i := 812) (by decide +kernel) rfl
theorem q813 : (Cond.code ⟨"CircusLinesModel", "place", "(II)I"⟩ prog_7_method_30_code 3 (some .int) : Cond) ∈ lw_T := lw_T_in (i := 813) (by decide +kernel) rfl
theorem q814 : (Cond.methodLink "CircusLinesLaw" 123 ⟨"CircusLinesModel", "netAt", "(I)Z"⟩ : Cond) ∈ lw_T := lw_T_in (i := 814) (by decide +kernel) rfl
theorem q815 : (Cond.instanceMethod ⟨"CircusLinesModel", "netAt", "(I)Z"⟩ : Cond) ∈ lw_T := lw_T_in (i := 815) (by decide +kernel) rfl
theorem q816 : (Cond.selects "CircusLinesModel" ⟨"CircusLinesModel", "netAt", "(I)Z"⟩ ⟨"CircusLinesModel", "netAt", "(I)Z"⟩ : Cond) ∈ lw_T := lw_T_in (i := 816) (by decide +kernel) rfl
theorem q817 : (Cond.code ⟨"CircusLinesModel", "netAt", "(I)Z"⟩ prog_7_method_32_code 2 (some .boolean) : Cond) ∈ lw_T := lw_T_in (i := 817) (by decide +kernel) rfl
theorem q818 : (Cond.methodLink "CircusLinesModel" 102 ⟨"CircusLinesModel", "isNet", "(I)Z"⟩ : Cond) ∈ lw_T := lw_T_in (i := 818) (by decide +kernel) rfl
theorem q820 : (Cond.instanceMethod ⟨"CircusLinesModel", "isNet", "(I)Z"⟩ : Cond) ∈ lw_T := lw_T_in (i := 820) (by decide +kernel) rfl
theorem q821 : (Cond.code ⟨"CircusLinesModel", "isNet", "(I)Z"⟩ prog_7_method_31_code 3 (some .boolean) : Cond) ∈ lw_T := lw_T_in (i := 821) (by decide +kernel) rfl
theorem q822 : (Cond.methodLink "CircusLinesLaw" 126 ⟨"CircusLinesModel", "go", "(I)I"⟩ : Cond) ∈ lw_T := lw_T_in (i := 822) (by decide +kernel) rfl
theorem q823 : (Cond.instanceMethod ⟨"CircusLinesModel", "go", "(I)I"⟩ : Cond) ∈ lw_T := lw_T_in (i := 823) (by decide +kernel) rfl
theorem q824 : (Cond.selects "CircusLinesModel" ⟨"CircusLinesModel", "go", "(I)I"⟩ ⟨"CircusLinesModel", "go", "(I)I"⟩ : Cond) ∈ lw_T := lw_T_in (i := 824) (by decide +kernel) rfl
theorem q825 : (Cond.code ⟨"CircusLinesModel", "go", "(I)I"⟩ prog_7_method_41_code 3 (some .int) : Cond) ∈ lw_T := lw_T_in (i := 825) (by decide +kernel) rfl
theorem q826 : (Cond.methodLink "CircusLinesModel" 131 ⟨"CircusLinesModel", "caught", "()I"⟩ : Cond) ∈ lw_T := lw_T_in (i := 826) (by decide +kernel) rfl
theorem q828 : (Cond.instanceMethod ⟨"CircusLinesModel", "caught", "()I"⟩ : Cond) ∈ lw_T := lw_T_in (i := 828) (by decide +kernel) rfl
theorem q829 : (Cond.code ⟨"CircusLinesModel", "caught", "()I"⟩ prog_7_method_40_code 3 (some .int) : Cond) ∈ lw_T := lw_T_in (i := 829) (by decide +kernel) rfl
theorem q830 : (Cond.methodLink "CircusLinesModel" 135 ⟨"CircusLinesModel", "beatsOn", "(I)V"⟩ : Cond) ∈ lw_T := lw_T_in (i := 830) (by decide +kernel) rfl
theorem q832 : (Cond.instanceMethod ⟨"CircusLinesModel", "beatsOn", "(I)V"⟩ : Cond) ∈ lw_T := lw_T_in (i := 832) (by decide +kernel) rfl
theorem q833 : (Cond.code ⟨"CircusLinesModel", "beatsOn", "(I)V"⟩ prog_7_method_39_code 3 none : Cond) ∈ lw_T := lw_T_in (i := 833) (by decide +kernel) rfl
theorem q834 : (Cond.methodLink "CircusLinesModel" 128 ⟨"CircusLinesModel", "beatOn", "()V"⟩ : Cond) ∈ lw_T := lw_T_in (i := 834) (by decide +kernel) rfl
theorem q836 : (Cond.instanceMethod ⟨"CircusLinesModel", "beatOn", "()V"⟩ : Cond) ∈ lw_T := lw_T_in (i := 836) (by decide +kernel) rfl
theorem q837 : (Cond.code ⟨"CircusLinesModel", "beatOn", "()V"⟩ prog_7_method_38_code 2 none : Cond) ∈ lw_T := lw_T_in (i := 837) (by decide +kernel) rfl
theorem q838 : (Cond.methodLink "CircusLinesModel" 118 ⟨"CircusLinesModel", "cuesOn", "()V"⟩ : Cond) ∈ lw_T := lw_T_in (i := 838) (by decide +kernel) rfl
theorem q840 : (Cond.instanceMethod ⟨"CircusLinesModel", "cuesOn", "()V"⟩ : Cond) ∈ lw_T := lw_T_in (i := 840) (by decide +kernel) rfl
theorem q841 : (Cond.code ⟨"CircusLinesModel", "cuesOn", "()V"⟩ prog_7_method_34_code 4 none : Cond) ∈ lw_T := lw_T_in (i := 841) (by decide +kernel) rfl
theorem q842 : (Cond.methodLink "CircusLinesModel" 121 ⟨"CircusLinesModel", "land", "(I)V"⟩ : Cond) ∈ lw_T := lw_T_in (i := 842) (by decide +kernel) rfl
theorem q844 : (Cond.instanceMethod ⟨"CircusLinesModel", "land", "(I)V"⟩ : Cond) ∈ lw_T := lw_T_in (i := 844) (by decide +kernel) rfl
theorem q845 : (Cond.code ⟨"CircusLinesModel", "land", "(I)V"⟩ prog_7_method_36_code 4 none : Cond) ∈ lw_T := lw_T_in (i := 845) (by decide +kernel) rfl
theorem q846 : (Cond.methodLink "CircusLinesModel" 110 ⟨"CircusLinesModel", "isNear", "(II)Z"⟩ : Cond) ∈ lw_T := lw_T_in (i := 846) (by decide +kernel) rfl
theorem q847 : (Cond.static ⟨"CircusLinesModel", "isNear", "(II)Z"⟩ : Cond) ∈ lw_T := lw_T_in (i := 847) (by decide +kernel) rfl
theorem q848 : (Cond.code ⟨"CircusLinesModel", "isNear", "(II)Z"⟩ prog_7_method_35_code 2 (some .boolean) : Cond) ∈ lw_T := lw_T_in (i := 848) (by decide +kernel) rfl
theorem q849 : (Cond.methodLink "CircusLinesModel" 105 ⟨"java/lang/Math", "abs", "(I)I"⟩ : Cond) ∈ lw_T := lw_T_in (i := 849) (by decide +kernel) rfl
theorem q850 : (Cond.static ⟨"java/lang/Math", "abs", "(I)I"⟩ : Cond) ∈ lw_T := lw_T_in (i := 850) (by decide +kernel) rfl
theorem q851 : (Cond.code ⟨"java/lang/Math", "abs", "(I)I"⟩ prog_13_method_59_code 1 (some .int) : Cond) ∈ lw_T := lw_T_in (i := 851) (by decide +kernel) rfl
theorem q852 : (Cond.methodLink "CircusLinesModel" 114 ⟨"CircusLinesModel", "falls", "(II)V"⟩ : Cond) ∈ lw_T := lw_T_in (i := 852) (by decide +kernel) rfl
theorem q854 : (Cond.instanceMethod ⟨"CircusLinesModel", "falls", "(II)V"⟩ : Cond) ∈ lw_T := lw_T_in (i := 854) (by decide +kernel) rfl
theorem q855 : (Cond.code ⟨"CircusLinesModel", "falls", "(II)V"⟩ prog_7_method_33_code 3 none : Cond) ∈ lw_T := lw_T_in (i := 855) (by decide +kernel) rfl
theorem q856 : (Cond.methodLink "CircusLinesModel" 125 ⟨"CircusLinesModel", "wear", "(I)V"⟩ : Cond) ∈ lw_T := lw_T_in (i := 856) (by decide +kernel) rfl
theorem q858 : (Cond.instanceMethod ⟨"CircusLinesModel", "wear", "(I)V"⟩ : Cond) ∈ lw_T := lw_T_in (i := 858) (by decide +kernel) rfl
theorem q859 : (Cond.code ⟨"CircusLinesModel", "wear", "(I)V"⟩ prog_7_method_37_code 3 none : Cond) ∈ lw_T := lw_T_in (i := 859) (by decide +kernel) rfl
theorem q860 : (Cond.methodLink "CircusLinesLaw" 129 ⟨"CircusLinesModel", "meets", "(II)I"⟩ : Cond) ∈ lw_T := lw_T_in (i := 860) (by decide +kernel) rfl
theorem q861 : (Cond.instanceMethod ⟨"CircusLinesModel", "meets", "(II)I"⟩ : Cond) ∈ lw_T := lw_T_in (i := 861) (by decide +kernel) rfl
theorem q862 : (Cond.selects "CircusLinesModel" ⟨"CircusLinesModel", "meets", "(II)I"⟩ ⟨"CircusLinesModel", "meets", "(II)I"⟩ : Cond) ∈ lw_T := lw_T_in (i := 862) (by decide +kernel) rfl
theorem q863 : (Cond.code ⟨"CircusLinesModel", "meets", "(II)I"⟩ prog_7_method_42_code 4 (some .int) : Cond) ∈ lw_T := lw_T_in (i := 863) (by decide +kernel) rfl
theorem q864 : (Cond.methodLink "CircusLinesLaw" 132 ⟨"CircusLinesModel", "flight", "(II)I"⟩ : Cond) ∈ lw_T := lw_T_in (i := 864) (by decide +kernel) rfl
theorem q865 : (Cond.instanceMethod ⟨"CircusLinesModel", "flight", "(II)I"⟩ : Cond) ∈ lw_T := lw_T_in (i := 865) (by decide +kernel) rfl
theorem q866 : (Cond.selects "CircusLinesModel" ⟨"CircusLinesModel", "flight", "(II)I"⟩ ⟨"CircusLinesModel", "flight", "(II)I"⟩ : Cond) ∈ lw_T := lw_T_in (i := 866) (by decide +kernel) rfl
theorem q867 : (Cond.code ⟨"CircusLinesModel", "flight", "(II)I"⟩ prog_7_method_43_code 6 (some .int) : Cond) ∈ lw_T := lw_T_in (i := 867) (by decide +kernel) rfl
theorem q868 : (Cond.methodLink "CircusLinesLaw" 135 ⟨"CircusLinesModel", "advise", "(II)I"⟩ : Cond) ∈ lw_T := lw_T_in (i := 868) (by decide +kernel) rfl
theorem q869 : (Cond.instanceMethod ⟨"CircusLinesModel", "advise", "(II)I"⟩ : Cond) ∈ lw_T := lw_T_in (i := 869) (by decide +kernel) rfl
theorem q870 : (Cond.selects "CircusLinesModel" ⟨"CircusLinesModel", "advise", "(II)I"⟩ ⟨"CircusLinesModel", "advise", "(II)I"⟩ : Cond) ∈ lw_T := lw_T_in (i := 870) (by decide +kernel) rfl
theorem q871 : (Cond.code ⟨"CircusLinesModel", "advise", "(II)I"⟩ prog_7_method_44_code 5 (some .int) : Cond) ∈ lw_T := lw_T_in (i := 871) (by decide +kernel) rfl
theorem q872 : (Cond.methodLink "CircusLinesLaw" 138 ⟨"CircusLinesModel", "foresee", "(II)I"⟩ : Cond) ∈ lw_T := lw_T_in (i := 872) (by decide +kernel) rfl
theorem q873 : (Cond.instanceMethod ⟨"CircusLinesModel", "foresee", "(II)I"⟩ : Cond) ∈ lw_T := lw_T_in (i := 873) (by decide +kernel) rfl
theorem q874 : (Cond.selects "CircusLinesModel" ⟨"CircusLinesModel", "foresee", "(II)I"⟩ ⟨"CircusLinesModel", "foresee", "(II)I"⟩ : Cond) ∈ lw_T := lw_T_in (i := 874) (by decide +kernel) rfl
theorem q875 : (Cond.code ⟨"CircusLinesModel", "foresee", "(II)I"⟩ prog_7_method_47_code 5 (some .int) : Cond) ∈ lw_T := lw_T_in (i := 875) (by decide +kernel) rfl
theorem q876 : (Cond.methodLink "CircusLinesModel" 143 ⟨"CircusLinesModel", "kept", "()[[I"⟩ : Cond) ∈ lw_T := lw_T_in (i := 876) (by decide +kernel) rfl
theorem q878 : (Cond.instanceMethod ⟨"CircusLinesModel", "kept", "()[[I"⟩ : Cond) ∈ lw_T := lw_T_in (i := 878) (by decide +kernel) rfl
theorem q879 : (Cond.code ⟨"CircusLinesModel", "kept", "()[[I"⟩ prog_7_method_45_code 1 (some (.array (.array .int))) : Cond) ∈ lw_T := lw_T_in (i := 879) (by decide +kernel) rfl
theorem q880 : (Cond.classLink "CircusLinesModel" 138 "[I" : Cond) ∈ lw_T := lw_T_in (i := 880) (by decide +kernel) rfl
theorem q882 : (Cond.methodLink "CircusLinesModel" 139 ⟨"[I", "clone", "()Ljava/lang/Object;"⟩ : Cond) ∈ lw_T := lw_T_in (i := 882) (by decide +kernel) rfl
theorem q885 : (Cond.instanceMethod ⟨"java/lang/Object", "clone", "()Ljava/lang/Object;"⟩ : Cond) ∈ lw_T := lw_T_in (i := 885) (by decide +kernel) rfl
theorem q886 : (Cond.selects "[I" ⟨"[I", "clone", "()Ljava/lang/Object;"⟩ ⟨"java/lang/Object", "clone", "()Ljava/lang/Object;"⟩ : Cond) ∈ lw_T := lw_T_in (i := 886) (by decide +kernel) rfl
theorem q888 : (Cond.methodLink "CircusLinesModel" 147 ⟨"CircusLinesModel", "bringBack", "([[I)V"⟩ : Cond) ∈ lw_T := lw_T_in (i := 888) (by decide +kernel) rfl
theorem q890 : (Cond.instanceMethod ⟨"CircusLinesModel", "bringBack", "([[I)V"⟩ : Cond) ∈ lw_T := lw_T_in (i := 890) (by decide +kernel) rfl
theorem q891 : (Cond.code ⟨"CircusLinesModel", "bringBack", "([[I)V"⟩ prog_7_method_46_code 4 none : Cond) ∈ lw_T := lw_T_in (i := 891) (by decide +kernel) rfl
theorem q892 : (Cond.methodLink "CircusLinesLaw" 143 ⟨"CircusLinesModel", "mean", "()D"⟩ : Cond) ∈ lw_T := lw_T_in (i := 892) (by decide +kernel) rfl
theorem q893 : (Cond.instanceMethod ⟨"CircusLinesModel", "mean", "()D"⟩ : Cond) ∈ lw_T := lw_T_in (i := 893) (by decide +kernel) rfl
theorem q894 : (Cond.selects "CircusLinesModel" ⟨"CircusLinesModel", "mean", "()D"⟩ ⟨"CircusLinesModel", "mean", "()D"⟩ : Cond) ∈ lw_T := lw_T_in (i := 894) (by decide +kernel) rfl
theorem q895 : (Cond.code ⟨"CircusLinesModel", "mean", "()D"⟩ prog_7_method_48_code 1 (some .double) : Cond) ∈ lw_T := lw_T_in (i := 895) (by decide +kernel) rfl
theorem q896 : (Cond.methodLink "CircusLinesLaw" 148 ⟨"CircusLinesModel", "digest", "()J"⟩ : Cond) ∈ lw_T := lw_T_in (i := 896) (by decide +kernel) rfl
theorem q897 : (Cond.instanceMethod ⟨"CircusLinesModel", "digest", "()J"⟩ : Cond) ∈ lw_T := lw_T_in (i := 897) (by decide +kernel) rfl
theorem q898 : (Cond.selects "CircusLinesModel" ⟨"CircusLinesModel", "digest", "()J"⟩ ⟨"CircusLinesModel", "digest", "()J"⟩ : Cond) ∈ lw_T := lw_T_in (i := 898) (by decide +kernel) rfl
theorem q899 : (Cond.code ⟨"CircusLinesModel", "digest", "()J"⟩ prog_7_method_49_code 5 (some .long) : Cond) ∈ lw_T := lw_T_in (i := 899) (by decide +kernel) rfl
theorem q900 : (Cond.constantLong "CircusLinesModel" 151 (1061 : Int64) : Cond) ∈ lw_T := lw_T_in (i := 900) (by decide +kernel) rfl
theorem q901 : (Cond.constantLong "CircusLinesModel" 153 (31 : Int64) : Cond) ∈ lw_T := lw_T_in (i := 901) (by decide +kernel) rfl
theorem q902 : (Cond.arrayClass .long : Cond) ∈ lw_T := lw_T_in (i := 902) (by decide +kernel) rfl
theorem fl_X0_9 : g_fl "CircusLines$Cue" 9 0 4 := ⟨_, _, _, rfl, Nat.le_of_ble_eq_true rfl, inX0, q481, rfl⟩
theorem fl_X0_15 : g_fl "CircusLines$Cue" 15 0 0 := ⟨_, _, _, rfl, Nat.le_of_ble_eq_true rfl, inX0, q473, rfl⟩
theorem fl_X0_18 : g_fl "CircusLines$Cue" 18 0 1 := ⟨_, _, _, rfl, Nat.le_of_ble_eq_true rfl, inX0, q475, rfl⟩
theorem fl_X0_21 : g_fl "CircusLines$Cue" 21 0 2 := ⟨_, _, _, rfl, Nat.le_of_ble_eq_true rfl, inX0, q477, rfl⟩
theorem fl_X0_24 : g_fl "CircusLines$Cue" 24 0 3 := ⟨_, _, _, rfl, Nat.le_of_ble_eq_true rfl, inX0, q479, rfl⟩
theorem fl_X0_27 : g_fl "CircusLines$Cue" 27 0 5 := ⟨_, _, _, rfl, Nat.le_of_ble_eq_true rfl, inX0, q483, rfl⟩
theorem fl_X1_9 : g_fl "CircusLines$Flyer" 9 1 0 := ⟨_, _, _, rfl, Nat.le_of_ble_eq_true rfl, inX1, q401, rfl⟩
theorem fl_X1_15 : g_fl "CircusLines$Flyer" 15 1 1 := ⟨_, _, _, rfl, Nat.le_of_ble_eq_true rfl, inX1, q403, rfl⟩
theorem fl_X1_18 : g_fl "CircusLines$Flyer" 18 1 3 := ⟨_, _, _, rfl, Nat.le_of_ble_eq_true rfl, inX1, q407, rfl⟩
theorem fl_X1_21 : g_fl "CircusLines$Flyer" 21 1 2 := ⟨_, _, _, rfl, Nat.le_of_ble_eq_true rfl, inX1, q405, rfl⟩
theorem fl_X1_24 : g_fl "CircusLines$Flyer" 24 1 5 := ⟨_, _, _, rfl, Nat.le_of_ble_eq_true rfl, inX1, q411, rfl⟩
theorem fl_X1_27 : g_fl "CircusLines$Flyer" 27 1 6 := ⟨_, _, _, rfl, Nat.le_of_ble_eq_true rfl, inX1, q412, rfl⟩
theorem fl_X1_30 : g_fl "CircusLines$Flyer" 30 1 7 := ⟨_, _, _, rfl, Nat.le_of_ble_eq_true rfl, inX1, q413, rfl⟩
theorem fl_X1_33 : g_fl "CircusLines$Flyer" 33 1 8 := ⟨_, _, _, rfl, Nat.le_of_ble_eq_true rfl, inX1, q414, rfl⟩
theorem fl_X1_36 : g_fl "CircusLines$Flyer" 36 1 4 := ⟨_, _, _, rfl, Nat.le_of_ble_eq_true rfl, inX1, q409, rfl⟩
theorem fl_X1_39 : g_fl "CircusLines$Flyer" 39 1 9 := ⟨_, _, _, rfl, Nat.le_of_ble_eq_true rfl, inX1, q415, rfl⟩
theorem fl_X2_7 : g_fl "CircusLines$Net" 7 2 0 := ⟨_, _, _, rfl, Nat.le_of_ble_eq_true rfl, inX2, q379, rfl⟩
theorem fl_X2_13 : g_fl "CircusLines$Net" 13 2 1 := ⟨_, _, _, rfl, Nat.le_of_ble_eq_true rfl, inX2, q381, rfl⟩
theorem fl_X3_7 : g_fl "CircusLines$Trapeze" 7 3 0 := ⟨_, _, _, rfl, Nat.le_of_ble_eq_true rfl, inX3, q286, rfl⟩
theorem fl_X3_13 : g_fl "CircusLines$Trapeze" 13 3 1 := ⟨_, _, _, rfl, Nat.le_of_ble_eq_true rfl, inX3, q288, rfl⟩
theorem fl_X3_16 : g_fl "CircusLines$Trapeze" 16 3 3 := ⟨_, _, _, rfl, Nat.le_of_ble_eq_true rfl, inX3, q292, rfl⟩
theorem fl_X3_19 : g_fl "CircusLines$Trapeze" 19 3 2 := ⟨_, _, _, rfl, Nat.le_of_ble_eq_true rfl, inX3, q290, rfl⟩
theorem fl_X3_22 : g_fl "CircusLines$Trapeze" 22 3 4 := ⟨_, _, _, rfl, Nat.le_of_ble_eq_true rfl, inX3, q294, rfl⟩
theorem fl_X3_25 : g_fl "CircusLines$Trapeze" 25 3 6 := ⟨_, _, _, rfl, Nat.le_of_ble_eq_true rfl, inX3, q297, rfl⟩
theorem fl_X3_29 : g_fl "CircusLines$Trapeze" 29 3 5 := ⟨_, _, _, rfl, Nat.le_of_ble_eq_true rfl, inX3, q295, rfl⟩
theorem fl_X3_45 : g_fl "CircusLines$Trapeze" 45 3 7 := ⟨_, _, _, rfl, Nat.le_of_ble_eq_true rfl, inX3, q299, rfl⟩
theorem fl_X3_48 : g_fl "CircusLines$Trapeze" 48 3 8 := ⟨_, _, _, rfl, Nat.le_of_ble_eq_true rfl, inX3, q300, rfl⟩
theorem fl_X4_11 : g_fl "CircusLines" 11 4 0 := ⟨_, _, _, rfl, Nat.le_of_ble_eq_true rfl, inX4, q78, rfl⟩
theorem fl_X4_17 : g_fl "CircusLines" 17 4 1 := ⟨_, _, _, rfl, Nat.le_of_ble_eq_true rfl, inX4, q79, rfl⟩
theorem fl_X4_23 : g_fl "CircusLines" 23 4 2 := ⟨_, _, _, rfl, Nat.le_of_ble_eq_true rfl, inX4, q80, rfl⟩
theorem fl_X4_29 : g_fl "CircusLines" 29 4 3 := ⟨_, _, _, rfl, Nat.le_of_ble_eq_true rfl, inX4, q81, rfl⟩
theorem fl_X4_44 : g_fl "CircusLines" 44 4 4 := ⟨_, _, _, rfl, Nat.le_of_ble_eq_true rfl, inX4, q82, rfl⟩
theorem fl_X4_53 : g_fl "CircusLines" 53 4 8 := ⟨_, _, _, rfl, Nat.le_of_ble_eq_true rfl, inX4, q86, rfl⟩
theorem fl_X4_70 : g_fl "CircusLines" 70 3 6 := ⟨_, _, _, rfl, Nat.le_of_ble_eq_true rfl, inX3, q298, rfl⟩
theorem fl_X4_76 : g_fl "CircusLines" 76 3 3 := ⟨_, _, _, rfl, Nat.le_of_ble_eq_true rfl, inX3, q293, rfl⟩
theorem fl_X4_83 : g_fl "CircusLines" 83 3 5 := ⟨_, _, _, rfl, Nat.le_of_ble_eq_true rfl, inX3, q296, rfl⟩
theorem fl_X4_91 : g_fl "CircusLines" 91 4 7 := ⟨_, _, _, rfl, Nat.le_of_ble_eq_true rfl, inX4, q85, rfl⟩
theorem fl_X4_98 : g_fl "CircusLines" 98 4 5 := ⟨_, _, _, rfl, Nat.le_of_ble_eq_true rfl, inX4, q83, rfl⟩
theorem fl_X4_128 : g_fl "CircusLines" 128 4 6 := ⟨_, _, _, rfl, Nat.le_of_ble_eq_true rfl, inX4, q84, rfl⟩
theorem fl_X4_177 : g_fl "CircusLines" 177 1 1 := ⟨_, _, _, rfl, Nat.le_of_ble_eq_true rfl, inX1, q404, rfl⟩
theorem fl_X4_194 : g_fl "CircusLines" 194 1 4 := ⟨_, _, _, rfl, Nat.le_of_ble_eq_true rfl, inX1, q410, rfl⟩
theorem fl_X4_211 : g_fl "CircusLines" 211 2 0 := ⟨_, _, _, rfl, Nat.le_of_ble_eq_true rfl, inX2, q380, rfl⟩
theorem fl_X4_214 : g_fl "CircusLines" 214 2 1 := ⟨_, _, _, rfl, Nat.le_of_ble_eq_true rfl, inX2, q382, rfl⟩
theorem fl_X4_220 : g_fl "CircusLines" 220 3 0 := ⟨_, _, _, rfl, Nat.le_of_ble_eq_true rfl, inX3, q287, rfl⟩
theorem fl_X4_223 : g_fl "CircusLines" 223 3 1 := ⟨_, _, _, rfl, Nat.le_of_ble_eq_true rfl, inX3, q289, rfl⟩
theorem fl_X4_226 : g_fl "CircusLines" 226 3 2 := ⟨_, _, _, rfl, Nat.le_of_ble_eq_true rfl, inX3, q291, rfl⟩
theorem fl_X4_229 : g_fl "CircusLines" 229 1 0 := ⟨_, _, _, rfl, Nat.le_of_ble_eq_true rfl, inX1, q402, rfl⟩
theorem fl_X4_232 : g_fl "CircusLines" 232 1 2 := ⟨_, _, _, rfl, Nat.le_of_ble_eq_true rfl, inX1, q406, rfl⟩
theorem fl_X4_235 : g_fl "CircusLines" 235 1 3 := ⟨_, _, _, rfl, Nat.le_of_ble_eq_true rfl, inX1, q408, rfl⟩
theorem fl_X4_238 : g_fl "CircusLines" 238 0 0 := ⟨_, _, _, rfl, Nat.le_of_ble_eq_true rfl, inX0, q474, rfl⟩
theorem fl_X4_239 : g_fl "CircusLines" 239 0 1 := ⟨_, _, _, rfl, Nat.le_of_ble_eq_true rfl, inX0, q476, rfl⟩
theorem fl_X4_242 : g_fl "CircusLines" 242 0 2 := ⟨_, _, _, rfl, Nat.le_of_ble_eq_true rfl, inX0, q478, rfl⟩
theorem fl_X4_245 : g_fl "CircusLines" 245 0 3 := ⟨_, _, _, rfl, Nat.le_of_ble_eq_true rfl, inX0, q480, rfl⟩
theorem fl_X4_248 : g_fl "CircusLines" 248 0 4 := ⟨_, _, _, rfl, Nat.le_of_ble_eq_true rfl, inX0, q482, rfl⟩
theorem fl_X5_9 : g_fl "CircusLinesModel" 9 5 5 := ⟨_, _, _, rfl, Nat.le_of_ble_eq_true rfl, inX5, q670, rfl⟩
theorem fl_X5_13 : g_fl "CircusLinesModel" 13 5 6 := ⟨_, _, _, rfl, Nat.le_of_ble_eq_true rfl, inX5, q671, rfl⟩
theorem fl_X5_16 : g_fl "CircusLinesModel" 16 5 7 := ⟨_, _, _, rfl, Nat.le_of_ble_eq_true rfl, inX5, q672, rfl⟩
theorem fl_X5_19 : g_fl "CircusLinesModel" 19 5 8 := ⟨_, _, _, rfl, Nat.le_of_ble_eq_true rfl, inX5, q673, rfl⟩
theorem fl_X5_22 : g_fl "CircusLinesModel" 22 5 9 := ⟨_, _, _, rfl, Nat.le_of_ble_eq_true rfl, inX5, q674, rfl⟩
theorem fl_X5_25 : g_fl "CircusLinesModel" 25 5 0 := ⟨_, _, _, rfl, Nat.le_of_ble_eq_true rfl, inX5, q665, rfl⟩
theorem fl_X5_29 : g_fl "CircusLinesModel" 29 5 1 := ⟨_, _, _, rfl, Nat.le_of_ble_eq_true rfl, inX5, q666, rfl⟩
theorem fl_X5_36 : g_fl "CircusLinesModel" 36 5 2 := ⟨_, _, _, rfl, Nat.le_of_ble_eq_true rfl, inX5, q667, rfl⟩
theorem fl_X5_61 : g_fl "CircusLinesModel" 61 5 4 := ⟨_, _, _, rfl, Nat.le_of_ble_eq_true rfl, inX5, q669, rfl⟩
theorem fl_X5_80 : g_fl "CircusLinesModel" 80 5 3 := ⟨_, _, _, rfl, Nat.le_of_ble_eq_true rfl, inX5, q668, rfl⟩
theorem fp_X0_0 : g_fp 0 0 .int true := ⟨_, _, _, tyX0, rfl, tyX0_ok, nmX0, rfl, by decide +kernel⟩
theorem fp_X0_1 : g_fp 0 1 .int true := ⟨_, _, _, tyX0, rfl, tyX0_ok, nmX0, rfl, by decide +kernel⟩
theorem fp_X0_2 : g_fp 0 2 .int true := ⟨_, _, _, tyX0, rfl, tyX0_ok, nmX0, rfl, by decide +kernel⟩
theorem fp_X0_3 : g_fp 0 3 .int true := ⟨_, _, _, tyX0, rfl, tyX0_ok, nmX0, rfl, by decide +kernel⟩
theorem fp_X0_4 : g_fp 0 4 .int false := ⟨_, _, _, tyX0, rfl, tyX0_ok, nmX0, rfl, by decide +kernel⟩
theorem fp_X0_5 : g_fp 0 5 .int false := ⟨_, _, _, tyX0, rfl, tyX0_ok, nmX0, rfl, by decide +kernel⟩
theorem fp_X1_0 : g_fp 1 0 .int false := ⟨_, _, _, tyX1, rfl, tyX1_ok, nmX1, rfl, by decide +kernel⟩
theorem fp_X1_1 : g_fp 1 1 .int false := ⟨_, _, _, tyX1, rfl, tyX1_ok, nmX1, rfl, by decide +kernel⟩
theorem fp_X1_2 : g_fp 1 2 .int false := ⟨_, _, _, tyX1, rfl, tyX1_ok, nmX1, rfl, by decide +kernel⟩
theorem fp_X1_3 : g_fp 1 3 .int false := ⟨_, _, _, tyX1, rfl, tyX1_ok, nmX1, rfl, by decide +kernel⟩
theorem fp_X1_4 : g_fp 1 4 .int false := ⟨_, _, _, tyX1, rfl, tyX1_ok, nmX1, rfl, by decide +kernel⟩
theorem fp_X1_5 : g_fp 1 5 .int false := ⟨_, _, _, tyX1, rfl, tyX1_ok, nmX1, rfl, by decide +kernel⟩
theorem fp_X1_6 : g_fp 1 6 .int false := ⟨_, _, _, tyX1, rfl, tyX1_ok, nmX1, rfl, by decide +kernel⟩
theorem fp_X1_7 : g_fp 1 7 .int false := ⟨_, _, _, tyX1, rfl, tyX1_ok, nmX1, rfl, by decide +kernel⟩
theorem fp_X1_8 : g_fp 1 8 .int false := ⟨_, _, _, tyX1, rfl, tyX1_ok, nmX1, rfl, by decide +kernel⟩
theorem fp_X1_9 : g_fp 1 9 .int false := ⟨_, _, _, tyX1, rfl, tyX1_ok, nmX1, rfl, by decide +kernel⟩
theorem fp_X2_0 : g_fp 2 0 .int true := ⟨_, _, _, tyX2, rfl, tyX2_ok, nmX2, rfl, by decide +kernel⟩
theorem fp_X2_1 : g_fp 2 1 .int true := ⟨_, _, _, tyX2, rfl, tyX2_ok, nmX2, rfl, by decide +kernel⟩
theorem fp_X3_0 : g_fp 3 0 .int true := ⟨_, _, _, tyX3, rfl, tyX3_ok, nmX3, rfl, by decide +kernel⟩
theorem fp_X3_1 : g_fp 3 1 .int true := ⟨_, _, _, tyX3, rfl, tyX3_ok, nmX3, rfl, by decide +kernel⟩
theorem fp_X3_2 : g_fp 3 2 .int true := ⟨_, _, _, tyX3, rfl, tyX3_ok, nmX3, rfl, by decide +kernel⟩
theorem fp_X3_3 : g_fp 3 3 .int false := ⟨_, _, _, tyX3, rfl, tyX3_ok, nmX3, rfl, by decide +kernel⟩
theorem fp_X3_4 : g_fp 3 4 .int false := ⟨_, _, _, tyX3, rfl, tyX3_ok, nmX3, rfl, by decide +kernel⟩
theorem fp_X3_5 : g_fp 3 5 .int false := ⟨_, _, _, tyX3, rfl, tyX3_ok, nmX3, rfl, by decide +kernel⟩
theorem fp_X3_6 : g_fp 3 6 .boolean false := ⟨_, _, _, tyX3, rfl, tyX3_ok, nmX3, rfl, by decide +kernel⟩
theorem fp_X3_7 : g_fp 3 7 .int false := ⟨_, _, _, tyX3, rfl, tyX3_ok, nmX3, rfl, by decide +kernel⟩
theorem fp_X3_8 : g_fp 3 8 .boolean false := ⟨_, _, _, tyX3, rfl, tyX3_ok, nmX3, rfl, by decide +kernel⟩
theorem fp_X4_0 : g_fp 4 0 (.array (.object "CircusLines$Trapeze")) true := ⟨_, _, _, tyX4, rfl, tyX4_ok, nmX4, rfl, by decide +kernel⟩
theorem fp_X4_1 : g_fp 4 1 (.array (.object "CircusLines$Flyer")) true := ⟨_, _, _, tyX4, rfl, tyX4_ok, nmX4, rfl, by decide +kernel⟩
theorem fp_X4_2 : g_fp 4 2 (.array (.object "CircusLines$Cue")) true := ⟨_, _, _, tyX4, rfl, tyX4_ok, nmX4, rfl, by decide +kernel⟩
theorem fp_X4_3 : g_fp 4 3 (.array (.object "CircusLines$Net")) true := ⟨_, _, _, tyX4, rfl, tyX4_ok, nmX4, rfl, by decide +kernel⟩
theorem fp_X4_4 : g_fp 4 4 .int false := ⟨_, _, _, tyX4, rfl, tyX4_ok, nmX4, rfl, by decide +kernel⟩
theorem fp_X4_5 : g_fp 4 5 .int false := ⟨_, _, _, tyX4, rfl, tyX4_ok, nmX4, rfl, by decide +kernel⟩
theorem fp_X4_6 : g_fp 4 6 .int false := ⟨_, _, _, tyX4, rfl, tyX4_ok, nmX4, rfl, by decide +kernel⟩
theorem fp_X4_7 : g_fp 4 7 .int false := ⟨_, _, _, tyX4, rfl, tyX4_ok, nmX4, rfl, by decide +kernel⟩
theorem fp_X4_8 : g_fp 4 8 .int false := ⟨_, _, _, tyX4, rfl, tyX4_ok, nmX4, rfl, by decide +kernel⟩
theorem fp_X5_0 : g_fp 5 0 .int false := ⟨_, _, _, tyX5, rfl, tyX5_ok, nmX5, rfl, by decide +kernel⟩
theorem fp_X5_1 : g_fp 5 1 .int false := ⟨_, _, _, tyX5, rfl, tyX5_ok, nmX5, rfl, by decide +kernel⟩
theorem fp_X5_2 : g_fp 5 2 .int false := ⟨_, _, _, tyX5, rfl, tyX5_ok, nmX5, rfl, by decide +kernel⟩
theorem fp_X5_3 : g_fp 5 3 .int false := ⟨_, _, _, tyX5, rfl, tyX5_ok, nmX5, rfl, by decide +kernel⟩
theorem fp_X5_4 : g_fp 5 4 .int false := ⟨_, _, _, tyX5, rfl, tyX5_ok, nmX5, rfl, by decide +kernel⟩
theorem fp_X5_5 : g_fp 5 5 (.array .int) true := ⟨_, _, _, tyX5, rfl, tyX5_ok, nmX5, rfl, by decide +kernel⟩
theorem fp_X5_6 : g_fp 5 6 (.array .int) true := ⟨_, _, _, tyX5, rfl, tyX5_ok, nmX5, rfl, by decide +kernel⟩
theorem fp_X5_7 : g_fp 5 7 (.array .int) true := ⟨_, _, _, tyX5, rfl, tyX5_ok, nmX5, rfl, by decide +kernel⟩
theorem fp_X5_8 : g_fp 5 8 (.array .int) true := ⟨_, _, _, tyX5, rfl, tyX5_ok, nmX5, rfl, by decide +kernel⟩
theorem fp_X5_9 : g_fp 5 9 (.array .int) true := ⟨_, _, _, tyX5, rfl, tyX5_ok, nmX5, rfl, by decide +kernel⟩
theorem mI_X0_init : g_mI yX0_init prog_2_method_1_code 5 4 := ⟨q471, q60, ⟨by decide +kernel, by decide +kernel⟩, by decide +kernel, q470, rfl⟩
theorem mV_X0_keep : g_mV yX0_keep prog_2_method_2_code 1 none 0 := ⟨q642, q60, ⟨by decide +kernel, by decide +kernel⟩, by decide +kernel, q640, q641⟩
theorem mV_X0_takeBack : g_mV yX0_takeBack prog_2_method_3_code 1 none 0 := ⟨q658, q60, ⟨by decide +kernel, by decide +kernel⟩, by decide +kernel, q656, q657⟩
theorem mI_X1_init : g_mI yX1_init prog_3_method_1_code 1 0 := ⟨q399, q59, ⟨by decide +kernel, by decide +kernel⟩, by decide +kernel, q398, rfl⟩
theorem mV_X1_canMount : g_mV yX1_canMount prog_3_method_2_code 1 (some .boolean) 0 := ⟨q452, q59, ⟨by decide +kernel, by decide +kernel⟩, by decide +kernel, q450, q451⟩
theorem mV_X1_comesIn : g_mV yX1_comesIn prog_3_method_4_code 2 (some .boolean) 1 := ⟨q568, q59, ⟨by decide +kernel, by decide +kernel⟩, by decide +kernel, q566, q567⟩
theorem mV_X1_fall : g_mV yX1_fall prog_3_method_7_code 2 none 1 := ⟨q579, q59, ⟨by decide +kernel, by decide +kernel⟩, by decide +kernel, q577, q578⟩
theorem mV_X1_flyTo : g_mV yX1_flyTo prog_3_method_6_code 3 none 2 := ⟨q560, q59, ⟨by decide +kernel, by decide +kernel⟩, by decide +kernel, q558, q559⟩
theorem mV_X1_hangFrom : g_mV yX1_hangFrom prog_3_method_5_code 2 none 1 := ⟨q457, q59, ⟨by decide +kernel, by decide +kernel⟩, by decide +kernel, q455, q456⟩
theorem mV_X1_hangsFrom : g_mV yX1_hangsFrom prog_3_method_3_code 2 (some .boolean) 1 := ⟨q172, q59, ⟨by decide +kernel, by decide +kernel⟩, by decide +kernel, q170, q171⟩
theorem mV_X1_keep : g_mV yX1_keep prog_3_method_8_code 1 none 0 := ⟨q638, q59, ⟨by decide +kernel, by decide +kernel⟩, by decide +kernel, q636, q637⟩
theorem mV_X1_takeBack : g_mV yX1_takeBack prog_3_method_9_code 1 none 0 := ⟨q654, q59, ⟨by decide +kernel, by decide +kernel⟩, by decide +kernel, q652, q653⟩
theorem mI_X2_init : g_mI yX2_init prog_4_method_1_code 3 2 := ⟨q377, q58, ⟨by decide +kernel, by decide +kernel⟩, by decide +kernel, q376, rfl⟩
theorem mI_X3_init : g_mI yX3_init prog_5_method_1_code 6 5 := ⟨q284, q55, ⟨by decide +kernel, by decide +kernel⟩, by decide +kernel, q283, rfl⟩
theorem mS_X3_halfSwing : g_mS yX3_halfSwing prog_5_method_8_code 1 (some .int) 1 := ⟨q161, q55, ⟨by decide +kernel, by decide +kernel⟩, by decide +kernel, q160⟩
theorem mV_X3_isAtLeftEndIn : g_mV yX3_isAtLeftEndIn prog_5_method_6_code 2 (some .boolean) 1 := ⟨q587, q55, ⟨by decide +kernel, by decide +kernel⟩, by decide +kernel, q585, q586⟩
theorem mV_X3_keep : g_mV yX3_keep prog_5_method_9_code 1 none 0 := ⟨q634, q55, ⟨by decide +kernel, by decide +kernel⟩, by decide +kernel, q632, q633⟩
theorem mV_X3_placeIn : g_mV yX3_placeIn prog_5_method_5_code 2 (some .int) 1 := ⟨q154, q55, ⟨by decide +kernel, by decide +kernel⟩, by decide +kernel, q152, q153⟩
theorem mV_X3_placeSinceLeftEnd : g_mV yX3_placeSinceLeftEnd prog_5_method_7_code 5 (some .int) 2 := ⟨q158, q55, ⟨by decide +kernel, by decide +kernel⟩, by decide +kernel, q156, q157⟩
theorem mV_X3_renewRope : g_mV yX3_renewRope prog_5_method_3_code 1 none 0 := ⟨q364, q55, ⟨by decide +kernel, by decide +kernel⟩, by decide +kernel, q362, q363⟩
theorem mV_X3_setWeight : g_mV yX3_setWeight prog_5_method_2_code 3 none 2 := ⟨q353, q55, ⟨by decide +kernel, by decide +kernel⟩, by decide +kernel, q351, q352⟩
theorem mV_X3_takeBack : g_mV yX3_takeBack prog_5_method_10_code 1 none 0 := ⟨q650, q55, ⟨by decide +kernel, by decide +kernel⟩, by decide +kernel, q648, q649⟩
theorem mV_X3_wear : g_mV yX3_wear prog_5_method_4_code 2 none 1 := ⟨q591, q55, ⟨by decide +kernel, by decide +kernel⟩, by decide +kernel, q589, q590⟩
theorem mI_X4_init : g_mI yX4_init prog_1_method_1_code 1 0 := ⟨q66, q48, ⟨by decide +kernel, by decide +kernel⟩, by decide +kernel, q65, rfl⟩
theorem mV_X4_advise : g_mV yX4_advise prog_1_method_18_code 8 (some .int) 2 := ⟨q616, q48, ⟨by decide +kernel, by decide +kernel⟩, by decide +kernel, q614, q615⟩
theorem mV_X4_callCues : g_mV yX4_callCues prog_1_method_39_code 5 none 0 := ⟨q552, q48, ⟨by decide +kernel, by decide +kernel⟩, by decide +kernel, q551, q15⟩
theorem mV_X4_called : g_mV yX4_called prog_1_method_11_code 4 (some .int) 2 := ⟨q519, q48, ⟨by decide +kernel, by decide +kernel⟩, by decide +kernel, q517, q518⟩
theorem mV_X4_catcherAt : g_mV yX4_catcherAt prog_1_method_42_code 4 (some .int) 1 := ⟨q572, q48, ⟨by decide +kernel, by decide +kernel⟩, by decide +kernel, q571, q18⟩
theorem mV_X4_count : g_mV yX4_count prog_1_method_12_code 2 (some .int) 1 := ⟨q527, q48, ⟨by decide +kernel, by decide +kernel⟩, by decide +kernel, q525, q526⟩
theorem mV_X4_cue : g_mV yX4_cue prog_1_method_8_code 6 (some .int) 4 := ⟨q464, q48, ⟨by decide +kernel, by decide +kernel⟩, by decide +kernel, q462, q463⟩
theorem mV_X4_digest : g_mV yX4_digest prog_1_method_21_code 7 (some .long) 0 := ⟨q124, q48, ⟨by decide +kernel, by decide +kernel⟩, by decide +kernel, q122, q123⟩
theorem mV_X4_dropFrom : g_mV yX4_dropFrom prog_1_method_44_code 8 none 2 := ⟨q595, q48, ⟨by decide +kernel, by decide +kernel⟩, by decide +kernel, q594, q20⟩
theorem mV_X4_endFlights : g_mV yX4_endFlights prog_1_method_41_code 7 (some .int) 0 := ⟨q564, q48, ⟨by decide +kernel, by decide +kernel⟩, by decide +kernel, q563, q17⟩
theorem mV_X4_flight : g_mV yX4_flight prog_1_method_17_code 10 (some .int) 2 := ⟨q609, q48, ⟨by decide +kernel, by decide +kernel⟩, by decide +kernel, q607, q608⟩
theorem mV_X4_flyer : g_mV yX4_flyer prog_1_method_10_code 4 (some .int) 2 := ⟨q511, q48, ⟨by decide +kernel, by decide +kernel⟩, by decide +kernel, q509, q510⟩
theorem mV_X4_flyerNumbered : g_mV yX4_flyerNumbered prog_1_method_25_code 2 (some (.object "CircusLines$Flyer")) 1 := ⟨q447, q48, ⟨by decide +kernel, by decide +kernel⟩, by decide +kernel, q446, q13⟩
theorem mV_X4_flyersWhoAre : g_mV yX4_flyersWhoAre prog_1_method_33_code 7 (some .int) 1 := ⟨q138, q48, ⟨by decide +kernel, by decide +kernel⟩, by decide +kernel, q137, q3⟩
theorem mV_X4_foresee : g_mV yX4_foresee prog_1_method_19_code 5 (some .int) 2 := ⟨q625, q48, ⟨by decide +kernel, by decide +kernel⟩, by decide +kernel, q623, q624⟩
theorem mV_X4_go : g_mV yX4_go prog_1_method_15_code 2 (some .int) 1 := ⟨q543, q48, ⟨by decide +kernel, by decide +kernel⟩, by decide +kernel, q541, q542⟩
theorem mV_X4_hangersOf : g_mV yX4_hangersOf prog_1_method_26_code 7 (some .int) 1 := ⟨q168, q48, ⟨by decide +kernel, by decide +kernel⟩, by decide +kernel, q167, q7⟩
theorem mS_X4_isNear : g_mS yX4_isNear prog_1_method_23_code 2 (some .boolean) 2 := ⟨q575, q48, ⟨by decide +kernel, by decide +kernel⟩, by decide +kernel, q574⟩
theorem mV_X4_isNetSpreadAt : g_mV yX4_isNetSpreadAt prog_1_method_27_code 6 (some .boolean) 1 := ⟨q113, q48, ⟨by decide +kernel, by decide +kernel⟩, by decide +kernel, q112, q0⟩
theorem mS_X4_isWithin : g_mS yX4_isWithin prog_1_method_22_code 3 (some .boolean) 3 := ⟨q116, q48, ⟨by decide +kernel, by decide +kernel⟩, by decide +kernel, q115⟩
theorem mV_X4_join : g_mV yX4_join prog_1_method_6_code 2 (some .int) 0 := ⟨q394, q48, ⟨by decide +kernel, by decide +kernel⟩, by decide +kernel, q392, q393⟩
theorem mV_X4_keepAct : g_mV yX4_keepAct prog_1_method_45_code 5 none 0 := ⟨q630, q48, ⟨by decide +kernel, by decide +kernel⟩, by decide +kernel, q629, q21⟩
theorem mV_X4_letGo : g_mV yX4_letGo prog_1_method_40_code 4 (some .boolean) 1 := ⟨q556, q48, ⟨by decide +kernel, by decide +kernel⟩, by decide +kernel, q555, q16⟩
theorem mV_X4_mean : g_mV yX4_mean prog_1_method_20_code 6 (some .double) 0 := ⟨q120, q48, ⟨by decide +kernel, by decide +kernel⟩, by decide +kernel, q118, q119⟩
theorem mV_X4_meets : g_mV yX4_meets prog_1_method_16_code 6 (some .int) 2 := ⟨q602, q48, ⟨by decide +kernel, by decide +kernel⟩, by decide +kernel, q600, q601⟩
theorem mV_X4_mend : g_mV yX4_mend prog_1_method_4_code 4 (some .int) 1 := ⟨q360, q48, ⟨by decide +kernel, by decide +kernel⟩, by decide +kernel, q358, q359⟩
theorem mV_X4_mount : g_mV yX4_mount prog_1_method_7_code 6 (some .int) 2 := ⟨q443, q48, ⟨by decide +kernel, by decide +kernel⟩, by decide +kernel, q441, q442⟩
theorem mV_X4_netAt : g_mV yX4_netAt prog_1_method_14_code 2 (some .boolean) 1 := ⟨q109, q48, ⟨by decide +kernel, by decide +kernel⟩, by decide +kernel, q107, q108⟩
theorem mS_X4_ofCue : g_mS yX4_ofCue prog_1_method_30_code 2 (some .int) 2 := ⟨q187, q48, ⟨by decide +kernel, by decide +kernel⟩, by decide +kernel, q186⟩
theorem mV_X4_ofFlyer : g_mV yX4_ofFlyer prog_1_method_29_code 4 (some .int) 2 := ⟨q180, q48, ⟨by decide +kernel, by decide +kernel⟩, by decide +kernel, q179, q9⟩
theorem mV_X4_ofTrapeze : g_mV yX4_ofTrapeze prog_1_method_28_code 4 (some .int) 3 := ⟨q150, q48, ⟨by decide +kernel, by decide +kernel⟩, by decide +kernel, q149, q6⟩
theorem mV_X4_openCues : g_mV yX4_openCues prog_1_method_34_code 6 (some .int) 0 := ⟨q142, q48, ⟨by decide +kernel, by decide +kernel⟩, by decide +kernel, q141, q4⟩
theorem mV_X4_passBeats : g_mV yX4_passBeats prog_1_method_38_code 4 (some .int) 1 := ⟨q548, q48, ⟨by decide +kernel, by decide +kernel⟩, by decide +kernel, q547, q14⟩
theorem mV_X4_place : g_mV yX4_place prog_1_method_13_code 4 (some .int) 2 := ⟨q535, q48, ⟨by decide +kernel, by decide +kernel⟩, by decide +kernel, q533, q534⟩
theorem mV_X4_rig : g_mV yX4_rig prog_1_method_2_code 6 (some .int) 4 := ⟨q196, q48, ⟨by decide +kernel, by decide +kernel⟩, by decide +kernel, q194, q195⟩
theorem mV_X4_spread : g_mV yX4_spread prog_1_method_5_code 4 (some .int) 2 := ⟨q371, q48, ⟨by decide +kernel, by decide +kernel⟩, by decide +kernel, q369, q370⟩
theorem mV_X4_takeActBack : g_mV yX4_takeActBack prog_1_method_46_code 5 none 0 := ⟨q646, q48, ⟨by decide +kernel, by decide +kernel⟩, by decide +kernel, q645, q22⟩
theorem mV_X4_tally : g_mV yX4_tally prog_1_method_31_code 2 (some .int) 1 := ⟨q130, q48, ⟨by decide +kernel, by decide +kernel⟩, by decide +kernel, q129, q1⟩
theorem mV_X4_trapeze : g_mV yX4_trapeze prog_1_method_9_code 4 (some .int) 2 := ⟨q503, q48, ⟨by decide +kernel, by decide +kernel⟩, by decide +kernel, q501, q502⟩
theorem mV_X4_trapezeNumbered : g_mV yX4_trapezeNumbered prog_1_method_24_code 2 (some (.object "CircusLines$Trapeze")) 1 := ⟨q331, q48, ⟨by decide +kernel, by decide +kernel⟩, by decide +kernel, q330, q12⟩
theorem mV_X4_wearRopes : g_mV yX4_wearRopes prog_1_method_43_code 3 none 0 := ⟨q583, q48, ⟨by decide +kernel, by decide +kernel⟩, by decide +kernel, q582, q19⟩
theorem mV_X4_weigh : g_mV yX4_weigh prog_1_method_3_code 5 (some .int) 2 := ⟨q327, q48, ⟨by decide +kernel, by decide +kernel⟩, by decide +kernel, q325, q326⟩
theorem mV_X4_wholeTrapezes : g_mV yX4_wholeTrapezes prog_1_method_32_code 6 (some .int) 0 := ⟨q134, q48, ⟨by decide +kernel, by decide +kernel⟩, by decide +kernel, q133, q2⟩
theorem mV_X4_withCues : g_mV yX4_withCues prog_1_method_37_code 10 (some .long) 1 := ⟨q184, q48, ⟨by decide +kernel, by decide +kernel⟩, by decide +kernel, q183, q10⟩
theorem mV_X4_withFlyers : g_mV yX4_withFlyers prog_1_method_36_code 10 (some .long) 1 := ⟨q176, q48, ⟨by decide +kernel, by decide +kernel⟩, by decide +kernel, q175, q8⟩
theorem mV_X4_withTrapezes : g_mV yX4_withTrapezes prog_1_method_35_code 8 (some .long) 1 := ⟨q146, q48, ⟨by decide +kernel, by decide +kernel⟩, by decide +kernel, q145, q5⟩
theorem mI_X5_init : g_mI yX5_init prog_7_method_1_code 1 0 := ⟨q663, q49, ⟨by decide +kernel, by decide +kernel⟩, by decide +kernel, q662, rfl⟩
theorem mV_X5_advise : g_mV yX5_advise prog_7_method_44_code 5 (some .int) 2 := ⟨q871, q49, ⟨by decide +kernel, by decide +kernel⟩, by decide +kernel, q869, q870⟩
theorem mV_X5_beatOn : g_mV yX5_beatOn prog_7_method_38_code 2 none 0 := ⟨q837, q49, ⟨by decide +kernel, by decide +kernel⟩, by decide +kernel, q836, q40⟩
theorem mV_X5_beatsOn : g_mV yX5_beatsOn prog_7_method_39_code 3 none 1 := ⟨q833, q49, ⟨by decide +kernel, by decide +kernel⟩, by decide +kernel, q832, q39⟩
theorem mV_X5_bringBack : g_mV yX5_bringBack prog_7_method_46_code 4 none 1 := ⟨q891, q49, ⟨by decide +kernel, by decide +kernel⟩, by decide +kernel, q890, q46⟩
theorem mV_X5_called : g_mV yX5_called prog_7_method_26_code 3 (some .int) 2 := ⟨q797, q49, ⟨by decide +kernel, by decide +kernel⟩, by decide +kernel, q795, q796⟩
theorem mV_X5_caught : g_mV yX5_caught prog_7_method_40_code 3 (some .int) 0 := ⟨q829, q49, ⟨by decide +kernel, by decide +kernel⟩, by decide +kernel, q828, q38⟩
theorem mV_X5_count : g_mV yX5_count prog_7_method_29_code 2 (some .int) 1 := ⟨q801, q49, ⟨by decide +kernel, by decide +kernel⟩, by decide +kernel, q799, q800⟩
theorem mV_X5_counted : g_mV yX5_counted prog_7_method_28_code 4 (some .int) 1 := ⟨q805, q49, ⟨by decide +kernel, by decide +kernel⟩, by decide +kernel, q804, q35⟩
theorem mV_X5_cue : g_mV yX5_cue prog_7_method_19_code 6 (some .int) 4 := ⟨q770, q49, ⟨by decide +kernel, by decide +kernel⟩, by decide +kernel, q768, q769⟩
theorem mV_X5_cuesOn : g_mV yX5_cuesOn prog_7_method_34_code 4 none 0 := ⟨q841, q49, ⟨by decide +kernel, by decide +kernel⟩, by decide +kernel, q840, q41⟩
theorem mV_X5_digest : g_mV yX5_digest prog_7_method_49_code 5 (some .long) 0 := ⟨q899, q49, ⟨by decide +kernel, by decide +kernel⟩, by decide +kernel, q897, q898⟩
theorem mV_X5_fail : g_mV yX5_fail prog_7_method_3_code 2 (some .int) 1 := ⟨q711, q49, ⟨by decide +kernel, by decide +kernel⟩, by decide +kernel, q710, q23⟩
theorem mV_X5_falls : g_mV yX5_falls prog_7_method_33_code 3 none 2 := ⟨q855, q49, ⟨by decide +kernel, by decide +kernel⟩, by decide +kernel, q854, q43⟩
theorem mV_X5_flight : g_mV yX5_flight prog_7_method_43_code 6 (some .int) 2 := ⟨q867, q49, ⟨by decide +kernel, by decide +kernel⟩, by decide +kernel, q865, q866⟩
theorem mV_X5_flyer : g_mV yX5_flyer prog_7_method_25_code 3 (some .int) 2 := ⟨q789, q49, ⟨by decide +kernel, by decide +kernel⟩, by decide +kernel, q787, q788⟩
theorem mV_X5_flyerTold : g_mV yX5_flyerTold prog_7_method_24_code 3 (some .int) 2 := ⟨q793, q49, ⟨by decide +kernel, by decide +kernel⟩, by decide +kernel, q792, q34⟩
theorem mV_X5_foresee : g_mV yX5_foresee prog_7_method_47_code 5 (some .int) 2 := ⟨q875, q49, ⟨by decide +kernel, by decide +kernel⟩, by decide +kernel, q873, q874⟩
theorem mV_X5_go : g_mV yX5_go prog_7_method_41_code 3 (some .int) 1 := ⟨q825, q49, ⟨by decide +kernel, by decide +kernel⟩, by decide +kernel, q823, q824⟩
theorem mV_X5_hanging : g_mV yX5_hanging prog_7_method_16_code 4 (some .int) 1 := ⟨q766, q49, ⟨by decide +kernel, by decide +kernel⟩, by decide +kernel, q765, q31⟩
theorem mV_X5_inState : g_mV yX5_inState prog_7_method_27_code 4 (some .int) 1 := ⟨q809, q49, ⟨by decide +kernel, by decide +kernel⟩, by decide +kernel, q808, q36⟩
theorem mV_X5_isFlyer : g_mV yX5_isFlyer prog_7_method_6_code 2 (some .boolean) 1 := ⟨q754, q49, ⟨by decide +kernel, by decide +kernel⟩, by decide +kernel, q753, q28⟩
theorem mV_X5_isFree : g_mV yX5_isFree prog_7_method_17_code 2 (some .boolean) 1 := ⟨q762, q49, ⟨by decide +kernel, by decide +kernel⟩, by decide +kernel, q761, q30⟩
theorem mS_X5_isIn : g_mS yX5_isIn prog_7_method_4_code 3 (some .boolean) 3 := ⟨q707, q49, ⟨by decide +kernel, by decide +kernel⟩, by decide +kernel, q706⟩
theorem mS_X5_isNear : g_mS yX5_isNear prog_7_method_35_code 2 (some .boolean) 2 := ⟨q848, q49, ⟨by decide +kernel, by decide +kernel⟩, by decide +kernel, q847⟩
theorem mV_X5_isNet : g_mV yX5_isNet prog_7_method_31_code 3 (some .boolean) 1 := ⟨q821, q49, ⟨by decide +kernel, by decide +kernel⟩, by decide +kernel, q820, q37⟩
theorem mV_X5_isTrapeze : g_mV yX5_isTrapeze prog_7_method_5_code 2 (some .boolean) 1 := ⟨q722, q49, ⟨by decide +kernel, by decide +kernel⟩, by decide +kernel, q721, q24⟩
theorem mV_X5_join : g_mV yX5_join prog_7_method_15_code 1 (some .int) 0 := ⟨q742, q49, ⟨by decide +kernel, by decide +kernel⟩, by decide +kernel, q740, q741⟩
theorem mV_X5_kept : g_mV yX5_kept prog_7_method_45_code 1 (some (.array (.array .int))) 0 := ⟨q879, q49, ⟨by decide +kernel, by decide +kernel⟩, by decide +kernel, q878, q45⟩
theorem mV_X5_land : g_mV yX5_land prog_7_method_36_code 4 none 1 := ⟨q845, q49, ⟨by decide +kernel, by decide +kernel⟩, by decide +kernel, q844, q42⟩
theorem mV_X5_mean : g_mV yX5_mean prog_7_method_48_code 1 (some .double) 0 := ⟨q895, q49, ⟨by decide +kernel, by decide +kernel⟩, by decide +kernel, q893, q894⟩
theorem mV_X5_meets : g_mV yX5_meets prog_7_method_42_code 4 (some .int) 2 := ⟨q863, q49, ⟨by decide +kernel, by decide +kernel⟩, by decide +kernel, q861, q862⟩
theorem mV_X5_mend : g_mV yX5_mend prog_7_method_13_code 3 (some .int) 1 := ⟨q734, q49, ⟨by decide +kernel, by decide +kernel⟩, by decide +kernel, q732, q733⟩
theorem mV_X5_mount : g_mV yX5_mount prog_7_method_18_code 3 (some .int) 2 := ⟨q750, q49, ⟨by decide +kernel, by decide +kernel⟩, by decide +kernel, q748, q749⟩
theorem mV_X5_netAt : g_mV yX5_netAt prog_7_method_32_code 2 (some .boolean) 1 := ⟨q817, q49, ⟨by decide +kernel, by decide +kernel⟩, by decide +kernel, q815, q816⟩
theorem mV_X5_pe : g_mV yX5_pe prog_7_method_9_code 3 (some .int) 2 := ⟨q758, q49, ⟨by decide +kernel, by decide +kernel⟩, by decide +kernel, q757, q29⟩
theorem mV_X5_place : g_mV yX5_place prog_7_method_30_code 3 (some .int) 2 := ⟨q813, q49, ⟨by decide +kernel, by decide +kernel⟩, by decide +kernel, q811, q812⟩
theorem mV_X5_placeOf : g_mV yX5_placeOf prog_7_method_21_code 3 (some .int) 2 := ⟨q782, q49, ⟨by decide +kernel, by decide +kernel⟩, by decide +kernel, q781, q33⟩
theorem mV_X5_ri : g_mV yX5_ri prog_7_method_7_code 3 (some .int) 2 := ⟨q726, q49, ⟨by decide +kernel, by decide +kernel⟩, by decide +kernel, q725, q25⟩
theorem mV_X5_rig : g_mV yX5_rig prog_7_method_11_code 6 (some .int) 4 := ⟨q704, q49, ⟨by decide +kernel, by decide +kernel⟩, by decide +kernel, q702, q703⟩
theorem mV_X5_set : g_mV yX5_set prog_7_method_10_code 6 none 5 := ⟨q746, q49, ⟨by decide +kernel, by decide +kernel⟩, by decide +kernel, q745, q27⟩
theorem mV_X5_setRig : g_mV yX5_setRig prog_7_method_8_code 4 none 3 := ⟨q730, q49, ⟨by decide +kernel, by decide +kernel⟩, by decide +kernel, q729, q26⟩
theorem mV_X5_spread : g_mV yX5_spread prog_7_method_14_code 3 (some .int) 2 := ⟨q738, q49, ⟨by decide +kernel, by decide +kernel⟩, by decide +kernel, q736, q737⟩
theorem mS_X5_swung : g_mS yX5_swung prog_7_method_20_code 6 (some .int) 4 := ⟨q785, q49, ⟨by decide +kernel, by decide +kernel⟩, by decide +kernel, q784⟩
theorem mV_X5_thrown : g_mV yX5_thrown prog_7_method_2_code 1 (some .int) 0 := ⟨q700, q49, ⟨by decide +kernel, by decide +kernel⟩, by decide +kernel, q698, q699⟩
theorem mV_X5_trapeze : g_mV yX5_trapeze prog_7_method_23_code 3 (some .int) 2 := ⟨q774, q49, ⟨by decide +kernel, by decide +kernel⟩, by decide +kernel, q772, q773⟩
theorem mV_X5_trapezeTold : g_mV yX5_trapezeTold prog_7_method_22_code 3 (some .int) 2 := ⟨q778, q49, ⟨by decide +kernel, by decide +kernel⟩, by decide +kernel, q777, q32⟩
theorem mV_X5_wear : g_mV yX5_wear prog_7_method_37_code 3 none 1 := ⟨q859, q49, ⟨by decide +kernel, by decide +kernel⟩, by decide +kernel, q858, q44⟩
theorem mV_X5_weigh : g_mV yX5_weigh prog_7_method_12_code 4 (some .int) 2 := ⟨q718, q49, ⟨by decide +kernel, by decide +kernel⟩, by decide +kernel, q716, q717⟩
