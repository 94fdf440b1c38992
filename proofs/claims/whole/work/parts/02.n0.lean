def RX0 : String := "SandcastleLeague$Shore"
def TX0 : u_T := fun k => match k with
  | 0 => ("SandcastleLeague$Shore", "sand", "[I", true)
  | 1 => ("SandcastleLeague$Shore", "firmness", "[I", true)
  | 2 => ("SandcastleLeague$Shore", "water", "[I", true)
  | 3 => ("SandcastleLeague$Shore", "owner", "[I", true)
  | 4 => ("SandcastleLeague$Shore", "plantedHeight", "[I", true)
  | 5 => ("SandcastleLeague$Shore", "points", "[I", true)
  | 6 => ("SandcastleLeague$Shore", "lostSand", "I", false)
  | 7 => ("SandcastleLeague$Shore", "slides", "I", false)
  | _ => ("SandcastleLeague$Shore", "fallenSticks", "I", false)
def tyX0 : Nat → FieldType := fun k => match k with
  | 0 => .array .int
  | 1 => .array .int
  | 2 => .array .int
  | 3 => .array .int
  | 4 => .array .int
  | 5 => .array .int
  | 6 => .int
  | 7 => .int
  | _ => .int
abbrev wsX00 : List Cond := u_ws RX0 TX0 9
theorem nmX0 : ∀ a, a < 9 → ∀ b, b < 9 → a ≠ b → (TX0 a).2.1 ≠ (TX0 b).2.1 := by decide +kernel
theorem tyX0_ok : ∀ k, k < 9 → parseFieldDescriptor (TX0 k).2.2.1 = some (tyX0 k) := by decide +kernel
abbrev cX0_init : ByteArray := prog_2_method_1_code
def yX0_init : MethodName := ⟨RX0, "<init>", "()V"⟩
abbrev cX0_begin : ByteArray := prog_2_method_2_code
def yX0_begin : MethodName := ⟨RX0, "begin", "()V"⟩
abbrev cX0_clearSticks : ByteArray := prog_2_method_3_code
def yX0_clearSticks : MethodName := ⟨RX0, "clearSticks", "()V"⟩
abbrev cX0_become : ByteArray := prog_2_method_4_code
def yX0_become : MethodName := ⟨RX0, "become", "(LSandcastleLeague$Shore;)V"⟩
abbrev cX0_takeSand : ByteArray := prog_2_method_5_code
def yX0_takeSand : MethodName := ⟨RX0, "takeSand", "(II)I"⟩
abbrev cX0_putSand : ByteArray := prog_2_method_6_code
def yX0_putSand : MethodName := ⟨RX0, "putSand", "(II)I"⟩
abbrev cX0_harden : ByteArray := prog_2_method_7_code
def yX0_harden : MethodName := ⟨RX0, "harden", "(I)I"⟩
abbrev cX0_putStick : ByteArray := prog_2_method_8_code
def yX0_putStick : MethodName := ⟨RX0, "putStick", "(II)V"⟩
abbrev cX0_letHourGoBy : ByteArray := prog_2_method_9_code
def yX0_letHourGoBy : MethodName := ⟨RX0, "letHourGoBy", "(I)V"⟩
abbrev cX0_findWater : ByteArray := prog_2_method_10_code
def yX0_findWater : MethodName := ⟨RX0, "findWater", "(I)V"⟩
abbrev cX0_sweepWater : ByteArray := prog_2_method_11_code
def yX0_sweepWater : MethodName := ⟨RX0, "sweepWater", "(I)Z"⟩
abbrev cX0_isOpenToSea : ByteArray := prog_2_method_12_code
def yX0_isOpenToSea : MethodName := ⟨RX0, "isOpenToSea", "(I)Z"⟩
abbrev cX0_washSandAway : ByteArray := prog_2_method_13_code
def yX0_washSandAway : MethodName := ⟨RX0, "washSandAway", "(I)V"⟩
abbrev cX0_letSandSlide : ByteArray := prog_2_method_14_code
def yX0_letSandSlide : MethodName := ⟨RX0, "letSandSlide", "()I"⟩
abbrev cX0_slideOnce : ByteArray := prog_2_method_15_code
def yX0_slideOnce : MethodName := ⟨RX0, "slideOnce", "()I"⟩
abbrev cX0_slidesTo : ByteArray := prog_2_method_16_code
def yX0_slidesTo : MethodName := ⟨RX0, "slidesTo", "(II)Z"⟩
abbrev cX0_lowestBeside : ByteArray := prog_2_method_17_code
def yX0_lowestBeside : MethodName := ⟨RX0, "lowestBeside", "(I)I"⟩
abbrev cX0_beside : ByteArray := prog_2_method_18_code
def yX0_beside : MethodName := ⟨RX0, "beside", "(II)I"⟩
abbrev cX0_judgeSticks : ByteArray := prog_2_method_19_code
def yX0_judgeSticks : MethodName := ⟨RX0, "judgeSticks", "()V"⟩
abbrev cX0_soften : ByteArray := prog_2_method_20_code
def yX0_soften : MethodName := ⟨RX0, "soften", "(I)V"⟩
abbrev cX0_height : ByteArray := prog_2_method_21_code
def yX0_height : MethodName := ⟨RX0, "height", "(I)I"⟩
abbrev cX0_isWet : ByteArray := prog_2_method_22_code
def yX0_isWet : MethodName := ⟨RX0, "isWet", "(I)Z"⟩
abbrev cX0_hasStick : ByteArray := prog_2_method_23_code
def yX0_hasStick : MethodName := ⟨RX0, "hasStick", "(I)Z"⟩
abbrev cX0_isFree : ByteArray := prog_2_method_24_code
def yX0_isFree : MethodName := ⟨RX0, "isFree", "(I)Z"⟩
abbrev cX0_tellCell : ByteArray := prog_2_method_25_code
def yX0_tellCell : MethodName := ⟨RX0, "tellCell", "(II)I"⟩
abbrev cX0_pointsOf : ByteArray := prog_2_method_26_code
def yX0_pointsOf : MethodName := ⟨RX0, "pointsOf", "(I)I"⟩
abbrev cX0_sticksOf : ByteArray := prog_2_method_27_code
def yX0_sticksOf : MethodName := ⟨RX0, "sticksOf", "(I)I"⟩
abbrev cX0_sandOfArea : ByteArray := prog_2_method_28_code
def yX0_sandOfArea : MethodName := ⟨RX0, "sandOfArea", "(I)I"⟩
abbrev cX0_waterOfArea : ByteArray := prog_2_method_29_code
def yX0_waterOfArea : MethodName := ⟨RX0, "waterOfArea", "(I)I"⟩
abbrev cX0_greatestHeightOfArea : ByteArray := prog_2_method_30_code
def yX0_greatestHeightOfArea : MethodName := ⟨RX0, "greatestHeightOfArea", "(I)I"⟩
abbrev cX0_allSand : ByteArray := prog_2_method_31_code
def yX0_allSand : MethodName := ⟨RX0, "allSand", "()I"⟩
abbrev cX0_allWater : ByteArray := prog_2_method_32_code
def yX0_allWater : MethodName := ⟨RX0, "allWater", "()I"⟩
abbrev cX0_allHeights : ByteArray := prog_2_method_33_code
def yX0_allHeights : MethodName := ⟨RX0, "allHeights", "()I"⟩
abbrev cX0_allSticks : ByteArray := prog_2_method_34_code
def yX0_allSticks : MethodName := ⟨RX0, "allSticks", "()I"⟩
abbrev cX0_sum : ByteArray := prog_2_method_35_code
def yX0_sum : MethodName := ⟨RX0, "sum", "([I)I"⟩
abbrev cX0_sumOfArea : ByteArray := prog_2_method_36_code
def yX0_sumOfArea : MethodName := ⟨RX0, "sumOfArea", "([II)I"⟩
def RX1 : String := "SandcastleLeague"
def TX1 : u_T := fun k => match k with
  | 0 => ("SandcastleLeague", "shore", "LSandcastleLeague$Shore;", true)
  | 1 => ("SandcastleLeague", "trial", "LSandcastleLeague$Shore;", true)
  | 2 => ("SandcastleLeague", "tides", "[I", true)
  | 3 => ("SandcastleLeague", "bucket", "[I", true)
  | 4 => ("SandcastleLeague", "strength", "[I", true)
  | 5 => ("SandcastleLeague", "leaguePoints", "[I", true)
  | 6 => ("SandcastleLeague", "teams", "I", false)
  | 7 => ("SandcastleLeague", "hour", "I", false)
  | _ => ("SandcastleLeague", "endedRounds", "I", false)
def tyX1 : Nat → FieldType := fun k => match k with
  | 0 => .object "SandcastleLeague$Shore"
  | 1 => .object "SandcastleLeague$Shore"
  | 2 => .array .int
  | 3 => .array .int
  | 4 => .array .int
  | 5 => .array .int
  | 6 => .int
  | 7 => .int
  | _ => .int
abbrev wsX10 : List Cond := u_ws RX1 TX1 9
theorem nmX1 : ∀ a, a < 9 → ∀ b, b < 9 → a ≠ b → (TX1 a).2.1 ≠ (TX1 b).2.1 := by decide +kernel
theorem tyX1_ok : ∀ k, k < 9 → parseFieldDescriptor (TX1 k).2.2.1 = some (tyX1 k) := by decide +kernel
abbrev cX1_init : ByteArray := prog_1_method_1_code
def yX1_init : MethodName := ⟨RX1, "<init>", "()V"⟩
abbrev cX1_addTeam : ByteArray := prog_1_method_2_code
def yX1_addTeam : MethodName := ⟨RX1, "addTeam", "()I"⟩
abbrev cX1_setTide : ByteArray := prog_1_method_3_code
def yX1_setTide : MethodName := ⟨RX1, "setTide", "(II)I"⟩
abbrev cX1_dig : ByteArray := prog_1_method_4_code
def yX1_dig : MethodName := ⟨RX1, "dig", "(IIII)I"⟩
abbrev cX1_pile : ByteArray := prog_1_method_5_code
def yX1_pile : MethodName := ⟨RX1, "pile", "(IIII)I"⟩
abbrev cX1_pack : ByteArray := prog_1_method_6_code
def yX1_pack : MethodName := ⟨RX1, "pack", "(III)I"⟩
abbrev cX1_plant : ByteArray := prog_1_method_7_code
def yX1_plant : MethodName := ⟨RX1, "plant", "(III)I"⟩
abbrev cX1_cell : ByteArray := prog_1_method_8_code
def yX1_cell : MethodName := ⟨RX1, "cell", "(III)I"⟩
abbrev cX1_team : ByteArray := prog_1_method_9_code
def yX1_team : MethodName := ⟨RX1, "team", "(II)I"⟩
abbrev cX1_count : ByteArray := prog_1_method_10_code
def yX1_count : MethodName := ⟨RX1, "count", "(I)I"⟩
abbrev cX1_pass : ByteArray := prog_1_method_11_code
def yX1_pass : MethodName := ⟨RX1, "pass", "(I)I"⟩
abbrev cX1_endRound : ByteArray := prog_1_method_12_code
def yX1_endRound : MethodName := ⟨RX1, "endRound", "()I"⟩
abbrev cX1_leader : ByteArray := prog_1_method_13_code
def yX1_leader : MethodName := ⟨RX1, "leader", "(I)I"⟩
abbrev cX1_flood : ByteArray := prog_1_method_14_code
def yX1_flood : MethodName := ⟨RX1, "flood", "(I)I"⟩
abbrev cX1_reach : ByteArray := prog_1_method_15_code
def yX1_reach : MethodName := ⟨RX1, "reach", "(II)I"⟩
abbrev cX1_foresee : ByteArray := prog_1_method_16_code
def yX1_foresee : MethodName := ⟨RX1, "foresee", "(III)I"⟩
abbrev cX1_advise : ByteArray := prog_1_method_17_code
def yX1_advise : MethodName := ⟨RX1, "advise", "(II)I"⟩
abbrev cX1_mean : ByteArray := prog_1_method_18_code
def yX1_mean : MethodName := ⟨RX1, "mean", "()D"⟩
abbrev cX1_digest : ByteArray := prog_1_method_19_code
def yX1_digest : MethodName := ⟨RX1, "digest", "()J"⟩
abbrev cX1_beginRound : ByteArray := prog_1_method_20_code
def yX1_beginRound : MethodName := ⟨RX1, "beginRound", "()V"⟩
abbrev cX1_letHoursGoBy : ByteArray := prog_1_method_21_code
def yX1_letHoursGoBy : MethodName := ⟨RX1, "letHoursGoBy", "(LSandcastleLeague$Shore;I)V"⟩
abbrev cX1_teamsWithFewerPoints : ByteArray := prog_1_method_22_code
def yX1_teamsWithFewerPoints : MethodName := ⟨RX1, "teamsWithFewerPoints", "(I)I"⟩
abbrev cX1_teamsAheadOf : ByteArray := prog_1_method_23_code
def yX1_teamsAheadOf : MethodName := ⟨RX1, "teamsAheadOf", "(I)I"⟩
abbrev cX1_isAhead : ByteArray := prog_1_method_24_code
def yX1_isAhead : MethodName := ⟨RX1, "isAhead", "(II)Z"⟩
abbrev cX1_isOnBeach : ByteArray := prog_1_method_25_code
def yX1_isOnBeach : MethodName := ⟨RX1, "isOnBeach", "(II)Z"⟩
abbrev cX1_cellAt : ByteArray := prog_1_method_26_code
def yX1_cellAt : MethodName := ⟨RX1, "cellAt", "(II)I"⟩
abbrev cX1_isInArea : ByteArray := prog_1_method_27_code
def yX1_isInArea : MethodName := ⟨RX1, "isInArea", "(II)Z"⟩
abbrev cX1_requireTeam : ByteArray := prog_1_method_28_code
def yX1_requireTeam : MethodName := ⟨RX1, "requireTeam", "(I)V"⟩
abbrev cX1_requireCell : ByteArray := prog_1_method_29_code
def yX1_requireCell : MethodName := ⟨RX1, "requireCell", "(II)V"⟩
abbrev cX1_requireWhat : ByteArray := prog_1_method_30_code
def yX1_requireWhat : MethodName := ⟨RX1, "requireWhat", "(II)V"⟩
abbrev cX1_requireArea : ByteArray := prog_1_method_31_code
def yX1_requireArea : MethodName := ⟨RX1, "requireArea", "(III)V"⟩
abbrev cX1_requireAmount : ByteArray := prog_1_method_32_code
def yX1_requireAmount : MethodName := ⟨RX1, "requireAmount", "(I)V"⟩
abbrev cX1_requireLevel : ByteArray := prog_1_method_33_code
def yX1_requireLevel : MethodName := ⟨RX1, "requireLevel", "(I)V"⟩
abbrev cX1_requireHours : ByteArray := prog_1_method_34_code
def yX1_requireHours : MethodName := ⟨RX1, "requireHours", "(II)V"⟩
abbrev cX1_requireStrength : ByteArray := prog_1_method_35_code
def yX1_requireStrength : MethodName := ⟨RX1, "requireStrength", "(I)V"⟩
def RX2 : String := "SandcastleLeagueModel"
def TX2 : u_T := fun k => match k with
  | 0 => ("SandcastleLeagueModel", "thrown", "I", false)
  | 1 => ("SandcastleLeagueModel", "hour", "I", false)
  | 2 => ("SandcastleLeagueModel", "teams", "I", false)
  | 3 => ("SandcastleLeagueModel", "ended", "I", false)
  | 4 => ("SandcastleLeagueModel", "lost", "I", false)
  | 5 => ("SandcastleLeagueModel", "slides", "I", false)
  | 6 => ("SandcastleLeagueModel", "fallen", "I", false)
  | 7 => ("SandcastleLeagueModel", "sand", "[I", false)
  | 8 => ("SandcastleLeagueModel", "firm", "[I", false)
  | 9 => ("SandcastleLeagueModel", "water", "[I", false)
  | 10 => ("SandcastleLeagueModel", "sticks", "[I", false)
  | 11 => ("SandcastleLeagueModel", "table", "[I", false)
  | 12 => ("SandcastleLeagueModel", "tides", "[I", true)
  | _ => ("SandcastleLeagueModel", "over", "[I", true)
def tyX2 : Nat → FieldType := fun k => match k with
  | 0 => .int
  | 1 => .int
  | 2 => .int
  | 3 => .int
  | 4 => .int
  | 5 => .int
  | 6 => .int
  | 7 => .array .int
  | 8 => .array .int
  | 9 => .array .int
  | 10 => .array .int
  | 11 => .array .int
  | 12 => .array .int
  | _ => .array .int
abbrev wsX20 : List Cond := u_ws RX2 TX2 14
theorem nmX2 : ∀ a, a < 14 → ∀ b, b < 14 → a ≠ b → (TX2 a).2.1 ≠ (TX2 b).2.1 := by decide +kernel
theorem tyX2_ok : ∀ k, k < 14 → parseFieldDescriptor (TX2 k).2.2.1 = some (tyX2 k) := by decide +kernel
abbrev cX2_init : ByteArray := prog_4_method_1_code
def yX2_init : MethodName := ⟨RX2, "<init>", "()V"⟩
abbrev cX2_fill : ByteArray := prog_4_method_2_code
def yX2_fill : MethodName := ⟨RX2, "fill", "([II)V"⟩
abbrev cX2_thrown : ByteArray := prog_4_method_3_code
def yX2_thrown : MethodName := ⟨RX2, "thrown", "()I"⟩
abbrev cX2_fail : ByteArray := prog_4_method_4_code
def yX2_fail : MethodName := ⟨RX2, "fail", "(I)I"⟩
abbrev cX2_isIn : ByteArray := prog_4_method_5_code
def yX2_isIn : MethodName := ⟨RX2, "isIn", "(III)Z"⟩
abbrev cX2_isTeam : ByteArray := prog_4_method_6_code
def yX2_isTeam : MethodName := ⟨RX2, "isTeam", "(I)Z"⟩
abbrev cX2_get : ByteArray := prog_4_method_7_code
def yX2_get : MethodName := ⟨RX2, "get", "(II)I"⟩
abbrev cX2_add : ByteArray := prog_4_method_8_code
def yX2_add : MethodName := ⟨RX2, "add", "(III)V"⟩
abbrev cX2_height : ByteArray := prog_4_method_9_code
def yX2_height : MethodName := ⟨RX2, "height", "(I)I"⟩
abbrev cX2_teamOf : ByteArray := prog_4_method_10_code
def yX2_teamOf : MethodName := ⟨RX2, "teamOf", "(I)I"⟩
abbrev cX2_beside : ByteArray := prog_4_method_11_code
def yX2_beside : MethodName := ⟨RX2, "beside", "(II)I"⟩
abbrev cX2_addTeam : ByteArray := prog_4_method_12_code
def yX2_addTeam : MethodName := ⟨RX2, "addTeam", "()I"⟩
abbrev cX2_setTide : ByteArray := prog_4_method_13_code
def yX2_setTide : MethodName := ⟨RX2, "setTide", "(II)I"⟩
abbrev cX2_deed : ByteArray := prog_4_method_14_code
def yX2_deed : MethodName := ⟨RX2, "deed", "(IIII)I"⟩
abbrev cX2_dig : ByteArray := prog_4_method_15_code
def yX2_dig : MethodName := ⟨RX2, "dig", "(IIII)I"⟩
abbrev cX2_pile : ByteArray := prog_4_method_16_code
def yX2_pile : MethodName := ⟨RX2, "pile", "(IIII)I"⟩
abbrev cX2_pack : ByteArray := prog_4_method_17_code
def yX2_pack : MethodName := ⟨RX2, "pack", "(III)I"⟩
abbrev cX2_sticksOf : ByteArray := prog_4_method_18_code
def yX2_sticksOf : MethodName := ⟨RX2, "sticksOf", "(I)I"⟩
abbrev cX2_plant : ByteArray := prog_4_method_19_code
def yX2_plant : MethodName := ⟨RX2, "plant", "(III)I"⟩
abbrev cX2_cellTold : ByteArray := prog_4_method_20_code
def yX2_cellTold : MethodName := ⟨RX2, "cellTold", "(II)I"⟩
abbrev cX2_cell : ByteArray := prog_4_method_21_code
def yX2_cell : MethodName := ⟨RX2, "cell", "(III)I"⟩
abbrev cX2_areaOf : ByteArray := prog_4_method_22_code
def yX2_areaOf : MethodName := ⟨RX2, "areaOf", "(II)I"⟩
abbrev cX2_teamTold : ByteArray := prog_4_method_23_code
def yX2_teamTold : MethodName := ⟨RX2, "teamTold", "(II)I"⟩
abbrev cX2_team : ByteArray := prog_4_method_24_code
def yX2_team : MethodName := ⟨RX2, "team", "(II)I"⟩
abbrev cX2_counted : ByteArray := prog_4_method_25_code
def yX2_counted : MethodName := ⟨RX2, "counted", "(I)I"⟩
abbrev cX2_count : ByteArray := prog_4_method_26_code
def yX2_count : MethodName := ⟨RX2, "count", "(I)I"⟩
abbrev cX2_findOver : ByteArray := prog_4_method_27_code
def yX2_findOver : MethodName := ⟨RX2, "findOver", "()V"⟩
abbrev cX2_slideAll : ByteArray := prog_4_method_28_code
def yX2_slideAll : MethodName := ⟨RX2, "slideAll", "()V"⟩
abbrev cX2_falls : ByteArray := prog_4_method_29_code
def yX2_falls : MethodName := ⟨RX2, "falls", "(II)Z"⟩
abbrev cX2_brings : ByteArray := prog_4_method_30_code
def yX2_brings : MethodName := ⟨RX2, "brings", "(I)I"⟩
abbrev cX2_hourOn : ByteArray := prog_4_method_31_code
def yX2_hourOn : MethodName := ⟨RX2, "hourOn", "()V"⟩
abbrev cX2_pass : ByteArray := prog_4_method_32_code
def yX2_pass : MethodName := ⟨RX2, "pass", "(I)I"⟩
abbrev cX2_endRound : ByteArray := prog_4_method_33_code
def yX2_endRound : MethodName := ⟨RX2, "endRound", "()I"⟩
abbrev cX2_isAhead : ByteArray := prog_4_method_34_code
def yX2_isAhead : MethodName := ⟨RX2, "isAhead", "(II)Z"⟩
abbrev cX2_leader : ByteArray := prog_4_method_35_code
def yX2_leader : MethodName := ⟨RX2, "leader", "(I)I"⟩
abbrev cX2_flood : ByteArray := prog_4_method_36_code
def yX2_flood : MethodName := ⟨RX2, "flood", "(I)I"⟩
abbrev cX2_reach : ByteArray := prog_4_method_37_code
def yX2_reach : MethodName := ⟨RX2, "reach", "(II)I"⟩
abbrev cX2_kept : ByteArray := prog_4_method_38_code
def yX2_kept : MethodName := ⟨RX2, "kept", "()[[I"⟩
abbrev cX2_bringBack : ByteArray := prog_4_method_39_code
def yX2_bringBack : MethodName := ⟨RX2, "bringBack", "([[I)V"⟩
abbrev cX2_foresee : ByteArray := prog_4_method_40_code
def yX2_foresee : MethodName := ⟨RX2, "foresee", "(III)I"⟩
abbrev cX2_advise : ByteArray := prog_4_method_41_code
def yX2_advise : MethodName := ⟨RX2, "advise", "(II)I"⟩
abbrev cX2_mean : ByteArray := prog_4_method_42_code
def yX2_mean : MethodName := ⟨RX2, "mean", "()D"⟩
abbrev cX2_digest : ByteArray := prog_4_method_43_code
def yX2_digest : MethodName := ⟨RX2, "digest", "()J"⟩
def RJx145de : String := "java/io/Serializable"
def TJx145de : u_T := fun k => match k with
  | _ => ("", "", "", false)
def tyJx145de : Nat → FieldType := fun k => match k with
  | _ => .int
abbrev wsJx145de0 : List Cond := u_ws RJx145de TJx145de 0
theorem nmJx145de : ∀ a, a < 0 → ∀ b, b < 0 → a ≠ b → (TJx145de a).2.1 ≠ (TJx145de b).2.1 := by decide +kernel
theorem tyJx145de_ok : ∀ k, k < 0 → parseFieldDescriptor (TJx145de k).2.2.1 = some (tyJx145de k) := by decide +kernel
def RJx8e188 : String := "java/lang/Cloneable"
def TJx8e188 : u_T := fun k => match k with
  | _ => ("", "", "", false)
def tyJx8e188 : Nat → FieldType := fun k => match k with
  | _ => .int
abbrev wsJx8e1880 : List Cond := u_ws RJx8e188 TJx8e188 0
theorem nmJx8e188 : ∀ a, a < 0 → ∀ b, b < 0 → a ≠ b → (TJx8e188 a).2.1 ≠ (TJx8e188 b).2.1 := by decide +kernel
theorem tyJx8e188_ok : ∀ k, k < 0 → parseFieldDescriptor (TJx8e188 k).2.2.1 = some (tyJx8e188 k) := by decide +kernel
def RJ9 : String := "java/lang/Math"
def TJ9 : u_T := fun k => match k with
  | _ => ("", "", "", false)
def tyJ9 : Nat → FieldType := fun k => match k with
  | _ => .int
abbrev wsJ90 : List Cond := u_ws RJ9 TJ9 0
theorem nmJ9 : ∀ a, a < 0 → ∀ b, b < 0 → a ≠ b → (TJ9 a).2.1 ≠ (TJ9 b).2.1 := by decide +kernel
theorem tyJ9_ok : ∀ k, k < 0 → parseFieldDescriptor (TJ9 k).2.2.1 = some (tyJ9 k) := by decide +kernel
abbrev cJ9_floorMod_7cf53 : ByteArray := prog_10_method_50_code
def yJ9_floorMod_7cf53 : MethodName := ⟨RJ9, "floorMod", "(II)I"⟩
abbrev cJ9_max_7cf53 : ByteArray := prog_10_method_65_code
def yJ9_max_7cf53 : MethodName := ⟨RJ9, "max", "(II)I"⟩
abbrev cJ9_min_7cf53 : ByteArray := prog_10_method_69_code
def yJ9_min_7cf53 : MethodName := ⟨RJ9, "min", "(II)I"⟩
def RJ0 : String := "java/lang/String"
def TJ0 : u_T := fun k => match k with
  | _ => ("", "", "", false)
def tyJ0 : Nat → FieldType := fun k => match k with
  | _ => .int
abbrev wsJ00 : List Cond := u_ws RJ0 TJ0 0
theorem nmJ0 : ∀ a, a < 0 → ∀ b, b < 0 → a ≠ b → (TJ0 a).2.1 ≠ (TJ0 b).2.1 := by decide +kernel
theorem tyJ0_ok : ∀ k, k < 0 → parseFieldDescriptor (TJ0 k).2.2.1 = some (tyJ0 k) := by decide +kernel
def RJ10 : String := "java/lang/System"
def TJ10 : u_T := fun k => match k with
  | _ => ("", "", "", false)
def tyJ10 : Nat → FieldType := fun k => match k with
  | _ => .int
abbrev wsJ100 : List Cond := u_ws RJ10 TJ10 0
theorem nmJ10 : ∀ a, a < 0 → ∀ b, b < 0 → a ≠ b → (TJ10 a).2.1 ≠ (TJ10 b).2.1 := by decide +kernel
theorem tyJ10_ok : ∀ k, k < 0 → parseFieldDescriptor (TJ10 k).2.2.1 = some (tyJ10 k) := by decide +kernel
def RJ7 : String := "java/util/Arrays"
def TJ7 : u_T := fun k => match k with
  | _ => ("", "", "", false)
def tyJ7 : Nat → FieldType := fun k => match k with
  | _ => .int
abbrev wsJ70 : List Cond := u_ws RJ7 TJ7 0
theorem nmJ7 : ∀ a, a < 0 → ∀ b, b < 0 → a ≠ b → (TJ7 a).2.1 ≠ (TJ7 b).2.1 := by decide +kernel
theorem tyJ7_ok : ∀ k, k < 0 → parseFieldDescriptor (TJ7 k).2.2.1 = some (tyJ7 k) := by decide +kernel
abbrev cJ7_fill_53178 : ByteArray := prog_15_method_103_code
def yJ7_fill_53178 : MethodName := ⟨RJ7, "fill", "([II)V"⟩
def RL : String := "SandcastleLeagueLaw"
abbrev cL_addTeam : ByteArray := method_3_code
def yL_addTeam : MethodName := ⟨RL, "addTeam", "(LSandcastleLeague;[J)I"⟩
abbrev cL_setTide : ByteArray := method_4_code
def yL_setTide : MethodName := ⟨RL, "setTide", "(LSandcastleLeague;II[J)I"⟩
abbrev cL_dig : ByteArray := method_5_code
def yL_dig : MethodName := ⟨RL, "dig", "(LSandcastleLeague;IIII[J)I"⟩
abbrev cL_pile : ByteArray := method_6_code
def yL_pile : MethodName := ⟨RL, "pile", "(LSandcastleLeague;IIII[J)I"⟩
abbrev cL_pack : ByteArray := method_7_code
def yL_pack : MethodName := ⟨RL, "pack", "(LSandcastleLeague;III[J)I"⟩
abbrev cL_plant : ByteArray := method_8_code
def yL_plant : MethodName := ⟨RL, "plant", "(LSandcastleLeague;III[J)I"⟩
abbrev cL_cell : ByteArray := method_9_code
def yL_cell : MethodName := ⟨RL, "cell", "(LSandcastleLeague;III[J)I"⟩
abbrev cL_team : ByteArray := method_10_code
def yL_team : MethodName := ⟨RL, "team", "(LSandcastleLeague;II[J)I"⟩
abbrev cL_count : ByteArray := method_11_code
def yL_count : MethodName := ⟨RL, "count", "(LSandcastleLeague;I[J)I"⟩
abbrev cL_pass : ByteArray := method_12_code
def yL_pass : MethodName := ⟨RL, "pass", "(LSandcastleLeague;I[J)I"⟩
abbrev cL_leader : ByteArray := method_13_code
def yL_leader : MethodName := ⟨RL, "leader", "(LSandcastleLeague;I[J)I"⟩
abbrev cL_flood : ByteArray := method_14_code
def yL_flood : MethodName := ⟨RL, "flood", "(LSandcastleLeague;I[J)I"⟩
abbrev cL_reach : ByteArray := method_15_code
def yL_reach : MethodName := ⟨RL, "reach", "(LSandcastleLeague;II[J)I"⟩
abbrev cL_foresee : ByteArray := method_16_code
def yL_foresee : MethodName := ⟨RL, "foresee", "(LSandcastleLeague;III[J)I"⟩
abbrev cL_advise : ByteArray := method_17_code
def yL_advise : MethodName := ⟨RL, "advise", "(LSandcastleLeague;II[J)I"⟩
abbrev cL_law : ByteArray := code
def yL_law : MethodName := ⟨RL, "law", "([I)Z"⟩
def wsX0_init : List Cond := .code yX0_init cX0_init 1 none :: ([.methodLink RX0 3 objectInit, .instanceMethod objectInit, .code objectInit ⟨#[0xb1]⟩ 1 none, .arrayClass .int, .fieldLink RX0 9 "SandcastleLeague$Shore" "sand" "[I", .fieldLink RX0 15 "SandcastleLeague$Shore" "firmness" "[I", .fieldLink RX0 18 "SandcastleLeague$Shore" "water" "[I", .fieldLink RX0 21 "SandcastleLeague$Shore" "owner" "[I", .fieldLink RX0 24 "SandcastleLeague$Shore" "plantedHeight" "[I", .fieldLink RX0 27 "SandcastleLeague$Shore" "points" "[I"] ++ wsX00)
def wsJ7_fill_53178 : List Cond := .code yJ7_fill_53178 cJ7_fill_53178 4 none :: ([])
def wsX0_clearSticks : List Cond := .code yX0_clearSticks cX0_clearSticks 1 none :: ([.fieldLink RX0 21 "SandcastleLeague$Shore" "owner" "[I", .fieldLink RX0 24 "SandcastleLeague$Shore" "plantedHeight" "[I", .fieldLink RX0 27 "SandcastleLeague$Shore" "points" "[I", .methodLink RX0 30 yJ7_fill_53178, .static yJ7_fill_53178, .initialized RJ7, .code yJ7_fill_53178 cJ7_fill_53178 4 none] ++ wsX00)
def wsX0_begin : List Cond := .code yX0_begin cX0_begin 1 none :: ([.fieldLink RX0 9 "SandcastleLeague$Shore" "sand" "[I", .fieldLink RX0 15 "SandcastleLeague$Shore" "firmness" "[I", .fieldLink RX0 18 "SandcastleLeague$Shore" "water" "[I", .fieldLink RX0 39 "SandcastleLeague$Shore" "lostSand" "I", .fieldLink RX0 43 "SandcastleLeague$Shore" "slides" "I", .fieldLink RX0 46 "SandcastleLeague$Shore" "fallenSticks" "I", .methodLink RX0 30 yJ7_fill_53178, .static yJ7_fill_53178, .initialized RJ7, .code yJ7_fill_53178 cJ7_fill_53178 4 none, .methodLink RX0 36 yX0_clearSticks, .instanceMethod yX0_clearSticks, .selects RX0 yX0_clearSticks yX0_clearSticks, .initialized RX0, .code yX0_clearSticks cX0_clearSticks 1 none, .fieldLink RX0 21 "SandcastleLeague$Shore" "owner" "[I", .fieldLink RX0 24 "SandcastleLeague$Shore" "plantedHeight" "[I", .fieldLink RX0 27 "SandcastleLeague$Shore" "points" "[I"] ++ wsX00)
def wsX0_become : List Cond := .code yX0_become cX0_become 2 none :: ([.fieldLink RX0 9 "SandcastleLeague$Shore" "sand" "[I", .methodLink RX0 49 arraycopyName, .native arraycopyName, .static arraycopyName, .initialized "java/lang/System", .fieldLink RX0 15 "SandcastleLeague$Shore" "firmness" "[I", .fieldLink RX0 18 "SandcastleLeague$Shore" "water" "[I", .fieldLink RX0 21 "SandcastleLeague$Shore" "owner" "[I", .fieldLink RX0 24 "SandcastleLeague$Shore" "plantedHeight" "[I", .fieldLink RX0 27 "SandcastleLeague$Shore" "points" "[I", .fieldLink RX0 39 "SandcastleLeague$Shore" "lostSand" "I", .fieldLink RX0 43 "SandcastleLeague$Shore" "slides" "I", .fieldLink RX0 46 "SandcastleLeague$Shore" "fallenSticks" "I"] ++ wsX00)
def wsX0_takeSand : List Cond := .code yX0_takeSand cX0_takeSand 4 (some .int) :: ([.fieldLink RX0 9 "SandcastleLeague$Shore" "sand" "[I", .methodLink RX0 55 Lib.Math.min.name, .static Lib.Math.min.name, .initialized "java/lang/Math", .code Lib.Math.min.name Lib.Math.min.code 2 (some .int), .fieldLink RX0 15 "SandcastleLeague$Shore" "firmness" "[I"] ++ wsX00)
def wsX0_soften : List Cond := .code yX0_soften cX0_soften 2 none :: ([.fieldLink RX0 15 "SandcastleLeague$Shore" "firmness" "[I"] ++ wsX00)
def wsX0_putSand : List Cond := .code yX0_putSand cX0_putSand 4 (some .int) :: ([.fieldLink RX0 9 "SandcastleLeague$Shore" "sand" "[I", .methodLink RX0 55 Lib.Math.min.name, .static Lib.Math.min.name, .initialized "java/lang/Math", .code Lib.Math.min.name Lib.Math.min.code 2 (some .int), .methodLink RX0 61 yX0_soften, .instanceMethod yX0_soften, .selects RX0 yX0_soften yX0_soften, .initialized RX0, .code yX0_soften cX0_soften 2 none, .fieldLink RX0 15 "SandcastleLeague$Shore" "firmness" "[I"] ++ wsX00)
def wsX0_isWet : List Cond := .code yX0_isWet cX0_isWet 2 (some .boolean) :: ([.fieldLink RX0 18 "SandcastleLeague$Shore" "water" "[I"] ++ wsX00)
def wsX0_harden : List Cond := .code yX0_harden cX0_harden 2 (some .int) :: ([.fieldLink RX0 9 "SandcastleLeague$Shore" "sand" "[I", .fieldLink RX0 15 "SandcastleLeague$Shore" "firmness" "[I", .methodLink RX0 65 yX0_isWet, .instanceMethod yX0_isWet, .selects RX0 yX0_isWet yX0_isWet, .initialized RX0, .code yX0_isWet cX0_isWet 2 (some .boolean), .fieldLink RX0 18 "SandcastleLeague$Shore" "water" "[I"] ++ wsX00)
def wsX0_height : List Cond := .code yX0_height cX0_height 2 (some .int) :: ([.fieldLink RX0 9 "SandcastleLeague$Shore" "sand" "[I"] ++ wsX00)
def wsX0_putStick : List Cond := .code yX0_putStick cX0_putStick 3 none :: ([.fieldLink RX0 21 "SandcastleLeague$Shore" "owner" "[I", .fieldLink RX0 24 "SandcastleLeague$Shore" "plantedHeight" "[I", .methodLink RX0 69 yX0_height, .instanceMethod yX0_height, .selects RX0 yX0_height yX0_height, .initialized RX0, .code yX0_height cX0_height 2 (some .int), .fieldLink RX0 9 "SandcastleLeague$Shore" "sand" "[I"] ++ wsX00)
def wsX0_beside : List Cond := .code yX0_beside cX0_beside 3 (some .int) :: ([])
def wsX0_isOpenToSea : List Cond := .code yX0_isOpenToSea cX0_isOpenToSea 4 (some .boolean) :: ([.methodLink RX0 92 yX0_beside, .static yX0_beside, .initialized RX0, .code yX0_beside cX0_beside 3 (some .int), .methodLink RX0 65 yX0_isWet, .instanceMethod yX0_isWet, .selects RX0 yX0_isWet yX0_isWet, .code yX0_isWet cX0_isWet 2 (some .boolean), .fieldLink RX0 18 "SandcastleLeague$Shore" "water" "[I"] ++ wsX00)
def wsX0_sweepWater : List Cond := .code yX0_sweepWater cX0_sweepWater 4 (some .boolean) :: ([.fieldLink RX0 18 "SandcastleLeague$Shore" "water" "[I", .methodLink RX0 65 yX0_isWet, .instanceMethod yX0_isWet, .selects RX0 yX0_isWet yX0_isWet, .initialized RX0, .code yX0_isWet cX0_isWet 2 (some .boolean), .methodLink RX0 69 yX0_height, .instanceMethod yX0_height, .selects RX0 yX0_height yX0_height, .code yX0_height cX0_height 2 (some .int), .fieldLink RX0 9 "SandcastleLeague$Shore" "sand" "[I", .methodLink RX0 89 yX0_isOpenToSea, .instanceMethod yX0_isOpenToSea, .selects RX0 yX0_isOpenToSea yX0_isOpenToSea, .code yX0_isOpenToSea cX0_isOpenToSea 4 (some .boolean), .methodLink RX0 92 yX0_beside, .static yX0_beside, .code yX0_beside cX0_beside 3 (some .int)] ++ wsX00)
def wsX0_findWater_r1 : List Cond := [Cond.fieldLink RX0 18 "SandcastleLeague$Shore" "water" "[I", Cond.methodLink RX0 30 yJ7_fill_53178, Cond.static yJ7_fill_53178, Cond.initialized RJ7, Cond.code yJ7_fill_53178 cJ7_fill_53178 4 none, Cond.methodLink RX0 86 yX0_sweepWater, Cond.instanceMethod yX0_sweepWater, Cond.selects RX0 yX0_sweepWater yX0_sweepWater, Cond.initialized RX0, Cond.code yX0_sweepWater cX0_sweepWater 4 (some .boolean), Cond.methodLink RX0 65 yX0_isWet, Cond.instanceMethod yX0_isWet, Cond.selects RX0 yX0_isWet yX0_isWet, Cond.code yX0_isWet cX0_isWet 2 (some .boolean), Cond.methodLink RX0 69 yX0_height, Cond.instanceMethod yX0_height, Cond.selects RX0 yX0_height yX0_height, Cond.code yX0_height cX0_height 2 (some .int), Cond.fieldLink RX0 9 "SandcastleLeague$Shore" "sand" "[I", Cond.methodLink RX0 89 yX0_isOpenToSea, Cond.instanceMethod yX0_isOpenToSea, Cond.selects RX0 yX0_isOpenToSea yX0_isOpenToSea, Cond.code yX0_isOpenToSea cX0_isOpenToSea 4 (some .boolean), Cond.methodLink RX0 92 yX0_beside]
def wsX0_findWater_r2 : List Cond := [Cond.static yX0_beside, Cond.code yX0_beside cX0_beside 3 (some .int)]
def wsX0_findWater : List Cond := .code yX0_findWater cX0_findWater 4 none :: ((wsX0_findWater_r1 ++ wsX0_findWater_r2) ++ wsX00)
def wsX0_washSandAway : List Cond := .code yX0_washSandAway cX0_washSandAway 4 none :: ([.fieldLink RX0 15 "SandcastleLeague$Shore" "firmness" "[I", .methodLink RX0 95 Lib.Math.max.name, .static Lib.Math.max.name, .initialized "java/lang/Math", .code Lib.Math.max.name Lib.Math.max.code 2 (some .int), .fieldLink RX0 9 "SandcastleLeague$Shore" "sand" "[I", .methodLink RX0 55 Lib.Math.min.name, .static Lib.Math.min.name, .code Lib.Math.min.name Lib.Math.min.code 2 (some .int), .fieldLink RX0 39 "SandcastleLeague$Shore" "lostSand" "I", .methodLink RX0 65 yX0_isWet, .instanceMethod yX0_isWet, .selects RX0 yX0_isWet yX0_isWet, .initialized RX0, .code yX0_isWet cX0_isWet 2 (some .boolean), .fieldLink RX0 18 "SandcastleLeague$Shore" "water" "[I", .methodLink RX0 69 yX0_height, .instanceMethod yX0_height, .selects RX0 yX0_height yX0_height, .code yX0_height cX0_height 2 (some .int), .methodLink RX0 61 yX0_soften, .instanceMethod yX0_soften, .selects RX0 yX0_soften yX0_soften, .code yX0_soften cX0_soften 2 none] ++ wsX00)
def wsX0_lowestBeside : List Cond := .code yX0_lowestBeside cX0_lowestBeside 5 (some .int) :: ([.methodLink RX0 92 yX0_beside, .static yX0_beside, .initialized RX0, .code yX0_beside cX0_beside 3 (some .int), .methodLink RX0 69 yX0_height, .instanceMethod yX0_height, .selects RX0 yX0_height yX0_height, .code yX0_height cX0_height 2 (some .int), .fieldLink RX0 9 "SandcastleLeague$Shore" "sand" "[I"] ++ wsX00)
def wsX0_slidesTo : List Cond := .code yX0_slidesTo cX0_slidesTo 3 (some .boolean) :: ([.fieldLink RX0 9 "SandcastleLeague$Shore" "sand" "[I", .fieldLink RX0 15 "SandcastleLeague$Shore" "firmness" "[I", .methodLink RX0 69 yX0_height, .instanceMethod yX0_height, .selects RX0 yX0_height yX0_height, .initialized RX0, .code yX0_height cX0_height 2 (some .int)] ++ wsX00)
def wsX0_slideOnce : List Cond := .code yX0_slideOnce cX0_slideOnce 4 (some .int) :: ([.fieldLink RX0 9 "SandcastleLeague$Shore" "sand" "[I", .methodLink RX0 101 yX0_lowestBeside, .instanceMethod yX0_lowestBeside, .selects RX0 yX0_lowestBeside yX0_lowestBeside, .initialized RX0, .code yX0_lowestBeside cX0_lowestBeside 5 (some .int), .methodLink RX0 92 yX0_beside, .static yX0_beside, .code yX0_beside cX0_beside 3 (some .int), .methodLink RX0 69 yX0_height, .instanceMethod yX0_height, .selects RX0 yX0_height yX0_height, .code yX0_height cX0_height 2 (some .int), .methodLink RX0 104 yX0_slidesTo, .instanceMethod yX0_slidesTo, .selects RX0 yX0_slidesTo yX0_slidesTo, .code yX0_slidesTo cX0_slidesTo 3 (some .boolean), .fieldLink RX0 15 "SandcastleLeague$Shore" "firmness" "[I"] ++ wsX00)
def wsX0_letSandSlide : List Cond := .code yX0_letSandSlide cX0_letSandSlide 4 (some .int) :: ([.methodLink RX0 98 yX0_slideOnce, .instanceMethod yX0_slideOnce, .selects RX0 yX0_slideOnce yX0_slideOnce, .initialized RX0, .code yX0_slideOnce cX0_slideOnce 4 (some .int), .fieldLink RX0 9 "SandcastleLeague$Shore" "sand" "[I", .methodLink RX0 101 yX0_lowestBeside, .instanceMethod yX0_lowestBeside, .selects RX0 yX0_lowestBeside yX0_lowestBeside, .code yX0_lowestBeside cX0_lowestBeside 5 (some .int), .methodLink RX0 92 yX0_beside, .static yX0_beside, .code yX0_beside cX0_beside 3 (some .int), .methodLink RX0 69 yX0_height, .instanceMethod yX0_height, .selects RX0 yX0_height yX0_height, .code yX0_height cX0_height 2 (some .int), .methodLink RX0 104 yX0_slidesTo, .instanceMethod yX0_slidesTo, .selects RX0 yX0_slidesTo yX0_slidesTo, .code yX0_slidesTo cX0_slidesTo 3 (some .boolean), .fieldLink RX0 15 "SandcastleLeague$Shore" "firmness" "[I"] ++ wsX00)
def wsX0_judgeSticks : List Cond := .code yX0_judgeSticks cX0_judgeSticks 3 none :: ([.fieldLink RX0 21 "SandcastleLeague$Shore" "owner" "[I", .fieldLink RX0 24 "SandcastleLeague$Shore" "plantedHeight" "[I", .fieldLink RX0 46 "SandcastleLeague$Shore" "fallenSticks" "I", .fieldLink RX0 27 "SandcastleLeague$Shore" "points" "[I", .fieldLink RX0 9 "SandcastleLeague$Shore" "sand" "[I", .methodLink RX0 65 yX0_isWet, .instanceMethod yX0_isWet, .selects RX0 yX0_isWet yX0_isWet, .initialized RX0, .code yX0_isWet cX0_isWet 2 (some .boolean), .fieldLink RX0 18 "SandcastleLeague$Shore" "water" "[I", .methodLink RX0 69 yX0_height, .instanceMethod yX0_height, .selects RX0 yX0_height yX0_height, .code yX0_height cX0_height 2 (some .int)] ++ wsX00)
def wsX0_letHourGoBy_r1 : List Cond := [Cond.fieldLink RX0 43 "SandcastleLeague$Shore" "slides" "I", Cond.methodLink RX0 73 yX0_findWater, Cond.instanceMethod yX0_findWater, Cond.selects RX0 yX0_findWater yX0_findWater, Cond.initialized RX0, Cond.code yX0_findWater cX0_findWater 4 none, Cond.fieldLink RX0 18 "SandcastleLeague$Shore" "water" "[I", Cond.methodLink RX0 30 yJ7_fill_53178, Cond.static yJ7_fill_53178, Cond.initialized RJ7, Cond.code yJ7_fill_53178 cJ7_fill_53178 4 none, Cond.methodLink RX0 86 yX0_sweepWater, Cond.instanceMethod yX0_sweepWater, Cond.selects RX0 yX0_sweepWater yX0_sweepWater, Cond.code yX0_sweepWater cX0_sweepWater 4 (some .boolean), Cond.methodLink RX0 65 yX0_isWet, Cond.instanceMethod yX0_isWet, Cond.selects RX0 yX0_isWet yX0_isWet, Cond.code yX0_isWet cX0_isWet 2 (some .boolean), Cond.methodLink RX0 69 yX0_height, Cond.instanceMethod yX0_height, Cond.selects RX0 yX0_height yX0_height, Cond.code yX0_height cX0_height 2 (some .int), Cond.fieldLink RX0 9 "SandcastleLeague$Shore" "sand" "[I"]
def wsX0_letHourGoBy_r2 : List Cond := [Cond.methodLink RX0 89 yX0_isOpenToSea, Cond.instanceMethod yX0_isOpenToSea, Cond.selects RX0 yX0_isOpenToSea yX0_isOpenToSea, Cond.code yX0_isOpenToSea cX0_isOpenToSea 4 (some .boolean), Cond.methodLink RX0 92 yX0_beside, Cond.static yX0_beside, Cond.code yX0_beside cX0_beside 3 (some .int), Cond.methodLink RX0 76 yX0_washSandAway, Cond.instanceMethod yX0_washSandAway, Cond.selects RX0 yX0_washSandAway yX0_washSandAway, Cond.code yX0_washSandAway cX0_washSandAway 4 none, Cond.fieldLink RX0 15 "SandcastleLeague$Shore" "firmness" "[I", Cond.methodLink RX0 95 Lib.Math.max.name, Cond.static Lib.Math.max.name, Cond.initialized "java/lang/Math", Cond.code Lib.Math.max.name Lib.Math.max.code 2 (some .int), Cond.methodLink RX0 55 Lib.Math.min.name, Cond.static Lib.Math.min.name, Cond.code Lib.Math.min.name Lib.Math.min.code 2 (some .int), Cond.fieldLink RX0 39 "SandcastleLeague$Shore" "lostSand" "I", Cond.methodLink RX0 61 yX0_soften, Cond.instanceMethod yX0_soften, Cond.selects RX0 yX0_soften yX0_soften, Cond.code yX0_soften cX0_soften 2 none]
def wsX0_letHourGoBy_r3 : List Cond := [Cond.methodLink RX0 79 yX0_letSandSlide, Cond.instanceMethod yX0_letSandSlide, Cond.selects RX0 yX0_letSandSlide yX0_letSandSlide, Cond.code yX0_letSandSlide cX0_letSandSlide 4 (some .int), Cond.methodLink RX0 98 yX0_slideOnce, Cond.instanceMethod yX0_slideOnce, Cond.selects RX0 yX0_slideOnce yX0_slideOnce, Cond.code yX0_slideOnce cX0_slideOnce 4 (some .int), Cond.methodLink RX0 101 yX0_lowestBeside, Cond.instanceMethod yX0_lowestBeside, Cond.selects RX0 yX0_lowestBeside yX0_lowestBeside, Cond.code yX0_lowestBeside cX0_lowestBeside 5 (some .int), Cond.methodLink RX0 104 yX0_slidesTo, Cond.instanceMethod yX0_slidesTo, Cond.selects RX0 yX0_slidesTo yX0_slidesTo, Cond.code yX0_slidesTo cX0_slidesTo 3 (some .boolean), Cond.methodLink RX0 83 yX0_judgeSticks, Cond.instanceMethod yX0_judgeSticks, Cond.selects RX0 yX0_judgeSticks yX0_judgeSticks, Cond.code yX0_judgeSticks cX0_judgeSticks 3 none, Cond.fieldLink RX0 21 "SandcastleLeague$Shore" "owner" "[I", Cond.fieldLink RX0 24 "SandcastleLeague$Shore" "plantedHeight" "[I", Cond.fieldLink RX0 46 "SandcastleLeague$Shore" "fallenSticks" "I", Cond.fieldLink RX0 27 "SandcastleLeague$Shore" "points" "[I"]
def wsX0_letHourGoBy : List Cond := .code yX0_letHourGoBy cX0_letHourGoBy 2 none :: ((wsX0_letHourGoBy_r1 ++ (wsX0_letHourGoBy_r2 ++ wsX0_letHourGoBy_r3)) ++ wsX00)
def wsX0_hasStick : List Cond := .code yX0_hasStick cX0_hasStick 2 (some .boolean) :: ([.fieldLink RX0 21 "SandcastleLeague$Shore" "owner" "[I"] ++ wsX00)
def wsX0_isFree : List Cond := .code yX0_isFree cX0_isFree 2 (some .boolean) :: ([.methodLink RX0 108 yX0_hasStick, .instanceMethod yX0_hasStick, .selects RX0 yX0_hasStick yX0_hasStick, .initialized RX0, .code yX0_hasStick cX0_hasStick 2 (some .boolean), .fieldLink RX0 21 "SandcastleLeague$Shore" "owner" "[I", .methodLink RX0 65 yX0_isWet, .instanceMethod yX0_isWet, .selects RX0 yX0_isWet yX0_isWet, .code yX0_isWet cX0_isWet 2 (some .boolean), .fieldLink RX0 18 "SandcastleLeague$Shore" "water" "[I"] ++ wsX00)
def wsX0_tellCell : List Cond := .code yX0_tellCell cX0_tellCell 3 (some .int) :: ([.fieldLink RX0 9 "SandcastleLeague$Shore" "sand" "[I", .fieldLink RX0 15 "SandcastleLeague$Shore" "firmness" "[I", .fieldLink RX0 18 "SandcastleLeague$Shore" "water" "[I", .fieldLink RX0 24 "SandcastleLeague$Shore" "plantedHeight" "[I", .methodLink RX0 69 yX0_height, .instanceMethod yX0_height, .selects RX0 yX0_height yX0_height, .initialized RX0, .code yX0_height cX0_height 2 (some .int), .methodLink RX0 108 yX0_hasStick, .instanceMethod yX0_hasStick, .selects RX0 yX0_hasStick yX0_hasStick, .code yX0_hasStick cX0_hasStick 2 (some .boolean), .fieldLink RX0 21 "SandcastleLeague$Shore" "owner" "[I"] ++ wsX00)
def wsX0_pointsOf : List Cond := .code yX0_pointsOf cX0_pointsOf 2 (some .int) :: ([.fieldLink RX0 27 "SandcastleLeague$Shore" "points" "[I"] ++ wsX00)
def wsX0_sticksOf : List Cond := .code yX0_sticksOf cX0_sticksOf 4 (some .int) :: ([.fieldLink RX0 21 "SandcastleLeague$Shore" "owner" "[I"] ++ wsX00)
def wsX1_isInArea : List Cond := .code yX1_isInArea cX1_isInArea 2 (some .boolean) :: ([])
def wsX0_sumOfArea : List Cond := .code yX0_sumOfArea cX0_sumOfArea 4 (some .int) :: ([.static yX1_isInArea, .initialized RX1, .code yX1_isInArea cX1_isInArea 2 (some .boolean)])
def wsX0_sandOfArea : List Cond := .code yX0_sandOfArea cX0_sandOfArea 2 (some .int) :: ([.fieldLink RX0 9 "SandcastleLeague$Shore" "sand" "[I", .methodLink RX0 111 yX0_sumOfArea, .static yX0_sumOfArea, .initialized RX0, .code yX0_sumOfArea cX0_sumOfArea 4 (some .int), .static yX1_isInArea, .initialized RX1, .code yX1_isInArea cX1_isInArea 2 (some .boolean)] ++ wsX00)
def wsX0_waterOfArea : List Cond := .code yX0_waterOfArea cX0_waterOfArea 2 (some .int) :: ([.fieldLink RX0 18 "SandcastleLeague$Shore" "water" "[I", .methodLink RX0 111 yX0_sumOfArea, .static yX0_sumOfArea, .initialized RX0, .code yX0_sumOfArea cX0_sumOfArea 4 (some .int), .static yX1_isInArea, .initialized RX1, .code yX1_isInArea cX1_isInArea 2 (some .boolean)] ++ wsX00)
def wsX0_greatestHeightOfArea : List Cond := .code yX0_greatestHeightOfArea cX0_greatestHeightOfArea 4 (some .int) :: ([.methodLink RX0 95 Lib.Math.max.name, .static Lib.Math.max.name, .initialized "java/lang/Math", .code Lib.Math.max.name Lib.Math.max.code 2 (some .int), .static yX1_isInArea, .initialized RX1, .code yX1_isInArea cX1_isInArea 2 (some .boolean), .methodLink RX0 69 yX0_height, .instanceMethod yX0_height, .selects RX0 yX0_height yX0_height, .initialized RX0, .code yX0_height cX0_height 2 (some .int), .fieldLink RX0 9 "SandcastleLeague$Shore" "sand" "[I"] ++ wsX00)
def wsX0_sum : List Cond := .code yX0_sum cX0_sum 6 (some .int) :: ([])
def wsX0_allSand : List Cond := .code yX0_allSand cX0_allSand 1 (some .int) :: ([.fieldLink RX0 9 "SandcastleLeague$Shore" "sand" "[I", .methodLink RX0 118 yX0_sum, .static yX0_sum, .initialized RX0, .code yX0_sum cX0_sum 6 (some .int)] ++ wsX00)
def wsX0_allWater : List Cond := .code yX0_allWater cX0_allWater 1 (some .int) :: ([.fieldLink RX0 18 "SandcastleLeague$Shore" "water" "[I", .methodLink RX0 118 yX0_sum, .static yX0_sum, .initialized RX0, .code yX0_sum cX0_sum 6 (some .int)] ++ wsX00)
def wsX0_allHeights : List Cond := .code yX0_allHeights cX0_allHeights 3 (some .int) :: ([.methodLink RX0 69 yX0_height, .instanceMethod yX0_height, .selects RX0 yX0_height yX0_height, .initialized RX0, .code yX0_height cX0_height 2 (some .int), .fieldLink RX0 9 "SandcastleLeague$Shore" "sand" "[I"] ++ wsX00)
def wsX0_allSticks : List Cond := .code yX0_allSticks cX0_allSticks 3 (some .int) :: ([.methodLink RX0 108 yX0_hasStick, .instanceMethod yX0_hasStick, .selects RX0 yX0_hasStick yX0_hasStick, .initialized RX0, .code yX0_hasStick cX0_hasStick 2 (some .boolean), .fieldLink RX0 21 "SandcastleLeague$Shore" "owner" "[I"] ++ wsX00)
def wsX1_beginRound_r1 : List Cond := [Cond.fieldLink RX1 10 "SandcastleLeague" "shore" "LSandcastleLeague$Shore;", Cond.fieldLink RX1 31 "SandcastleLeague" "bucket" "[I", Cond.fieldLink RX1 34 "SandcastleLeague" "strength" "[I", Cond.methodLink RX1 209 yX0_begin, Cond.instanceMethod yX0_begin, Cond.selects RX0 yX0_begin yX0_begin, Cond.initialized RX0, Cond.code yX0_begin cX0_begin 1 none, Cond.fieldLink RX0 9 "SandcastleLeague$Shore" "sand" "[I", Cond.fieldLink RX0 15 "SandcastleLeague$Shore" "firmness" "[I", Cond.fieldLink RX0 18 "SandcastleLeague$Shore" "water" "[I", Cond.fieldLink RX0 39 "SandcastleLeague$Shore" "lostSand" "I", Cond.fieldLink RX0 43 "SandcastleLeague$Shore" "slides" "I", Cond.fieldLink RX0 46 "SandcastleLeague$Shore" "fallenSticks" "I", Cond.methodLink RX0 30 yJ7_fill_53178, Cond.static yJ7_fill_53178, Cond.initialized RJ7, Cond.code yJ7_fill_53178 cJ7_fill_53178 4 none, Cond.methodLink RX0 36 yX0_clearSticks, Cond.instanceMethod yX0_clearSticks, Cond.selects RX0 yX0_clearSticks yX0_clearSticks, Cond.code yX0_clearSticks cX0_clearSticks 1 none, Cond.fieldLink RX0 21 "SandcastleLeague$Shore" "owner" "[I", Cond.fieldLink RX0 24 "SandcastleLeague$Shore" "plantedHeight" "[I"]
def wsX1_beginRound_r2 : List Cond := [Cond.fieldLink RX0 27 "SandcastleLeague$Shore" "points" "[I", Cond.methodLink RX1 163 yJ7_fill_53178]
def wsX1_beginRound : List Cond := .code yX1_beginRound cX1_beginRound 1 none :: ((wsX1_beginRound_r1 ++ wsX1_beginRound_r2) ++ wsX10 ++ wsX00)
def wsX1_init_r1 : List Cond := [Cond.methodLink RX1 1 objectInit, Cond.instanceMethod objectInit, Cond.code objectInit ⟨#[0xb1]⟩ 1 none, Cond.classLink RX1 7 RX0, Cond.instantiable RX0 9, Cond.initialized RX0, Cond.fieldLink RX1 10 "SandcastleLeague" "shore" "LSandcastleLeague$Shore;", Cond.fieldLink RX1 16 "SandcastleLeague" "trial" "LSandcastleLeague$Shore;", Cond.fieldLink RX1 19 "SandcastleLeague" "FIRST_TIDES" "[I", Cond.methodLink RX1 23 ⟨"[I", "clone", "()Ljava/lang/Object;"⟩, Cond.sameMethod "[I" "java/lang/Object" "clone" "()Ljava/lang/Object;", Cond.native ⟨"java/lang/Object", "clone", "()Ljava/lang/Object;"⟩, Cond.instanceMethod ⟨"java/lang/Object", "clone", "()Ljava/lang/Object;"⟩, Cond.selects "[I" ⟨"[I", "clone", "()Ljava/lang/Object;"⟩ ⟨"java/lang/Object", "clone", "()Ljava/lang/Object;"⟩, Cond.classLink RX1 24 "[I", Cond.fieldLink RX1 28 "SandcastleLeague" "tides" "[I", Cond.arrayClass .int, Cond.fieldLink RX1 31 "SandcastleLeague" "bucket" "[I", Cond.fieldLink RX1 34 "SandcastleLeague" "strength" "[I", Cond.fieldLink RX1 37 "SandcastleLeague" "leaguePoints" "[I", Cond.instanceMethod yX0_init, Cond.code yX0_init cX0_init 1 none, Cond.methodLink RX0 3 objectInit, Cond.fieldLink RX0 9 "SandcastleLeague$Shore" "sand" "[I"]
def wsX1_init_r2 : List Cond := [Cond.fieldLink RX0 15 "SandcastleLeague$Shore" "firmness" "[I", Cond.fieldLink RX0 18 "SandcastleLeague$Shore" "water" "[I", Cond.fieldLink RX0 21 "SandcastleLeague$Shore" "owner" "[I", Cond.fieldLink RX0 24 "SandcastleLeague$Shore" "plantedHeight" "[I", Cond.fieldLink RX0 27 "SandcastleLeague$Shore" "points" "[I", Cond.methodLink RX1 40 yX1_beginRound, Cond.instanceMethod yX1_beginRound, Cond.selects RX1 yX1_beginRound yX1_beginRound, Cond.initialized RX1, Cond.code yX1_beginRound cX1_beginRound 1 none, Cond.methodLink RX1 209 yX0_begin, Cond.instanceMethod yX0_begin, Cond.selects RX0 yX0_begin yX0_begin, Cond.code yX0_begin cX0_begin 1 none, Cond.fieldLink RX0 39 "SandcastleLeague$Shore" "lostSand" "I", Cond.fieldLink RX0 43 "SandcastleLeague$Shore" "slides" "I", Cond.fieldLink RX0 46 "SandcastleLeague$Shore" "fallenSticks" "I", Cond.methodLink RX0 30 yJ7_fill_53178, Cond.static yJ7_fill_53178, Cond.initialized RJ7, Cond.code yJ7_fill_53178 cJ7_fill_53178 4 none, Cond.methodLink RX0 36 yX0_clearSticks, Cond.instanceMethod yX0_clearSticks, Cond.selects RX0 yX0_clearSticks yX0_clearSticks]
def wsX1_init_r3 : List Cond := [Cond.code yX0_clearSticks cX0_clearSticks 1 none, Cond.methodLink RX1 163 yJ7_fill_53178]
def wsX1_init : List Cond := .code yX1_init cX1_init 1 none :: ((wsX1_init_r1 ++ (wsX1_init_r2 ++ wsX1_init_r3)) ++ wsX00 ++ wsX10)
def wsX1_addTeam : List Cond := .code yX1_addTeam cX1_addTeam 1 (some .int) :: ([.classLink RX1 47 "java/lang/IllegalStateException", .initialized "java/lang/IllegalStateException", .fieldLink RX1 43 "SandcastleLeague" "teams" "I"] ++ wsX10 ++ (vx_atS RX1 51 "java/lang/IllegalStateException" ["java/lang/RuntimeException", "java/lang/Exception"]).filter goodWord)
def wsX1_requireLevel : List Cond := .code yX1_requireLevel cX1_requireLevel 1 none :: ([.classLink RX1 230 "java/lang/IllegalArgumentException", .initialized "java/lang/IllegalArgumentException"] ++ (vx_atS RX1 234 "java/lang/IllegalArgumentException" ["java/lang/RuntimeException", "java/lang/Exception"]).filter goodWord)
def wsX1_setTide : List Cond := .code yX1_setTide cX1_setTide 4 (some .int) :: ([.classLink RX1 54 "java/lang/IndexOutOfBoundsException", .initialized "java/lang/IndexOutOfBoundsException", .fieldLink RX1 28 "SandcastleLeague" "tides" "[I", .methodLink RX1 59 yX1_requireLevel, .static yX1_requireLevel, .initialized RX1, .code yX1_requireLevel cX1_requireLevel 1 none, .classLink RX1 230 "java/lang/IllegalArgumentException", .initialized "java/lang/IllegalArgumentException"] ++ wsX10 ++ (vx_atS RX1 58 "java/lang/IndexOutOfBoundsException" ["java/lang/RuntimeException", "java/lang/Exception"]).filter goodWord ++ (vx_atS RX1 234 "java/lang/IllegalArgumentException" ["java/lang/RuntimeException", "java/lang/Exception"]).filter goodWord)
def wsX1_requireTeam : List Cond := .code yX1_requireTeam cX1_requireTeam 2 none :: ([.classLink RX1 54 "java/lang/IndexOutOfBoundsException", .initialized "java/lang/IndexOutOfBoundsException", .fieldLink RX1 43 "SandcastleLeague" "teams" "I"] ++ wsX10 ++ (vx_atS RX1 58 "java/lang/IndexOutOfBoundsException" ["java/lang/RuntimeException", "java/lang/Exception"]).filter goodWord)
def wsX1_isOnBeach : List Cond := .code yX1_isOnBeach cX1_isOnBeach 2 (some .boolean) :: ([])
def wsX1_cellAt : List Cond := .code yX1_cellAt cX1_cellAt 2 (some .int) :: ([])
def wsX1_requireArea : List Cond := .code yX1_requireArea cX1_requireArea 3 none :: ([.classLink RX1 230 "java/lang/IllegalArgumentException", .initialized "java/lang/IllegalArgumentException", .methodLink RX1 223 yX1_isOnBeach, .static yX1_isOnBeach, .initialized RX1, .code yX1_isOnBeach cX1_isOnBeach 2 (some .boolean), .methodLink RX1 76 yX1_cellAt, .static yX1_cellAt, .code yX1_cellAt cX1_cellAt 2 (some .int), .methodLink RX1 190 yX1_isInArea, .static yX1_isInArea, .code yX1_isInArea cX1_isInArea 2 (some .boolean)] ++ (vx_atS RX1 234 "java/lang/IllegalArgumentException" ["java/lang/RuntimeException", "java/lang/Exception"]).filter goodWord)
def wsX1_requireAmount : List Cond := .code yX1_requireAmount cX1_requireAmount 1 none :: ([.classLink RX1 230 "java/lang/IllegalArgumentException", .initialized "java/lang/IllegalArgumentException"] ++ (vx_atS RX1 234 "java/lang/IllegalArgumentException" ["java/lang/RuntimeException", "java/lang/Exception"]).filter goodWord)
def wsX1_requireStrength : List Cond := .code yX1_requireStrength cX1_requireStrength 2 none :: ([.classLink RX1 47 "java/lang/IllegalStateException", .initialized "java/lang/IllegalStateException", .fieldLink RX1 34 "SandcastleLeague" "strength" "[I"] ++ wsX10 ++ (vx_atS RX1 51 "java/lang/IllegalStateException" ["java/lang/RuntimeException", "java/lang/Exception"]).filter goodWord)
def wsX1_dig_r1 : List Cond := [Cond.fieldLink RX1 34 "SandcastleLeague" "strength" "[I", Cond.fieldLink RX1 10 "SandcastleLeague" "shore" "LSandcastleLeague$Shore;", Cond.fieldLink RX1 31 "SandcastleLeague" "bucket" "[I", Cond.methodLink RX1 80 Lib.Math.min.name, Cond.static Lib.Math.min.name, Cond.initialized "java/lang/Math", Cond.code Lib.Math.min.name Lib.Math.min.code 2 (some .int), Cond.methodLink RX1 63 yX1_requireTeam, Cond.instanceMethod yX1_requireTeam, Cond.selects RX1 yX1_requireTeam yX1_requireTeam, Cond.initialized RX1, Cond.code yX1_requireTeam cX1_requireTeam 2 none, Cond.classLink RX1 54 "java/lang/IndexOutOfBoundsException", Cond.initialized "java/lang/IndexOutOfBoundsException", Cond.fieldLink RX1 43 "SandcastleLeague" "teams" "I", Cond.methodLink RX1 66 yX1_requireArea, Cond.static yX1_requireArea, Cond.code yX1_requireArea cX1_requireArea 3 none, Cond.classLink RX1 230 "java/lang/IllegalArgumentException", Cond.initialized "java/lang/IllegalArgumentException", Cond.methodLink RX1 223 yX1_isOnBeach, Cond.static yX1_isOnBeach, Cond.code yX1_isOnBeach cX1_isOnBeach 2 (some .boolean), Cond.methodLink RX1 76 yX1_cellAt]
def wsX1_dig_r2 : List Cond := [Cond.static yX1_cellAt, Cond.code yX1_cellAt cX1_cellAt 2 (some .int), Cond.methodLink RX1 190 yX1_isInArea, Cond.static yX1_isInArea, Cond.code yX1_isInArea cX1_isInArea 2 (some .boolean), Cond.methodLink RX1 70 yX1_requireAmount, Cond.static yX1_requireAmount, Cond.code yX1_requireAmount cX1_requireAmount 1 none, Cond.methodLink RX1 73 yX1_requireStrength, Cond.instanceMethod yX1_requireStrength, Cond.selects RX1 yX1_requireStrength yX1_requireStrength, Cond.code yX1_requireStrength cX1_requireStrength 2 none, Cond.classLink RX1 47 "java/lang/IllegalStateException", Cond.initialized "java/lang/IllegalStateException", Cond.methodLink RX1 85 yX0_takeSand, Cond.instanceMethod yX0_takeSand, Cond.selects RX0 yX0_takeSand yX0_takeSand, Cond.initialized RX0, Cond.code yX0_takeSand cX0_takeSand 4 (some .int), Cond.fieldLink RX0 9 "SandcastleLeague$Shore" "sand" "[I", Cond.methodLink RX0 55 Lib.Math.min.name, Cond.fieldLink RX0 15 "SandcastleLeague$Shore" "firmness" "[I"]
def wsX1_dig : List Cond := .code yX1_dig cX1_dig 6 (some .int) :: ((wsX1_dig_r1 ++ wsX1_dig_r2) ++ wsX10 ++ wsX00 ++ (vx_atS RX1 58 "java/lang/IndexOutOfBoundsException" ["java/lang/RuntimeException", "java/lang/Exception"]).filter goodWord ++ (vx_atS RX1 234 "java/lang/IllegalArgumentException" ["java/lang/RuntimeException", "java/lang/Exception"]).filter goodWord ++ (vx_atS RX1 51 "java/lang/IllegalStateException" ["java/lang/RuntimeException", "java/lang/Exception"]).filter goodWord)
def wsX1_pile_r1 : List Cond := [Cond.fieldLink RX1 34 "SandcastleLeague" "strength" "[I", Cond.fieldLink RX1 10 "SandcastleLeague" "shore" "LSandcastleLeague$Shore;", Cond.fieldLink RX1 31 "SandcastleLeague" "bucket" "[I", Cond.methodLink RX1 80 Lib.Math.min.name, Cond.static Lib.Math.min.name, Cond.initialized "java/lang/Math", Cond.code Lib.Math.min.name Lib.Math.min.code 2 (some .int), Cond.methodLink RX1 63 yX1_requireTeam, Cond.instanceMethod yX1_requireTeam, Cond.selects RX1 yX1_requireTeam yX1_requireTeam, Cond.initialized RX1, Cond.code yX1_requireTeam cX1_requireTeam 2 none, Cond.classLink RX1 54 "java/lang/IndexOutOfBoundsException", Cond.initialized "java/lang/IndexOutOfBoundsException", Cond.fieldLink RX1 43 "SandcastleLeague" "teams" "I", Cond.methodLink RX1 66 yX1_requireArea, Cond.static yX1_requireArea, Cond.code yX1_requireArea cX1_requireArea 3 none, Cond.classLink RX1 230 "java/lang/IllegalArgumentException", Cond.initialized "java/lang/IllegalArgumentException", Cond.methodLink RX1 223 yX1_isOnBeach, Cond.static yX1_isOnBeach, Cond.code yX1_isOnBeach cX1_isOnBeach 2 (some .boolean), Cond.methodLink RX1 76 yX1_cellAt]
def wsX1_pile_r2 : List Cond := [Cond.static yX1_cellAt, Cond.code yX1_cellAt cX1_cellAt 2 (some .int), Cond.methodLink RX1 190 yX1_isInArea, Cond.static yX1_isInArea, Cond.code yX1_isInArea cX1_isInArea 2 (some .boolean), Cond.methodLink RX1 70 yX1_requireAmount, Cond.static yX1_requireAmount, Cond.code yX1_requireAmount cX1_requireAmount 1 none, Cond.methodLink RX1 73 yX1_requireStrength, Cond.instanceMethod yX1_requireStrength, Cond.selects RX1 yX1_requireStrength yX1_requireStrength, Cond.code yX1_requireStrength cX1_requireStrength 2 none, Cond.classLink RX1 47 "java/lang/IllegalStateException", Cond.initialized "java/lang/IllegalStateException", Cond.methodLink RX1 88 yX0_putSand, Cond.instanceMethod yX0_putSand, Cond.selects RX0 yX0_putSand yX0_putSand, Cond.initialized RX0, Cond.code yX0_putSand cX0_putSand 4 (some .int), Cond.fieldLink RX0 9 "SandcastleLeague$Shore" "sand" "[I", Cond.methodLink RX0 55 Lib.Math.min.name, Cond.methodLink RX0 61 yX0_soften, Cond.instanceMethod yX0_soften, Cond.selects RX0 yX0_soften yX0_soften]
def wsX1_pile_r3 : List Cond := [Cond.code yX0_soften cX0_soften 2 none, Cond.fieldLink RX0 15 "SandcastleLeague$Shore" "firmness" "[I"]
def wsX1_pile : List Cond := .code yX1_pile cX1_pile 6 (some .int) :: ((wsX1_pile_r1 ++ (wsX1_pile_r2 ++ wsX1_pile_r3)) ++ wsX10 ++ wsX00 ++ (vx_atS RX1 58 "java/lang/IndexOutOfBoundsException" ["java/lang/RuntimeException", "java/lang/Exception"]).filter goodWord ++ (vx_atS RX1 234 "java/lang/IllegalArgumentException" ["java/lang/RuntimeException", "java/lang/Exception"]).filter goodWord ++ (vx_atS RX1 51 "java/lang/IllegalStateException" ["java/lang/RuntimeException", "java/lang/Exception"]).filter goodWord)
def wsX1_pack_r1 : List Cond := [Cond.fieldLink RX1 34 "SandcastleLeague" "strength" "[I", Cond.fieldLink RX1 10 "SandcastleLeague" "shore" "LSandcastleLeague$Shore;", Cond.methodLink RX1 63 yX1_requireTeam, Cond.instanceMethod yX1_requireTeam, Cond.selects RX1 yX1_requireTeam yX1_requireTeam, Cond.initialized RX1, Cond.code yX1_requireTeam cX1_requireTeam 2 none, Cond.classLink RX1 54 "java/lang/IndexOutOfBoundsException", Cond.initialized "java/lang/IndexOutOfBoundsException", Cond.fieldLink RX1 43 "SandcastleLeague" "teams" "I", Cond.methodLink RX1 66 yX1_requireArea, Cond.static yX1_requireArea, Cond.code yX1_requireArea cX1_requireArea 3 none, Cond.classLink RX1 230 "java/lang/IllegalArgumentException", Cond.initialized "java/lang/IllegalArgumentException", Cond.methodLink RX1 223 yX1_isOnBeach, Cond.static yX1_isOnBeach, Cond.code yX1_isOnBeach cX1_isOnBeach 2 (some .boolean), Cond.methodLink RX1 76 yX1_cellAt, Cond.static yX1_cellAt, Cond.code yX1_cellAt cX1_cellAt 2 (some .int), Cond.methodLink RX1 190 yX1_isInArea, Cond.static yX1_isInArea, Cond.code yX1_isInArea cX1_isInArea 2 (some .boolean)]
def wsX1_pack_r2 : List Cond := [Cond.methodLink RX1 73 yX1_requireStrength, Cond.instanceMethod yX1_requireStrength, Cond.selects RX1 yX1_requireStrength yX1_requireStrength, Cond.code yX1_requireStrength cX1_requireStrength 2 none, Cond.classLink RX1 47 "java/lang/IllegalStateException", Cond.initialized "java/lang/IllegalStateException", Cond.methodLink RX1 91 yX0_harden, Cond.instanceMethod yX0_harden, Cond.selects RX0 yX0_harden yX0_harden, Cond.initialized RX0, Cond.code yX0_harden cX0_harden 2 (some .int), Cond.fieldLink RX0 9 "SandcastleLeague$Shore" "sand" "[I", Cond.fieldLink RX0 15 "SandcastleLeague$Shore" "firmness" "[I", Cond.methodLink RX0 65 yX0_isWet, Cond.instanceMethod yX0_isWet, Cond.selects RX0 yX0_isWet yX0_isWet, Cond.code yX0_isWet cX0_isWet 2 (some .boolean), Cond.fieldLink RX0 18 "SandcastleLeague$Shore" "water" "[I"]
def wsX1_pack : List Cond := .code yX1_pack cX1_pack 4 (some .int) :: ((wsX1_pack_r1 ++ wsX1_pack_r2) ++ wsX10 ++ wsX00 ++ (vx_atS RX1 58 "java/lang/IndexOutOfBoundsException" ["java/lang/RuntimeException", "java/lang/Exception"]).filter goodWord ++ (vx_atS RX1 234 "java/lang/IllegalArgumentException" ["java/lang/RuntimeException", "java/lang/Exception"]).filter goodWord ++ (vx_atS RX1 51 "java/lang/IllegalStateException" ["java/lang/RuntimeException", "java/lang/Exception"]).filter goodWord)
def wsX1_plant_r1 : List Cond := [Cond.classLink RX1 47 "java/lang/IllegalStateException", Cond.initialized "java/lang/IllegalStateException", Cond.fieldLink RX1 10 "SandcastleLeague" "shore" "LSandcastleLeague$Shore;", Cond.fieldLink RX1 34 "SandcastleLeague" "strength" "[I", Cond.methodLink RX1 63 yX1_requireTeam, Cond.instanceMethod yX1_requireTeam, Cond.selects RX1 yX1_requireTeam yX1_requireTeam, Cond.initialized RX1, Cond.code yX1_requireTeam cX1_requireTeam 2 none, Cond.classLink RX1 54 "java/lang/IndexOutOfBoundsException", Cond.initialized "java/lang/IndexOutOfBoundsException", Cond.fieldLink RX1 43 "SandcastleLeague" "teams" "I", Cond.methodLink RX1 66 yX1_requireArea, Cond.static yX1_requireArea, Cond.code yX1_requireArea cX1_requireArea 3 none, Cond.classLink RX1 230 "java/lang/IllegalArgumentException", Cond.initialized "java/lang/IllegalArgumentException", Cond.methodLink RX1 223 yX1_isOnBeach, Cond.static yX1_isOnBeach, Cond.code yX1_isOnBeach cX1_isOnBeach 2 (some .boolean), Cond.methodLink RX1 76 yX1_cellAt, Cond.static yX1_cellAt, Cond.code yX1_cellAt cX1_cellAt 2 (some .int), Cond.methodLink RX1 190 yX1_isInArea]
def wsX1_plant_r2 : List Cond := [Cond.static yX1_isInArea, Cond.code yX1_isInArea cX1_isInArea 2 (some .boolean), Cond.methodLink RX1 73 yX1_requireStrength, Cond.instanceMethod yX1_requireStrength, Cond.selects RX1 yX1_requireStrength yX1_requireStrength, Cond.code yX1_requireStrength cX1_requireStrength 2 none, Cond.methodLink RX1 95 yX0_sticksOf, Cond.instanceMethod yX0_sticksOf, Cond.selects RX0 yX0_sticksOf yX0_sticksOf, Cond.initialized RX0, Cond.code yX0_sticksOf cX0_sticksOf 4 (some .int), Cond.fieldLink RX0 21 "SandcastleLeague$Shore" "owner" "[I", Cond.methodLink RX1 100 yX0_isFree, Cond.instanceMethod yX0_isFree, Cond.selects RX0 yX0_isFree yX0_isFree, Cond.code yX0_isFree cX0_isFree 2 (some .boolean), Cond.methodLink RX0 108 yX0_hasStick, Cond.instanceMethod yX0_hasStick, Cond.selects RX0 yX0_hasStick yX0_hasStick, Cond.code yX0_hasStick cX0_hasStick 2 (some .boolean), Cond.methodLink RX0 65 yX0_isWet, Cond.instanceMethod yX0_isWet, Cond.selects RX0 yX0_isWet yX0_isWet, Cond.code yX0_isWet cX0_isWet 2 (some .boolean)]
def wsX1_plant_r3 : List Cond := [Cond.fieldLink RX0 18 "SandcastleLeague$Shore" "water" "[I", Cond.methodLink RX1 106 yX0_putStick, Cond.instanceMethod yX0_putStick, Cond.selects RX0 yX0_putStick yX0_putStick, Cond.code yX0_putStick cX0_putStick 3 none, Cond.fieldLink RX0 24 "SandcastleLeague$Shore" "plantedHeight" "[I", Cond.methodLink RX0 69 yX0_height, Cond.instanceMethod yX0_height, Cond.selects RX0 yX0_height yX0_height, Cond.code yX0_height cX0_height 2 (some .int), Cond.fieldLink RX0 9 "SandcastleLeague$Shore" "sand" "[I"]
def wsX1_plant : List Cond := .code yX1_plant cX1_plant 4 (some .int) :: ((wsX1_plant_r1 ++ (wsX1_plant_r2 ++ wsX1_plant_r3)) ++ wsX10 ++ wsX00 ++ (vx_atS RX1 51 "java/lang/IllegalStateException" ["java/lang/RuntimeException", "java/lang/Exception"]).filter goodWord ++ (vx_atS RX1 58 "java/lang/IndexOutOfBoundsException" ["java/lang/RuntimeException", "java/lang/Exception"]).filter goodWord ++ (vx_atS RX1 234 "java/lang/IllegalArgumentException" ["java/lang/RuntimeException", "java/lang/Exception"]).filter goodWord)
def wsX1_requireCell : List Cond := .code yX1_requireCell cX1_requireCell 2 none :: ([.classLink RX1 54 "java/lang/IndexOutOfBoundsException", .initialized "java/lang/IndexOutOfBoundsException", .methodLink RX1 223 yX1_isOnBeach, .static yX1_isOnBeach, .initialized RX1, .code yX1_isOnBeach cX1_isOnBeach 2 (some .boolean)] ++ (vx_atS RX1 58 "java/lang/IndexOutOfBoundsException" ["java/lang/RuntimeException", "java/lang/Exception"]).filter goodWord)
def wsX1_requireWhat : List Cond := .code yX1_requireWhat cX1_requireWhat 2 none :: ([.classLink RX1 54 "java/lang/IndexOutOfBoundsException", .initialized "java/lang/IndexOutOfBoundsException"] ++ (vx_atS RX1 58 "java/lang/IndexOutOfBoundsException" ["java/lang/RuntimeException", "java/lang/Exception"]).filter goodWord)
def wsX1_cell_r1 : List Cond := [Cond.fieldLink RX1 10 "SandcastleLeague" "shore" "LSandcastleLeague$Shore;", Cond.methodLink RX1 110 yX1_requireCell, Cond.static yX1_requireCell, Cond.initialized RX1, Cond.code yX1_requireCell cX1_requireCell 2 none, Cond.classLink RX1 54 "java/lang/IndexOutOfBoundsException", Cond.initialized "java/lang/IndexOutOfBoundsException", Cond.methodLink RX1 223 yX1_isOnBeach, Cond.static yX1_isOnBeach, Cond.code yX1_isOnBeach cX1_isOnBeach 2 (some .boolean), Cond.methodLink RX1 113 yX1_requireWhat, Cond.static yX1_requireWhat, Cond.code yX1_requireWhat cX1_requireWhat 2 none, Cond.methodLink RX1 76 yX1_cellAt, Cond.static yX1_cellAt, Cond.code yX1_cellAt cX1_cellAt 2 (some .int), Cond.methodLink RX1 116 yX0_tellCell, Cond.instanceMethod yX0_tellCell, Cond.selects RX0 yX0_tellCell yX0_tellCell, Cond.initialized RX0, Cond.code yX0_tellCell cX0_tellCell 3 (some .int), Cond.fieldLink RX0 9 "SandcastleLeague$Shore" "sand" "[I", Cond.fieldLink RX0 15 "SandcastleLeague$Shore" "firmness" "[I", Cond.fieldLink RX0 18 "SandcastleLeague$Shore" "water" "[I"]
def wsX1_cell_r2 : List Cond := [Cond.fieldLink RX0 24 "SandcastleLeague$Shore" "plantedHeight" "[I", Cond.methodLink RX0 69 yX0_height, Cond.instanceMethod yX0_height, Cond.selects RX0 yX0_height yX0_height, Cond.code yX0_height cX0_height 2 (some .int), Cond.methodLink RX0 108 yX0_hasStick, Cond.instanceMethod yX0_hasStick, Cond.selects RX0 yX0_hasStick yX0_hasStick, Cond.code yX0_hasStick cX0_hasStick 2 (some .boolean), Cond.fieldLink RX0 21 "SandcastleLeague$Shore" "owner" "[I"]
def wsX1_cell : List Cond := .code yX1_cell cX1_cell 4 (some .int) :: ((wsX1_cell_r1 ++ wsX1_cell_r2) ++ wsX10 ++ wsX00 ++ (vx_atS RX1 58 "java/lang/IndexOutOfBoundsException" ["java/lang/RuntimeException", "java/lang/Exception"]).filter goodWord)
def wsX1_team_r1 : List Cond := [Cond.fieldLink RX1 31 "SandcastleLeague" "bucket" "[I", Cond.fieldLink RX1 34 "SandcastleLeague" "strength" "[I", Cond.fieldLink RX1 10 "SandcastleLeague" "shore" "LSandcastleLeague$Shore;", Cond.fieldLink RX1 37 "SandcastleLeague" "leaguePoints" "[I", Cond.methodLink RX1 63 yX1_requireTeam, Cond.instanceMethod yX1_requireTeam, Cond.selects RX1 yX1_requireTeam yX1_requireTeam, Cond.initialized RX1, Cond.code yX1_requireTeam cX1_requireTeam 2 none, Cond.classLink RX1 54 "java/lang/IndexOutOfBoundsException", Cond.initialized "java/lang/IndexOutOfBoundsException", Cond.fieldLink RX1 43 "SandcastleLeague" "teams" "I", Cond.methodLink RX1 113 yX1_requireWhat, Cond.static yX1_requireWhat, Cond.code yX1_requireWhat cX1_requireWhat 2 none, Cond.methodLink RX1 119 yX0_pointsOf, Cond.instanceMethod yX0_pointsOf, Cond.selects RX0 yX0_pointsOf yX0_pointsOf, Cond.initialized RX0, Cond.code yX0_pointsOf cX0_pointsOf 2 (some .int), Cond.fieldLink RX0 27 "SandcastleLeague$Shore" "points" "[I", Cond.methodLink RX1 95 yX0_sticksOf, Cond.instanceMethod yX0_sticksOf, Cond.selects RX0 yX0_sticksOf yX0_sticksOf]
def wsX1_team_r2 : List Cond := [Cond.code yX0_sticksOf cX0_sticksOf 4 (some .int), Cond.fieldLink RX0 21 "SandcastleLeague$Shore" "owner" "[I", Cond.methodLink RX1 122 yX0_sandOfArea, Cond.instanceMethod yX0_sandOfArea, Cond.selects RX0 yX0_sandOfArea yX0_sandOfArea, Cond.code yX0_sandOfArea cX0_sandOfArea 2 (some .int), Cond.fieldLink RX0 9 "SandcastleLeague$Shore" "sand" "[I", Cond.methodLink RX0 111 yX0_sumOfArea, Cond.static yX0_sumOfArea, Cond.code yX0_sumOfArea cX0_sumOfArea 4 (some .int), Cond.static yX1_isInArea, Cond.code yX1_isInArea cX1_isInArea 2 (some .boolean), Cond.methodLink RX1 125 yX0_greatestHeightOfArea, Cond.instanceMethod yX0_greatestHeightOfArea, Cond.selects RX0 yX0_greatestHeightOfArea yX0_greatestHeightOfArea, Cond.code yX0_greatestHeightOfArea cX0_greatestHeightOfArea 4 (some .int), Cond.methodLink RX0 95 Lib.Math.max.name, Cond.static Lib.Math.max.name, Cond.initialized "java/lang/Math", Cond.code Lib.Math.max.name Lib.Math.max.code 2 (some .int), Cond.methodLink RX0 69 yX0_height, Cond.instanceMethod yX0_height, Cond.selects RX0 yX0_height yX0_height, Cond.code yX0_height cX0_height 2 (some .int)]
def wsX1_team_r3 : List Cond := [Cond.methodLink RX1 128 yX0_waterOfArea, Cond.instanceMethod yX0_waterOfArea, Cond.selects RX0 yX0_waterOfArea yX0_waterOfArea, Cond.code yX0_waterOfArea cX0_waterOfArea 2 (some .int), Cond.fieldLink RX0 18 "SandcastleLeague$Shore" "water" "[I"]
def wsX1_team : List Cond := .code yX1_team cX1_team 3 (some .int) :: ((wsX1_team_r1 ++ (wsX1_team_r2 ++ wsX1_team_r3)) ++ wsX10 ++ wsX00 ++ (vx_atS RX1 58 "java/lang/IndexOutOfBoundsException" ["java/lang/RuntimeException", "java/lang/Exception"]).filter goodWord)
def wsX1_count_r1 : List Cond := [Cond.fieldLink RX1 131 "SandcastleLeague" "hour" "I", Cond.fieldLink RX1 43 "SandcastleLeague" "teams" "I", Cond.fieldLink RX1 10 "SandcastleLeague" "shore" "LSandcastleLeague$Shore;", Cond.fieldLink RX1 153 "SandcastleLeague" "endedRounds" "I", Cond.methodLink RX1 113 yX1_requireWhat, Cond.static yX1_requireWhat, Cond.initialized RX1, Cond.code yX1_requireWhat cX1_requireWhat 2 none, Cond.classLink RX1 54 "java/lang/IndexOutOfBoundsException", Cond.initialized "java/lang/IndexOutOfBoundsException", Cond.methodLink RX1 134 yX0_allWater, Cond.instanceMethod yX0_allWater, Cond.selects RX0 yX0_allWater yX0_allWater, Cond.initialized RX0, Cond.code yX0_allWater cX0_allWater 1 (some .int), Cond.fieldLink RX0 18 "SandcastleLeague$Shore" "water" "[I", Cond.methodLink RX0 118 yX0_sum, Cond.static yX0_sum, Cond.code yX0_sum cX0_sum 6 (some .int), Cond.methodLink RX1 138 yX0_allSand, Cond.instanceMethod yX0_allSand, Cond.selects RX0 yX0_allSand yX0_allSand, Cond.code yX0_allSand cX0_allSand 1 (some .int), Cond.fieldLink RX0 9 "SandcastleLeague$Shore" "sand" "[I"]
def wsX1_count_r2 : List Cond := [Cond.methodLink RX1 147 yX0_allSticks, Cond.instanceMethod yX0_allSticks, Cond.selects RX0 yX0_allSticks yX0_allSticks, Cond.code yX0_allSticks cX0_allSticks 3 (some .int), Cond.methodLink RX0 108 yX0_hasStick, Cond.instanceMethod yX0_hasStick, Cond.selects RX0 yX0_hasStick yX0_hasStick, Cond.code yX0_hasStick cX0_hasStick 2 (some .boolean), Cond.fieldLink RX0 21 "SandcastleLeague$Shore" "owner" "[I"]
def wsX1_count : List Cond := .code yX1_count cX1_count 2 (some .int) :: ((wsX1_count_r1 ++ wsX1_count_r2) ++ wsX10 ++ wsX00 ++ (vx_atS RX1 58 "java/lang/IndexOutOfBoundsException" ["java/lang/RuntimeException", "java/lang/Exception"]).filter goodWord)
def wsX1_requireHours : List Cond := .code yX1_requireHours cX1_requireHours 2 none :: ([.classLink RX1 230 "java/lang/IllegalArgumentException", .initialized "java/lang/IllegalArgumentException"] ++ (vx_atS RX1 234 "java/lang/IllegalArgumentException" ["java/lang/RuntimeException", "java/lang/Exception"]).filter goodWord)
def wsJ9_floorMod_7cf53 : List Cond := .code yJ9_floorMod_7cf53 cJ9_floorMod_7cf53 3 (some .int) :: ([])
def wsX1_letHoursGoBy_r1 : List Cond := [Cond.fieldLink RX1 28 "SandcastleLeague" "tides" "[I", Cond.fieldLink RX1 131 "SandcastleLeague" "hour" "I", Cond.methodLink RX1 212 yJ9_floorMod_7cf53, Cond.static yJ9_floorMod_7cf53, Cond.initialized RJ9, Cond.code yJ9_floorMod_7cf53 cJ9_floorMod_7cf53 3 (some .int), Cond.methodLink RX1 215 yX0_letHourGoBy, Cond.instanceMethod yX0_letHourGoBy, Cond.selects RX0 yX0_letHourGoBy yX0_letHourGoBy, Cond.initialized RX0, Cond.code yX0_letHourGoBy cX0_letHourGoBy 2 none, Cond.fieldLink RX0 43 "SandcastleLeague$Shore" "slides" "I", Cond.methodLink RX0 73 yX0_findWater, Cond.instanceMethod yX0_findWater, Cond.selects RX0 yX0_findWater yX0_findWater, Cond.code yX0_findWater cX0_findWater 4 none, Cond.fieldLink RX0 18 "SandcastleLeague$Shore" "water" "[I", Cond.methodLink RX0 30 yJ7_fill_53178, Cond.static yJ7_fill_53178, Cond.initialized RJ7, Cond.code yJ7_fill_53178 cJ7_fill_53178 4 none, Cond.methodLink RX0 86 yX0_sweepWater, Cond.instanceMethod yX0_sweepWater, Cond.selects RX0 yX0_sweepWater yX0_sweepWater]
def wsX1_letHoursGoBy_r2 : List Cond := [Cond.code yX0_sweepWater cX0_sweepWater 4 (some .boolean), Cond.methodLink RX0 65 yX0_isWet, Cond.instanceMethod yX0_isWet, Cond.selects RX0 yX0_isWet yX0_isWet, Cond.code yX0_isWet cX0_isWet 2 (some .boolean), Cond.methodLink RX0 69 yX0_height, Cond.instanceMethod yX0_height, Cond.selects RX0 yX0_height yX0_height, Cond.code yX0_height cX0_height 2 (some .int), Cond.fieldLink RX0 9 "SandcastleLeague$Shore" "sand" "[I", Cond.methodLink RX0 89 yX0_isOpenToSea, Cond.instanceMethod yX0_isOpenToSea, Cond.selects RX0 yX0_isOpenToSea yX0_isOpenToSea, Cond.code yX0_isOpenToSea cX0_isOpenToSea 4 (some .boolean), Cond.methodLink RX0 92 yX0_beside, Cond.static yX0_beside, Cond.code yX0_beside cX0_beside 3 (some .int), Cond.methodLink RX0 76 yX0_washSandAway, Cond.instanceMethod yX0_washSandAway, Cond.selects RX0 yX0_washSandAway yX0_washSandAway, Cond.code yX0_washSandAway cX0_washSandAway 4 none, Cond.fieldLink RX0 15 "SandcastleLeague$Shore" "firmness" "[I", Cond.methodLink RX0 95 Lib.Math.max.name, Cond.static Lib.Math.max.name]
def wsX1_letHoursGoBy_r3 : List Cond := [Cond.initialized "java/lang/Math", Cond.code Lib.Math.max.name Lib.Math.max.code 2 (some .int), Cond.methodLink RX0 55 Lib.Math.min.name, Cond.static Lib.Math.min.name, Cond.code Lib.Math.min.name Lib.Math.min.code 2 (some .int), Cond.fieldLink RX0 39 "SandcastleLeague$Shore" "lostSand" "I", Cond.methodLink RX0 61 yX0_soften, Cond.instanceMethod yX0_soften, Cond.selects RX0 yX0_soften yX0_soften, Cond.code yX0_soften cX0_soften 2 none, Cond.methodLink RX0 79 yX0_letSandSlide, Cond.instanceMethod yX0_letSandSlide, Cond.selects RX0 yX0_letSandSlide yX0_letSandSlide, Cond.code yX0_letSandSlide cX0_letSandSlide 4 (some .int), Cond.methodLink RX0 98 yX0_slideOnce, Cond.instanceMethod yX0_slideOnce, Cond.selects RX0 yX0_slideOnce yX0_slideOnce, Cond.code yX0_slideOnce cX0_slideOnce 4 (some .int), Cond.methodLink RX0 101 yX0_lowestBeside, Cond.instanceMethod yX0_lowestBeside, Cond.selects RX0 yX0_lowestBeside yX0_lowestBeside, Cond.code yX0_lowestBeside cX0_lowestBeside 5 (some .int), Cond.methodLink RX0 104 yX0_slidesTo, Cond.instanceMethod yX0_slidesTo]
def wsX1_letHoursGoBy_r4 : List Cond := [Cond.selects RX0 yX0_slidesTo yX0_slidesTo, Cond.code yX0_slidesTo cX0_slidesTo 3 (some .boolean), Cond.methodLink RX0 83 yX0_judgeSticks, Cond.instanceMethod yX0_judgeSticks, Cond.selects RX0 yX0_judgeSticks yX0_judgeSticks, Cond.code yX0_judgeSticks cX0_judgeSticks 3 none, Cond.fieldLink RX0 21 "SandcastleLeague$Shore" "owner" "[I", Cond.fieldLink RX0 24 "SandcastleLeague$Shore" "plantedHeight" "[I", Cond.fieldLink RX0 46 "SandcastleLeague$Shore" "fallenSticks" "I", Cond.fieldLink RX0 27 "SandcastleLeague$Shore" "points" "[I"]
def wsX1_letHoursGoBy : List Cond := .code yX1_letHoursGoBy cX1_letHoursGoBy 4 none :: ((wsX1_letHoursGoBy_r1 ++ (wsX1_letHoursGoBy_r2 ++ (wsX1_letHoursGoBy_r3 ++ wsX1_letHoursGoBy_r4))) ++ wsX10 ++ wsX00)
def wsX1_pass_r1 : List Cond := [Cond.fieldLink RX1 10 "SandcastleLeague" "shore" "LSandcastleLeague$Shore;", Cond.fieldLink RX1 131 "SandcastleLeague" "hour" "I", Cond.fieldLink RX1 34 "SandcastleLeague" "strength" "[I", Cond.methodLink RX1 156 yX1_requireHours, Cond.static yX1_requireHours, Cond.initialized RX1, Cond.code yX1_requireHours cX1_requireHours 2 none, Cond.classLink RX1 230 "java/lang/IllegalArgumentException", Cond.initialized "java/lang/IllegalArgumentException", Cond.methodLink RX1 159 yX1_letHoursGoBy, Cond.instanceMethod yX1_letHoursGoBy, Cond.selects RX1 yX1_letHoursGoBy yX1_letHoursGoBy, Cond.code yX1_letHoursGoBy cX1_letHoursGoBy 4 none, Cond.fieldLink RX1 28 "SandcastleLeague" "tides" "[I", Cond.methodLink RX1 212 yJ9_floorMod_7cf53, Cond.static yJ9_floorMod_7cf53, Cond.initialized RJ9, Cond.code yJ9_floorMod_7cf53 cJ9_floorMod_7cf53 3 (some .int), Cond.methodLink RX1 215 yX0_letHourGoBy, Cond.instanceMethod yX0_letHourGoBy, Cond.selects RX0 yX0_letHourGoBy yX0_letHourGoBy, Cond.initialized RX0, Cond.code yX0_letHourGoBy cX0_letHourGoBy 2 none, Cond.fieldLink RX0 43 "SandcastleLeague$Shore" "slides" "I"]
def wsX1_pass_r2 : List Cond := [Cond.methodLink RX0 73 yX0_findWater, Cond.instanceMethod yX0_findWater, Cond.selects RX0 yX0_findWater yX0_findWater, Cond.code yX0_findWater cX0_findWater 4 none, Cond.fieldLink RX0 18 "SandcastleLeague$Shore" "water" "[I", Cond.methodLink RX0 30 yJ7_fill_53178, Cond.static yJ7_fill_53178, Cond.initialized RJ7, Cond.code yJ7_fill_53178 cJ7_fill_53178 4 none, Cond.methodLink RX0 86 yX0_sweepWater, Cond.instanceMethod yX0_sweepWater, Cond.selects RX0 yX0_sweepWater yX0_sweepWater, Cond.code yX0_sweepWater cX0_sweepWater 4 (some .boolean), Cond.methodLink RX0 65 yX0_isWet, Cond.instanceMethod yX0_isWet, Cond.selects RX0 yX0_isWet yX0_isWet, Cond.code yX0_isWet cX0_isWet 2 (some .boolean), Cond.methodLink RX0 69 yX0_height, Cond.instanceMethod yX0_height, Cond.selects RX0 yX0_height yX0_height, Cond.code yX0_height cX0_height 2 (some .int), Cond.fieldLink RX0 9 "SandcastleLeague$Shore" "sand" "[I", Cond.methodLink RX0 89 yX0_isOpenToSea, Cond.instanceMethod yX0_isOpenToSea]
def wsX1_pass_r3 : List Cond := [Cond.selects RX0 yX0_isOpenToSea yX0_isOpenToSea, Cond.code yX0_isOpenToSea cX0_isOpenToSea 4 (some .boolean), Cond.methodLink RX0 92 yX0_beside, Cond.static yX0_beside, Cond.code yX0_beside cX0_beside 3 (some .int), Cond.methodLink RX0 76 yX0_washSandAway, Cond.instanceMethod yX0_washSandAway, Cond.selects RX0 yX0_washSandAway yX0_washSandAway, Cond.code yX0_washSandAway cX0_washSandAway 4 none, Cond.fieldLink RX0 15 "SandcastleLeague$Shore" "firmness" "[I", Cond.methodLink RX0 95 Lib.Math.max.name, Cond.static Lib.Math.max.name, Cond.initialized "java/lang/Math", Cond.code Lib.Math.max.name Lib.Math.max.code 2 (some .int), Cond.methodLink RX0 55 Lib.Math.min.name, Cond.static Lib.Math.min.name, Cond.code Lib.Math.min.name Lib.Math.min.code 2 (some .int), Cond.fieldLink RX0 39 "SandcastleLeague$Shore" "lostSand" "I", Cond.methodLink RX0 61 yX0_soften, Cond.instanceMethod yX0_soften, Cond.selects RX0 yX0_soften yX0_soften, Cond.code yX0_soften cX0_soften 2 none, Cond.methodLink RX0 79 yX0_letSandSlide, Cond.instanceMethod yX0_letSandSlide]
def wsX1_pass_r4 : List Cond := [Cond.selects RX0 yX0_letSandSlide yX0_letSandSlide, Cond.code yX0_letSandSlide cX0_letSandSlide 4 (some .int), Cond.methodLink RX0 98 yX0_slideOnce, Cond.instanceMethod yX0_slideOnce, Cond.selects RX0 yX0_slideOnce yX0_slideOnce, Cond.code yX0_slideOnce cX0_slideOnce 4 (some .int), Cond.methodLink RX0 101 yX0_lowestBeside, Cond.instanceMethod yX0_lowestBeside, Cond.selects RX0 yX0_lowestBeside yX0_lowestBeside, Cond.code yX0_lowestBeside cX0_lowestBeside 5 (some .int), Cond.methodLink RX0 104 yX0_slidesTo, Cond.instanceMethod yX0_slidesTo, Cond.selects RX0 yX0_slidesTo yX0_slidesTo, Cond.code yX0_slidesTo cX0_slidesTo 3 (some .boolean), Cond.methodLink RX0 83 yX0_judgeSticks, Cond.instanceMethod yX0_judgeSticks, Cond.selects RX0 yX0_judgeSticks yX0_judgeSticks, Cond.code yX0_judgeSticks cX0_judgeSticks 3 none, Cond.fieldLink RX0 21 "SandcastleLeague$Shore" "owner" "[I", Cond.fieldLink RX0 24 "SandcastleLeague$Shore" "plantedHeight" "[I", Cond.fieldLink RX0 46 "SandcastleLeague$Shore" "fallenSticks" "I", Cond.fieldLink RX0 27 "SandcastleLeague$Shore" "points" "[I", Cond.methodLink RX1 163 yJ7_fill_53178]
def wsX1_pass : List Cond := .code yX1_pass cX1_pass 3 (some .int) :: ((wsX1_pass_r1 ++ (wsX1_pass_r2 ++ (wsX1_pass_r3 ++ wsX1_pass_r4))) ++ wsX10 ++ wsX00 ++ (vx_atS RX1 234 "java/lang/IllegalArgumentException" ["java/lang/RuntimeException", "java/lang/Exception"]).filter goodWord)
def wsX1_teamsWithFewerPoints : List Cond := .code yX1_teamsWithFewerPoints cX1_teamsWithFewerPoints 4 (some .int) :: ([.fieldLink RX1 43 "SandcastleLeague" "teams" "I", .fieldLink RX1 10 "SandcastleLeague" "shore" "LSandcastleLeague$Shore;", .methodLink RX1 119 yX0_pointsOf, .instanceMethod yX0_pointsOf, .selects RX0 yX0_pointsOf yX0_pointsOf, .initialized RX0, .code yX0_pointsOf cX0_pointsOf 2 (some .int), .fieldLink RX0 27 "SandcastleLeague$Shore" "points" "[I"] ++ wsX10 ++ wsX00)
def wsX1_endRound_r1 : List Cond := [Cond.fieldLink RX1 43 "SandcastleLeague" "teams" "I", Cond.fieldLink RX1 37 "SandcastleLeague" "leaguePoints" "[I", Cond.fieldLink RX1 153 "SandcastleLeague" "endedRounds" "I", Cond.methodLink RX1 169 yX1_teamsWithFewerPoints, Cond.instanceMethod yX1_teamsWithFewerPoints, Cond.selects RX1 yX1_teamsWithFewerPoints yX1_teamsWithFewerPoints, Cond.initialized RX1, Cond.code yX1_teamsWithFewerPoints cX1_teamsWithFewerPoints 4 (some .int), Cond.fieldLink RX1 10 "SandcastleLeague" "shore" "LSandcastleLeague$Shore;", Cond.methodLink RX1 119 yX0_pointsOf, Cond.instanceMethod yX0_pointsOf, Cond.selects RX0 yX0_pointsOf yX0_pointsOf, Cond.initialized RX0, Cond.code yX0_pointsOf cX0_pointsOf 2 (some .int), Cond.fieldLink RX0 27 "SandcastleLeague$Shore" "points" "[I", Cond.methodLink RX1 40 yX1_beginRound, Cond.instanceMethod yX1_beginRound, Cond.selects RX1 yX1_beginRound yX1_beginRound, Cond.code yX1_beginRound cX1_beginRound 1 none, Cond.fieldLink RX1 31 "SandcastleLeague" "bucket" "[I", Cond.fieldLink RX1 34 "SandcastleLeague" "strength" "[I", Cond.methodLink RX1 209 yX0_begin, Cond.instanceMethod yX0_begin, Cond.selects RX0 yX0_begin yX0_begin]
def wsX1_endRound_r2 : List Cond := [Cond.code yX0_begin cX0_begin 1 none, Cond.fieldLink RX0 9 "SandcastleLeague$Shore" "sand" "[I", Cond.fieldLink RX0 15 "SandcastleLeague$Shore" "firmness" "[I", Cond.fieldLink RX0 18 "SandcastleLeague$Shore" "water" "[I", Cond.fieldLink RX0 39 "SandcastleLeague$Shore" "lostSand" "I", Cond.fieldLink RX0 43 "SandcastleLeague$Shore" "slides" "I", Cond.fieldLink RX0 46 "SandcastleLeague$Shore" "fallenSticks" "I", Cond.methodLink RX0 30 yJ7_fill_53178, Cond.static yJ7_fill_53178, Cond.initialized RJ7, Cond.code yJ7_fill_53178 cJ7_fill_53178 4 none, Cond.methodLink RX0 36 yX0_clearSticks, Cond.instanceMethod yX0_clearSticks, Cond.selects RX0 yX0_clearSticks yX0_clearSticks, Cond.code yX0_clearSticks cX0_clearSticks 1 none, Cond.fieldLink RX0 21 "SandcastleLeague$Shore" "owner" "[I", Cond.fieldLink RX0 24 "SandcastleLeague$Shore" "plantedHeight" "[I", Cond.methodLink RX1 163 yJ7_fill_53178]
def wsX1_endRound : List Cond := .code yX1_endRound cX1_endRound 2 (some .int) :: ((wsX1_endRound_r1 ++ wsX1_endRound_r2) ++ wsX10 ++ wsX00)
def wsX1_isAhead : List Cond := .code yX1_isAhead cX1_isAhead 3 (some .boolean) :: ([.fieldLink RX1 37 "SandcastleLeague" "leaguePoints" "[I", .fieldLink RX1 10 "SandcastleLeague" "shore" "LSandcastleLeague$Shore;", .methodLink RX1 119 yX0_pointsOf, .instanceMethod yX0_pointsOf, .selects RX0 yX0_pointsOf yX0_pointsOf, .initialized RX0, .code yX0_pointsOf cX0_pointsOf 2 (some .int), .fieldLink RX0 27 "SandcastleLeague$Shore" "points" "[I"] ++ wsX10 ++ wsX00)
def wsX1_teamsAheadOf : List Cond := .code yX1_teamsAheadOf cX1_teamsAheadOf 4 (some .int) :: ([.fieldLink RX1 43 "SandcastleLeague" "teams" "I", .methodLink RX1 218 yX1_isAhead, .instanceMethod yX1_isAhead, .selects RX1 yX1_isAhead yX1_isAhead, .initialized RX1, .code yX1_isAhead cX1_isAhead 3 (some .boolean), .fieldLink RX1 37 "SandcastleLeague" "leaguePoints" "[I", .fieldLink RX1 10 "SandcastleLeague" "shore" "LSandcastleLeague$Shore;", .methodLink RX1 119 yX0_pointsOf, .instanceMethod yX0_pointsOf, .selects RX0 yX0_pointsOf yX0_pointsOf, .initialized RX0, .code yX0_pointsOf cX0_pointsOf 2 (some .int), .fieldLink RX0 27 "SandcastleLeague$Shore" "points" "[I"] ++ wsX10 ++ wsX00)
def wsX1_leader : List Cond := .code yX1_leader cX1_leader 4 (some .int) :: ([.classLink RX1 54 "java/lang/IndexOutOfBoundsException", .initialized "java/lang/IndexOutOfBoundsException", .fieldLink RX1 43 "SandcastleLeague" "teams" "I", .methodLink RX1 174 yX1_teamsAheadOf, .instanceMethod yX1_teamsAheadOf, .selects RX1 yX1_teamsAheadOf yX1_teamsAheadOf, .initialized RX1, .code yX1_teamsAheadOf cX1_teamsAheadOf 4 (some .int), .methodLink RX1 218 yX1_isAhead, .instanceMethod yX1_isAhead, .selects RX1 yX1_isAhead yX1_isAhead, .code yX1_isAhead cX1_isAhead 3 (some .boolean), .fieldLink RX1 37 "SandcastleLeague" "leaguePoints" "[I", .fieldLink RX1 10 "SandcastleLeague" "shore" "LSandcastleLeague$Shore;", .methodLink RX1 119 yX0_pointsOf, .instanceMethod yX0_pointsOf, .selects RX0 yX0_pointsOf yX0_pointsOf, .initialized RX0, .code yX0_pointsOf cX0_pointsOf 2 (some .int), .fieldLink RX0 27 "SandcastleLeague$Shore" "points" "[I"] ++ wsX10 ++ wsX00 ++ (vx_atS RX1 58 "java/lang/IndexOutOfBoundsException" ["java/lang/RuntimeException", "java/lang/Exception"]).filter goodWord)
def wsX1_flood_r1 : List Cond := [Cond.fieldLink RX1 16 "SandcastleLeague" "trial" "LSandcastleLeague$Shore;", Cond.fieldLink RX1 10 "SandcastleLeague" "shore" "LSandcastleLeague$Shore;", Cond.methodLink RX1 59 yX1_requireLevel, Cond.static yX1_requireLevel, Cond.initialized RX1, Cond.code yX1_requireLevel cX1_requireLevel 1 none, Cond.classLink RX1 230 "java/lang/IllegalArgumentException", Cond.initialized "java/lang/IllegalArgumentException", Cond.methodLink RX1 177 yX0_become, Cond.instanceMethod yX0_become, Cond.selects RX0 yX0_become yX0_become, Cond.initialized RX0, Cond.code yX0_become cX0_become 2 none, Cond.fieldLink RX0 9 "SandcastleLeague$Shore" "sand" "[I", Cond.methodLink RX0 49 arraycopyName, Cond.native arraycopyName, Cond.static arraycopyName, Cond.initialized "java/lang/System", Cond.fieldLink RX0 15 "SandcastleLeague$Shore" "firmness" "[I", Cond.fieldLink RX0 18 "SandcastleLeague$Shore" "water" "[I", Cond.fieldLink RX0 21 "SandcastleLeague$Shore" "owner" "[I", Cond.fieldLink RX0 24 "SandcastleLeague$Shore" "plantedHeight" "[I", Cond.fieldLink RX0 27 "SandcastleLeague$Shore" "points" "[I", Cond.fieldLink RX0 39 "SandcastleLeague$Shore" "lostSand" "I"]
def wsX1_flood_r2 : List Cond := [Cond.fieldLink RX0 43 "SandcastleLeague$Shore" "slides" "I", Cond.fieldLink RX0 46 "SandcastleLeague$Shore" "fallenSticks" "I", Cond.methodLink RX1 181 yX0_findWater, Cond.instanceMethod yX0_findWater, Cond.selects RX0 yX0_findWater yX0_findWater, Cond.code yX0_findWater cX0_findWater 4 none, Cond.methodLink RX0 30 yJ7_fill_53178, Cond.static yJ7_fill_53178, Cond.initialized RJ7, Cond.code yJ7_fill_53178 cJ7_fill_53178 4 none, Cond.methodLink RX0 86 yX0_sweepWater, Cond.instanceMethod yX0_sweepWater, Cond.selects RX0 yX0_sweepWater yX0_sweepWater, Cond.code yX0_sweepWater cX0_sweepWater 4 (some .boolean), Cond.methodLink RX0 65 yX0_isWet, Cond.instanceMethod yX0_isWet, Cond.selects RX0 yX0_isWet yX0_isWet, Cond.code yX0_isWet cX0_isWet 2 (some .boolean), Cond.methodLink RX0 69 yX0_height, Cond.instanceMethod yX0_height, Cond.selects RX0 yX0_height yX0_height, Cond.code yX0_height cX0_height 2 (some .int), Cond.methodLink RX0 89 yX0_isOpenToSea, Cond.instanceMethod yX0_isOpenToSea]
def wsX1_flood_r3 : List Cond := [Cond.selects RX0 yX0_isOpenToSea yX0_isOpenToSea, Cond.code yX0_isOpenToSea cX0_isOpenToSea 4 (some .boolean), Cond.methodLink RX0 92 yX0_beside, Cond.static yX0_beside, Cond.code yX0_beside cX0_beside 3 (some .int), Cond.methodLink RX1 134 yX0_allWater, Cond.instanceMethod yX0_allWater, Cond.selects RX0 yX0_allWater yX0_allWater, Cond.code yX0_allWater cX0_allWater 1 (some .int), Cond.methodLink RX0 118 yX0_sum, Cond.static yX0_sum, Cond.code yX0_sum cX0_sum 6 (some .int)]
def wsX1_flood : List Cond := .code yX1_flood cX1_flood 2 (some .int) :: ((wsX1_flood_r1 ++ (wsX1_flood_r2 ++ wsX1_flood_r3)) ++ wsX10 ++ wsX00 ++ (vx_atS RX1 234 "java/lang/IllegalArgumentException" ["java/lang/RuntimeException", "java/lang/Exception"]).filter goodWord)
def wsX1_reach_r1 : List Cond := [Cond.fieldLink RX1 16 "SandcastleLeague" "trial" "LSandcastleLeague$Shore;", Cond.fieldLink RX1 10 "SandcastleLeague" "shore" "LSandcastleLeague$Shore;", Cond.methodLink RX1 110 yX1_requireCell, Cond.static yX1_requireCell, Cond.initialized RX1, Cond.code yX1_requireCell cX1_requireCell 2 none, Cond.classLink RX1 54 "java/lang/IndexOutOfBoundsException", Cond.initialized "java/lang/IndexOutOfBoundsException", Cond.methodLink RX1 223 yX1_isOnBeach, Cond.static yX1_isOnBeach, Cond.code yX1_isOnBeach cX1_isOnBeach 2 (some .boolean), Cond.methodLink RX1 76 yX1_cellAt, Cond.static yX1_cellAt, Cond.code yX1_cellAt cX1_cellAt 2 (some .int), Cond.methodLink RX1 177 yX0_become, Cond.instanceMethod yX0_become, Cond.selects RX0 yX0_become yX0_become, Cond.initialized RX0, Cond.code yX0_become cX0_become 2 none, Cond.fieldLink RX0 9 "SandcastleLeague$Shore" "sand" "[I", Cond.methodLink RX0 49 arraycopyName, Cond.native arraycopyName, Cond.static arraycopyName, Cond.initialized "java/lang/System"]
def wsX1_reach_r2 : List Cond := [Cond.fieldLink RX0 15 "SandcastleLeague$Shore" "firmness" "[I", Cond.fieldLink RX0 18 "SandcastleLeague$Shore" "water" "[I", Cond.fieldLink RX0 21 "SandcastleLeague$Shore" "owner" "[I", Cond.fieldLink RX0 24 "SandcastleLeague$Shore" "plantedHeight" "[I", Cond.fieldLink RX0 27 "SandcastleLeague$Shore" "points" "[I", Cond.fieldLink RX0 39 "SandcastleLeague$Shore" "lostSand" "I", Cond.fieldLink RX0 43 "SandcastleLeague$Shore" "slides" "I", Cond.fieldLink RX0 46 "SandcastleLeague$Shore" "fallenSticks" "I", Cond.methodLink RX1 181 yX0_findWater, Cond.instanceMethod yX0_findWater, Cond.selects RX0 yX0_findWater yX0_findWater, Cond.code yX0_findWater cX0_findWater 4 none, Cond.methodLink RX0 30 yJ7_fill_53178, Cond.static yJ7_fill_53178, Cond.initialized RJ7, Cond.code yJ7_fill_53178 cJ7_fill_53178 4 none, Cond.methodLink RX0 86 yX0_sweepWater, Cond.instanceMethod yX0_sweepWater, Cond.selects RX0 yX0_sweepWater yX0_sweepWater, Cond.code yX0_sweepWater cX0_sweepWater 4 (some .boolean), Cond.methodLink RX0 65 yX0_isWet, Cond.instanceMethod yX0_isWet, Cond.selects RX0 yX0_isWet yX0_isWet, Cond.code yX0_isWet cX0_isWet 2 (some .boolean)]
def wsX1_reach_r3 : List Cond := [Cond.methodLink RX0 69 yX0_height, Cond.instanceMethod yX0_height, Cond.selects RX0 yX0_height yX0_height, Cond.code yX0_height cX0_height 2 (some .int), Cond.methodLink RX0 89 yX0_isOpenToSea, Cond.instanceMethod yX0_isOpenToSea, Cond.selects RX0 yX0_isOpenToSea yX0_isOpenToSea, Cond.code yX0_isOpenToSea cX0_isOpenToSea 4 (some .boolean), Cond.methodLink RX0 92 yX0_beside, Cond.static yX0_beside, Cond.code yX0_beside cX0_beside 3 (some .int), Cond.methodLink RX1 184 yX0_isWet]
def wsX1_reach : List Cond := .code yX1_reach cX1_reach 5 (some .int) :: ((wsX1_reach_r1 ++ (wsX1_reach_r2 ++ wsX1_reach_r3)) ++ wsX10 ++ wsX00 ++ (vx_atS RX1 58 "java/lang/IndexOutOfBoundsException" ["java/lang/RuntimeException", "java/lang/Exception"]).filter goodWord)
def wsX1_foresee_r1 : List Cond := [Cond.fieldLink RX1 16 "SandcastleLeague" "trial" "LSandcastleLeague$Shore;", Cond.fieldLink RX1 10 "SandcastleLeague" "shore" "LSandcastleLeague$Shore;", Cond.methodLink RX1 156 yX1_requireHours, Cond.static yX1_requireHours, Cond.initialized RX1, Cond.code yX1_requireHours cX1_requireHours 2 none, Cond.classLink RX1 230 "java/lang/IllegalArgumentException", Cond.initialized "java/lang/IllegalArgumentException", Cond.methodLink RX1 63 yX1_requireTeam, Cond.instanceMethod yX1_requireTeam, Cond.selects RX1 yX1_requireTeam yX1_requireTeam, Cond.code yX1_requireTeam cX1_requireTeam 2 none, Cond.classLink RX1 54 "java/lang/IndexOutOfBoundsException", Cond.initialized "java/lang/IndexOutOfBoundsException", Cond.fieldLink RX1 43 "SandcastleLeague" "teams" "I", Cond.methodLink RX1 113 yX1_requireWhat, Cond.static yX1_requireWhat, Cond.code yX1_requireWhat cX1_requireWhat 2 none, Cond.methodLink RX1 177 yX0_become, Cond.instanceMethod yX0_become, Cond.selects RX0 yX0_become yX0_become, Cond.initialized RX0, Cond.code yX0_become cX0_become 2 none, Cond.fieldLink RX0 9 "SandcastleLeague$Shore" "sand" "[I"]
def wsX1_foresee_r2 : List Cond := [Cond.methodLink RX0 49 arraycopyName, Cond.native arraycopyName, Cond.static arraycopyName, Cond.initialized "java/lang/System", Cond.fieldLink RX0 15 "SandcastleLeague$Shore" "firmness" "[I", Cond.fieldLink RX0 18 "SandcastleLeague$Shore" "water" "[I", Cond.fieldLink RX0 21 "SandcastleLeague$Shore" "owner" "[I", Cond.fieldLink RX0 24 "SandcastleLeague$Shore" "plantedHeight" "[I", Cond.fieldLink RX0 27 "SandcastleLeague$Shore" "points" "[I", Cond.fieldLink RX0 39 "SandcastleLeague$Shore" "lostSand" "I", Cond.fieldLink RX0 43 "SandcastleLeague$Shore" "slides" "I", Cond.fieldLink RX0 46 "SandcastleLeague$Shore" "fallenSticks" "I", Cond.methodLink RX1 159 yX1_letHoursGoBy, Cond.instanceMethod yX1_letHoursGoBy, Cond.selects RX1 yX1_letHoursGoBy yX1_letHoursGoBy, Cond.code yX1_letHoursGoBy cX1_letHoursGoBy 4 none, Cond.fieldLink RX1 28 "SandcastleLeague" "tides" "[I", Cond.fieldLink RX1 131 "SandcastleLeague" "hour" "I", Cond.methodLink RX1 212 yJ9_floorMod_7cf53, Cond.static yJ9_floorMod_7cf53, Cond.initialized RJ9, Cond.code yJ9_floorMod_7cf53 cJ9_floorMod_7cf53 3 (some .int), Cond.methodLink RX1 215 yX0_letHourGoBy, Cond.instanceMethod yX0_letHourGoBy]
def wsX1_foresee_r3 : List Cond := [Cond.selects RX0 yX0_letHourGoBy yX0_letHourGoBy, Cond.code yX0_letHourGoBy cX0_letHourGoBy 2 none, Cond.methodLink RX0 73 yX0_findWater, Cond.instanceMethod yX0_findWater, Cond.selects RX0 yX0_findWater yX0_findWater, Cond.code yX0_findWater cX0_findWater 4 none, Cond.methodLink RX0 30 yJ7_fill_53178, Cond.static yJ7_fill_53178, Cond.initialized RJ7, Cond.code yJ7_fill_53178 cJ7_fill_53178 4 none, Cond.methodLink RX0 86 yX0_sweepWater, Cond.instanceMethod yX0_sweepWater, Cond.selects RX0 yX0_sweepWater yX0_sweepWater, Cond.code yX0_sweepWater cX0_sweepWater 4 (some .boolean), Cond.methodLink RX0 65 yX0_isWet, Cond.instanceMethod yX0_isWet, Cond.selects RX0 yX0_isWet yX0_isWet, Cond.code yX0_isWet cX0_isWet 2 (some .boolean), Cond.methodLink RX0 69 yX0_height, Cond.instanceMethod yX0_height, Cond.selects RX0 yX0_height yX0_height, Cond.code yX0_height cX0_height 2 (some .int), Cond.methodLink RX0 89 yX0_isOpenToSea, Cond.instanceMethod yX0_isOpenToSea]
def wsX1_foresee_r4 : List Cond := [Cond.selects RX0 yX0_isOpenToSea yX0_isOpenToSea, Cond.code yX0_isOpenToSea cX0_isOpenToSea 4 (some .boolean), Cond.methodLink RX0 92 yX0_beside, Cond.static yX0_beside, Cond.code yX0_beside cX0_beside 3 (some .int), Cond.methodLink RX0 76 yX0_washSandAway, Cond.instanceMethod yX0_washSandAway, Cond.selects RX0 yX0_washSandAway yX0_washSandAway, Cond.code yX0_washSandAway cX0_washSandAway 4 none, Cond.methodLink RX0 95 Lib.Math.max.name, Cond.static Lib.Math.max.name, Cond.initialized "java/lang/Math", Cond.code Lib.Math.max.name Lib.Math.max.code 2 (some .int), Cond.methodLink RX0 55 Lib.Math.min.name, Cond.static Lib.Math.min.name, Cond.code Lib.Math.min.name Lib.Math.min.code 2 (some .int), Cond.methodLink RX0 61 yX0_soften, Cond.instanceMethod yX0_soften, Cond.selects RX0 yX0_soften yX0_soften, Cond.code yX0_soften cX0_soften 2 none, Cond.methodLink RX0 79 yX0_letSandSlide, Cond.instanceMethod yX0_letSandSlide, Cond.selects RX0 yX0_letSandSlide yX0_letSandSlide, Cond.code yX0_letSandSlide cX0_letSandSlide 4 (some .int)]
def wsX1_foresee_r5 : List Cond := [Cond.methodLink RX0 98 yX0_slideOnce, Cond.instanceMethod yX0_slideOnce, Cond.selects RX0 yX0_slideOnce yX0_slideOnce, Cond.code yX0_slideOnce cX0_slideOnce 4 (some .int), Cond.methodLink RX0 101 yX0_lowestBeside, Cond.instanceMethod yX0_lowestBeside, Cond.selects RX0 yX0_lowestBeside yX0_lowestBeside, Cond.code yX0_lowestBeside cX0_lowestBeside 5 (some .int), Cond.methodLink RX0 104 yX0_slidesTo, Cond.instanceMethod yX0_slidesTo, Cond.selects RX0 yX0_slidesTo yX0_slidesTo, Cond.code yX0_slidesTo cX0_slidesTo 3 (some .boolean), Cond.methodLink RX0 83 yX0_judgeSticks, Cond.instanceMethod yX0_judgeSticks, Cond.selects RX0 yX0_judgeSticks yX0_judgeSticks, Cond.code yX0_judgeSticks cX0_judgeSticks 3 none, Cond.methodLink RX1 119 yX0_pointsOf, Cond.instanceMethod yX0_pointsOf, Cond.selects RX0 yX0_pointsOf yX0_pointsOf, Cond.code yX0_pointsOf cX0_pointsOf 2 (some .int), Cond.methodLink RX1 95 yX0_sticksOf, Cond.instanceMethod yX0_sticksOf, Cond.selects RX0 yX0_sticksOf yX0_sticksOf, Cond.code yX0_sticksOf cX0_sticksOf 4 (some .int)]
def wsX1_foresee_r6 : List Cond := [Cond.methodLink RX1 122 yX0_sandOfArea, Cond.instanceMethod yX0_sandOfArea, Cond.selects RX0 yX0_sandOfArea yX0_sandOfArea, Cond.code yX0_sandOfArea cX0_sandOfArea 2 (some .int), Cond.methodLink RX0 111 yX0_sumOfArea, Cond.static yX0_sumOfArea, Cond.code yX0_sumOfArea cX0_sumOfArea 4 (some .int), Cond.static yX1_isInArea, Cond.code yX1_isInArea cX1_isInArea 2 (some .boolean)]
def wsX1_foresee : List Cond := .code yX1_foresee cX1_foresee 4 (some .int) :: ((wsX1_foresee_r1 ++ (wsX1_foresee_r2 ++ (wsX1_foresee_r3 ++ (wsX1_foresee_r4 ++ (wsX1_foresee_r5 ++ wsX1_foresee_r6))))) ++ wsX10 ++ wsX00 ++ (vx_atS RX1 234 "java/lang/IllegalArgumentException" ["java/lang/RuntimeException", "java/lang/Exception"]).filter goodWord ++ (vx_atS RX1 58 "java/lang/IndexOutOfBoundsException" ["java/lang/RuntimeException", "java/lang/Exception"]).filter goodWord)
def wsX1_advise_r1 : List Cond := [Cond.fieldLink RX1 16 "SandcastleLeague" "trial" "LSandcastleLeague$Shore;", Cond.fieldLink RX1 10 "SandcastleLeague" "shore" "LSandcastleLeague$Shore;", Cond.methodLink RX1 63 yX1_requireTeam, Cond.instanceMethod yX1_requireTeam, Cond.selects RX1 yX1_requireTeam yX1_requireTeam, Cond.initialized RX1, Cond.code yX1_requireTeam cX1_requireTeam 2 none, Cond.classLink RX1 54 "java/lang/IndexOutOfBoundsException", Cond.initialized "java/lang/IndexOutOfBoundsException", Cond.fieldLink RX1 43 "SandcastleLeague" "teams" "I", Cond.methodLink RX1 156 yX1_requireHours, Cond.static yX1_requireHours, Cond.code yX1_requireHours cX1_requireHours 2 none, Cond.classLink RX1 230 "java/lang/IllegalArgumentException", Cond.initialized "java/lang/IllegalArgumentException", Cond.methodLink RX1 177 yX0_become, Cond.instanceMethod yX0_become, Cond.selects RX0 yX0_become yX0_become, Cond.initialized RX0, Cond.code yX0_become cX0_become 2 none, Cond.fieldLink RX0 9 "SandcastleLeague$Shore" "sand" "[I", Cond.methodLink RX0 49 arraycopyName, Cond.native arraycopyName, Cond.static arraycopyName]
def wsX1_advise_r2 : List Cond := [Cond.initialized "java/lang/System", Cond.fieldLink RX0 15 "SandcastleLeague$Shore" "firmness" "[I", Cond.fieldLink RX0 18 "SandcastleLeague$Shore" "water" "[I", Cond.fieldLink RX0 21 "SandcastleLeague$Shore" "owner" "[I", Cond.fieldLink RX0 24 "SandcastleLeague$Shore" "plantedHeight" "[I", Cond.fieldLink RX0 27 "SandcastleLeague$Shore" "points" "[I", Cond.fieldLink RX0 39 "SandcastleLeague$Shore" "lostSand" "I", Cond.fieldLink RX0 43 "SandcastleLeague$Shore" "slides" "I", Cond.fieldLink RX0 46 "SandcastleLeague$Shore" "fallenSticks" "I", Cond.methodLink RX1 187 yX0_clearSticks, Cond.instanceMethod yX0_clearSticks, Cond.selects RX0 yX0_clearSticks yX0_clearSticks, Cond.code yX0_clearSticks cX0_clearSticks 1 none, Cond.methodLink RX0 30 yJ7_fill_53178, Cond.static yJ7_fill_53178, Cond.initialized RJ7, Cond.code yJ7_fill_53178 cJ7_fill_53178 4 none, Cond.methodLink RX1 190 yX1_isInArea, Cond.static yX1_isInArea, Cond.code yX1_isInArea cX1_isInArea 2 (some .boolean), Cond.methodLink RX1 100 yX0_isFree, Cond.instanceMethod yX0_isFree, Cond.selects RX0 yX0_isFree yX0_isFree, Cond.code yX0_isFree cX0_isFree 2 (some .boolean)]
def wsX1_advise_r3 : List Cond := [Cond.methodLink RX0 108 yX0_hasStick, Cond.instanceMethod yX0_hasStick, Cond.selects RX0 yX0_hasStick yX0_hasStick, Cond.code yX0_hasStick cX0_hasStick 2 (some .boolean), Cond.methodLink RX0 65 yX0_isWet, Cond.instanceMethod yX0_isWet, Cond.selects RX0 yX0_isWet yX0_isWet, Cond.code yX0_isWet cX0_isWet 2 (some .boolean), Cond.methodLink RX1 106 yX0_putStick, Cond.instanceMethod yX0_putStick, Cond.selects RX0 yX0_putStick yX0_putStick, Cond.code yX0_putStick cX0_putStick 3 none, Cond.methodLink RX0 69 yX0_height, Cond.instanceMethod yX0_height, Cond.selects RX0 yX0_height yX0_height, Cond.code yX0_height cX0_height 2 (some .int), Cond.methodLink RX1 159 yX1_letHoursGoBy, Cond.instanceMethod yX1_letHoursGoBy, Cond.selects RX1 yX1_letHoursGoBy yX1_letHoursGoBy, Cond.code yX1_letHoursGoBy cX1_letHoursGoBy 4 none, Cond.fieldLink RX1 28 "SandcastleLeague" "tides" "[I", Cond.fieldLink RX1 131 "SandcastleLeague" "hour" "I", Cond.methodLink RX1 212 yJ9_floorMod_7cf53, Cond.static yJ9_floorMod_7cf53]
def wsX1_advise_r4 : List Cond := [Cond.initialized RJ9, Cond.code yJ9_floorMod_7cf53 cJ9_floorMod_7cf53 3 (some .int), Cond.methodLink RX1 215 yX0_letHourGoBy, Cond.instanceMethod yX0_letHourGoBy, Cond.selects RX0 yX0_letHourGoBy yX0_letHourGoBy, Cond.code yX0_letHourGoBy cX0_letHourGoBy 2 none, Cond.methodLink RX0 73 yX0_findWater, Cond.instanceMethod yX0_findWater, Cond.selects RX0 yX0_findWater yX0_findWater, Cond.code yX0_findWater cX0_findWater 4 none, Cond.methodLink RX0 86 yX0_sweepWater, Cond.instanceMethod yX0_sweepWater, Cond.selects RX0 yX0_sweepWater yX0_sweepWater, Cond.code yX0_sweepWater cX0_sweepWater 4 (some .boolean), Cond.methodLink RX0 89 yX0_isOpenToSea, Cond.instanceMethod yX0_isOpenToSea, Cond.selects RX0 yX0_isOpenToSea yX0_isOpenToSea, Cond.code yX0_isOpenToSea cX0_isOpenToSea 4 (some .boolean), Cond.methodLink RX0 92 yX0_beside, Cond.static yX0_beside, Cond.code yX0_beside cX0_beside 3 (some .int), Cond.methodLink RX0 76 yX0_washSandAway, Cond.instanceMethod yX0_washSandAway, Cond.selects RX0 yX0_washSandAway yX0_washSandAway]
def wsX1_advise_r5 : List Cond := [Cond.code yX0_washSandAway cX0_washSandAway 4 none, Cond.methodLink RX0 95 Lib.Math.max.name, Cond.static Lib.Math.max.name, Cond.initialized "java/lang/Math", Cond.code Lib.Math.max.name Lib.Math.max.code 2 (some .int), Cond.methodLink RX0 55 Lib.Math.min.name, Cond.static Lib.Math.min.name, Cond.code Lib.Math.min.name Lib.Math.min.code 2 (some .int), Cond.methodLink RX0 61 yX0_soften, Cond.instanceMethod yX0_soften, Cond.selects RX0 yX0_soften yX0_soften, Cond.code yX0_soften cX0_soften 2 none, Cond.methodLink RX0 79 yX0_letSandSlide, Cond.instanceMethod yX0_letSandSlide, Cond.selects RX0 yX0_letSandSlide yX0_letSandSlide, Cond.code yX0_letSandSlide cX0_letSandSlide 4 (some .int), Cond.methodLink RX0 98 yX0_slideOnce, Cond.instanceMethod yX0_slideOnce, Cond.selects RX0 yX0_slideOnce yX0_slideOnce, Cond.code yX0_slideOnce cX0_slideOnce 4 (some .int), Cond.methodLink RX0 101 yX0_lowestBeside, Cond.instanceMethod yX0_lowestBeside, Cond.selects RX0 yX0_lowestBeside yX0_lowestBeside, Cond.code yX0_lowestBeside cX0_lowestBeside 5 (some .int)]
def wsX1_advise_r6 : List Cond := [Cond.methodLink RX0 104 yX0_slidesTo, Cond.instanceMethod yX0_slidesTo, Cond.selects RX0 yX0_slidesTo yX0_slidesTo, Cond.code yX0_slidesTo cX0_slidesTo 3 (some .boolean), Cond.methodLink RX0 83 yX0_judgeSticks, Cond.instanceMethod yX0_judgeSticks, Cond.selects RX0 yX0_judgeSticks yX0_judgeSticks, Cond.code yX0_judgeSticks cX0_judgeSticks 3 none, Cond.methodLink RX1 119 yX0_pointsOf, Cond.instanceMethod yX0_pointsOf, Cond.selects RX0 yX0_pointsOf yX0_pointsOf, Cond.code yX0_pointsOf cX0_pointsOf 2 (some .int)]
def wsX1_advise : List Cond := .code yX1_advise cX1_advise 6 (some .int) :: ((wsX1_advise_r1 ++ (wsX1_advise_r2 ++ (wsX1_advise_r3 ++ (wsX1_advise_r4 ++ (wsX1_advise_r5 ++ wsX1_advise_r6))))) ++ wsX10 ++ wsX00 ++ (vx_atS RX1 58 "java/lang/IndexOutOfBoundsException" ["java/lang/RuntimeException", "java/lang/Exception"]).filter goodWord ++ (vx_atS RX1 234 "java/lang/IllegalArgumentException" ["java/lang/RuntimeException", "java/lang/Exception"]).filter goodWord)
def wsX1_mean : List Cond := .code yX1_mean cX1_mean 1 (some .double) :: ([.fieldLink RX1 10 "SandcastleLeague" "shore" "LSandcastleLeague$Shore;", .constantDouble RX1 197 (4638144666238189568), .methodLink RX1 194 yX0_allHeights, .instanceMethod yX0_allHeights, .selects RX0 yX0_allHeights yX0_allHeights, .initialized RX0, .code yX0_allHeights cX0_allHeights 3 (some .int), .methodLink RX0 69 yX0_height, .instanceMethod yX0_height, .selects RX0 yX0_height yX0_height, .code yX0_height cX0_height 2 (some .int), .fieldLink RX0 9 "SandcastleLeague$Shore" "sand" "[I"] ++ wsX10 ++ wsX00)
def wsX1_digest_r1 : List Cond := [Cond.constantLong RX1 199 (503), Cond.constantLong RX1 201 (31), Cond.fieldLink RX1 28 "SandcastleLeague" "tides" "[I", Cond.fieldLink RX1 43 "SandcastleLeague" "teams" "I", Cond.fieldLink RX1 10 "SandcastleLeague" "shore" "LSandcastleLeague$Shore;", Cond.methodLink RX1 203 yX1_count, Cond.instanceMethod yX1_count, Cond.selects RX1 yX1_count yX1_count, Cond.initialized RX1, Cond.code yX1_count cX1_count 2 (some .int), Cond.fieldLink RX1 131 "SandcastleLeague" "hour" "I", Cond.fieldLink RX1 153 "SandcastleLeague" "endedRounds" "I", Cond.methodLink RX1 113 yX1_requireWhat, Cond.static yX1_requireWhat, Cond.code yX1_requireWhat cX1_requireWhat 2 none, Cond.classLink RX1 54 "java/lang/IndexOutOfBoundsException", Cond.initialized "java/lang/IndexOutOfBoundsException", Cond.methodLink RX1 134 yX0_allWater, Cond.instanceMethod yX0_allWater, Cond.selects RX0 yX0_allWater yX0_allWater, Cond.initialized RX0, Cond.code yX0_allWater cX0_allWater 1 (some .int), Cond.fieldLink RX0 18 "SandcastleLeague$Shore" "water" "[I", Cond.methodLink RX0 118 yX0_sum]
def wsX1_digest_r2 : List Cond := [Cond.static yX0_sum, Cond.code yX0_sum cX0_sum 6 (some .int), Cond.methodLink RX1 138 yX0_allSand, Cond.instanceMethod yX0_allSand, Cond.selects RX0 yX0_allSand yX0_allSand, Cond.code yX0_allSand cX0_allSand 1 (some .int), Cond.fieldLink RX0 9 "SandcastleLeague$Shore" "sand" "[I", Cond.methodLink RX1 147 yX0_allSticks, Cond.instanceMethod yX0_allSticks, Cond.selects RX0 yX0_allSticks yX0_allSticks, Cond.code yX0_allSticks cX0_allSticks 3 (some .int), Cond.methodLink RX0 108 yX0_hasStick, Cond.instanceMethod yX0_hasStick, Cond.selects RX0 yX0_hasStick yX0_hasStick, Cond.code yX0_hasStick cX0_hasStick 2 (some .boolean), Cond.fieldLink RX0 21 "SandcastleLeague$Shore" "owner" "[I", Cond.methodLink RX1 206 yX1_team, Cond.instanceMethod yX1_team, Cond.selects RX1 yX1_team yX1_team, Cond.code yX1_team cX1_team 3 (some .int), Cond.fieldLink RX1 31 "SandcastleLeague" "bucket" "[I", Cond.fieldLink RX1 34 "SandcastleLeague" "strength" "[I", Cond.fieldLink RX1 37 "SandcastleLeague" "leaguePoints" "[I", Cond.methodLink RX1 63 yX1_requireTeam]
def wsX1_digest_r3 : List Cond := [Cond.instanceMethod yX1_requireTeam, Cond.selects RX1 yX1_requireTeam yX1_requireTeam, Cond.code yX1_requireTeam cX1_requireTeam 2 none, Cond.methodLink RX1 119 yX0_pointsOf, Cond.instanceMethod yX0_pointsOf, Cond.selects RX0 yX0_pointsOf yX0_pointsOf, Cond.code yX0_pointsOf cX0_pointsOf 2 (some .int), Cond.fieldLink RX0 27 "SandcastleLeague$Shore" "points" "[I", Cond.methodLink RX1 95 yX0_sticksOf, Cond.instanceMethod yX0_sticksOf, Cond.selects RX0 yX0_sticksOf yX0_sticksOf, Cond.code yX0_sticksOf cX0_sticksOf 4 (some .int), Cond.methodLink RX1 122 yX0_sandOfArea, Cond.instanceMethod yX0_sandOfArea, Cond.selects RX0 yX0_sandOfArea yX0_sandOfArea, Cond.code yX0_sandOfArea cX0_sandOfArea 2 (some .int), Cond.methodLink RX0 111 yX0_sumOfArea, Cond.static yX0_sumOfArea, Cond.code yX0_sumOfArea cX0_sumOfArea 4 (some .int), Cond.static yX1_isInArea, Cond.code yX1_isInArea cX1_isInArea 2 (some .boolean), Cond.methodLink RX1 125 yX0_greatestHeightOfArea, Cond.instanceMethod yX0_greatestHeightOfArea, Cond.selects RX0 yX0_greatestHeightOfArea yX0_greatestHeightOfArea]
def wsX1_digest_r4 : List Cond := [Cond.code yX0_greatestHeightOfArea cX0_greatestHeightOfArea 4 (some .int), Cond.methodLink RX0 95 Lib.Math.max.name, Cond.static Lib.Math.max.name, Cond.initialized "java/lang/Math", Cond.code Lib.Math.max.name Lib.Math.max.code 2 (some .int), Cond.methodLink RX0 69 yX0_height, Cond.instanceMethod yX0_height, Cond.selects RX0 yX0_height yX0_height, Cond.code yX0_height cX0_height 2 (some .int), Cond.methodLink RX1 128 yX0_waterOfArea, Cond.instanceMethod yX0_waterOfArea, Cond.selects RX0 yX0_waterOfArea yX0_waterOfArea, Cond.code yX0_waterOfArea cX0_waterOfArea 2 (some .int), Cond.methodLink RX1 116 yX0_tellCell, Cond.instanceMethod yX0_tellCell, Cond.selects RX0 yX0_tellCell yX0_tellCell, Cond.code yX0_tellCell cX0_tellCell 3 (some .int), Cond.fieldLink RX0 15 "SandcastleLeague$Shore" "firmness" "[I", Cond.fieldLink RX0 24 "SandcastleLeague$Shore" "plantedHeight" "[I"]
def wsX1_digest : List Cond := .code yX1_digest cX1_digest 5 (some .long) :: ((wsX1_digest_r1 ++ (wsX1_digest_r2 ++ (wsX1_digest_r3 ++ wsX1_digest_r4))) ++ wsX10 ++ wsX00 ++ (vx_atS RX1 58 "java/lang/IndexOutOfBoundsException" ["java/lang/RuntimeException", "java/lang/Exception"]).filter goodWord)
def wsX2_fill : List Cond := .code yX2_fill cX2_fill 3 none :: ([])
def wsX2_init : List Cond := .code yX2_init cX2_init 1 none :: ([.methodLink RX2 1 objectInit, .instanceMethod objectInit, .code objectInit ⟨#[0xb1]⟩ 1 none, .arrayClass .int, .fieldLink RX2 9 "SandcastleLeagueModel" "sand" "[I", .fieldLink RX2 13 "SandcastleLeagueModel" "firm" "[I", .fieldLink RX2 16 "SandcastleLeagueModel" "water" "[I", .fieldLink RX2 19 "SandcastleLeagueModel" "sticks" "[I", .fieldLink RX2 22 "SandcastleLeagueModel" "table" "[I", .fieldLink RX2 25 "SandcastleLeagueModel" "tides" "[I", .fieldLink RX2 28 "SandcastleLeagueModel" "over" "[I", .methodLink RX2 31 yX2_fill, .static yX2_fill, .initialized RX2, .code yX2_fill cX2_fill 3 none] ++ wsX20)
def wsX2_thrown : List Cond := .code yX2_thrown cX2_thrown 1 (some .int) :: ([.fieldLink RX2 35 "SandcastleLeagueModel" "thrown" "I"] ++ wsX20)
def wsX2_fail : List Cond := .code yX2_fail cX2_fail 2 (some .int) :: ([.fieldLink RX2 35 "SandcastleLeagueModel" "thrown" "I"] ++ wsX20)
def wsX2_isIn : List Cond := .code yX2_isIn cX2_isIn 3 (some .boolean) :: ([])
def wsX2_isTeam : List Cond := .code yX2_isTeam cX2_isTeam 2 (some .boolean) :: ([.fieldLink RX2 39 "SandcastleLeagueModel" "teams" "I", .methodLink RX2 42 yX2_isIn, .static yX2_isIn, .initialized RX2, .code yX2_isIn cX2_isIn 3 (some .boolean)] ++ wsX20)
def wsX2_get : List Cond := .code yX2_get cX2_get 3 (some .int) :: ([.fieldLink RX2 22 "SandcastleLeagueModel" "table" "[I"] ++ wsX20)
def wsX2_add : List Cond := .code yX2_add cX2_add 4 none :: ([.fieldLink RX2 22 "SandcastleLeagueModel" "table" "[I"] ++ wsX20)
def wsX2_height : List Cond := .code yX2_height cX2_height 2 (some .int) :: ([.fieldLink RX2 9 "SandcastleLeagueModel" "sand" "[I"] ++ wsX20)
def wsX2_teamOf : List Cond := .code yX2_teamOf cX2_teamOf 1 (some .int) :: ([])
def wsX2_beside : List Cond := .code yX2_beside cX2_beside 2 (some .int) :: ([])
def wsX2_addTeam : List Cond := .code yX2_addTeam cX2_addTeam 1 (some .int) :: ([.fieldLink RX2 35 "SandcastleLeagueModel" "thrown" "I", .fieldLink RX2 39 "SandcastleLeagueModel" "teams" "I", .fieldLink RX2 22 "SandcastleLeagueModel" "table" "[I", .methodLink RX2 46 yX2_fail, .instanceMethod yX2_fail, .selects RX2 yX2_fail yX2_fail, .initialized RX2, .code yX2_fail cX2_fail 2 (some .int)] ++ wsX20)
def wsX2_setTide : List Cond := .code yX2_setTide cX2_setTide 4 (some .int) :: ([.fieldLink RX2 35 "SandcastleLeagueModel" "thrown" "I", .fieldLink RX2 25 "SandcastleLeagueModel" "tides" "[I", .methodLink RX2 42 yX2_isIn, .static yX2_isIn, .initialized RX2, .code yX2_isIn cX2_isIn 3 (some .boolean), .methodLink RX2 46 yX2_fail, .instanceMethod yX2_fail, .selects RX2 yX2_fail yX2_fail, .code yX2_fail cX2_fail 2 (some .int)] ++ wsX20)
def wsX2_deed : List Cond := .code yX2_deed cX2_deed 5 (some .int) :: ([.fieldLink RX2 35 "SandcastleLeagueModel" "thrown" "I", .methodLink RX2 50 yX2_isTeam, .instanceMethod yX2_isTeam, .selects RX2 yX2_isTeam yX2_isTeam, .initialized RX2, .code yX2_isTeam cX2_isTeam 2 (some .boolean), .fieldLink RX2 39 "SandcastleLeagueModel" "teams" "I", .methodLink RX2 42 yX2_isIn, .static yX2_isIn, .code yX2_isIn cX2_isIn 3 (some .boolean), .methodLink RX2 54 yX2_get, .instanceMethod yX2_get, .selects RX2 yX2_get yX2_get, .code yX2_get cX2_get 3 (some .int), .fieldLink RX2 22 "SandcastleLeagueModel" "table" "[I"] ++ wsX20)
def wsX2_dig_r1 : List Cond := [Cond.fieldLink RX2 9 "SandcastleLeagueModel" "sand" "[I", Cond.methodLink RX2 62 Lib.Math.min.name, Cond.static Lib.Math.min.name, Cond.initialized "java/lang/Math", Cond.code Lib.Math.min.name Lib.Math.min.code 2 (some .int), Cond.fieldLink RX2 13 "SandcastleLeagueModel" "firm" "[I", Cond.methodLink RX2 58 yX2_deed, Cond.instanceMethod yX2_deed, Cond.selects RX2 yX2_deed yX2_deed, Cond.initialized RX2, Cond.code yX2_deed cX2_deed 5 (some .int), Cond.fieldLink RX2 35 "SandcastleLeagueModel" "thrown" "I", Cond.methodLink RX2 50 yX2_isTeam, Cond.instanceMethod yX2_isTeam, Cond.selects RX2 yX2_isTeam yX2_isTeam, Cond.code yX2_isTeam cX2_isTeam 2 (some .boolean), Cond.fieldLink RX2 39 "SandcastleLeagueModel" "teams" "I", Cond.methodLink RX2 42 yX2_isIn, Cond.static yX2_isIn, Cond.code yX2_isIn cX2_isIn 3 (some .boolean), Cond.methodLink RX2 54 yX2_get, Cond.instanceMethod yX2_get, Cond.selects RX2 yX2_get yX2_get, Cond.code yX2_get cX2_get 3 (some .int)]
def wsX2_dig_r2 : List Cond := [Cond.fieldLink RX2 22 "SandcastleLeagueModel" "table" "[I", Cond.methodLink RX2 67 yX2_add, Cond.instanceMethod yX2_add, Cond.selects RX2 yX2_add yX2_add, Cond.code yX2_add cX2_add 4 none]
def wsX2_dig : List Cond := .code yX2_dig cX2_dig 7 (some .int) :: ((wsX2_dig_r1 ++ wsX2_dig_r2) ++ wsX20)
def wsX2_pile_r1 : List Cond := [Cond.fieldLink RX2 9 "SandcastleLeagueModel" "sand" "[I", Cond.methodLink RX2 62 Lib.Math.min.name, Cond.static Lib.Math.min.name, Cond.initialized "java/lang/Math", Cond.code Lib.Math.min.name Lib.Math.min.code 2 (some .int), Cond.fieldLink RX2 13 "SandcastleLeagueModel" "firm" "[I", Cond.methodLink RX2 71 Lib.Math.max.name, Cond.static Lib.Math.max.name, Cond.code Lib.Math.max.name Lib.Math.max.code 2 (some .int), Cond.methodLink RX2 58 yX2_deed, Cond.instanceMethod yX2_deed, Cond.selects RX2 yX2_deed yX2_deed, Cond.initialized RX2, Cond.code yX2_deed cX2_deed 5 (some .int), Cond.fieldLink RX2 35 "SandcastleLeagueModel" "thrown" "I", Cond.methodLink RX2 50 yX2_isTeam, Cond.instanceMethod yX2_isTeam, Cond.selects RX2 yX2_isTeam yX2_isTeam, Cond.code yX2_isTeam cX2_isTeam 2 (some .boolean), Cond.fieldLink RX2 39 "SandcastleLeagueModel" "teams" "I", Cond.methodLink RX2 42 yX2_isIn, Cond.static yX2_isIn, Cond.code yX2_isIn cX2_isIn 3 (some .boolean), Cond.methodLink RX2 54 yX2_get]
def wsX2_pile_r2 : List Cond := [Cond.instanceMethod yX2_get, Cond.selects RX2 yX2_get yX2_get, Cond.code yX2_get cX2_get 3 (some .int), Cond.fieldLink RX2 22 "SandcastleLeagueModel" "table" "[I", Cond.methodLink RX2 67 yX2_add, Cond.instanceMethod yX2_add, Cond.selects RX2 yX2_add yX2_add, Cond.code yX2_add cX2_add 4 none]
def wsX2_pile : List Cond := .code yX2_pile cX2_pile 7 (some .int) :: ((wsX2_pile_r1 ++ wsX2_pile_r2) ++ wsX20)
def wsX2_pack_r1 : List Cond := [Cond.fieldLink RX2 9 "SandcastleLeagueModel" "sand" "[I", Cond.fieldLink RX2 16 "SandcastleLeagueModel" "water" "[I", Cond.fieldLink RX2 13 "SandcastleLeagueModel" "firm" "[I", Cond.methodLink RX2 62 Lib.Math.min.name, Cond.static Lib.Math.min.name, Cond.initialized "java/lang/Math", Cond.code Lib.Math.min.name Lib.Math.min.code 2 (some .int), Cond.methodLink RX2 58 yX2_deed, Cond.instanceMethod yX2_deed, Cond.selects RX2 yX2_deed yX2_deed, Cond.initialized RX2, Cond.code yX2_deed cX2_deed 5 (some .int), Cond.fieldLink RX2 35 "SandcastleLeagueModel" "thrown" "I", Cond.methodLink RX2 50 yX2_isTeam, Cond.instanceMethod yX2_isTeam, Cond.selects RX2 yX2_isTeam yX2_isTeam, Cond.code yX2_isTeam cX2_isTeam 2 (some .boolean), Cond.fieldLink RX2 39 "SandcastleLeagueModel" "teams" "I", Cond.methodLink RX2 42 yX2_isIn, Cond.static yX2_isIn, Cond.code yX2_isIn cX2_isIn 3 (some .boolean), Cond.methodLink RX2 54 yX2_get, Cond.instanceMethod yX2_get, Cond.selects RX2 yX2_get yX2_get]
def wsX2_pack_r2 : List Cond := [Cond.code yX2_get cX2_get 3 (some .int), Cond.fieldLink RX2 22 "SandcastleLeagueModel" "table" "[I", Cond.methodLink RX2 67 yX2_add, Cond.instanceMethod yX2_add, Cond.selects RX2 yX2_add yX2_add, Cond.code yX2_add cX2_add 4 none]
def wsX2_pack : List Cond := .code yX2_pack cX2_pack 5 (some .int) :: ((wsX2_pack_r1 ++ wsX2_pack_r2) ++ wsX20)
def wsX2_sticksOf : List Cond := .code yX2_sticksOf cX2_sticksOf 4 (some .int) :: ([.fieldLink RX2 19 "SandcastleLeagueModel" "sticks" "[I", .methodLink RX2 74 yX2_teamOf, .static yX2_teamOf, .initialized RX2, .code yX2_teamOf cX2_teamOf 1 (some .int)] ++ wsX20)
def wsX2_plant_r1 : List Cond := [Cond.fieldLink RX2 19 "SandcastleLeagueModel" "sticks" "[I", Cond.fieldLink RX2 16 "SandcastleLeagueModel" "water" "[I", Cond.methodLink RX2 58 yX2_deed, Cond.instanceMethod yX2_deed, Cond.selects RX2 yX2_deed yX2_deed, Cond.initialized RX2, Cond.code yX2_deed cX2_deed 5 (some .int), Cond.fieldLink RX2 35 "SandcastleLeagueModel" "thrown" "I", Cond.methodLink RX2 50 yX2_isTeam, Cond.instanceMethod yX2_isTeam, Cond.selects RX2 yX2_isTeam yX2_isTeam, Cond.code yX2_isTeam cX2_isTeam 2 (some .boolean), Cond.fieldLink RX2 39 "SandcastleLeagueModel" "teams" "I", Cond.methodLink RX2 42 yX2_isIn, Cond.static yX2_isIn, Cond.code yX2_isIn cX2_isIn 3 (some .boolean), Cond.methodLink RX2 54 yX2_get, Cond.instanceMethod yX2_get, Cond.selects RX2 yX2_get yX2_get, Cond.code yX2_get cX2_get 3 (some .int), Cond.fieldLink RX2 22 "SandcastleLeagueModel" "table" "[I", Cond.methodLink RX2 77 yX2_sticksOf, Cond.instanceMethod yX2_sticksOf, Cond.selects RX2 yX2_sticksOf yX2_sticksOf]
def wsX2_plant_r2 : List Cond := [Cond.code yX2_sticksOf cX2_sticksOf 4 (some .int), Cond.methodLink RX2 74 yX2_teamOf, Cond.static yX2_teamOf, Cond.code yX2_teamOf cX2_teamOf 1 (some .int), Cond.methodLink RX2 46 yX2_fail, Cond.instanceMethod yX2_fail, Cond.selects RX2 yX2_fail yX2_fail, Cond.code yX2_fail cX2_fail 2 (some .int), Cond.methodLink RX2 80 yX2_height, Cond.instanceMethod yX2_height, Cond.selects RX2 yX2_height yX2_height, Cond.code yX2_height cX2_height 2 (some .int), Cond.fieldLink RX2 9 "SandcastleLeagueModel" "sand" "[I", Cond.methodLink RX2 67 yX2_add, Cond.instanceMethod yX2_add, Cond.selects RX2 yX2_add yX2_add, Cond.code yX2_add cX2_add 4 none]
def wsX2_plant : List Cond := .code yX2_plant cX2_plant 5 (some .int) :: ((wsX2_plant_r1 ++ wsX2_plant_r2) ++ wsX20)
def wsX2_cellTold : List Cond := .code yX2_cellTold cX2_cellTold 3 (some .int) :: ([.fieldLink RX2 9 "SandcastleLeagueModel" "sand" "[I", .fieldLink RX2 13 "SandcastleLeagueModel" "firm" "[I", .fieldLink RX2 16 "SandcastleLeagueModel" "water" "[I", .fieldLink RX2 19 "SandcastleLeagueModel" "sticks" "[I", .methodLink RX2 71 Lib.Math.max.name, .static Lib.Math.max.name, .initialized "java/lang/Math", .code Lib.Math.max.name Lib.Math.max.code 2 (some .int), .methodLink RX2 80 yX2_height, .instanceMethod yX2_height, .selects RX2 yX2_height yX2_height, .initialized RX2, .code yX2_height cX2_height 2 (some .int)] ++ wsX20)
def wsX2_cell_r1 : List Cond := [Cond.fieldLink RX2 35 "SandcastleLeagueModel" "thrown" "I", Cond.methodLink RX2 42 yX2_isIn, Cond.static yX2_isIn, Cond.initialized RX2, Cond.code yX2_isIn cX2_isIn 3 (some .boolean), Cond.methodLink RX2 83 yX2_cellTold, Cond.instanceMethod yX2_cellTold, Cond.selects RX2 yX2_cellTold yX2_cellTold, Cond.code yX2_cellTold cX2_cellTold 3 (some .int), Cond.fieldLink RX2 9 "SandcastleLeagueModel" "sand" "[I", Cond.fieldLink RX2 13 "SandcastleLeagueModel" "firm" "[I", Cond.fieldLink RX2 16 "SandcastleLeagueModel" "water" "[I", Cond.fieldLink RX2 19 "SandcastleLeagueModel" "sticks" "[I", Cond.methodLink RX2 71 Lib.Math.max.name, Cond.static Lib.Math.max.name, Cond.initialized "java/lang/Math", Cond.code Lib.Math.max.name Lib.Math.max.code 2 (some .int), Cond.methodLink RX2 80 yX2_height, Cond.instanceMethod yX2_height, Cond.selects RX2 yX2_height yX2_height, Cond.code yX2_height cX2_height 2 (some .int), Cond.methodLink RX2 46 yX2_fail, Cond.instanceMethod yX2_fail, Cond.selects RX2 yX2_fail yX2_fail]
def wsX2_cell_r2 : List Cond := [Cond.code yX2_fail cX2_fail 2 (some .int)]
def wsX2_cell : List Cond := .code yX2_cell cX2_cell 4 (some .int) :: ((wsX2_cell_r1 ++ wsX2_cell_r2) ++ wsX20)
def wsX2_areaOf : List Cond := .code yX2_areaOf cX2_areaOf 5 (some .int) :: ([.methodLink RX2 71 Lib.Math.max.name, .static Lib.Math.max.name, .initialized "java/lang/Math", .code Lib.Math.max.name Lib.Math.max.code 2 (some .int), .fieldLink RX2 9 "SandcastleLeagueModel" "sand" "[I", .fieldLink RX2 16 "SandcastleLeagueModel" "water" "[I", .methodLink RX2 74 yX2_teamOf, .static yX2_teamOf, .initialized RX2, .code yX2_teamOf cX2_teamOf 1 (some .int), .methodLink RX2 80 yX2_height, .instanceMethod yX2_height, .selects RX2 yX2_height yX2_height, .code yX2_height cX2_height 2 (some .int)] ++ wsX20)
def wsX2_teamTold_r1 : List Cond := [Cond.methodLink RX2 54 yX2_get, Cond.instanceMethod yX2_get, Cond.selects RX2 yX2_get yX2_get, Cond.initialized RX2, Cond.code yX2_get cX2_get 3 (some .int), Cond.fieldLink RX2 22 "SandcastleLeagueModel" "table" "[I", Cond.methodLink RX2 77 yX2_sticksOf, Cond.instanceMethod yX2_sticksOf, Cond.selects RX2 yX2_sticksOf yX2_sticksOf, Cond.code yX2_sticksOf cX2_sticksOf 4 (some .int), Cond.fieldLink RX2 19 "SandcastleLeagueModel" "sticks" "[I", Cond.methodLink RX2 74 yX2_teamOf, Cond.static yX2_teamOf, Cond.code yX2_teamOf cX2_teamOf 1 (some .int), Cond.methodLink RX2 86 yX2_areaOf, Cond.instanceMethod yX2_areaOf, Cond.selects RX2 yX2_areaOf yX2_areaOf, Cond.code yX2_areaOf cX2_areaOf 5 (some .int), Cond.methodLink RX2 71 Lib.Math.max.name, Cond.static Lib.Math.max.name, Cond.initialized "java/lang/Math", Cond.code Lib.Math.max.name Lib.Math.max.code 2 (some .int), Cond.fieldLink RX2 9 "SandcastleLeagueModel" "sand" "[I", Cond.fieldLink RX2 16 "SandcastleLeagueModel" "water" "[I"]
def wsX2_teamTold_r2 : List Cond := [Cond.methodLink RX2 80 yX2_height, Cond.instanceMethod yX2_height, Cond.selects RX2 yX2_height yX2_height, Cond.code yX2_height cX2_height 2 (some .int)]
def wsX2_teamTold : List Cond := .code yX2_teamTold cX2_teamTold 3 (some .int) :: ((wsX2_teamTold_r1 ++ wsX2_teamTold_r2) ++ wsX20)
def wsX2_team_r1 : List Cond := [Cond.fieldLink RX2 35 "SandcastleLeagueModel" "thrown" "I", Cond.methodLink RX2 50 yX2_isTeam, Cond.instanceMethod yX2_isTeam, Cond.selects RX2 yX2_isTeam yX2_isTeam, Cond.initialized RX2, Cond.code yX2_isTeam cX2_isTeam 2 (some .boolean), Cond.fieldLink RX2 39 "SandcastleLeagueModel" "teams" "I", Cond.methodLink RX2 42 yX2_isIn, Cond.static yX2_isIn, Cond.code yX2_isIn cX2_isIn 3 (some .boolean), Cond.methodLink RX2 89 yX2_teamTold, Cond.instanceMethod yX2_teamTold, Cond.selects RX2 yX2_teamTold yX2_teamTold, Cond.code yX2_teamTold cX2_teamTold 3 (some .int), Cond.methodLink RX2 54 yX2_get, Cond.instanceMethod yX2_get, Cond.selects RX2 yX2_get yX2_get, Cond.code yX2_get cX2_get 3 (some .int), Cond.fieldLink RX2 22 "SandcastleLeagueModel" "table" "[I", Cond.methodLink RX2 77 yX2_sticksOf, Cond.instanceMethod yX2_sticksOf, Cond.selects RX2 yX2_sticksOf yX2_sticksOf, Cond.code yX2_sticksOf cX2_sticksOf 4 (some .int), Cond.fieldLink RX2 19 "SandcastleLeagueModel" "sticks" "[I"]
def wsX2_team_r2 : List Cond := [Cond.methodLink RX2 74 yX2_teamOf, Cond.static yX2_teamOf, Cond.code yX2_teamOf cX2_teamOf 1 (some .int), Cond.methodLink RX2 86 yX2_areaOf, Cond.instanceMethod yX2_areaOf, Cond.selects RX2 yX2_areaOf yX2_areaOf, Cond.code yX2_areaOf cX2_areaOf 5 (some .int), Cond.methodLink RX2 71 Lib.Math.max.name, Cond.static Lib.Math.max.name, Cond.initialized "java/lang/Math", Cond.code Lib.Math.max.name Lib.Math.max.code 2 (some .int), Cond.fieldLink RX2 9 "SandcastleLeagueModel" "sand" "[I", Cond.fieldLink RX2 16 "SandcastleLeagueModel" "water" "[I", Cond.methodLink RX2 80 yX2_height, Cond.instanceMethod yX2_height, Cond.selects RX2 yX2_height yX2_height, Cond.code yX2_height cX2_height 2 (some .int), Cond.methodLink RX2 46 yX2_fail, Cond.instanceMethod yX2_fail, Cond.selects RX2 yX2_fail yX2_fail, Cond.code yX2_fail cX2_fail 2 (some .int)]
def wsX2_team : List Cond := .code yX2_team cX2_team 3 (some .int) :: ((wsX2_team_r1 ++ wsX2_team_r2) ++ wsX20)
def wsX2_counted_r1 : List Cond := [Cond.fieldLink RX2 92 "SandcastleLeagueModel" "hour" "I", Cond.fieldLink RX2 39 "SandcastleLeagueModel" "teams" "I", Cond.fieldLink RX2 95 "SandcastleLeagueModel" "lost" "I", Cond.fieldLink RX2 98 "SandcastleLeagueModel" "slides" "I", Cond.fieldLink RX2 101 "SandcastleLeagueModel" "fallen" "I", Cond.fieldLink RX2 104 "SandcastleLeagueModel" "ended" "I", Cond.methodLink RX2 86 yX2_areaOf, Cond.instanceMethod yX2_areaOf, Cond.selects RX2 yX2_areaOf yX2_areaOf, Cond.initialized RX2, Cond.code yX2_areaOf cX2_areaOf 5 (some .int), Cond.methodLink RX2 71 Lib.Math.max.name, Cond.static Lib.Math.max.name, Cond.initialized "java/lang/Math", Cond.code Lib.Math.max.name Lib.Math.max.code 2 (some .int), Cond.fieldLink RX2 9 "SandcastleLeagueModel" "sand" "[I", Cond.fieldLink RX2 16 "SandcastleLeagueModel" "water" "[I", Cond.methodLink RX2 74 yX2_teamOf, Cond.static yX2_teamOf, Cond.code yX2_teamOf cX2_teamOf 1 (some .int), Cond.methodLink RX2 80 yX2_height, Cond.instanceMethod yX2_height, Cond.selects RX2 yX2_height yX2_height, Cond.code yX2_height cX2_height 2 (some .int)]
def wsX2_counted_r2 : List Cond := [Cond.methodLink RX2 77 yX2_sticksOf, Cond.instanceMethod yX2_sticksOf, Cond.selects RX2 yX2_sticksOf yX2_sticksOf, Cond.code yX2_sticksOf cX2_sticksOf 4 (some .int), Cond.fieldLink RX2 19 "SandcastleLeagueModel" "sticks" "[I"]
def wsX2_counted : List Cond := .code yX2_counted cX2_counted 2 (some .int) :: ((wsX2_counted_r1 ++ wsX2_counted_r2) ++ wsX20)
def wsX2_count_r1 : List Cond := [Cond.fieldLink RX2 35 "SandcastleLeagueModel" "thrown" "I", Cond.methodLink RX2 42 yX2_isIn, Cond.static yX2_isIn, Cond.initialized RX2, Cond.code yX2_isIn cX2_isIn 3 (some .boolean), Cond.methodLink RX2 107 yX2_counted, Cond.instanceMethod yX2_counted, Cond.selects RX2 yX2_counted yX2_counted, Cond.code yX2_counted cX2_counted 2 (some .int), Cond.fieldLink RX2 92 "SandcastleLeagueModel" "hour" "I", Cond.fieldLink RX2 39 "SandcastleLeagueModel" "teams" "I", Cond.fieldLink RX2 95 "SandcastleLeagueModel" "lost" "I", Cond.fieldLink RX2 98 "SandcastleLeagueModel" "slides" "I", Cond.fieldLink RX2 101 "SandcastleLeagueModel" "fallen" "I", Cond.fieldLink RX2 104 "SandcastleLeagueModel" "ended" "I", Cond.methodLink RX2 86 yX2_areaOf, Cond.instanceMethod yX2_areaOf, Cond.selects RX2 yX2_areaOf yX2_areaOf, Cond.code yX2_areaOf cX2_areaOf 5 (some .int), Cond.methodLink RX2 71 Lib.Math.max.name, Cond.static Lib.Math.max.name, Cond.initialized "java/lang/Math", Cond.code Lib.Math.max.name Lib.Math.max.code 2 (some .int), Cond.fieldLink RX2 9 "SandcastleLeagueModel" "sand" "[I"]
def wsX2_count_r2 : List Cond := [Cond.fieldLink RX2 16 "SandcastleLeagueModel" "water" "[I", Cond.methodLink RX2 74 yX2_teamOf, Cond.static yX2_teamOf, Cond.code yX2_teamOf cX2_teamOf 1 (some .int), Cond.methodLink RX2 80 yX2_height, Cond.instanceMethod yX2_height, Cond.selects RX2 yX2_height yX2_height, Cond.code yX2_height cX2_height 2 (some .int), Cond.methodLink RX2 77 yX2_sticksOf, Cond.instanceMethod yX2_sticksOf, Cond.selects RX2 yX2_sticksOf yX2_sticksOf, Cond.code yX2_sticksOf cX2_sticksOf 4 (some .int), Cond.fieldLink RX2 19 "SandcastleLeagueModel" "sticks" "[I", Cond.methodLink RX2 46 yX2_fail, Cond.instanceMethod yX2_fail, Cond.selects RX2 yX2_fail yX2_fail, Cond.code yX2_fail cX2_fail 2 (some .int)]
def wsX2_count : List Cond := .code yX2_count cX2_count 2 (some .int) :: ((wsX2_count_r1 ++ wsX2_count_r2) ++ wsX20)
def wsX2_findOver : List Cond := .code yX2_findOver cX2_findOver 5 none :: ([.fieldLink RX2 28 "SandcastleLeagueModel" "over" "[I", .methodLink RX2 71 Lib.Math.max.name, .static Lib.Math.max.name, .initialized "java/lang/Math", .code Lib.Math.max.name Lib.Math.max.code 2 (some .int), .methodLink RX2 80 yX2_height, .instanceMethod yX2_height, .selects RX2 yX2_height yX2_height, .initialized RX2, .code yX2_height cX2_height 2 (some .int), .fieldLink RX2 9 "SandcastleLeagueModel" "sand" "[I", .methodLink RX2 110 yX2_beside, .static yX2_beside, .code yX2_beside cX2_beside 2 (some .int)] ++ wsX20)
def wsX2_slideAll : List Cond := .code yX2_slideAll cX2_slideAll 7 none :: ([.fieldLink RX2 98 "SandcastleLeagueModel" "slides" "I", .fieldLink RX2 9 "SandcastleLeagueModel" "sand" "[I", .fieldLink RX2 13 "SandcastleLeagueModel" "firm" "[I", .methodLink RX2 110 yX2_beside, .static yX2_beside, .initialized RX2, .code yX2_beside cX2_beside 2 (some .int), .methodLink RX2 80 yX2_height, .instanceMethod yX2_height, .selects RX2 yX2_height yX2_height, .code yX2_height cX2_height 2 (some .int)] ++ wsX20)
def wsX2_falls : List Cond := .code yX2_falls cX2_falls 3 (some .boolean) :: ([.fieldLink RX2 16 "SandcastleLeagueModel" "water" "[I", .methodLink RX2 80 yX2_height, .instanceMethod yX2_height, .selects RX2 yX2_height yX2_height, .initialized RX2, .code yX2_height cX2_height 2 (some .int), .fieldLink RX2 9 "SandcastleLeagueModel" "sand" "[I"] ++ wsX20)
def wsX2_brings : List Cond := .code yX2_brings cX2_brings 2 (some .int) :: ([.fieldLink RX2 9 "SandcastleLeagueModel" "sand" "[I"] ++ wsX20)
def wsX2_hourOn_r1 : List Cond := [Cond.fieldLink RX2 25 "SandcastleLeagueModel" "tides" "[I", Cond.fieldLink RX2 92 "SandcastleLeagueModel" "hour" "I", Cond.fieldLink RX2 16 "SandcastleLeagueModel" "water" "[I", Cond.fieldLink RX2 28 "SandcastleLeagueModel" "over" "[I", Cond.fieldLink RX2 9 "SandcastleLeagueModel" "sand" "[I", Cond.fieldLink RX2 13 "SandcastleLeagueModel" "firm" "[I", Cond.methodLink RX2 62 Lib.Math.min.name, Cond.static Lib.Math.min.name, Cond.initialized "java/lang/Math", Cond.code Lib.Math.min.name Lib.Math.min.code 2 (some .int), Cond.methodLink RX2 71 Lib.Math.max.name, Cond.static Lib.Math.max.name, Cond.code Lib.Math.max.name Lib.Math.max.code 2 (some .int), Cond.fieldLink RX2 95 "SandcastleLeagueModel" "lost" "I", Cond.fieldLink RX2 19 "SandcastleLeagueModel" "sticks" "[I", Cond.fieldLink RX2 101 "SandcastleLeagueModel" "fallen" "I", Cond.fieldLink RX2 39 "SandcastleLeagueModel" "teams" "I", Cond.fieldLink RX2 22 "SandcastleLeagueModel" "table" "[I", Cond.methodLink RX2 113 yX2_findOver, Cond.instanceMethod yX2_findOver, Cond.selects RX2 yX2_findOver yX2_findOver, Cond.initialized RX2, Cond.code yX2_findOver cX2_findOver 5 none, Cond.methodLink RX2 80 yX2_height]
def wsX2_hourOn_r2 : List Cond := [Cond.instanceMethod yX2_height, Cond.selects RX2 yX2_height yX2_height, Cond.code yX2_height cX2_height 2 (some .int), Cond.methodLink RX2 110 yX2_beside, Cond.static yX2_beside, Cond.code yX2_beside cX2_beside 2 (some .int), Cond.methodLink RX2 116 yX2_slideAll, Cond.instanceMethod yX2_slideAll, Cond.selects RX2 yX2_slideAll yX2_slideAll, Cond.code yX2_slideAll cX2_slideAll 7 none, Cond.fieldLink RX2 98 "SandcastleLeagueModel" "slides" "I", Cond.methodLink RX2 119 yX2_falls, Cond.instanceMethod yX2_falls, Cond.selects RX2 yX2_falls yX2_falls, Cond.code yX2_falls cX2_falls 3 (some .boolean), Cond.methodLink RX2 74 yX2_teamOf, Cond.static yX2_teamOf, Cond.code yX2_teamOf cX2_teamOf 1 (some .int), Cond.methodLink RX2 123 yX2_brings, Cond.instanceMethod yX2_brings, Cond.selects RX2 yX2_brings yX2_brings, Cond.code yX2_brings cX2_brings 2 (some .int), Cond.methodLink RX2 67 yX2_add, Cond.instanceMethod yX2_add]
def wsX2_hourOn_r3 : List Cond := [Cond.selects RX2 yX2_add yX2_add, Cond.code yX2_add cX2_add 4 none]
def wsX2_hourOn : List Cond := .code yX2_hourOn cX2_hourOn 4 none :: ((wsX2_hourOn_r1 ++ (wsX2_hourOn_r2 ++ wsX2_hourOn_r3)) ++ wsX20)
def wsX2_pass_r1 : List Cond := [Cond.fieldLink RX2 35 "SandcastleLeagueModel" "thrown" "I", Cond.fieldLink RX2 101 "SandcastleLeagueModel" "fallen" "I", Cond.methodLink RX2 42 yX2_isIn, Cond.static yX2_isIn, Cond.initialized RX2, Cond.code yX2_isIn cX2_isIn 3 (some .boolean), Cond.methodLink RX2 46 yX2_fail, Cond.instanceMethod yX2_fail, Cond.selects RX2 yX2_fail yX2_fail, Cond.code yX2_fail cX2_fail 2 (some .int), Cond.methodLink RX2 126 yX2_hourOn, Cond.instanceMethod yX2_hourOn, Cond.selects RX2 yX2_hourOn yX2_hourOn, Cond.code yX2_hourOn cX2_hourOn 4 none, Cond.fieldLink RX2 25 "SandcastleLeagueModel" "tides" "[I", Cond.fieldLink RX2 92 "SandcastleLeagueModel" "hour" "I", Cond.fieldLink RX2 16 "SandcastleLeagueModel" "water" "[I", Cond.fieldLink RX2 28 "SandcastleLeagueModel" "over" "[I", Cond.fieldLink RX2 9 "SandcastleLeagueModel" "sand" "[I", Cond.fieldLink RX2 13 "SandcastleLeagueModel" "firm" "[I", Cond.methodLink RX2 62 Lib.Math.min.name, Cond.static Lib.Math.min.name, Cond.initialized "java/lang/Math", Cond.code Lib.Math.min.name Lib.Math.min.code 2 (some .int)]
def wsX2_pass_r2 : List Cond := [Cond.methodLink RX2 71 Lib.Math.max.name, Cond.static Lib.Math.max.name, Cond.code Lib.Math.max.name Lib.Math.max.code 2 (some .int), Cond.fieldLink RX2 95 "SandcastleLeagueModel" "lost" "I", Cond.fieldLink RX2 19 "SandcastleLeagueModel" "sticks" "[I", Cond.fieldLink RX2 39 "SandcastleLeagueModel" "teams" "I", Cond.fieldLink RX2 22 "SandcastleLeagueModel" "table" "[I", Cond.methodLink RX2 113 yX2_findOver, Cond.instanceMethod yX2_findOver, Cond.selects RX2 yX2_findOver yX2_findOver, Cond.code yX2_findOver cX2_findOver 5 none, Cond.methodLink RX2 80 yX2_height, Cond.instanceMethod yX2_height, Cond.selects RX2 yX2_height yX2_height, Cond.code yX2_height cX2_height 2 (some .int), Cond.methodLink RX2 110 yX2_beside, Cond.static yX2_beside, Cond.code yX2_beside cX2_beside 2 (some .int), Cond.methodLink RX2 116 yX2_slideAll, Cond.instanceMethod yX2_slideAll, Cond.selects RX2 yX2_slideAll yX2_slideAll, Cond.code yX2_slideAll cX2_slideAll 7 none, Cond.fieldLink RX2 98 "SandcastleLeagueModel" "slides" "I", Cond.methodLink RX2 119 yX2_falls]
def wsX2_pass_r3 : List Cond := [Cond.instanceMethod yX2_falls, Cond.selects RX2 yX2_falls yX2_falls, Cond.code yX2_falls cX2_falls 3 (some .boolean), Cond.methodLink RX2 74 yX2_teamOf, Cond.static yX2_teamOf, Cond.code yX2_teamOf cX2_teamOf 1 (some .int), Cond.methodLink RX2 123 yX2_brings, Cond.instanceMethod yX2_brings, Cond.selects RX2 yX2_brings yX2_brings, Cond.code yX2_brings cX2_brings 2 (some .int), Cond.methodLink RX2 67 yX2_add, Cond.instanceMethod yX2_add, Cond.selects RX2 yX2_add yX2_add, Cond.code yX2_add cX2_add 4 none]
def wsX2_pass : List Cond := .code yX2_pass cX2_pass 4 (some .int) :: ((wsX2_pass_r1 ++ (wsX2_pass_r2 ++ wsX2_pass_r3)) ++ wsX20)
def wsX2_endRound_r1 : List Cond := [Cond.fieldLink RX2 35 "SandcastleLeagueModel" "thrown" "I", Cond.fieldLink RX2 39 "SandcastleLeagueModel" "teams" "I", Cond.arrayClass .int, Cond.fieldLink RX2 22 "SandcastleLeagueModel" "table" "[I", Cond.methodLink RX2 129 arraycopyName, Cond.native arraycopyName, Cond.static arraycopyName, Cond.initialized "java/lang/System", Cond.fieldLink RX2 9 "SandcastleLeagueModel" "sand" "[I", Cond.fieldLink RX2 13 "SandcastleLeagueModel" "firm" "[I", Cond.fieldLink RX2 16 "SandcastleLeagueModel" "water" "[I", Cond.fieldLink RX2 19 "SandcastleLeagueModel" "sticks" "[I", Cond.fieldLink RX2 95 "SandcastleLeagueModel" "lost" "I", Cond.fieldLink RX2 98 "SandcastleLeagueModel" "slides" "I", Cond.fieldLink RX2 101 "SandcastleLeagueModel" "fallen" "I", Cond.fieldLink RX2 104 "SandcastleLeagueModel" "ended" "I", Cond.methodLink RX2 54 yX2_get, Cond.instanceMethod yX2_get, Cond.selects RX2 yX2_get yX2_get, Cond.initialized RX2, Cond.code yX2_get cX2_get 3 (some .int), Cond.methodLink RX2 67 yX2_add, Cond.instanceMethod yX2_add, Cond.selects RX2 yX2_add yX2_add]
def wsX2_endRound_r2 : List Cond := [Cond.code yX2_add cX2_add 4 none, Cond.methodLink RX2 31 yX2_fill, Cond.static yX2_fill, Cond.code yX2_fill cX2_fill 3 none]
def wsX2_endRound : List Cond := .code yX2_endRound cX2_endRound 3 (some .int) :: ((wsX2_endRound_r1 ++ wsX2_endRound_r2) ++ wsX20)
def wsX2_isAhead : List Cond := .code yX2_isAhead cX2_isAhead 3 (some .boolean) :: ([.methodLink RX2 54 yX2_get, .instanceMethod yX2_get, .selects RX2 yX2_get yX2_get, .initialized RX2, .code yX2_get cX2_get 3 (some .int), .fieldLink RX2 22 "SandcastleLeagueModel" "table" "[I"] ++ wsX20)
def wsX2_leader : List Cond := .code yX2_leader cX2_leader 5 (some .int) :: ([.fieldLink RX2 35 "SandcastleLeagueModel" "thrown" "I", .fieldLink RX2 39 "SandcastleLeagueModel" "teams" "I", .methodLink RX2 135 yX2_isAhead, .instanceMethod yX2_isAhead, .selects RX2 yX2_isAhead yX2_isAhead, .initialized RX2, .code yX2_isAhead cX2_isAhead 3 (some .boolean), .methodLink RX2 54 yX2_get, .instanceMethod yX2_get, .selects RX2 yX2_get yX2_get, .code yX2_get cX2_get 3 (some .int), .fieldLink RX2 22 "SandcastleLeagueModel" "table" "[I", .methodLink RX2 46 yX2_fail, .instanceMethod yX2_fail, .selects RX2 yX2_fail yX2_fail, .code yX2_fail cX2_fail 2 (some .int)] ++ wsX20)
def wsX2_flood_r1 : List Cond := [Cond.fieldLink RX2 35 "SandcastleLeagueModel" "thrown" "I", Cond.fieldLink RX2 28 "SandcastleLeagueModel" "over" "[I", Cond.methodLink RX2 42 yX2_isIn, Cond.static yX2_isIn, Cond.initialized RX2, Cond.code yX2_isIn cX2_isIn 3 (some .boolean), Cond.methodLink RX2 46 yX2_fail, Cond.instanceMethod yX2_fail, Cond.selects RX2 yX2_fail yX2_fail, Cond.code yX2_fail cX2_fail 2 (some .int), Cond.methodLink RX2 113 yX2_findOver, Cond.instanceMethod yX2_findOver, Cond.selects RX2 yX2_findOver yX2_findOver, Cond.code yX2_findOver cX2_findOver 5 none, Cond.methodLink RX2 71 Lib.Math.max.name, Cond.static Lib.Math.max.name, Cond.initialized "java/lang/Math", Cond.code Lib.Math.max.name Lib.Math.max.code 2 (some .int), Cond.methodLink RX2 80 yX2_height, Cond.instanceMethod yX2_height, Cond.selects RX2 yX2_height yX2_height, Cond.code yX2_height cX2_height 2 (some .int), Cond.fieldLink RX2 9 "SandcastleLeagueModel" "sand" "[I", Cond.methodLink RX2 110 yX2_beside]
def wsX2_flood_r2 : List Cond := [Cond.static yX2_beside, Cond.code yX2_beside cX2_beside 2 (some .int)]
def wsX2_flood : List Cond := .code yX2_flood cX2_flood 4 (some .int) :: ((wsX2_flood_r1 ++ wsX2_flood_r2) ++ wsX20)
def wsX2_reach_r1 : List Cond := [Cond.fieldLink RX2 35 "SandcastleLeagueModel" "thrown" "I", Cond.fieldLink RX2 28 "SandcastleLeagueModel" "over" "[I", Cond.methodLink RX2 42 yX2_isIn, Cond.static yX2_isIn, Cond.initialized RX2, Cond.code yX2_isIn cX2_isIn 3 (some .boolean), Cond.methodLink RX2 46 yX2_fail, Cond.instanceMethod yX2_fail, Cond.selects RX2 yX2_fail yX2_fail, Cond.code yX2_fail cX2_fail 2 (some .int), Cond.methodLink RX2 113 yX2_findOver, Cond.instanceMethod yX2_findOver, Cond.selects RX2 yX2_findOver yX2_findOver, Cond.code yX2_findOver cX2_findOver 5 none, Cond.methodLink RX2 71 Lib.Math.max.name, Cond.static Lib.Math.max.name, Cond.initialized "java/lang/Math", Cond.code Lib.Math.max.name Lib.Math.max.code 2 (some .int), Cond.methodLink RX2 80 yX2_height, Cond.instanceMethod yX2_height, Cond.selects RX2 yX2_height yX2_height, Cond.code yX2_height cX2_height 2 (some .int), Cond.fieldLink RX2 9 "SandcastleLeagueModel" "sand" "[I", Cond.methodLink RX2 110 yX2_beside]
def wsX2_reach_r2 : List Cond := [Cond.static yX2_beside, Cond.code yX2_beside cX2_beside 2 (some .int)]
def wsX2_reach : List Cond := .code yX2_reach cX2_reach 3 (some .int) :: ((wsX2_reach_r1 ++ wsX2_reach_r2) ++ wsX20)
def wsX2_kept : List Cond := .code yX2_kept cX2_kept 1 (some (.array (.array .int))) :: ([.classLink RX2 138 "[I", .fieldLink RX2 9 "SandcastleLeagueModel" "sand" "[I", .methodLink RX2 139 ⟨"[I", "clone", "()Ljava/lang/Object;"⟩, .sameMethod "[I" "java/lang/Object" "clone" "()Ljava/lang/Object;", .native ⟨"java/lang/Object", "clone", "()Ljava/lang/Object;"⟩, .instanceMethod ⟨"java/lang/Object", "clone", "()Ljava/lang/Object;"⟩, .selects "[I" ⟨"[I", "clone", "()Ljava/lang/Object;"⟩ ⟨"java/lang/Object", "clone", "()Ljava/lang/Object;"⟩, .fieldLink RX2 13 "SandcastleLeagueModel" "firm" "[I", .fieldLink RX2 16 "SandcastleLeagueModel" "water" "[I", .fieldLink RX2 19 "SandcastleLeagueModel" "sticks" "[I", .fieldLink RX2 22 "SandcastleLeagueModel" "table" "[I", .arrayClass .int, .fieldLink RX2 92 "SandcastleLeagueModel" "hour" "I", .fieldLink RX2 95 "SandcastleLeagueModel" "lost" "I", .fieldLink RX2 98 "SandcastleLeagueModel" "slides" "I", .fieldLink RX2 101 "SandcastleLeagueModel" "fallen" "I"] ++ wsX20)
def wsX2_bringBack : List Cond := .code yX2_bringBack cX2_bringBack 2 none :: ([.fieldLink RX2 9 "SandcastleLeagueModel" "sand" "[I", .fieldLink RX2 13 "SandcastleLeagueModel" "firm" "[I", .fieldLink RX2 16 "SandcastleLeagueModel" "water" "[I", .fieldLink RX2 19 "SandcastleLeagueModel" "sticks" "[I", .fieldLink RX2 22 "SandcastleLeagueModel" "table" "[I", .fieldLink RX2 92 "SandcastleLeagueModel" "hour" "I", .fieldLink RX2 95 "SandcastleLeagueModel" "lost" "I", .fieldLink RX2 98 "SandcastleLeagueModel" "slides" "I", .fieldLink RX2 101 "SandcastleLeagueModel" "fallen" "I"] ++ wsX20)
def wsX2_foresee_r1 : List Cond := [Cond.fieldLink RX2 35 "SandcastleLeagueModel" "thrown" "I", Cond.methodLink RX2 42 yX2_isIn, Cond.static yX2_isIn, Cond.initialized RX2, Cond.code yX2_isIn cX2_isIn 3 (some .boolean), Cond.methodLink RX2 46 yX2_fail, Cond.instanceMethod yX2_fail, Cond.selects RX2 yX2_fail yX2_fail, Cond.code yX2_fail cX2_fail 2 (some .int), Cond.methodLink RX2 50 yX2_isTeam, Cond.instanceMethod yX2_isTeam, Cond.selects RX2 yX2_isTeam yX2_isTeam, Cond.code yX2_isTeam cX2_isTeam 2 (some .boolean), Cond.fieldLink RX2 39 "SandcastleLeagueModel" "teams" "I", Cond.methodLink RX2 143 yX2_kept, Cond.instanceMethod yX2_kept, Cond.selects RX2 yX2_kept yX2_kept, Cond.code yX2_kept cX2_kept 1 (some (.array (.array .int))), Cond.classLink RX2 138 "[I", Cond.fieldLink RX2 9 "SandcastleLeagueModel" "sand" "[I", Cond.methodLink RX2 139 ⟨"[I", "clone", "()Ljava/lang/Object;"⟩, Cond.sameMethod "[I" "java/lang/Object" "clone" "()Ljava/lang/Object;", Cond.native ⟨"java/lang/Object", "clone", "()Ljava/lang/Object;"⟩, Cond.instanceMethod ⟨"java/lang/Object", "clone", "()Ljava/lang/Object;"⟩]
def wsX2_foresee_r2 : List Cond := [Cond.selects "[I" ⟨"[I", "clone", "()Ljava/lang/Object;"⟩ ⟨"java/lang/Object", "clone", "()Ljava/lang/Object;"⟩, Cond.fieldLink RX2 13 "SandcastleLeagueModel" "firm" "[I", Cond.fieldLink RX2 16 "SandcastleLeagueModel" "water" "[I", Cond.fieldLink RX2 19 "SandcastleLeagueModel" "sticks" "[I", Cond.fieldLink RX2 22 "SandcastleLeagueModel" "table" "[I", Cond.arrayClass .int, Cond.fieldLink RX2 92 "SandcastleLeagueModel" "hour" "I", Cond.fieldLink RX2 95 "SandcastleLeagueModel" "lost" "I", Cond.fieldLink RX2 98 "SandcastleLeagueModel" "slides" "I", Cond.fieldLink RX2 101 "SandcastleLeagueModel" "fallen" "I", Cond.methodLink RX2 54 yX2_get, Cond.instanceMethod yX2_get, Cond.selects RX2 yX2_get yX2_get, Cond.code yX2_get cX2_get 3 (some .int), Cond.methodLink RX2 126 yX2_hourOn, Cond.instanceMethod yX2_hourOn, Cond.selects RX2 yX2_hourOn yX2_hourOn, Cond.code yX2_hourOn cX2_hourOn 4 none, Cond.fieldLink RX2 25 "SandcastleLeagueModel" "tides" "[I", Cond.fieldLink RX2 28 "SandcastleLeagueModel" "over" "[I", Cond.methodLink RX2 62 Lib.Math.min.name, Cond.static Lib.Math.min.name, Cond.initialized "java/lang/Math", Cond.code Lib.Math.min.name Lib.Math.min.code 2 (some .int)]
def wsX2_foresee_r3 : List Cond := [Cond.methodLink RX2 71 Lib.Math.max.name, Cond.static Lib.Math.max.name, Cond.code Lib.Math.max.name Lib.Math.max.code 2 (some .int), Cond.methodLink RX2 113 yX2_findOver, Cond.instanceMethod yX2_findOver, Cond.selects RX2 yX2_findOver yX2_findOver, Cond.code yX2_findOver cX2_findOver 5 none, Cond.methodLink RX2 80 yX2_height, Cond.instanceMethod yX2_height, Cond.selects RX2 yX2_height yX2_height, Cond.code yX2_height cX2_height 2 (some .int), Cond.methodLink RX2 110 yX2_beside, Cond.static yX2_beside, Cond.code yX2_beside cX2_beside 2 (some .int), Cond.methodLink RX2 116 yX2_slideAll, Cond.instanceMethod yX2_slideAll, Cond.selects RX2 yX2_slideAll yX2_slideAll, Cond.code yX2_slideAll cX2_slideAll 7 none, Cond.methodLink RX2 119 yX2_falls, Cond.instanceMethod yX2_falls, Cond.selects RX2 yX2_falls yX2_falls, Cond.code yX2_falls cX2_falls 3 (some .boolean), Cond.methodLink RX2 74 yX2_teamOf, Cond.static yX2_teamOf]
def wsX2_foresee_r4 : List Cond := [Cond.code yX2_teamOf cX2_teamOf 1 (some .int), Cond.methodLink RX2 123 yX2_brings, Cond.instanceMethod yX2_brings, Cond.selects RX2 yX2_brings yX2_brings, Cond.code yX2_brings cX2_brings 2 (some .int), Cond.methodLink RX2 67 yX2_add, Cond.instanceMethod yX2_add, Cond.selects RX2 yX2_add yX2_add, Cond.code yX2_add cX2_add 4 none, Cond.methodLink RX2 77 yX2_sticksOf, Cond.instanceMethod yX2_sticksOf, Cond.selects RX2 yX2_sticksOf yX2_sticksOf, Cond.code yX2_sticksOf cX2_sticksOf 4 (some .int), Cond.methodLink RX2 86 yX2_areaOf, Cond.instanceMethod yX2_areaOf, Cond.selects RX2 yX2_areaOf yX2_areaOf, Cond.code yX2_areaOf cX2_areaOf 5 (some .int), Cond.methodLink RX2 147 yX2_bringBack, Cond.instanceMethod yX2_bringBack, Cond.selects RX2 yX2_bringBack yX2_bringBack, Cond.code yX2_bringBack cX2_bringBack 2 none]
def wsX2_foresee : List Cond := .code yX2_foresee cX2_foresee 7 (some .int) :: ((wsX2_foresee_r1 ++ (wsX2_foresee_r2 ++ (wsX2_foresee_r3 ++ wsX2_foresee_r4))) ++ wsX20)
def wsX2_advise_r1 : List Cond := [Cond.fieldLink RX2 35 "SandcastleLeagueModel" "thrown" "I", Cond.arrayClass .int, Cond.arrayClass .boolean, Cond.fieldLink RX2 19 "SandcastleLeagueModel" "sticks" "[I", Cond.fieldLink RX2 16 "SandcastleLeagueModel" "water" "[I", Cond.methodLink RX2 50 yX2_isTeam, Cond.instanceMethod yX2_isTeam, Cond.selects RX2 yX2_isTeam yX2_isTeam, Cond.initialized RX2, Cond.code yX2_isTeam cX2_isTeam 2 (some .boolean), Cond.fieldLink RX2 39 "SandcastleLeagueModel" "teams" "I", Cond.methodLink RX2 42 yX2_isIn, Cond.static yX2_isIn, Cond.code yX2_isIn cX2_isIn 3 (some .boolean), Cond.methodLink RX2 46 yX2_fail, Cond.instanceMethod yX2_fail, Cond.selects RX2 yX2_fail yX2_fail, Cond.code yX2_fail cX2_fail 2 (some .int), Cond.methodLink RX2 74 yX2_teamOf, Cond.static yX2_teamOf, Cond.code yX2_teamOf cX2_teamOf 1 (some .int), Cond.methodLink RX2 80 yX2_height, Cond.instanceMethod yX2_height, Cond.selects RX2 yX2_height yX2_height]
def wsX2_advise_r2 : List Cond := [Cond.code yX2_height cX2_height 2 (some .int), Cond.fieldLink RX2 9 "SandcastleLeagueModel" "sand" "[I", Cond.methodLink RX2 143 yX2_kept, Cond.instanceMethod yX2_kept, Cond.selects RX2 yX2_kept yX2_kept, Cond.code yX2_kept cX2_kept 1 (some (.array (.array .int))), Cond.classLink RX2 138 "[I", Cond.methodLink RX2 139 ⟨"[I", "clone", "()Ljava/lang/Object;"⟩, Cond.sameMethod "[I" "java/lang/Object" "clone" "()Ljava/lang/Object;", Cond.native ⟨"java/lang/Object", "clone", "()Ljava/lang/Object;"⟩, Cond.instanceMethod ⟨"java/lang/Object", "clone", "()Ljava/lang/Object;"⟩, Cond.selects "[I" ⟨"[I", "clone", "()Ljava/lang/Object;"⟩ ⟨"java/lang/Object", "clone", "()Ljava/lang/Object;"⟩, Cond.fieldLink RX2 13 "SandcastleLeagueModel" "firm" "[I", Cond.fieldLink RX2 22 "SandcastleLeagueModel" "table" "[I", Cond.fieldLink RX2 92 "SandcastleLeagueModel" "hour" "I", Cond.fieldLink RX2 95 "SandcastleLeagueModel" "lost" "I", Cond.fieldLink RX2 98 "SandcastleLeagueModel" "slides" "I", Cond.fieldLink RX2 101 "SandcastleLeagueModel" "fallen" "I", Cond.methodLink RX2 126 yX2_hourOn, Cond.instanceMethod yX2_hourOn, Cond.selects RX2 yX2_hourOn yX2_hourOn, Cond.code yX2_hourOn cX2_hourOn 4 none, Cond.fieldLink RX2 25 "SandcastleLeagueModel" "tides" "[I", Cond.fieldLink RX2 28 "SandcastleLeagueModel" "over" "[I"]
def wsX2_advise_r3 : List Cond := [Cond.methodLink RX2 62 Lib.Math.min.name, Cond.static Lib.Math.min.name, Cond.initialized "java/lang/Math", Cond.code Lib.Math.min.name Lib.Math.min.code 2 (some .int), Cond.methodLink RX2 71 Lib.Math.max.name, Cond.static Lib.Math.max.name, Cond.code Lib.Math.max.name Lib.Math.max.code 2 (some .int), Cond.methodLink RX2 113 yX2_findOver, Cond.instanceMethod yX2_findOver, Cond.selects RX2 yX2_findOver yX2_findOver, Cond.code yX2_findOver cX2_findOver 5 none, Cond.methodLink RX2 110 yX2_beside, Cond.static yX2_beside, Cond.code yX2_beside cX2_beside 2 (some .int), Cond.methodLink RX2 116 yX2_slideAll, Cond.instanceMethod yX2_slideAll, Cond.selects RX2 yX2_slideAll yX2_slideAll, Cond.code yX2_slideAll cX2_slideAll 7 none, Cond.methodLink RX2 119 yX2_falls, Cond.instanceMethod yX2_falls, Cond.selects RX2 yX2_falls yX2_falls, Cond.code yX2_falls cX2_falls 3 (some .boolean), Cond.methodLink RX2 123 yX2_brings, Cond.instanceMethod yX2_brings]
def wsX2_advise_r4 : List Cond := [Cond.selects RX2 yX2_brings yX2_brings, Cond.code yX2_brings cX2_brings 2 (some .int), Cond.methodLink RX2 67 yX2_add, Cond.instanceMethod yX2_add, Cond.selects RX2 yX2_add yX2_add, Cond.code yX2_add cX2_add 4 none, Cond.methodLink RX2 147 yX2_bringBack, Cond.instanceMethod yX2_bringBack, Cond.selects RX2 yX2_bringBack yX2_bringBack, Cond.code yX2_bringBack cX2_bringBack 2 none]
def wsX2_advise : List Cond := .code yX2_advise cX2_advise 9 (some .int) :: ((wsX2_advise_r1 ++ (wsX2_advise_r2 ++ (wsX2_advise_r3 ++ wsX2_advise_r4))) ++ wsX20)
def wsX2_mean : List Cond := .code yX2_mean cX2_mean 3 (some .double) :: ([.fieldLink RX2 35 "SandcastleLeagueModel" "thrown" "I", .constantDouble RX2 151 (4638144666238189568), .methodLink RX2 80 yX2_height, .instanceMethod yX2_height, .selects RX2 yX2_height yX2_height, .initialized RX2, .code yX2_height cX2_height 2 (some .int), .fieldLink RX2 9 "SandcastleLeagueModel" "sand" "[I"] ++ wsX20)
def wsX2_digest_r1 : List Cond := [Cond.fieldLink RX2 35 "SandcastleLeagueModel" "thrown" "I", Cond.constantLong RX2 153 (503), Cond.constantLong RX2 155 (31), Cond.fieldLink RX2 25 "SandcastleLeagueModel" "tides" "[I", Cond.fieldLink RX2 39 "SandcastleLeagueModel" "teams" "I", Cond.methodLink RX2 107 yX2_counted, Cond.instanceMethod yX2_counted, Cond.selects RX2 yX2_counted yX2_counted, Cond.initialized RX2, Cond.code yX2_counted cX2_counted 2 (some .int), Cond.fieldLink RX2 92 "SandcastleLeagueModel" "hour" "I", Cond.fieldLink RX2 95 "SandcastleLeagueModel" "lost" "I", Cond.fieldLink RX2 98 "SandcastleLeagueModel" "slides" "I", Cond.fieldLink RX2 101 "SandcastleLeagueModel" "fallen" "I", Cond.fieldLink RX2 104 "SandcastleLeagueModel" "ended" "I", Cond.methodLink RX2 86 yX2_areaOf, Cond.instanceMethod yX2_areaOf, Cond.selects RX2 yX2_areaOf yX2_areaOf, Cond.code yX2_areaOf cX2_areaOf 5 (some .int), Cond.methodLink RX2 71 Lib.Math.max.name, Cond.static Lib.Math.max.name, Cond.initialized "java/lang/Math", Cond.code Lib.Math.max.name Lib.Math.max.code 2 (some .int), Cond.fieldLink RX2 9 "SandcastleLeagueModel" "sand" "[I"]
def wsX2_digest_r2 : List Cond := [Cond.fieldLink RX2 16 "SandcastleLeagueModel" "water" "[I", Cond.methodLink RX2 74 yX2_teamOf, Cond.static yX2_teamOf, Cond.code yX2_teamOf cX2_teamOf 1 (some .int), Cond.methodLink RX2 80 yX2_height, Cond.instanceMethod yX2_height, Cond.selects RX2 yX2_height yX2_height, Cond.code yX2_height cX2_height 2 (some .int), Cond.methodLink RX2 77 yX2_sticksOf, Cond.instanceMethod yX2_sticksOf, Cond.selects RX2 yX2_sticksOf yX2_sticksOf, Cond.code yX2_sticksOf cX2_sticksOf 4 (some .int), Cond.fieldLink RX2 19 "SandcastleLeagueModel" "sticks" "[I", Cond.methodLink RX2 89 yX2_teamTold, Cond.instanceMethod yX2_teamTold, Cond.selects RX2 yX2_teamTold yX2_teamTold, Cond.code yX2_teamTold cX2_teamTold 3 (some .int), Cond.methodLink RX2 54 yX2_get, Cond.instanceMethod yX2_get, Cond.selects RX2 yX2_get yX2_get, Cond.code yX2_get cX2_get 3 (some .int), Cond.fieldLink RX2 22 "SandcastleLeagueModel" "table" "[I", Cond.methodLink RX2 83 yX2_cellTold, Cond.instanceMethod yX2_cellTold]
def wsX2_digest_r3 : List Cond := [Cond.selects RX2 yX2_cellTold yX2_cellTold, Cond.code yX2_cellTold cX2_cellTold 3 (some .int), Cond.fieldLink RX2 13 "SandcastleLeagueModel" "firm" "[I"]
def wsX2_digest : List Cond := .code yX2_digest cX2_digest 5 (some .long) :: ((wsX2_digest_r1 ++ (wsX2_digest_r2 ++ wsX2_digest_r3)) ++ wsX20)
def wsJ9_max_7cf53 : List Cond := .code yJ9_max_7cf53 cJ9_max_7cf53 2 (some .int) :: ([])
def wsJ9_min_7cf53 : List Cond := .code yJ9_min_7cf53 cJ9_min_7cf53 2 (some .int) :: ([])
def wsL_addTeam : List Cond := .codeWith yL_addTeam cL_addTeam 3 (some .int) [(0, 8, 11, 13)] :: ([.classLink RL 13 "java/lang/IllegalStateException", .methodLink RL 7 yX1_addTeam, .instanceMethod yX1_addTeam, .selects RX1 yX1_addTeam yX1_addTeam, .initialized RX1, .code yX1_addTeam cX1_addTeam 1 (some .int), .classLink RX1 47 "java/lang/IllegalStateException", .initialized "java/lang/IllegalStateException", .fieldLink RX1 43 "SandcastleLeague" "teams" "I"] ++ wsX10 ++ (vx_atS RX1 51 "java/lang/IllegalStateException" ["java/lang/RuntimeException", "java/lang/Exception"]).filter goodWord)
def wsL_setTide : List Cond := .codeWith yL_setTide cL_setTide 5 (some .int) [(0, 10, 13, 19), (0, 10, 17, 21)] :: ([.classLink RL 19 "java/lang/IndexOutOfBoundsException", .classLink RL 21 "java/lang/IllegalArgumentException", .methodLink RL 15 yX1_setTide, .instanceMethod yX1_setTide, .selects RX1 yX1_setTide yX1_setTide, .initialized RX1, .code yX1_setTide cX1_setTide 4 (some .int), .classLink RX1 54 "java/lang/IndexOutOfBoundsException", .initialized "java/lang/IndexOutOfBoundsException", .fieldLink RX1 28 "SandcastleLeague" "tides" "[I", .methodLink RX1 59 yX1_requireLevel, .static yX1_requireLevel, .code yX1_requireLevel cX1_requireLevel 1 none, .classLink RX1 230 "java/lang/IllegalArgumentException", .initialized "java/lang/IllegalArgumentException"] ++ wsX10 ++ (vx_atS RX1 58 "java/lang/IndexOutOfBoundsException" ["java/lang/RuntimeException", "java/lang/Exception"]).filter goodWord ++ (vx_atS RX1 234 "java/lang/IllegalArgumentException" ["java/lang/RuntimeException", "java/lang/Exception"]).filter goodWord)
def wsL_dig_r1 : List Cond := [Cond.classLink RL 19 "java/lang/IndexOutOfBoundsException", Cond.classLink RL 21 "java/lang/IllegalArgumentException", Cond.classLink RL 13 "java/lang/IllegalStateException", Cond.methodLink RL 23 yX1_dig, Cond.instanceMethod yX1_dig, Cond.selects RX1 yX1_dig yX1_dig, Cond.initialized RX1, Cond.code yX1_dig cX1_dig 6 (some .int), Cond.fieldLink RX1 34 "SandcastleLeague" "strength" "[I", Cond.fieldLink RX1 10 "SandcastleLeague" "shore" "LSandcastleLeague$Shore;", Cond.fieldLink RX1 31 "SandcastleLeague" "bucket" "[I", Cond.methodLink RX1 80 Lib.Math.min.name, Cond.static Lib.Math.min.name, Cond.initialized "java/lang/Math", Cond.code Lib.Math.min.name Lib.Math.min.code 2 (some .int), Cond.methodLink RX1 63 yX1_requireTeam, Cond.instanceMethod yX1_requireTeam, Cond.selects RX1 yX1_requireTeam yX1_requireTeam, Cond.code yX1_requireTeam cX1_requireTeam 2 none, Cond.classLink RX1 54 "java/lang/IndexOutOfBoundsException", Cond.initialized "java/lang/IndexOutOfBoundsException", Cond.fieldLink RX1 43 "SandcastleLeague" "teams" "I", Cond.methodLink RX1 66 yX1_requireArea, Cond.static yX1_requireArea]
def wsL_dig_r2 : List Cond := [Cond.code yX1_requireArea cX1_requireArea 3 none, Cond.classLink RX1 230 "java/lang/IllegalArgumentException", Cond.initialized "java/lang/IllegalArgumentException", Cond.methodLink RX1 223 yX1_isOnBeach, Cond.static yX1_isOnBeach, Cond.code yX1_isOnBeach cX1_isOnBeach 2 (some .boolean), Cond.methodLink RX1 76 yX1_cellAt, Cond.static yX1_cellAt, Cond.code yX1_cellAt cX1_cellAt 2 (some .int), Cond.methodLink RX1 190 yX1_isInArea, Cond.static yX1_isInArea, Cond.code yX1_isInArea cX1_isInArea 2 (some .boolean), Cond.methodLink RX1 70 yX1_requireAmount, Cond.static yX1_requireAmount, Cond.code yX1_requireAmount cX1_requireAmount 1 none, Cond.methodLink RX1 73 yX1_requireStrength, Cond.instanceMethod yX1_requireStrength, Cond.selects RX1 yX1_requireStrength yX1_requireStrength, Cond.code yX1_requireStrength cX1_requireStrength 2 none, Cond.classLink RX1 47 "java/lang/IllegalStateException", Cond.initialized "java/lang/IllegalStateException", Cond.methodLink RX1 85 yX0_takeSand, Cond.instanceMethod yX0_takeSand, Cond.selects RX0 yX0_takeSand yX0_takeSand]
def wsL_dig_r3 : List Cond := [Cond.initialized RX0, Cond.code yX0_takeSand cX0_takeSand 4 (some .int), Cond.fieldLink RX0 9 "SandcastleLeague$Shore" "sand" "[I", Cond.methodLink RX0 55 Lib.Math.min.name, Cond.fieldLink RX0 15 "SandcastleLeague$Shore" "firmness" "[I"]
def wsL_dig : List Cond := .codeWith yL_dig cL_dig 7 (some .int) [(0, 14, 17, 19), (0, 14, 21, 21), (0, 14, 25, 13)] :: ((wsL_dig_r1 ++ (wsL_dig_r2 ++ wsL_dig_r3)) ++ wsX10 ++ wsX00 ++ (vx_atS RX1 58 "java/lang/IndexOutOfBoundsException" ["java/lang/RuntimeException", "java/lang/Exception"]).filter goodWord ++ (vx_atS RX1 234 "java/lang/IllegalArgumentException" ["java/lang/RuntimeException", "java/lang/Exception"]).filter goodWord ++ (vx_atS RX1 51 "java/lang/IllegalStateException" ["java/lang/RuntimeException", "java/lang/Exception"]).filter goodWord)
def wsL_pile_r1 : List Cond := [Cond.classLink RL 19 "java/lang/IndexOutOfBoundsException", Cond.classLink RL 21 "java/lang/IllegalArgumentException", Cond.classLink RL 13 "java/lang/IllegalStateException", Cond.methodLink RL 27 yX1_pile, Cond.instanceMethod yX1_pile, Cond.selects RX1 yX1_pile yX1_pile, Cond.initialized RX1, Cond.code yX1_pile cX1_pile 6 (some .int), Cond.fieldLink RX1 34 "SandcastleLeague" "strength" "[I", Cond.fieldLink RX1 10 "SandcastleLeague" "shore" "LSandcastleLeague$Shore;", Cond.fieldLink RX1 31 "SandcastleLeague" "bucket" "[I", Cond.methodLink RX1 80 Lib.Math.min.name, Cond.static Lib.Math.min.name, Cond.initialized "java/lang/Math", Cond.code Lib.Math.min.name Lib.Math.min.code 2 (some .int), Cond.methodLink RX1 63 yX1_requireTeam, Cond.instanceMethod yX1_requireTeam, Cond.selects RX1 yX1_requireTeam yX1_requireTeam, Cond.code yX1_requireTeam cX1_requireTeam 2 none, Cond.classLink RX1 54 "java/lang/IndexOutOfBoundsException", Cond.initialized "java/lang/IndexOutOfBoundsException", Cond.fieldLink RX1 43 "SandcastleLeague" "teams" "I", Cond.methodLink RX1 66 yX1_requireArea, Cond.static yX1_requireArea]
def wsL_pile_r2 : List Cond := [Cond.code yX1_requireArea cX1_requireArea 3 none, Cond.classLink RX1 230 "java/lang/IllegalArgumentException", Cond.initialized "java/lang/IllegalArgumentException", Cond.methodLink RX1 223 yX1_isOnBeach, Cond.static yX1_isOnBeach, Cond.code yX1_isOnBeach cX1_isOnBeach 2 (some .boolean), Cond.methodLink RX1 76 yX1_cellAt, Cond.static yX1_cellAt, Cond.code yX1_cellAt cX1_cellAt 2 (some .int), Cond.methodLink RX1 190 yX1_isInArea, Cond.static yX1_isInArea, Cond.code yX1_isInArea cX1_isInArea 2 (some .boolean), Cond.methodLink RX1 70 yX1_requireAmount, Cond.static yX1_requireAmount, Cond.code yX1_requireAmount cX1_requireAmount 1 none, Cond.methodLink RX1 73 yX1_requireStrength, Cond.instanceMethod yX1_requireStrength, Cond.selects RX1 yX1_requireStrength yX1_requireStrength, Cond.code yX1_requireStrength cX1_requireStrength 2 none, Cond.classLink RX1 47 "java/lang/IllegalStateException", Cond.initialized "java/lang/IllegalStateException", Cond.methodLink RX1 88 yX0_putSand, Cond.instanceMethod yX0_putSand, Cond.selects RX0 yX0_putSand yX0_putSand]
def wsL_pile_r3 : List Cond := [Cond.initialized RX0, Cond.code yX0_putSand cX0_putSand 4 (some .int), Cond.fieldLink RX0 9 "SandcastleLeague$Shore" "sand" "[I", Cond.methodLink RX0 55 Lib.Math.min.name, Cond.methodLink RX0 61 yX0_soften, Cond.instanceMethod yX0_soften, Cond.selects RX0 yX0_soften yX0_soften, Cond.code yX0_soften cX0_soften 2 none, Cond.fieldLink RX0 15 "SandcastleLeague$Shore" "firmness" "[I"]
def wsL_pile : List Cond := .codeWith yL_pile cL_pile 7 (some .int) [(0, 14, 17, 19), (0, 14, 21, 21), (0, 14, 25, 13)] :: ((wsL_pile_r1 ++ (wsL_pile_r2 ++ wsL_pile_r3)) ++ wsX10 ++ wsX00 ++ (vx_atS RX1 58 "java/lang/IndexOutOfBoundsException" ["java/lang/RuntimeException", "java/lang/Exception"]).filter goodWord ++ (vx_atS RX1 234 "java/lang/IllegalArgumentException" ["java/lang/RuntimeException", "java/lang/Exception"]).filter goodWord ++ (vx_atS RX1 51 "java/lang/IllegalStateException" ["java/lang/RuntimeException", "java/lang/Exception"]).filter goodWord)
def wsL_pack_r1 : List Cond := [Cond.classLink RL 19 "java/lang/IndexOutOfBoundsException", Cond.classLink RL 21 "java/lang/IllegalArgumentException", Cond.classLink RL 13 "java/lang/IllegalStateException", Cond.methodLink RL 30 yX1_pack, Cond.instanceMethod yX1_pack, Cond.selects RX1 yX1_pack yX1_pack, Cond.initialized RX1, Cond.code yX1_pack cX1_pack 4 (some .int), Cond.fieldLink RX1 34 "SandcastleLeague" "strength" "[I", Cond.fieldLink RX1 10 "SandcastleLeague" "shore" "LSandcastleLeague$Shore;", Cond.methodLink RX1 63 yX1_requireTeam, Cond.instanceMethod yX1_requireTeam, Cond.selects RX1 yX1_requireTeam yX1_requireTeam, Cond.code yX1_requireTeam cX1_requireTeam 2 none, Cond.classLink RX1 54 "java/lang/IndexOutOfBoundsException", Cond.initialized "java/lang/IndexOutOfBoundsException", Cond.fieldLink RX1 43 "SandcastleLeague" "teams" "I", Cond.methodLink RX1 66 yX1_requireArea, Cond.static yX1_requireArea, Cond.code yX1_requireArea cX1_requireArea 3 none, Cond.classLink RX1 230 "java/lang/IllegalArgumentException", Cond.initialized "java/lang/IllegalArgumentException", Cond.methodLink RX1 223 yX1_isOnBeach, Cond.static yX1_isOnBeach]
def wsL_pack_r2 : List Cond := [Cond.code yX1_isOnBeach cX1_isOnBeach 2 (some .boolean), Cond.methodLink RX1 76 yX1_cellAt, Cond.static yX1_cellAt, Cond.code yX1_cellAt cX1_cellAt 2 (some .int), Cond.methodLink RX1 190 yX1_isInArea, Cond.static yX1_isInArea, Cond.code yX1_isInArea cX1_isInArea 2 (some .boolean), Cond.methodLink RX1 73 yX1_requireStrength, Cond.instanceMethod yX1_requireStrength, Cond.selects RX1 yX1_requireStrength yX1_requireStrength, Cond.code yX1_requireStrength cX1_requireStrength 2 none, Cond.classLink RX1 47 "java/lang/IllegalStateException", Cond.initialized "java/lang/IllegalStateException", Cond.methodLink RX1 91 yX0_harden, Cond.instanceMethod yX0_harden, Cond.selects RX0 yX0_harden yX0_harden, Cond.initialized RX0, Cond.code yX0_harden cX0_harden 2 (some .int), Cond.fieldLink RX0 9 "SandcastleLeague$Shore" "sand" "[I", Cond.fieldLink RX0 15 "SandcastleLeague$Shore" "firmness" "[I", Cond.methodLink RX0 65 yX0_isWet, Cond.instanceMethod yX0_isWet, Cond.selects RX0 yX0_isWet yX0_isWet, Cond.code yX0_isWet cX0_isWet 2 (some .boolean)]
def wsL_pack_r3 : List Cond := [Cond.fieldLink RX0 18 "SandcastleLeague$Shore" "water" "[I"]
def wsL_pack : List Cond := .codeWith yL_pack cL_pack 6 (some .int) [(0, 12, 15, 19), (0, 12, 19, 21), (0, 12, 23, 13)] :: ((wsL_pack_r1 ++ (wsL_pack_r2 ++ wsL_pack_r3)) ++ wsX10 ++ wsX00 ++ (vx_atS RX1 58 "java/lang/IndexOutOfBoundsException" ["java/lang/RuntimeException", "java/lang/Exception"]).filter goodWord ++ (vx_atS RX1 234 "java/lang/IllegalArgumentException" ["java/lang/RuntimeException", "java/lang/Exception"]).filter goodWord ++ (vx_atS RX1 51 "java/lang/IllegalStateException" ["java/lang/RuntimeException", "java/lang/Exception"]).filter goodWord)
def wsL_plant_r1 : List Cond := [Cond.classLink RL 19 "java/lang/IndexOutOfBoundsException", Cond.classLink RL 21 "java/lang/IllegalArgumentException", Cond.classLink RL 13 "java/lang/IllegalStateException", Cond.methodLink RL 34 yX1_plant, Cond.instanceMethod yX1_plant, Cond.selects RX1 yX1_plant yX1_plant, Cond.initialized RX1, Cond.code yX1_plant cX1_plant 4 (some .int), Cond.classLink RX1 47 "java/lang/IllegalStateException", Cond.initialized "java/lang/IllegalStateException", Cond.fieldLink RX1 10 "SandcastleLeague" "shore" "LSandcastleLeague$Shore;", Cond.fieldLink RX1 34 "SandcastleLeague" "strength" "[I", Cond.methodLink RX1 63 yX1_requireTeam, Cond.instanceMethod yX1_requireTeam, Cond.selects RX1 yX1_requireTeam yX1_requireTeam, Cond.code yX1_requireTeam cX1_requireTeam 2 none, Cond.classLink RX1 54 "java/lang/IndexOutOfBoundsException", Cond.initialized "java/lang/IndexOutOfBoundsException", Cond.fieldLink RX1 43 "SandcastleLeague" "teams" "I", Cond.methodLink RX1 66 yX1_requireArea, Cond.static yX1_requireArea, Cond.code yX1_requireArea cX1_requireArea 3 none, Cond.classLink RX1 230 "java/lang/IllegalArgumentException", Cond.initialized "java/lang/IllegalArgumentException"]
def wsL_plant_r2 : List Cond := [Cond.methodLink RX1 223 yX1_isOnBeach, Cond.static yX1_isOnBeach, Cond.code yX1_isOnBeach cX1_isOnBeach 2 (some .boolean), Cond.methodLink RX1 76 yX1_cellAt, Cond.static yX1_cellAt, Cond.code yX1_cellAt cX1_cellAt 2 (some .int), Cond.methodLink RX1 190 yX1_isInArea, Cond.static yX1_isInArea, Cond.code yX1_isInArea cX1_isInArea 2 (some .boolean), Cond.methodLink RX1 73 yX1_requireStrength, Cond.instanceMethod yX1_requireStrength, Cond.selects RX1 yX1_requireStrength yX1_requireStrength, Cond.code yX1_requireStrength cX1_requireStrength 2 none, Cond.methodLink RX1 95 yX0_sticksOf, Cond.instanceMethod yX0_sticksOf, Cond.selects RX0 yX0_sticksOf yX0_sticksOf, Cond.initialized RX0, Cond.code yX0_sticksOf cX0_sticksOf 4 (some .int), Cond.fieldLink RX0 21 "SandcastleLeague$Shore" "owner" "[I", Cond.methodLink RX1 100 yX0_isFree, Cond.instanceMethod yX0_isFree, Cond.selects RX0 yX0_isFree yX0_isFree, Cond.code yX0_isFree cX0_isFree 2 (some .boolean), Cond.methodLink RX0 108 yX0_hasStick]
def wsL_plant_r3 : List Cond := [Cond.instanceMethod yX0_hasStick, Cond.selects RX0 yX0_hasStick yX0_hasStick, Cond.code yX0_hasStick cX0_hasStick 2 (some .boolean), Cond.methodLink RX0 65 yX0_isWet, Cond.instanceMethod yX0_isWet, Cond.selects RX0 yX0_isWet yX0_isWet, Cond.code yX0_isWet cX0_isWet 2 (some .boolean), Cond.fieldLink RX0 18 "SandcastleLeague$Shore" "water" "[I", Cond.methodLink RX1 106 yX0_putStick, Cond.instanceMethod yX0_putStick, Cond.selects RX0 yX0_putStick yX0_putStick, Cond.code yX0_putStick cX0_putStick 3 none, Cond.fieldLink RX0 24 "SandcastleLeague$Shore" "plantedHeight" "[I", Cond.methodLink RX0 69 yX0_height, Cond.instanceMethod yX0_height, Cond.selects RX0 yX0_height yX0_height, Cond.code yX0_height cX0_height 2 (some .int), Cond.fieldLink RX0 9 "SandcastleLeague$Shore" "sand" "[I"]
def wsL_plant : List Cond := .codeWith yL_plant cL_plant 6 (some .int) [(0, 12, 15, 19), (0, 12, 19, 21), (0, 12, 23, 13)] :: ((wsL_plant_r1 ++ (wsL_plant_r2 ++ wsL_plant_r3)) ++ wsX10 ++ wsX00 ++ (vx_atS RX1 51 "java/lang/IllegalStateException" ["java/lang/RuntimeException", "java/lang/Exception"]).filter goodWord ++ (vx_atS RX1 58 "java/lang/IndexOutOfBoundsException" ["java/lang/RuntimeException", "java/lang/Exception"]).filter goodWord ++ (vx_atS RX1 234 "java/lang/IllegalArgumentException" ["java/lang/RuntimeException", "java/lang/Exception"]).filter goodWord)
def wsL_cell_r1 : List Cond := [Cond.classLink RL 19 "java/lang/IndexOutOfBoundsException", Cond.methodLink RL 37 yX1_cell, Cond.instanceMethod yX1_cell, Cond.selects RX1 yX1_cell yX1_cell, Cond.initialized RX1, Cond.code yX1_cell cX1_cell 4 (some .int), Cond.fieldLink RX1 10 "SandcastleLeague" "shore" "LSandcastleLeague$Shore;", Cond.methodLink RX1 110 yX1_requireCell, Cond.static yX1_requireCell, Cond.code yX1_requireCell cX1_requireCell 2 none, Cond.classLink RX1 54 "java/lang/IndexOutOfBoundsException", Cond.initialized "java/lang/IndexOutOfBoundsException", Cond.methodLink RX1 223 yX1_isOnBeach, Cond.static yX1_isOnBeach, Cond.code yX1_isOnBeach cX1_isOnBeach 2 (some .boolean), Cond.methodLink RX1 113 yX1_requireWhat, Cond.static yX1_requireWhat, Cond.code yX1_requireWhat cX1_requireWhat 2 none, Cond.methodLink RX1 76 yX1_cellAt, Cond.static yX1_cellAt, Cond.code yX1_cellAt cX1_cellAt 2 (some .int), Cond.methodLink RX1 116 yX0_tellCell, Cond.instanceMethod yX0_tellCell, Cond.selects RX0 yX0_tellCell yX0_tellCell]
def wsL_cell_r2 : List Cond := [Cond.initialized RX0, Cond.code yX0_tellCell cX0_tellCell 3 (some .int), Cond.fieldLink RX0 9 "SandcastleLeague$Shore" "sand" "[I", Cond.fieldLink RX0 15 "SandcastleLeague$Shore" "firmness" "[I", Cond.fieldLink RX0 18 "SandcastleLeague$Shore" "water" "[I", Cond.fieldLink RX0 24 "SandcastleLeague$Shore" "plantedHeight" "[I", Cond.methodLink RX0 69 yX0_height, Cond.instanceMethod yX0_height, Cond.selects RX0 yX0_height yX0_height, Cond.code yX0_height cX0_height 2 (some .int), Cond.methodLink RX0 108 yX0_hasStick, Cond.instanceMethod yX0_hasStick, Cond.selects RX0 yX0_hasStick yX0_hasStick, Cond.code yX0_hasStick cX0_hasStick 2 (some .boolean), Cond.fieldLink RX0 21 "SandcastleLeague$Shore" "owner" "[I"]
def wsL_cell : List Cond := .codeWith yL_cell cL_cell 6 (some .int) [(0, 12, 15, 19)] :: ((wsL_cell_r1 ++ wsL_cell_r2) ++ wsX10 ++ wsX00 ++ (vx_atS RX1 58 "java/lang/IndexOutOfBoundsException" ["java/lang/RuntimeException", "java/lang/Exception"]).filter goodWord)
def wsL_team_r1 : List Cond := [Cond.classLink RL 19 "java/lang/IndexOutOfBoundsException", Cond.methodLink RL 40 yX1_team, Cond.instanceMethod yX1_team, Cond.selects RX1 yX1_team yX1_team, Cond.initialized RX1, Cond.code yX1_team cX1_team 3 (some .int), Cond.fieldLink RX1 31 "SandcastleLeague" "bucket" "[I", Cond.fieldLink RX1 34 "SandcastleLeague" "strength" "[I", Cond.fieldLink RX1 10 "SandcastleLeague" "shore" "LSandcastleLeague$Shore;", Cond.fieldLink RX1 37 "SandcastleLeague" "leaguePoints" "[I", Cond.methodLink RX1 63 yX1_requireTeam, Cond.instanceMethod yX1_requireTeam, Cond.selects RX1 yX1_requireTeam yX1_requireTeam, Cond.code yX1_requireTeam cX1_requireTeam 2 none, Cond.classLink RX1 54 "java/lang/IndexOutOfBoundsException", Cond.initialized "java/lang/IndexOutOfBoundsException", Cond.fieldLink RX1 43 "SandcastleLeague" "teams" "I", Cond.methodLink RX1 113 yX1_requireWhat, Cond.static yX1_requireWhat, Cond.code yX1_requireWhat cX1_requireWhat 2 none, Cond.methodLink RX1 119 yX0_pointsOf, Cond.instanceMethod yX0_pointsOf, Cond.selects RX0 yX0_pointsOf yX0_pointsOf, Cond.initialized RX0]
def wsL_team_r2 : List Cond := [Cond.code yX0_pointsOf cX0_pointsOf 2 (some .int), Cond.fieldLink RX0 27 "SandcastleLeague$Shore" "points" "[I", Cond.methodLink RX1 95 yX0_sticksOf, Cond.instanceMethod yX0_sticksOf, Cond.selects RX0 yX0_sticksOf yX0_sticksOf, Cond.code yX0_sticksOf cX0_sticksOf 4 (some .int), Cond.fieldLink RX0 21 "SandcastleLeague$Shore" "owner" "[I", Cond.methodLink RX1 122 yX0_sandOfArea, Cond.instanceMethod yX0_sandOfArea, Cond.selects RX0 yX0_sandOfArea yX0_sandOfArea, Cond.code yX0_sandOfArea cX0_sandOfArea 2 (some .int), Cond.fieldLink RX0 9 "SandcastleLeague$Shore" "sand" "[I", Cond.methodLink RX0 111 yX0_sumOfArea, Cond.static yX0_sumOfArea, Cond.code yX0_sumOfArea cX0_sumOfArea 4 (some .int), Cond.static yX1_isInArea, Cond.code yX1_isInArea cX1_isInArea 2 (some .boolean), Cond.methodLink RX1 125 yX0_greatestHeightOfArea, Cond.instanceMethod yX0_greatestHeightOfArea, Cond.selects RX0 yX0_greatestHeightOfArea yX0_greatestHeightOfArea, Cond.code yX0_greatestHeightOfArea cX0_greatestHeightOfArea 4 (some .int), Cond.methodLink RX0 95 Lib.Math.max.name, Cond.static Lib.Math.max.name, Cond.initialized "java/lang/Math"]
def wsL_team_r3 : List Cond := [Cond.code Lib.Math.max.name Lib.Math.max.code 2 (some .int), Cond.methodLink RX0 69 yX0_height, Cond.instanceMethod yX0_height, Cond.selects RX0 yX0_height yX0_height, Cond.code yX0_height cX0_height 2 (some .int), Cond.methodLink RX1 128 yX0_waterOfArea, Cond.instanceMethod yX0_waterOfArea, Cond.selects RX0 yX0_waterOfArea yX0_waterOfArea, Cond.code yX0_waterOfArea cX0_waterOfArea 2 (some .int), Cond.fieldLink RX0 18 "SandcastleLeague$Shore" "water" "[I"]
def wsL_team : List Cond := .codeWith yL_team cL_team 5 (some .int) [(0, 10, 13, 19)] :: ((wsL_team_r1 ++ (wsL_team_r2 ++ wsL_team_r3)) ++ wsX10 ++ wsX00 ++ (vx_atS RX1 58 "java/lang/IndexOutOfBoundsException" ["java/lang/RuntimeException", "java/lang/Exception"]).filter goodWord)
def wsL_count_r1 : List Cond := [Cond.classLink RL 19 "java/lang/IndexOutOfBoundsException", Cond.methodLink RL 43 yX1_count, Cond.instanceMethod yX1_count, Cond.selects RX1 yX1_count yX1_count, Cond.initialized RX1, Cond.code yX1_count cX1_count 2 (some .int), Cond.fieldLink RX1 131 "SandcastleLeague" "hour" "I", Cond.fieldLink RX1 43 "SandcastleLeague" "teams" "I", Cond.fieldLink RX1 10 "SandcastleLeague" "shore" "LSandcastleLeague$Shore;", Cond.fieldLink RX1 153 "SandcastleLeague" "endedRounds" "I", Cond.methodLink RX1 113 yX1_requireWhat, Cond.static yX1_requireWhat, Cond.code yX1_requireWhat cX1_requireWhat 2 none, Cond.classLink RX1 54 "java/lang/IndexOutOfBoundsException", Cond.initialized "java/lang/IndexOutOfBoundsException", Cond.methodLink RX1 134 yX0_allWater, Cond.instanceMethod yX0_allWater, Cond.selects RX0 yX0_allWater yX0_allWater, Cond.initialized RX0, Cond.code yX0_allWater cX0_allWater 1 (some .int), Cond.fieldLink RX0 18 "SandcastleLeague$Shore" "water" "[I", Cond.methodLink RX0 118 yX0_sum, Cond.static yX0_sum, Cond.code yX0_sum cX0_sum 6 (some .int)]
def wsL_count_r2 : List Cond := [Cond.methodLink RX1 138 yX0_allSand, Cond.instanceMethod yX0_allSand, Cond.selects RX0 yX0_allSand yX0_allSand, Cond.code yX0_allSand cX0_allSand 1 (some .int), Cond.fieldLink RX0 9 "SandcastleLeague$Shore" "sand" "[I", Cond.methodLink RX1 147 yX0_allSticks, Cond.instanceMethod yX0_allSticks, Cond.selects RX0 yX0_allSticks yX0_allSticks, Cond.code yX0_allSticks cX0_allSticks 3 (some .int), Cond.methodLink RX0 108 yX0_hasStick, Cond.instanceMethod yX0_hasStick, Cond.selects RX0 yX0_hasStick yX0_hasStick, Cond.code yX0_hasStick cX0_hasStick 2 (some .boolean), Cond.fieldLink RX0 21 "SandcastleLeague$Shore" "owner" "[I"]
def wsL_count : List Cond := .codeWith yL_count cL_count 4 (some .int) [(0, 9, 12, 19)] :: ((wsL_count_r1 ++ wsL_count_r2) ++ wsX10 ++ wsX00 ++ (vx_atS RX1 58 "java/lang/IndexOutOfBoundsException" ["java/lang/RuntimeException", "java/lang/Exception"]).filter goodWord)
def wsL_pass_r1 : List Cond := [Cond.classLink RL 21 "java/lang/IllegalArgumentException", Cond.methodLink RL 47 yX1_pass, Cond.instanceMethod yX1_pass, Cond.selects RX1 yX1_pass yX1_pass, Cond.initialized RX1, Cond.code yX1_pass cX1_pass 3 (some .int), Cond.fieldLink RX1 10 "SandcastleLeague" "shore" "LSandcastleLeague$Shore;", Cond.fieldLink RX1 131 "SandcastleLeague" "hour" "I", Cond.fieldLink RX1 34 "SandcastleLeague" "strength" "[I", Cond.methodLink RX1 156 yX1_requireHours, Cond.static yX1_requireHours, Cond.code yX1_requireHours cX1_requireHours 2 none, Cond.classLink RX1 230 "java/lang/IllegalArgumentException", Cond.initialized "java/lang/IllegalArgumentException", Cond.methodLink RX1 159 yX1_letHoursGoBy, Cond.instanceMethod yX1_letHoursGoBy, Cond.selects RX1 yX1_letHoursGoBy yX1_letHoursGoBy, Cond.code yX1_letHoursGoBy cX1_letHoursGoBy 4 none, Cond.fieldLink RX1 28 "SandcastleLeague" "tides" "[I", Cond.methodLink RX1 212 yJ9_floorMod_7cf53, Cond.static yJ9_floorMod_7cf53, Cond.initialized RJ9, Cond.code yJ9_floorMod_7cf53 cJ9_floorMod_7cf53 3 (some .int), Cond.methodLink RX1 215 yX0_letHourGoBy]
def wsL_pass_r2 : List Cond := [Cond.instanceMethod yX0_letHourGoBy, Cond.selects RX0 yX0_letHourGoBy yX0_letHourGoBy, Cond.initialized RX0, Cond.code yX0_letHourGoBy cX0_letHourGoBy 2 none, Cond.fieldLink RX0 43 "SandcastleLeague$Shore" "slides" "I", Cond.methodLink RX0 73 yX0_findWater, Cond.instanceMethod yX0_findWater, Cond.selects RX0 yX0_findWater yX0_findWater, Cond.code yX0_findWater cX0_findWater 4 none, Cond.fieldLink RX0 18 "SandcastleLeague$Shore" "water" "[I", Cond.methodLink RX0 30 yJ7_fill_53178, Cond.static yJ7_fill_53178, Cond.initialized RJ7, Cond.code yJ7_fill_53178 cJ7_fill_53178 4 none, Cond.methodLink RX0 86 yX0_sweepWater, Cond.instanceMethod yX0_sweepWater, Cond.selects RX0 yX0_sweepWater yX0_sweepWater, Cond.code yX0_sweepWater cX0_sweepWater 4 (some .boolean), Cond.methodLink RX0 65 yX0_isWet, Cond.instanceMethod yX0_isWet, Cond.selects RX0 yX0_isWet yX0_isWet, Cond.code yX0_isWet cX0_isWet 2 (some .boolean), Cond.methodLink RX0 69 yX0_height, Cond.instanceMethod yX0_height]
def wsL_pass_r3 : List Cond := [Cond.selects RX0 yX0_height yX0_height, Cond.code yX0_height cX0_height 2 (some .int), Cond.fieldLink RX0 9 "SandcastleLeague$Shore" "sand" "[I", Cond.methodLink RX0 89 yX0_isOpenToSea, Cond.instanceMethod yX0_isOpenToSea, Cond.selects RX0 yX0_isOpenToSea yX0_isOpenToSea, Cond.code yX0_isOpenToSea cX0_isOpenToSea 4 (some .boolean), Cond.methodLink RX0 92 yX0_beside, Cond.static yX0_beside, Cond.code yX0_beside cX0_beside 3 (some .int), Cond.methodLink RX0 76 yX0_washSandAway, Cond.instanceMethod yX0_washSandAway, Cond.selects RX0 yX0_washSandAway yX0_washSandAway, Cond.code yX0_washSandAway cX0_washSandAway 4 none, Cond.fieldLink RX0 15 "SandcastleLeague$Shore" "firmness" "[I", Cond.methodLink RX0 95 Lib.Math.max.name, Cond.static Lib.Math.max.name, Cond.initialized "java/lang/Math", Cond.code Lib.Math.max.name Lib.Math.max.code 2 (some .int), Cond.methodLink RX0 55 Lib.Math.min.name, Cond.static Lib.Math.min.name, Cond.code Lib.Math.min.name Lib.Math.min.code 2 (some .int), Cond.fieldLink RX0 39 "SandcastleLeague$Shore" "lostSand" "I", Cond.methodLink RX0 61 yX0_soften]
def wsL_pass_r4 : List Cond := [Cond.instanceMethod yX0_soften, Cond.selects RX0 yX0_soften yX0_soften, Cond.code yX0_soften cX0_soften 2 none, Cond.methodLink RX0 79 yX0_letSandSlide, Cond.instanceMethod yX0_letSandSlide, Cond.selects RX0 yX0_letSandSlide yX0_letSandSlide, Cond.code yX0_letSandSlide cX0_letSandSlide 4 (some .int), Cond.methodLink RX0 98 yX0_slideOnce, Cond.instanceMethod yX0_slideOnce, Cond.selects RX0 yX0_slideOnce yX0_slideOnce, Cond.code yX0_slideOnce cX0_slideOnce 4 (some .int), Cond.methodLink RX0 101 yX0_lowestBeside, Cond.instanceMethod yX0_lowestBeside, Cond.selects RX0 yX0_lowestBeside yX0_lowestBeside, Cond.code yX0_lowestBeside cX0_lowestBeside 5 (some .int), Cond.methodLink RX0 104 yX0_slidesTo, Cond.instanceMethod yX0_slidesTo, Cond.selects RX0 yX0_slidesTo yX0_slidesTo, Cond.code yX0_slidesTo cX0_slidesTo 3 (some .boolean), Cond.methodLink RX0 83 yX0_judgeSticks, Cond.instanceMethod yX0_judgeSticks, Cond.selects RX0 yX0_judgeSticks yX0_judgeSticks, Cond.code yX0_judgeSticks cX0_judgeSticks 3 none, Cond.fieldLink RX0 21 "SandcastleLeague$Shore" "owner" "[I"]
def wsL_pass_r5 : List Cond := [Cond.fieldLink RX0 24 "SandcastleLeague$Shore" "plantedHeight" "[I", Cond.fieldLink RX0 46 "SandcastleLeague$Shore" "fallenSticks" "I", Cond.fieldLink RX0 27 "SandcastleLeague$Shore" "points" "[I", Cond.methodLink RX1 163 yJ7_fill_53178]
def wsL_pass : List Cond := .codeWith yL_pass cL_pass 4 (some .int) [(0, 9, 12, 21)] :: ((wsL_pass_r1 ++ (wsL_pass_r2 ++ (wsL_pass_r3 ++ (wsL_pass_r4 ++ wsL_pass_r5)))) ++ wsX10 ++ wsX00 ++ (vx_atS RX1 234 "java/lang/IllegalArgumentException" ["java/lang/RuntimeException", "java/lang/Exception"]).filter goodWord)
def wsL_leader_r1 : List Cond := [Cond.classLink RL 19 "java/lang/IndexOutOfBoundsException", Cond.methodLink RL 50 yX1_leader, Cond.instanceMethod yX1_leader, Cond.selects RX1 yX1_leader yX1_leader, Cond.initialized RX1, Cond.code yX1_leader cX1_leader 4 (some .int), Cond.classLink RX1 54 "java/lang/IndexOutOfBoundsException", Cond.initialized "java/lang/IndexOutOfBoundsException", Cond.fieldLink RX1 43 "SandcastleLeague" "teams" "I", Cond.methodLink RX1 174 yX1_teamsAheadOf, Cond.instanceMethod yX1_teamsAheadOf, Cond.selects RX1 yX1_teamsAheadOf yX1_teamsAheadOf, Cond.code yX1_teamsAheadOf cX1_teamsAheadOf 4 (some .int), Cond.methodLink RX1 218 yX1_isAhead, Cond.instanceMethod yX1_isAhead, Cond.selects RX1 yX1_isAhead yX1_isAhead, Cond.code yX1_isAhead cX1_isAhead 3 (some .boolean), Cond.fieldLink RX1 37 "SandcastleLeague" "leaguePoints" "[I", Cond.fieldLink RX1 10 "SandcastleLeague" "shore" "LSandcastleLeague$Shore;", Cond.methodLink RX1 119 yX0_pointsOf, Cond.instanceMethod yX0_pointsOf, Cond.selects RX0 yX0_pointsOf yX0_pointsOf, Cond.initialized RX0, Cond.code yX0_pointsOf cX0_pointsOf 2 (some .int)]
def wsL_leader_r2 : List Cond := [Cond.fieldLink RX0 27 "SandcastleLeague$Shore" "points" "[I"]
def wsL_leader : List Cond := .codeWith yL_leader cL_leader 4 (some .int) [(0, 9, 12, 19)] :: ((wsL_leader_r1 ++ wsL_leader_r2) ++ wsX10 ++ wsX00 ++ (vx_atS RX1 58 "java/lang/IndexOutOfBoundsException" ["java/lang/RuntimeException", "java/lang/Exception"]).filter goodWord)
def wsL_flood_r1 : List Cond := [Cond.classLink RL 21 "java/lang/IllegalArgumentException", Cond.methodLink RL 53 yX1_flood, Cond.instanceMethod yX1_flood, Cond.selects RX1 yX1_flood yX1_flood, Cond.initialized RX1, Cond.code yX1_flood cX1_flood 2 (some .int), Cond.fieldLink RX1 16 "SandcastleLeague" "trial" "LSandcastleLeague$Shore;", Cond.fieldLink RX1 10 "SandcastleLeague" "shore" "LSandcastleLeague$Shore;", Cond.methodLink RX1 59 yX1_requireLevel, Cond.static yX1_requireLevel, Cond.code yX1_requireLevel cX1_requireLevel 1 none, Cond.classLink RX1 230 "java/lang/IllegalArgumentException", Cond.initialized "java/lang/IllegalArgumentException", Cond.methodLink RX1 177 yX0_become, Cond.instanceMethod yX0_become, Cond.selects RX0 yX0_become yX0_become, Cond.initialized RX0, Cond.code yX0_become cX0_become 2 none, Cond.fieldLink RX0 9 "SandcastleLeague$Shore" "sand" "[I", Cond.methodLink RX0 49 arraycopyName, Cond.native arraycopyName, Cond.static arraycopyName, Cond.initialized "java/lang/System", Cond.fieldLink RX0 15 "SandcastleLeague$Shore" "firmness" "[I"]
def wsL_flood_r2 : List Cond := [Cond.fieldLink RX0 18 "SandcastleLeague$Shore" "water" "[I", Cond.fieldLink RX0 21 "SandcastleLeague$Shore" "owner" "[I", Cond.fieldLink RX0 24 "SandcastleLeague$Shore" "plantedHeight" "[I", Cond.fieldLink RX0 27 "SandcastleLeague$Shore" "points" "[I", Cond.fieldLink RX0 39 "SandcastleLeague$Shore" "lostSand" "I", Cond.fieldLink RX0 43 "SandcastleLeague$Shore" "slides" "I", Cond.fieldLink RX0 46 "SandcastleLeague$Shore" "fallenSticks" "I", Cond.methodLink RX1 181 yX0_findWater, Cond.instanceMethod yX0_findWater, Cond.selects RX0 yX0_findWater yX0_findWater, Cond.code yX0_findWater cX0_findWater 4 none, Cond.methodLink RX0 30 yJ7_fill_53178, Cond.static yJ7_fill_53178, Cond.initialized RJ7, Cond.code yJ7_fill_53178 cJ7_fill_53178 4 none, Cond.methodLink RX0 86 yX0_sweepWater, Cond.instanceMethod yX0_sweepWater, Cond.selects RX0 yX0_sweepWater yX0_sweepWater, Cond.code yX0_sweepWater cX0_sweepWater 4 (some .boolean), Cond.methodLink RX0 65 yX0_isWet, Cond.instanceMethod yX0_isWet, Cond.selects RX0 yX0_isWet yX0_isWet, Cond.code yX0_isWet cX0_isWet 2 (some .boolean), Cond.methodLink RX0 69 yX0_height]
def wsL_flood_r3 : List Cond := [Cond.instanceMethod yX0_height, Cond.selects RX0 yX0_height yX0_height, Cond.code yX0_height cX0_height 2 (some .int), Cond.methodLink RX0 89 yX0_isOpenToSea, Cond.instanceMethod yX0_isOpenToSea, Cond.selects RX0 yX0_isOpenToSea yX0_isOpenToSea, Cond.code yX0_isOpenToSea cX0_isOpenToSea 4 (some .boolean), Cond.methodLink RX0 92 yX0_beside, Cond.static yX0_beside, Cond.code yX0_beside cX0_beside 3 (some .int), Cond.methodLink RX1 134 yX0_allWater, Cond.instanceMethod yX0_allWater, Cond.selects RX0 yX0_allWater yX0_allWater, Cond.code yX0_allWater cX0_allWater 1 (some .int), Cond.methodLink RX0 118 yX0_sum, Cond.static yX0_sum, Cond.code yX0_sum cX0_sum 6 (some .int)]
def wsL_flood : List Cond := .codeWith yL_flood cL_flood 4 (some .int) [(0, 9, 12, 21)] :: ((wsL_flood_r1 ++ (wsL_flood_r2 ++ wsL_flood_r3)) ++ wsX10 ++ wsX00 ++ (vx_atS RX1 234 "java/lang/IllegalArgumentException" ["java/lang/RuntimeException", "java/lang/Exception"]).filter goodWord)
def wsL_reach_r1 : List Cond := [Cond.classLink RL 19 "java/lang/IndexOutOfBoundsException", Cond.methodLink RL 56 yX1_reach, Cond.instanceMethod yX1_reach, Cond.selects RX1 yX1_reach yX1_reach, Cond.initialized RX1, Cond.code yX1_reach cX1_reach 5 (some .int), Cond.fieldLink RX1 16 "SandcastleLeague" "trial" "LSandcastleLeague$Shore;", Cond.fieldLink RX1 10 "SandcastleLeague" "shore" "LSandcastleLeague$Shore;", Cond.methodLink RX1 110 yX1_requireCell, Cond.static yX1_requireCell, Cond.code yX1_requireCell cX1_requireCell 2 none, Cond.classLink RX1 54 "java/lang/IndexOutOfBoundsException", Cond.initialized "java/lang/IndexOutOfBoundsException", Cond.methodLink RX1 223 yX1_isOnBeach, Cond.static yX1_isOnBeach, Cond.code yX1_isOnBeach cX1_isOnBeach 2 (some .boolean), Cond.methodLink RX1 76 yX1_cellAt, Cond.static yX1_cellAt, Cond.code yX1_cellAt cX1_cellAt 2 (some .int), Cond.methodLink RX1 177 yX0_become, Cond.instanceMethod yX0_become, Cond.selects RX0 yX0_become yX0_become, Cond.initialized RX0, Cond.code yX0_become cX0_become 2 none]
def wsL_reach_r2 : List Cond := [Cond.fieldLink RX0 9 "SandcastleLeague$Shore" "sand" "[I", Cond.methodLink RX0 49 arraycopyName, Cond.native arraycopyName, Cond.static arraycopyName, Cond.initialized "java/lang/System", Cond.fieldLink RX0 15 "SandcastleLeague$Shore" "firmness" "[I", Cond.fieldLink RX0 18 "SandcastleLeague$Shore" "water" "[I", Cond.fieldLink RX0 21 "SandcastleLeague$Shore" "owner" "[I", Cond.fieldLink RX0 24 "SandcastleLeague$Shore" "plantedHeight" "[I", Cond.fieldLink RX0 27 "SandcastleLeague$Shore" "points" "[I", Cond.fieldLink RX0 39 "SandcastleLeague$Shore" "lostSand" "I", Cond.fieldLink RX0 43 "SandcastleLeague$Shore" "slides" "I", Cond.fieldLink RX0 46 "SandcastleLeague$Shore" "fallenSticks" "I", Cond.methodLink RX1 181 yX0_findWater, Cond.instanceMethod yX0_findWater, Cond.selects RX0 yX0_findWater yX0_findWater, Cond.code yX0_findWater cX0_findWater 4 none, Cond.methodLink RX0 30 yJ7_fill_53178, Cond.static yJ7_fill_53178, Cond.initialized RJ7, Cond.code yJ7_fill_53178 cJ7_fill_53178 4 none, Cond.methodLink RX0 86 yX0_sweepWater, Cond.instanceMethod yX0_sweepWater, Cond.selects RX0 yX0_sweepWater yX0_sweepWater]
def wsL_reach_r3 : List Cond := [Cond.code yX0_sweepWater cX0_sweepWater 4 (some .boolean), Cond.methodLink RX0 65 yX0_isWet, Cond.instanceMethod yX0_isWet, Cond.selects RX0 yX0_isWet yX0_isWet, Cond.code yX0_isWet cX0_isWet 2 (some .boolean), Cond.methodLink RX0 69 yX0_height, Cond.instanceMethod yX0_height, Cond.selects RX0 yX0_height yX0_height, Cond.code yX0_height cX0_height 2 (some .int), Cond.methodLink RX0 89 yX0_isOpenToSea, Cond.instanceMethod yX0_isOpenToSea, Cond.selects RX0 yX0_isOpenToSea yX0_isOpenToSea, Cond.code yX0_isOpenToSea cX0_isOpenToSea 4 (some .boolean), Cond.methodLink RX0 92 yX0_beside, Cond.static yX0_beside, Cond.code yX0_beside cX0_beside 3 (some .int), Cond.methodLink RX1 184 yX0_isWet]
def wsL_reach : List Cond := .codeWith yL_reach cL_reach 5 (some .int) [(0, 10, 13, 19)] :: ((wsL_reach_r1 ++ (wsL_reach_r2 ++ wsL_reach_r3)) ++ wsX10 ++ wsX00 ++ (vx_atS RX1 58 "java/lang/IndexOutOfBoundsException" ["java/lang/RuntimeException", "java/lang/Exception"]).filter goodWord)
def wsL_foresee_r1 : List Cond := [Cond.classLink RL 21 "java/lang/IllegalArgumentException", Cond.classLink RL 19 "java/lang/IndexOutOfBoundsException", Cond.methodLink RL 59 yX1_foresee, Cond.instanceMethod yX1_foresee, Cond.selects RX1 yX1_foresee yX1_foresee, Cond.initialized RX1, Cond.code yX1_foresee cX1_foresee 4 (some .int), Cond.fieldLink RX1 16 "SandcastleLeague" "trial" "LSandcastleLeague$Shore;", Cond.fieldLink RX1 10 "SandcastleLeague" "shore" "LSandcastleLeague$Shore;", Cond.methodLink RX1 156 yX1_requireHours, Cond.static yX1_requireHours, Cond.code yX1_requireHours cX1_requireHours 2 none, Cond.classLink RX1 230 "java/lang/IllegalArgumentException", Cond.initialized "java/lang/IllegalArgumentException", Cond.methodLink RX1 63 yX1_requireTeam, Cond.instanceMethod yX1_requireTeam, Cond.selects RX1 yX1_requireTeam yX1_requireTeam, Cond.code yX1_requireTeam cX1_requireTeam 2 none, Cond.classLink RX1 54 "java/lang/IndexOutOfBoundsException", Cond.initialized "java/lang/IndexOutOfBoundsException", Cond.fieldLink RX1 43 "SandcastleLeague" "teams" "I", Cond.methodLink RX1 113 yX1_requireWhat, Cond.static yX1_requireWhat, Cond.code yX1_requireWhat cX1_requireWhat 2 none]
def wsL_foresee_r2 : List Cond := [Cond.methodLink RX1 177 yX0_become, Cond.instanceMethod yX0_become, Cond.selects RX0 yX0_become yX0_become, Cond.initialized RX0, Cond.code yX0_become cX0_become 2 none, Cond.fieldLink RX0 9 "SandcastleLeague$Shore" "sand" "[I", Cond.methodLink RX0 49 arraycopyName, Cond.native arraycopyName, Cond.static arraycopyName, Cond.initialized "java/lang/System", Cond.fieldLink RX0 15 "SandcastleLeague$Shore" "firmness" "[I", Cond.fieldLink RX0 18 "SandcastleLeague$Shore" "water" "[I", Cond.fieldLink RX0 21 "SandcastleLeague$Shore" "owner" "[I", Cond.fieldLink RX0 24 "SandcastleLeague$Shore" "plantedHeight" "[I", Cond.fieldLink RX0 27 "SandcastleLeague$Shore" "points" "[I", Cond.fieldLink RX0 39 "SandcastleLeague$Shore" "lostSand" "I", Cond.fieldLink RX0 43 "SandcastleLeague$Shore" "slides" "I", Cond.fieldLink RX0 46 "SandcastleLeague$Shore" "fallenSticks" "I", Cond.methodLink RX1 159 yX1_letHoursGoBy, Cond.instanceMethod yX1_letHoursGoBy, Cond.selects RX1 yX1_letHoursGoBy yX1_letHoursGoBy, Cond.code yX1_letHoursGoBy cX1_letHoursGoBy 4 none, Cond.fieldLink RX1 28 "SandcastleLeague" "tides" "[I", Cond.fieldLink RX1 131 "SandcastleLeague" "hour" "I"]
def wsL_foresee_r3 : List Cond := [Cond.methodLink RX1 212 yJ9_floorMod_7cf53, Cond.static yJ9_floorMod_7cf53, Cond.initialized RJ9, Cond.code yJ9_floorMod_7cf53 cJ9_floorMod_7cf53 3 (some .int), Cond.methodLink RX1 215 yX0_letHourGoBy, Cond.instanceMethod yX0_letHourGoBy, Cond.selects RX0 yX0_letHourGoBy yX0_letHourGoBy, Cond.code yX0_letHourGoBy cX0_letHourGoBy 2 none, Cond.methodLink RX0 73 yX0_findWater, Cond.instanceMethod yX0_findWater, Cond.selects RX0 yX0_findWater yX0_findWater, Cond.code yX0_findWater cX0_findWater 4 none, Cond.methodLink RX0 30 yJ7_fill_53178, Cond.static yJ7_fill_53178, Cond.initialized RJ7, Cond.code yJ7_fill_53178 cJ7_fill_53178 4 none, Cond.methodLink RX0 86 yX0_sweepWater, Cond.instanceMethod yX0_sweepWater, Cond.selects RX0 yX0_sweepWater yX0_sweepWater, Cond.code yX0_sweepWater cX0_sweepWater 4 (some .boolean), Cond.methodLink RX0 65 yX0_isWet, Cond.instanceMethod yX0_isWet, Cond.selects RX0 yX0_isWet yX0_isWet, Cond.code yX0_isWet cX0_isWet 2 (some .boolean)]
def wsL_foresee_r4 : List Cond := [Cond.methodLink RX0 69 yX0_height, Cond.instanceMethod yX0_height, Cond.selects RX0 yX0_height yX0_height, Cond.code yX0_height cX0_height 2 (some .int), Cond.methodLink RX0 89 yX0_isOpenToSea, Cond.instanceMethod yX0_isOpenToSea, Cond.selects RX0 yX0_isOpenToSea yX0_isOpenToSea, Cond.code yX0_isOpenToSea cX0_isOpenToSea 4 (some .boolean), Cond.methodLink RX0 92 yX0_beside, Cond.static yX0_beside, Cond.code yX0_beside cX0_beside 3 (some .int), Cond.methodLink RX0 76 yX0_washSandAway, Cond.instanceMethod yX0_washSandAway, Cond.selects RX0 yX0_washSandAway yX0_washSandAway, Cond.code yX0_washSandAway cX0_washSandAway 4 none, Cond.methodLink RX0 95 Lib.Math.max.name, Cond.static Lib.Math.max.name, Cond.initialized "java/lang/Math", Cond.code Lib.Math.max.name Lib.Math.max.code 2 (some .int), Cond.methodLink RX0 55 Lib.Math.min.name, Cond.static Lib.Math.min.name, Cond.code Lib.Math.min.name Lib.Math.min.code 2 (some .int), Cond.methodLink RX0 61 yX0_soften, Cond.instanceMethod yX0_soften]
def wsL_foresee_r5 : List Cond := [Cond.selects RX0 yX0_soften yX0_soften, Cond.code yX0_soften cX0_soften 2 none, Cond.methodLink RX0 79 yX0_letSandSlide, Cond.instanceMethod yX0_letSandSlide, Cond.selects RX0 yX0_letSandSlide yX0_letSandSlide, Cond.code yX0_letSandSlide cX0_letSandSlide 4 (some .int), Cond.methodLink RX0 98 yX0_slideOnce, Cond.instanceMethod yX0_slideOnce, Cond.selects RX0 yX0_slideOnce yX0_slideOnce, Cond.code yX0_slideOnce cX0_slideOnce 4 (some .int), Cond.methodLink RX0 101 yX0_lowestBeside, Cond.instanceMethod yX0_lowestBeside, Cond.selects RX0 yX0_lowestBeside yX0_lowestBeside, Cond.code yX0_lowestBeside cX0_lowestBeside 5 (some .int), Cond.methodLink RX0 104 yX0_slidesTo, Cond.instanceMethod yX0_slidesTo, Cond.selects RX0 yX0_slidesTo yX0_slidesTo, Cond.code yX0_slidesTo cX0_slidesTo 3 (some .boolean), Cond.methodLink RX0 83 yX0_judgeSticks, Cond.instanceMethod yX0_judgeSticks, Cond.selects RX0 yX0_judgeSticks yX0_judgeSticks, Cond.code yX0_judgeSticks cX0_judgeSticks 3 none, Cond.methodLink RX1 119 yX0_pointsOf, Cond.instanceMethod yX0_pointsOf]
def wsL_foresee_r6 : List Cond := [Cond.selects RX0 yX0_pointsOf yX0_pointsOf, Cond.code yX0_pointsOf cX0_pointsOf 2 (some .int), Cond.methodLink RX1 95 yX0_sticksOf, Cond.instanceMethod yX0_sticksOf, Cond.selects RX0 yX0_sticksOf yX0_sticksOf, Cond.code yX0_sticksOf cX0_sticksOf 4 (some .int), Cond.methodLink RX1 122 yX0_sandOfArea, Cond.instanceMethod yX0_sandOfArea, Cond.selects RX0 yX0_sandOfArea yX0_sandOfArea, Cond.code yX0_sandOfArea cX0_sandOfArea 2 (some .int), Cond.methodLink RX0 111 yX0_sumOfArea, Cond.static yX0_sumOfArea, Cond.code yX0_sumOfArea cX0_sumOfArea 4 (some .int), Cond.static yX1_isInArea, Cond.code yX1_isInArea cX1_isInArea 2 (some .boolean)]
def wsL_foresee : List Cond := .codeWith yL_foresee cL_foresee 6 (some .int) [(0, 12, 15, 21), (0, 12, 19, 19)] :: ((wsL_foresee_r1 ++ (wsL_foresee_r2 ++ (wsL_foresee_r3 ++ (wsL_foresee_r4 ++ (wsL_foresee_r5 ++ wsL_foresee_r6))))) ++ wsX10 ++ wsX00 ++ (vx_atS RX1 234 "java/lang/IllegalArgumentException" ["java/lang/RuntimeException", "java/lang/Exception"]).filter goodWord ++ (vx_atS RX1 58 "java/lang/IndexOutOfBoundsException" ["java/lang/RuntimeException", "java/lang/Exception"]).filter goodWord)
def wsL_advise_r1 : List Cond := [Cond.classLink RL 19 "java/lang/IndexOutOfBoundsException", Cond.classLink RL 21 "java/lang/IllegalArgumentException", Cond.methodLink RL 62 yX1_advise, Cond.instanceMethod yX1_advise, Cond.selects RX1 yX1_advise yX1_advise, Cond.initialized RX1, Cond.code yX1_advise cX1_advise 6 (some .int), Cond.fieldLink RX1 16 "SandcastleLeague" "trial" "LSandcastleLeague$Shore;", Cond.fieldLink RX1 10 "SandcastleLeague" "shore" "LSandcastleLeague$Shore;", Cond.methodLink RX1 63 yX1_requireTeam, Cond.instanceMethod yX1_requireTeam, Cond.selects RX1 yX1_requireTeam yX1_requireTeam, Cond.code yX1_requireTeam cX1_requireTeam 2 none, Cond.classLink RX1 54 "java/lang/IndexOutOfBoundsException", Cond.initialized "java/lang/IndexOutOfBoundsException", Cond.fieldLink RX1 43 "SandcastleLeague" "teams" "I", Cond.methodLink RX1 156 yX1_requireHours, Cond.static yX1_requireHours, Cond.code yX1_requireHours cX1_requireHours 2 none, Cond.classLink RX1 230 "java/lang/IllegalArgumentException", Cond.initialized "java/lang/IllegalArgumentException", Cond.methodLink RX1 177 yX0_become, Cond.instanceMethod yX0_become, Cond.selects RX0 yX0_become yX0_become]
def wsL_advise_r2 : List Cond := [Cond.initialized RX0, Cond.code yX0_become cX0_become 2 none, Cond.fieldLink RX0 9 "SandcastleLeague$Shore" "sand" "[I", Cond.methodLink RX0 49 arraycopyName, Cond.native arraycopyName, Cond.static arraycopyName, Cond.initialized "java/lang/System", Cond.fieldLink RX0 15 "SandcastleLeague$Shore" "firmness" "[I", Cond.fieldLink RX0 18 "SandcastleLeague$Shore" "water" "[I", Cond.fieldLink RX0 21 "SandcastleLeague$Shore" "owner" "[I", Cond.fieldLink RX0 24 "SandcastleLeague$Shore" "plantedHeight" "[I", Cond.fieldLink RX0 27 "SandcastleLeague$Shore" "points" "[I", Cond.fieldLink RX0 39 "SandcastleLeague$Shore" "lostSand" "I", Cond.fieldLink RX0 43 "SandcastleLeague$Shore" "slides" "I", Cond.fieldLink RX0 46 "SandcastleLeague$Shore" "fallenSticks" "I", Cond.methodLink RX1 187 yX0_clearSticks, Cond.instanceMethod yX0_clearSticks, Cond.selects RX0 yX0_clearSticks yX0_clearSticks, Cond.code yX0_clearSticks cX0_clearSticks 1 none, Cond.methodLink RX0 30 yJ7_fill_53178, Cond.static yJ7_fill_53178, Cond.initialized RJ7, Cond.code yJ7_fill_53178 cJ7_fill_53178 4 none, Cond.methodLink RX1 190 yX1_isInArea]
def wsL_advise_r3 : List Cond := [Cond.static yX1_isInArea, Cond.code yX1_isInArea cX1_isInArea 2 (some .boolean), Cond.methodLink RX1 100 yX0_isFree, Cond.instanceMethod yX0_isFree, Cond.selects RX0 yX0_isFree yX0_isFree, Cond.code yX0_isFree cX0_isFree 2 (some .boolean), Cond.methodLink RX0 108 yX0_hasStick, Cond.instanceMethod yX0_hasStick, Cond.selects RX0 yX0_hasStick yX0_hasStick, Cond.code yX0_hasStick cX0_hasStick 2 (some .boolean), Cond.methodLink RX0 65 yX0_isWet, Cond.instanceMethod yX0_isWet, Cond.selects RX0 yX0_isWet yX0_isWet, Cond.code yX0_isWet cX0_isWet 2 (some .boolean), Cond.methodLink RX1 106 yX0_putStick, Cond.instanceMethod yX0_putStick, Cond.selects RX0 yX0_putStick yX0_putStick, Cond.code yX0_putStick cX0_putStick 3 none, Cond.methodLink RX0 69 yX0_height, Cond.instanceMethod yX0_height, Cond.selects RX0 yX0_height yX0_height, Cond.code yX0_height cX0_height 2 (some .int), Cond.methodLink RX1 159 yX1_letHoursGoBy, Cond.instanceMethod yX1_letHoursGoBy]
def wsL_advise_r4 : List Cond := [Cond.selects RX1 yX1_letHoursGoBy yX1_letHoursGoBy, Cond.code yX1_letHoursGoBy cX1_letHoursGoBy 4 none, Cond.fieldLink RX1 28 "SandcastleLeague" "tides" "[I", Cond.fieldLink RX1 131 "SandcastleLeague" "hour" "I", Cond.methodLink RX1 212 yJ9_floorMod_7cf53, Cond.static yJ9_floorMod_7cf53, Cond.initialized RJ9, Cond.code yJ9_floorMod_7cf53 cJ9_floorMod_7cf53 3 (some .int), Cond.methodLink RX1 215 yX0_letHourGoBy, Cond.instanceMethod yX0_letHourGoBy, Cond.selects RX0 yX0_letHourGoBy yX0_letHourGoBy, Cond.code yX0_letHourGoBy cX0_letHourGoBy 2 none, Cond.methodLink RX0 73 yX0_findWater, Cond.instanceMethod yX0_findWater, Cond.selects RX0 yX0_findWater yX0_findWater, Cond.code yX0_findWater cX0_findWater 4 none, Cond.methodLink RX0 86 yX0_sweepWater, Cond.instanceMethod yX0_sweepWater, Cond.selects RX0 yX0_sweepWater yX0_sweepWater, Cond.code yX0_sweepWater cX0_sweepWater 4 (some .boolean), Cond.methodLink RX0 89 yX0_isOpenToSea, Cond.instanceMethod yX0_isOpenToSea, Cond.selects RX0 yX0_isOpenToSea yX0_isOpenToSea, Cond.code yX0_isOpenToSea cX0_isOpenToSea 4 (some .boolean)]
def wsL_advise_r5 : List Cond := [Cond.methodLink RX0 92 yX0_beside, Cond.static yX0_beside, Cond.code yX0_beside cX0_beside 3 (some .int), Cond.methodLink RX0 76 yX0_washSandAway, Cond.instanceMethod yX0_washSandAway, Cond.selects RX0 yX0_washSandAway yX0_washSandAway, Cond.code yX0_washSandAway cX0_washSandAway 4 none, Cond.methodLink RX0 95 Lib.Math.max.name, Cond.static Lib.Math.max.name, Cond.initialized "java/lang/Math", Cond.code Lib.Math.max.name Lib.Math.max.code 2 (some .int), Cond.methodLink RX0 55 Lib.Math.min.name, Cond.static Lib.Math.min.name, Cond.code Lib.Math.min.name Lib.Math.min.code 2 (some .int), Cond.methodLink RX0 61 yX0_soften, Cond.instanceMethod yX0_soften, Cond.selects RX0 yX0_soften yX0_soften, Cond.code yX0_soften cX0_soften 2 none, Cond.methodLink RX0 79 yX0_letSandSlide, Cond.instanceMethod yX0_letSandSlide, Cond.selects RX0 yX0_letSandSlide yX0_letSandSlide, Cond.code yX0_letSandSlide cX0_letSandSlide 4 (some .int), Cond.methodLink RX0 98 yX0_slideOnce, Cond.instanceMethod yX0_slideOnce]
def wsL_advise_r6 : List Cond := [Cond.selects RX0 yX0_slideOnce yX0_slideOnce, Cond.code yX0_slideOnce cX0_slideOnce 4 (some .int), Cond.methodLink RX0 101 yX0_lowestBeside, Cond.instanceMethod yX0_lowestBeside, Cond.selects RX0 yX0_lowestBeside yX0_lowestBeside, Cond.code yX0_lowestBeside cX0_lowestBeside 5 (some .int), Cond.methodLink RX0 104 yX0_slidesTo, Cond.instanceMethod yX0_slidesTo, Cond.selects RX0 yX0_slidesTo yX0_slidesTo, Cond.code yX0_slidesTo cX0_slidesTo 3 (some .boolean), Cond.methodLink RX0 83 yX0_judgeSticks, Cond.instanceMethod yX0_judgeSticks, Cond.selects RX0 yX0_judgeSticks yX0_judgeSticks, Cond.code yX0_judgeSticks cX0_judgeSticks 3 none, Cond.methodLink RX1 119 yX0_pointsOf, Cond.instanceMethod yX0_pointsOf, Cond.selects RX0 yX0_pointsOf yX0_pointsOf, Cond.code yX0_pointsOf cX0_pointsOf 2 (some .int)]
def wsL_advise : List Cond := .codeWith yL_advise cL_advise 5 (some .int) [(0, 10, 13, 19), (0, 10, 17, 21)] :: ((wsL_advise_r1 ++ (wsL_advise_r2 ++ (wsL_advise_r3 ++ (wsL_advise_r4 ++ (wsL_advise_r5 ++ wsL_advise_r6))))) ++ wsX10 ++ wsX00 ++ (vx_atS RX1 58 "java/lang/IndexOutOfBoundsException" ["java/lang/RuntimeException", "java/lang/Exception"]).filter goodWord ++ (vx_atS RX1 234 "java/lang/IllegalArgumentException" ["java/lang/RuntimeException", "java/lang/Exception"]).filter goodWord)
def wsL_law0_r1 : List Cond := [Cond.classLink RL 8 RX1, Cond.instantiable RX1 9, Cond.initialized RX1, Cond.classLink RL 66 RX2, Cond.instantiable RX2 14, Cond.initialized RX2, Cond.arrayClass .long, Cond.methodLink RL 65 yX1_init, Cond.instanceMethod yX1_init, Cond.code yX1_init cX1_init 1 none, Cond.methodLink RX1 1 objectInit, Cond.instanceMethod objectInit, Cond.code objectInit ⟨#[0xb1]⟩ 1 none, Cond.classLink RX1 7 RX0, Cond.instantiable RX0 9, Cond.initialized RX0, Cond.fieldLink RX1 10 "SandcastleLeague" "shore" "LSandcastleLeague$Shore;", Cond.fieldLink RX1 16 "SandcastleLeague" "trial" "LSandcastleLeague$Shore;", Cond.fieldLink RX1 19 "SandcastleLeague" "FIRST_TIDES" "[I", Cond.methodLink RX1 23 ⟨"[I", "clone", "()Ljava/lang/Object;"⟩, Cond.sameMethod "[I" "java/lang/Object" "clone" "()Ljava/lang/Object;", Cond.native ⟨"java/lang/Object", "clone", "()Ljava/lang/Object;"⟩, Cond.instanceMethod ⟨"java/lang/Object", "clone", "()Ljava/lang/Object;"⟩, Cond.selects "[I" ⟨"[I", "clone", "()Ljava/lang/Object;"⟩ ⟨"java/lang/Object", "clone", "()Ljava/lang/Object;"⟩]
def wsL_law0_r2 : List Cond := [Cond.classLink RX1 24 "[I", Cond.fieldLink RX1 28 "SandcastleLeague" "tides" "[I", Cond.arrayClass .int, Cond.fieldLink RX1 31 "SandcastleLeague" "bucket" "[I", Cond.fieldLink RX1 34 "SandcastleLeague" "strength" "[I", Cond.fieldLink RX1 37 "SandcastleLeague" "leaguePoints" "[I", Cond.instanceMethod yX0_init, Cond.code yX0_init cX0_init 1 none, Cond.methodLink RX0 3 objectInit, Cond.fieldLink RX0 9 "SandcastleLeague$Shore" "sand" "[I", Cond.fieldLink RX0 15 "SandcastleLeague$Shore" "firmness" "[I", Cond.fieldLink RX0 18 "SandcastleLeague$Shore" "water" "[I", Cond.fieldLink RX0 21 "SandcastleLeague$Shore" "owner" "[I", Cond.fieldLink RX0 24 "SandcastleLeague$Shore" "plantedHeight" "[I", Cond.fieldLink RX0 27 "SandcastleLeague$Shore" "points" "[I", Cond.methodLink RX1 40 yX1_beginRound, Cond.instanceMethod yX1_beginRound, Cond.selects RX1 yX1_beginRound yX1_beginRound, Cond.code yX1_beginRound cX1_beginRound 1 none, Cond.methodLink RX1 209 yX0_begin, Cond.instanceMethod yX0_begin, Cond.selects RX0 yX0_begin yX0_begin, Cond.code yX0_begin cX0_begin 1 none, Cond.fieldLink RX0 39 "SandcastleLeague$Shore" "lostSand" "I"]
def wsL_law0_r3 : List Cond := [Cond.fieldLink RX0 43 "SandcastleLeague$Shore" "slides" "I", Cond.fieldLink RX0 46 "SandcastleLeague$Shore" "fallenSticks" "I", Cond.methodLink RX0 30 yJ7_fill_53178, Cond.static yJ7_fill_53178, Cond.initialized RJ7, Cond.code yJ7_fill_53178 cJ7_fill_53178 4 none, Cond.methodLink RX0 36 yX0_clearSticks, Cond.instanceMethod yX0_clearSticks, Cond.selects RX0 yX0_clearSticks yX0_clearSticks, Cond.code yX0_clearSticks cX0_clearSticks 1 none, Cond.methodLink RX1 163 yJ7_fill_53178, Cond.methodLink RL 68 yX2_init, Cond.instanceMethod yX2_init, Cond.code yX2_init cX2_init 1 none, Cond.methodLink RX2 1 objectInit, Cond.fieldLink RX2 9 "SandcastleLeagueModel" "sand" "[I", Cond.fieldLink RX2 13 "SandcastleLeagueModel" "firm" "[I", Cond.fieldLink RX2 16 "SandcastleLeagueModel" "water" "[I", Cond.fieldLink RX2 19 "SandcastleLeagueModel" "sticks" "[I", Cond.fieldLink RX2 22 "SandcastleLeagueModel" "table" "[I", Cond.fieldLink RX2 25 "SandcastleLeagueModel" "tides" "[I", Cond.fieldLink RX2 28 "SandcastleLeagueModel" "over" "[I", Cond.methodLink RX2 31 yX2_fill, Cond.static yX2_fill]
def wsL_law0_r4 : List Cond := [Cond.code yX2_fill cX2_fill 3 none, Cond.methodLink RL 69 yL_addTeam, Cond.static yL_addTeam, Cond.initialized RL, Cond.codeWith yL_addTeam cL_addTeam 3 (some .int) [(0, 8, 11, 13)], Cond.classLink RL 13 "java/lang/IllegalStateException", Cond.methodLink RL 7 yX1_addTeam, Cond.instanceMethod yX1_addTeam, Cond.selects RX1 yX1_addTeam yX1_addTeam, Cond.code yX1_addTeam cX1_addTeam 1 (some .int), Cond.classLink RX1 47 "java/lang/IllegalStateException", Cond.initialized "java/lang/IllegalStateException", Cond.fieldLink RX1 43 "SandcastleLeague" "teams" "I", Cond.methodLink RL 74 yX2_addTeam, Cond.instanceMethod yX2_addTeam, Cond.selects RX2 yX2_addTeam yX2_addTeam, Cond.code yX2_addTeam cX2_addTeam 1 (some .int), Cond.fieldLink RX2 35 "SandcastleLeagueModel" "thrown" "I", Cond.fieldLink RX2 39 "SandcastleLeagueModel" "teams" "I", Cond.methodLink RX2 46 yX2_fail, Cond.instanceMethod yX2_fail, Cond.selects RX2 yX2_fail yX2_fail, Cond.code yX2_fail cX2_fail 2 (some .int), Cond.methodLink RL 75 yX2_thrown]
def wsL_law0_r5 : List Cond := [Cond.instanceMethod yX2_thrown, Cond.selects RX2 yX2_thrown yX2_thrown, Cond.code yX2_thrown cX2_thrown 1 (some .int), Cond.methodLink RL 78 yL_setTide, Cond.static yL_setTide, Cond.codeWith yL_setTide cL_setTide 5 (some .int) [(0, 10, 13, 19), (0, 10, 17, 21)], Cond.classLink RL 19 "java/lang/IndexOutOfBoundsException", Cond.classLink RL 21 "java/lang/IllegalArgumentException", Cond.methodLink RL 15 yX1_setTide, Cond.instanceMethod yX1_setTide, Cond.selects RX1 yX1_setTide yX1_setTide, Cond.code yX1_setTide cX1_setTide 4 (some .int), Cond.classLink RX1 54 "java/lang/IndexOutOfBoundsException", Cond.initialized "java/lang/IndexOutOfBoundsException", Cond.methodLink RX1 59 yX1_requireLevel, Cond.static yX1_requireLevel, Cond.code yX1_requireLevel cX1_requireLevel 1 none, Cond.classLink RX1 230 "java/lang/IllegalArgumentException", Cond.initialized "java/lang/IllegalArgumentException", Cond.methodLink RL 81 yX2_setTide, Cond.instanceMethod yX2_setTide, Cond.selects RX2 yX2_setTide yX2_setTide, Cond.code yX2_setTide cX2_setTide 4 (some .int), Cond.methodLink RX2 42 yX2_isIn]
def wsL_law0_r6 : List Cond := [Cond.static yX2_isIn, Cond.code yX2_isIn cX2_isIn 3 (some .boolean), Cond.methodLink RL 82 yL_dig, Cond.static yL_dig, Cond.codeWith yL_dig cL_dig 7 (some .int) [(0, 14, 17, 19), (0, 14, 21, 21), (0, 14, 25, 13)], Cond.methodLink RL 23 yX1_dig, Cond.instanceMethod yX1_dig, Cond.selects RX1 yX1_dig yX1_dig, Cond.code yX1_dig cX1_dig 6 (some .int), Cond.methodLink RX1 80 Lib.Math.min.name, Cond.static Lib.Math.min.name, Cond.initialized "java/lang/Math", Cond.code Lib.Math.min.name Lib.Math.min.code 2 (some .int), Cond.methodLink RX1 63 yX1_requireTeam, Cond.instanceMethod yX1_requireTeam, Cond.selects RX1 yX1_requireTeam yX1_requireTeam, Cond.code yX1_requireTeam cX1_requireTeam 2 none, Cond.methodLink RX1 66 yX1_requireArea, Cond.static yX1_requireArea, Cond.code yX1_requireArea cX1_requireArea 3 none, Cond.methodLink RX1 223 yX1_isOnBeach, Cond.static yX1_isOnBeach, Cond.code yX1_isOnBeach cX1_isOnBeach 2 (some .boolean), Cond.methodLink RX1 76 yX1_cellAt]
def wsL_law0_r7 : List Cond := [Cond.static yX1_cellAt, Cond.code yX1_cellAt cX1_cellAt 2 (some .int), Cond.methodLink RX1 190 yX1_isInArea, Cond.static yX1_isInArea, Cond.code yX1_isInArea cX1_isInArea 2 (some .boolean), Cond.methodLink RX1 70 yX1_requireAmount, Cond.static yX1_requireAmount, Cond.code yX1_requireAmount cX1_requireAmount 1 none, Cond.methodLink RX1 73 yX1_requireStrength, Cond.instanceMethod yX1_requireStrength, Cond.selects RX1 yX1_requireStrength yX1_requireStrength, Cond.code yX1_requireStrength cX1_requireStrength 2 none, Cond.methodLink RX1 85 yX0_takeSand, Cond.instanceMethod yX0_takeSand, Cond.selects RX0 yX0_takeSand yX0_takeSand, Cond.code yX0_takeSand cX0_takeSand 4 (some .int), Cond.methodLink RX0 55 Lib.Math.min.name, Cond.methodLink RL 85 yX2_dig, Cond.instanceMethod yX2_dig, Cond.selects RX2 yX2_dig yX2_dig, Cond.code yX2_dig cX2_dig 7 (some .int), Cond.methodLink RX2 62 Lib.Math.min.name, Cond.methodLink RX2 58 yX2_deed, Cond.instanceMethod yX2_deed]
def wsL_law0_r8 : List Cond := [Cond.selects RX2 yX2_deed yX2_deed, Cond.code yX2_deed cX2_deed 5 (some .int), Cond.methodLink RX2 50 yX2_isTeam, Cond.instanceMethod yX2_isTeam, Cond.selects RX2 yX2_isTeam yX2_isTeam, Cond.code yX2_isTeam cX2_isTeam 2 (some .boolean), Cond.methodLink RX2 54 yX2_get, Cond.instanceMethod yX2_get, Cond.selects RX2 yX2_get yX2_get, Cond.code yX2_get cX2_get 3 (some .int), Cond.methodLink RX2 67 yX2_add, Cond.instanceMethod yX2_add, Cond.selects RX2 yX2_add yX2_add, Cond.code yX2_add cX2_add 4 none, Cond.methodLink RL 86 yL_pile, Cond.static yL_pile, Cond.codeWith yL_pile cL_pile 7 (some .int) [(0, 14, 17, 19), (0, 14, 21, 21), (0, 14, 25, 13)], Cond.methodLink RL 27 yX1_pile, Cond.instanceMethod yX1_pile, Cond.selects RX1 yX1_pile yX1_pile, Cond.code yX1_pile cX1_pile 6 (some .int), Cond.methodLink RX1 88 yX0_putSand, Cond.instanceMethod yX0_putSand, Cond.selects RX0 yX0_putSand yX0_putSand]
def wsL_law0_r9 : List Cond := [Cond.code yX0_putSand cX0_putSand 4 (some .int), Cond.methodLink RX0 61 yX0_soften, Cond.instanceMethod yX0_soften, Cond.selects RX0 yX0_soften yX0_soften, Cond.code yX0_soften cX0_soften 2 none, Cond.methodLink RL 88 yX2_pile, Cond.instanceMethod yX2_pile, Cond.selects RX2 yX2_pile yX2_pile, Cond.code yX2_pile cX2_pile 7 (some .int), Cond.methodLink RX2 71 Lib.Math.max.name, Cond.static Lib.Math.max.name, Cond.code Lib.Math.max.name Lib.Math.max.code 2 (some .int), Cond.methodLink RL 89 yL_pack, Cond.static yL_pack, Cond.codeWith yL_pack cL_pack 6 (some .int) [(0, 12, 15, 19), (0, 12, 19, 21), (0, 12, 23, 13)], Cond.methodLink RL 30 yX1_pack, Cond.instanceMethod yX1_pack, Cond.selects RX1 yX1_pack yX1_pack, Cond.code yX1_pack cX1_pack 4 (some .int), Cond.methodLink RX1 91 yX0_harden, Cond.instanceMethod yX0_harden, Cond.selects RX0 yX0_harden yX0_harden, Cond.code yX0_harden cX0_harden 2 (some .int), Cond.methodLink RX0 65 yX0_isWet]
def wsL_law0_r10 : List Cond := [Cond.instanceMethod yX0_isWet, Cond.selects RX0 yX0_isWet yX0_isWet, Cond.code yX0_isWet cX0_isWet 2 (some .boolean), Cond.methodLink RL 92 yX2_pack, Cond.instanceMethod yX2_pack, Cond.selects RX2 yX2_pack yX2_pack, Cond.code yX2_pack cX2_pack 5 (some .int), Cond.methodLink RL 93 yL_plant, Cond.static yL_plant, Cond.codeWith yL_plant cL_plant 6 (some .int) [(0, 12, 15, 19), (0, 12, 19, 21), (0, 12, 23, 13)], Cond.methodLink RL 34 yX1_plant, Cond.instanceMethod yX1_plant, Cond.selects RX1 yX1_plant yX1_plant, Cond.code yX1_plant cX1_plant 4 (some .int), Cond.methodLink RX1 95 yX0_sticksOf, Cond.instanceMethod yX0_sticksOf, Cond.selects RX0 yX0_sticksOf yX0_sticksOf, Cond.code yX0_sticksOf cX0_sticksOf 4 (some .int), Cond.methodLink RX1 100 yX0_isFree, Cond.instanceMethod yX0_isFree, Cond.selects RX0 yX0_isFree yX0_isFree, Cond.code yX0_isFree cX0_isFree 2 (some .boolean), Cond.methodLink RX0 108 yX0_hasStick, Cond.instanceMethod yX0_hasStick]
def wsL_law0_r11 : List Cond := [Cond.selects RX0 yX0_hasStick yX0_hasStick, Cond.code yX0_hasStick cX0_hasStick 2 (some .boolean), Cond.methodLink RX1 106 yX0_putStick, Cond.instanceMethod yX0_putStick, Cond.selects RX0 yX0_putStick yX0_putStick, Cond.code yX0_putStick cX0_putStick 3 none, Cond.methodLink RX0 69 yX0_height, Cond.instanceMethod yX0_height, Cond.selects RX0 yX0_height yX0_height, Cond.code yX0_height cX0_height 2 (some .int), Cond.methodLink RL 95 yX2_plant, Cond.instanceMethod yX2_plant, Cond.selects RX2 yX2_plant yX2_plant, Cond.code yX2_plant cX2_plant 5 (some .int), Cond.methodLink RX2 77 yX2_sticksOf, Cond.instanceMethod yX2_sticksOf, Cond.selects RX2 yX2_sticksOf yX2_sticksOf, Cond.code yX2_sticksOf cX2_sticksOf 4 (some .int), Cond.methodLink RX2 74 yX2_teamOf, Cond.static yX2_teamOf, Cond.code yX2_teamOf cX2_teamOf 1 (some .int), Cond.methodLink RX2 80 yX2_height, Cond.instanceMethod yX2_height, Cond.selects RX2 yX2_height yX2_height]
def wsL_law0_r12 : List Cond := [Cond.code yX2_height cX2_height 2 (some .int), Cond.methodLink RL 96 yL_cell, Cond.static yL_cell, Cond.codeWith yL_cell cL_cell 6 (some .int) [(0, 12, 15, 19)], Cond.methodLink RL 37 yX1_cell, Cond.instanceMethod yX1_cell, Cond.selects RX1 yX1_cell yX1_cell, Cond.code yX1_cell cX1_cell 4 (some .int), Cond.methodLink RX1 110 yX1_requireCell, Cond.static yX1_requireCell, Cond.code yX1_requireCell cX1_requireCell 2 none, Cond.methodLink RX1 113 yX1_requireWhat, Cond.static yX1_requireWhat, Cond.code yX1_requireWhat cX1_requireWhat 2 none, Cond.methodLink RX1 116 yX0_tellCell, Cond.instanceMethod yX0_tellCell, Cond.selects RX0 yX0_tellCell yX0_tellCell, Cond.code yX0_tellCell cX0_tellCell 3 (some .int), Cond.methodLink RL 98 yX2_cell, Cond.instanceMethod yX2_cell, Cond.selects RX2 yX2_cell yX2_cell, Cond.code yX2_cell cX2_cell 4 (some .int), Cond.methodLink RX2 83 yX2_cellTold, Cond.instanceMethod yX2_cellTold]
def wsL_law0_r13 : List Cond := [Cond.selects RX2 yX2_cellTold yX2_cellTold, Cond.code yX2_cellTold cX2_cellTold 3 (some .int), Cond.methodLink RL 99 yL_team, Cond.static yL_team, Cond.codeWith yL_team cL_team 5 (some .int) [(0, 10, 13, 19)], Cond.methodLink RL 40 yX1_team, Cond.instanceMethod yX1_team, Cond.selects RX1 yX1_team yX1_team, Cond.code yX1_team cX1_team 3 (some .int), Cond.methodLink RX1 119 yX0_pointsOf, Cond.instanceMethod yX0_pointsOf, Cond.selects RX0 yX0_pointsOf yX0_pointsOf, Cond.code yX0_pointsOf cX0_pointsOf 2 (some .int), Cond.methodLink RX1 122 yX0_sandOfArea, Cond.instanceMethod yX0_sandOfArea, Cond.selects RX0 yX0_sandOfArea yX0_sandOfArea, Cond.code yX0_sandOfArea cX0_sandOfArea 2 (some .int), Cond.methodLink RX0 111 yX0_sumOfArea, Cond.static yX0_sumOfArea, Cond.code yX0_sumOfArea cX0_sumOfArea 4 (some .int), Cond.methodLink RX1 125 yX0_greatestHeightOfArea, Cond.instanceMethod yX0_greatestHeightOfArea, Cond.selects RX0 yX0_greatestHeightOfArea yX0_greatestHeightOfArea, Cond.code yX0_greatestHeightOfArea cX0_greatestHeightOfArea 4 (some .int)]
def wsL_law0_r14 : List Cond := [Cond.methodLink RX0 95 Lib.Math.max.name, Cond.methodLink RX1 128 yX0_waterOfArea, Cond.instanceMethod yX0_waterOfArea, Cond.selects RX0 yX0_waterOfArea yX0_waterOfArea, Cond.code yX0_waterOfArea cX0_waterOfArea 2 (some .int), Cond.methodLink RL 101 yX2_team, Cond.instanceMethod yX2_team, Cond.selects RX2 yX2_team yX2_team, Cond.code yX2_team cX2_team 3 (some .int), Cond.methodLink RX2 89 yX2_teamTold, Cond.instanceMethod yX2_teamTold, Cond.selects RX2 yX2_teamTold yX2_teamTold, Cond.code yX2_teamTold cX2_teamTold 3 (some .int), Cond.methodLink RX2 86 yX2_areaOf, Cond.instanceMethod yX2_areaOf, Cond.selects RX2 yX2_areaOf yX2_areaOf, Cond.code yX2_areaOf cX2_areaOf 5 (some .int), Cond.methodLink RL 102 yL_count, Cond.static yL_count, Cond.codeWith yL_count cL_count 4 (some .int) [(0, 9, 12, 19)], Cond.methodLink RL 43 yX1_count, Cond.instanceMethod yX1_count, Cond.selects RX1 yX1_count yX1_count, Cond.code yX1_count cX1_count 2 (some .int)]
def wsL_law0_r15 : List Cond := [Cond.fieldLink RX1 131 "SandcastleLeague" "hour" "I", Cond.fieldLink RX1 153 "SandcastleLeague" "endedRounds" "I", Cond.methodLink RX1 134 yX0_allWater, Cond.instanceMethod yX0_allWater, Cond.selects RX0 yX0_allWater yX0_allWater, Cond.code yX0_allWater cX0_allWater 1 (some .int), Cond.methodLink RX0 118 yX0_sum, Cond.static yX0_sum, Cond.code yX0_sum cX0_sum 6 (some .int), Cond.methodLink RX1 138 yX0_allSand, Cond.instanceMethod yX0_allSand, Cond.selects RX0 yX0_allSand yX0_allSand, Cond.code yX0_allSand cX0_allSand 1 (some .int), Cond.methodLink RX1 147 yX0_allSticks, Cond.instanceMethod yX0_allSticks, Cond.selects RX0 yX0_allSticks yX0_allSticks, Cond.code yX0_allSticks cX0_allSticks 3 (some .int), Cond.methodLink RL 105 yX2_count, Cond.instanceMethod yX2_count, Cond.selects RX2 yX2_count yX2_count, Cond.code yX2_count cX2_count 2 (some .int), Cond.methodLink RX2 107 yX2_counted, Cond.instanceMethod yX2_counted, Cond.selects RX2 yX2_counted yX2_counted]
def wsL_law0_r16 : List Cond := [Cond.code yX2_counted cX2_counted 2 (some .int), Cond.fieldLink RX2 92 "SandcastleLeagueModel" "hour" "I", Cond.fieldLink RX2 95 "SandcastleLeagueModel" "lost" "I", Cond.fieldLink RX2 98 "SandcastleLeagueModel" "slides" "I", Cond.fieldLink RX2 101 "SandcastleLeagueModel" "fallen" "I", Cond.fieldLink RX2 104 "SandcastleLeagueModel" "ended" "I", Cond.methodLink RL 106 yL_pass, Cond.static yL_pass, Cond.codeWith yL_pass cL_pass 4 (some .int) [(0, 9, 12, 21)], Cond.methodLink RL 47 yX1_pass, Cond.instanceMethod yX1_pass, Cond.selects RX1 yX1_pass yX1_pass, Cond.code yX1_pass cX1_pass 3 (some .int), Cond.methodLink RX1 156 yX1_requireHours, Cond.static yX1_requireHours, Cond.code yX1_requireHours cX1_requireHours 2 none, Cond.methodLink RX1 159 yX1_letHoursGoBy, Cond.instanceMethod yX1_letHoursGoBy, Cond.selects RX1 yX1_letHoursGoBy yX1_letHoursGoBy, Cond.code yX1_letHoursGoBy cX1_letHoursGoBy 4 none, Cond.methodLink RX1 212 yJ9_floorMod_7cf53, Cond.static yJ9_floorMod_7cf53, Cond.initialized RJ9, Cond.code yJ9_floorMod_7cf53 cJ9_floorMod_7cf53 3 (some .int)]
def wsL_law0_r17 : List Cond := [Cond.methodLink RX1 215 yX0_letHourGoBy, Cond.instanceMethod yX0_letHourGoBy, Cond.selects RX0 yX0_letHourGoBy yX0_letHourGoBy, Cond.code yX0_letHourGoBy cX0_letHourGoBy 2 none, Cond.methodLink RX0 73 yX0_findWater, Cond.instanceMethod yX0_findWater, Cond.selects RX0 yX0_findWater yX0_findWater, Cond.code yX0_findWater cX0_findWater 4 none, Cond.methodLink RX0 86 yX0_sweepWater, Cond.instanceMethod yX0_sweepWater, Cond.selects RX0 yX0_sweepWater yX0_sweepWater, Cond.code yX0_sweepWater cX0_sweepWater 4 (some .boolean), Cond.methodLink RX0 89 yX0_isOpenToSea, Cond.instanceMethod yX0_isOpenToSea, Cond.selects RX0 yX0_isOpenToSea yX0_isOpenToSea, Cond.code yX0_isOpenToSea cX0_isOpenToSea 4 (some .boolean), Cond.methodLink RX0 92 yX0_beside, Cond.static yX0_beside, Cond.code yX0_beside cX0_beside 3 (some .int), Cond.methodLink RX0 76 yX0_washSandAway, Cond.instanceMethod yX0_washSandAway, Cond.selects RX0 yX0_washSandAway yX0_washSandAway, Cond.code yX0_washSandAway cX0_washSandAway 4 none, Cond.methodLink RX0 79 yX0_letSandSlide]
def wsL_law0_r18 : List Cond := [Cond.instanceMethod yX0_letSandSlide, Cond.selects RX0 yX0_letSandSlide yX0_letSandSlide, Cond.code yX0_letSandSlide cX0_letSandSlide 4 (some .int), Cond.methodLink RX0 98 yX0_slideOnce, Cond.instanceMethod yX0_slideOnce, Cond.selects RX0 yX0_slideOnce yX0_slideOnce, Cond.code yX0_slideOnce cX0_slideOnce 4 (some .int), Cond.methodLink RX0 101 yX0_lowestBeside, Cond.instanceMethod yX0_lowestBeside, Cond.selects RX0 yX0_lowestBeside yX0_lowestBeside, Cond.code yX0_lowestBeside cX0_lowestBeside 5 (some .int), Cond.methodLink RX0 104 yX0_slidesTo, Cond.instanceMethod yX0_slidesTo, Cond.selects RX0 yX0_slidesTo yX0_slidesTo, Cond.code yX0_slidesTo cX0_slidesTo 3 (some .boolean), Cond.methodLink RX0 83 yX0_judgeSticks, Cond.instanceMethod yX0_judgeSticks, Cond.selects RX0 yX0_judgeSticks yX0_judgeSticks, Cond.code yX0_judgeSticks cX0_judgeSticks 3 none, Cond.methodLink RL 108 yX2_pass, Cond.instanceMethod yX2_pass, Cond.selects RX2 yX2_pass yX2_pass, Cond.code yX2_pass cX2_pass 4 (some .int), Cond.methodLink RX2 126 yX2_hourOn]
def wsL_law0_r19 : List Cond := [Cond.instanceMethod yX2_hourOn, Cond.selects RX2 yX2_hourOn yX2_hourOn, Cond.code yX2_hourOn cX2_hourOn 4 none, Cond.methodLink RX2 113 yX2_findOver, Cond.instanceMethod yX2_findOver, Cond.selects RX2 yX2_findOver yX2_findOver, Cond.code yX2_findOver cX2_findOver 5 none, Cond.methodLink RX2 110 yX2_beside, Cond.static yX2_beside, Cond.code yX2_beside cX2_beside 2 (some .int), Cond.methodLink RX2 116 yX2_slideAll, Cond.instanceMethod yX2_slideAll, Cond.selects RX2 yX2_slideAll yX2_slideAll, Cond.code yX2_slideAll cX2_slideAll 7 none, Cond.methodLink RX2 119 yX2_falls, Cond.instanceMethod yX2_falls, Cond.selects RX2 yX2_falls yX2_falls, Cond.code yX2_falls cX2_falls 3 (some .boolean), Cond.methodLink RX2 123 yX2_brings, Cond.instanceMethod yX2_brings, Cond.selects RX2 yX2_brings yX2_brings, Cond.code yX2_brings cX2_brings 2 (some .int), Cond.methodLink RL 109 yX1_endRound, Cond.instanceMethod yX1_endRound]
def wsL_law0_r20 : List Cond := [Cond.selects RX1 yX1_endRound yX1_endRound, Cond.code yX1_endRound cX1_endRound 2 (some .int), Cond.methodLink RX1 169 yX1_teamsWithFewerPoints, Cond.instanceMethod yX1_teamsWithFewerPoints, Cond.selects RX1 yX1_teamsWithFewerPoints yX1_teamsWithFewerPoints, Cond.code yX1_teamsWithFewerPoints cX1_teamsWithFewerPoints 4 (some .int), Cond.methodLink RL 112 yX2_endRound, Cond.instanceMethod yX2_endRound, Cond.selects RX2 yX2_endRound yX2_endRound, Cond.code yX2_endRound cX2_endRound 3 (some .int), Cond.methodLink RX2 129 arraycopyName, Cond.native arraycopyName, Cond.static arraycopyName, Cond.initialized "java/lang/System", Cond.methodLink RL 113 yL_leader, Cond.static yL_leader, Cond.codeWith yL_leader cL_leader 4 (some .int) [(0, 9, 12, 19)], Cond.methodLink RL 50 yX1_leader, Cond.instanceMethod yX1_leader, Cond.selects RX1 yX1_leader yX1_leader, Cond.code yX1_leader cX1_leader 4 (some .int), Cond.methodLink RX1 174 yX1_teamsAheadOf, Cond.instanceMethod yX1_teamsAheadOf, Cond.selects RX1 yX1_teamsAheadOf yX1_teamsAheadOf]
def wsL_law0_r21 : List Cond := [Cond.code yX1_teamsAheadOf cX1_teamsAheadOf 4 (some .int), Cond.methodLink RX1 218 yX1_isAhead, Cond.instanceMethod yX1_isAhead, Cond.selects RX1 yX1_isAhead yX1_isAhead, Cond.code yX1_isAhead cX1_isAhead 3 (some .boolean), Cond.methodLink RL 115 yX2_leader, Cond.instanceMethod yX2_leader, Cond.selects RX2 yX2_leader yX2_leader, Cond.code yX2_leader cX2_leader 5 (some .int), Cond.methodLink RX2 135 yX2_isAhead, Cond.instanceMethod yX2_isAhead, Cond.selects RX2 yX2_isAhead yX2_isAhead, Cond.code yX2_isAhead cX2_isAhead 3 (some .boolean), Cond.methodLink RL 116 yL_flood, Cond.static yL_flood, Cond.codeWith yL_flood cL_flood 4 (some .int) [(0, 9, 12, 21)], Cond.methodLink RL 53 yX1_flood, Cond.instanceMethod yX1_flood, Cond.selects RX1 yX1_flood yX1_flood, Cond.code yX1_flood cX1_flood 2 (some .int), Cond.methodLink RX1 177 yX0_become, Cond.instanceMethod yX0_become, Cond.selects RX0 yX0_become yX0_become, Cond.code yX0_become cX0_become 2 none]
def wsL_law0_r22 : List Cond := [Cond.methodLink RX0 49 arraycopyName, Cond.methodLink RX1 181 yX0_findWater, Cond.methodLink RL 118 yX2_flood, Cond.instanceMethod yX2_flood, Cond.selects RX2 yX2_flood yX2_flood, Cond.code yX2_flood cX2_flood 4 (some .int), Cond.methodLink RL 119 yL_reach, Cond.static yL_reach, Cond.codeWith yL_reach cL_reach 5 (some .int) [(0, 10, 13, 19)], Cond.methodLink RL 56 yX1_reach, Cond.instanceMethod yX1_reach, Cond.selects RX1 yX1_reach yX1_reach, Cond.code yX1_reach cX1_reach 5 (some .int), Cond.methodLink RX1 184 yX0_isWet, Cond.methodLink RL 121 yX2_reach, Cond.instanceMethod yX2_reach, Cond.selects RX2 yX2_reach yX2_reach, Cond.code yX2_reach cX2_reach 3 (some .int), Cond.methodLink RL 122 yL_foresee, Cond.static yL_foresee, Cond.codeWith yL_foresee cL_foresee 6 (some .int) [(0, 12, 15, 21), (0, 12, 19, 19)], Cond.methodLink RL 59 yX1_foresee, Cond.instanceMethod yX1_foresee, Cond.selects RX1 yX1_foresee yX1_foresee]
def wsL_law0_r23 : List Cond := [Cond.code yX1_foresee cX1_foresee 4 (some .int), Cond.methodLink RL 124 yX2_foresee, Cond.instanceMethod yX2_foresee, Cond.selects RX2 yX2_foresee yX2_foresee, Cond.code yX2_foresee cX2_foresee 7 (some .int), Cond.methodLink RX2 143 yX2_kept, Cond.instanceMethod yX2_kept, Cond.selects RX2 yX2_kept yX2_kept, Cond.code yX2_kept cX2_kept 1 (some (.array (.array .int))), Cond.classLink RX2 138 "[I", Cond.methodLink RX2 139 ⟨"[I", "clone", "()Ljava/lang/Object;"⟩, Cond.methodLink RX2 147 yX2_bringBack, Cond.instanceMethod yX2_bringBack, Cond.selects RX2 yX2_bringBack yX2_bringBack, Cond.code yX2_bringBack cX2_bringBack 2 none, Cond.methodLink RL 125 yL_advise, Cond.static yL_advise, Cond.codeWith yL_advise cL_advise 5 (some .int) [(0, 10, 13, 19), (0, 10, 17, 21)], Cond.methodLink RL 62 yX1_advise, Cond.instanceMethod yX1_advise, Cond.selects RX1 yX1_advise yX1_advise, Cond.code yX1_advise cX1_advise 6 (some .int), Cond.methodLink RX1 187 yX0_clearSticks, Cond.methodLink RL 127 yX2_advise]
def wsL_law0_r24 : List Cond := [Cond.instanceMethod yX2_advise, Cond.selects RX2 yX2_advise yX2_advise, Cond.code yX2_advise cX2_advise 9 (some .int), Cond.arrayClass .boolean, Cond.methodLink RL 128 yX1_mean, Cond.instanceMethod yX1_mean, Cond.selects RX1 yX1_mean yX1_mean, Cond.code yX1_mean cX1_mean 1 (some .double), Cond.constantDouble RX1 197 (4638144666238189568), Cond.methodLink RX1 194 yX0_allHeights, Cond.instanceMethod yX0_allHeights, Cond.selects RX0 yX0_allHeights yX0_allHeights, Cond.code yX0_allHeights cX0_allHeights 3 (some .int), Cond.methodLink RL 132 yX2_mean, Cond.instanceMethod yX2_mean, Cond.selects RX2 yX2_mean yX2_mean, Cond.code yX2_mean cX2_mean 3 (some .double), Cond.constantDouble RX2 151 (4638144666238189568), Cond.methodLink RL 133 yX1_digest, Cond.instanceMethod yX1_digest, Cond.selects RX1 yX1_digest yX1_digest, Cond.code yX1_digest cX1_digest 5 (some .long), Cond.constantLong RX1 199 (503), Cond.constantLong RX1 201 (31)]
def wsL_law0_r25 : List Cond := [Cond.methodLink RX1 203 yX1_count, Cond.methodLink RX1 206 yX1_team, Cond.methodLink RL 137 yX2_digest, Cond.instanceMethod yX2_digest, Cond.selects RX2 yX2_digest yX2_digest, Cond.code yX2_digest cX2_digest 5 (some .long), Cond.constantLong RX2 153 (503), Cond.constantLong RX2 155 (31)]
def wsL_law0 : List Cond := (wsL_law0_r1 ++ (wsL_law0_r2 ++ (wsL_law0_r3 ++ (wsL_law0_r4 ++ (wsL_law0_r5 ++ (wsL_law0_r6 ++ (wsL_law0_r7 ++ (wsL_law0_r8 ++ (wsL_law0_r9 ++ (wsL_law0_r10 ++ (wsL_law0_r11 ++ (wsL_law0_r12 ++ (wsL_law0_r13 ++ (wsL_law0_r14 ++ (wsL_law0_r15 ++ (wsL_law0_r16 ++ (wsL_law0_r17 ++ (wsL_law0_r18 ++ (wsL_law0_r19 ++ (wsL_law0_r20 ++ (wsL_law0_r21 ++ (wsL_law0_r22 ++ (wsL_law0_r23 ++ (wsL_law0_r24 ++ wsL_law0_r25)))))))))))))))))))))))) ++ wsX10 ++ wsX20 ++ wsX00 ++ ([] : List Cond)
def wsL_law : List Cond := wsL_law0 ++ (vx_atS RX1 51 "java/lang/IllegalStateException" ["java/lang/RuntimeException", "java/lang/Exception"]).filter goodWord ++ (vx_atS RX1 58 "java/lang/IndexOutOfBoundsException" ["java/lang/RuntimeException", "java/lang/Exception"]).filter goodWord ++ (vx_atS RX1 234 "java/lang/IllegalArgumentException" ["java/lang/RuntimeException", "java/lang/Exception"]).filter goodWord
theorem inJx145de : ∀ w ∈ wsJx145de0, w ∈ lw_tbl := by decide +kernel
theorem inJx8e188 : ∀ w ∈ wsJx8e1880, w ∈ lw_tbl := by decide +kernel
theorem inJ9 : ∀ w ∈ wsJ90, w ∈ lw_tbl := by decide +kernel
theorem inJ0 : ∀ w ∈ wsJ00, w ∈ lw_tbl := by decide +kernel
theorem inJ10 : ∀ w ∈ wsJ100, w ∈ lw_tbl := by decide +kernel
theorem inJ7 : ∀ w ∈ wsJ70, w ∈ lw_tbl := by decide +kernel
theorem dX0_init_0 : decode cX0_init 0 = .ok (.aload_n 0, 1) := by decide +kernel
theorem dX0_init_1 : decode cX0_init 1 = .ok (.invokespecial 3, 3) := by decide +kernel
theorem dX0_init_4 : decode cX0_init 4 = .ok (.aload_n 0, 1) := by decide +kernel
theorem dX0_init_5 : decode cX0_init 5 = .ok (.bipush 120, 2) := by decide +kernel
theorem dX0_init_7 : decode cX0_init 7 = .ok (.newarray .int, 2) := by decide +kernel
theorem dX0_init_9 : decode cX0_init 9 = .ok (.putfield 9, 3) := by decide +kernel
theorem dX0_init_12 : decode cX0_init 12 = .ok (.aload_n 0, 1) := by decide +kernel
theorem dX0_init_13 : decode cX0_init 13 = .ok (.bipush 120, 2) := by decide +kernel
theorem dX0_init_15 : decode cX0_init 15 = .ok (.newarray .int, 2) := by decide +kernel
theorem dX0_init_17 : decode cX0_init 17 = .ok (.putfield 15, 3) := by decide +kernel
theorem dX0_init_20 : decode cX0_init 20 = .ok (.aload_n 0, 1) := by decide +kernel
theorem dX0_init_21 : decode cX0_init 21 = .ok (.bipush 120, 2) := by decide +kernel
theorem dX0_init_23 : decode cX0_init 23 = .ok (.newarray .int, 2) := by decide +kernel
theorem dX0_init_25 : decode cX0_init 25 = .ok (.putfield 18, 3) := by decide +kernel
theorem dX0_init_28 : decode cX0_init 28 = .ok (.aload_n 0, 1) := by decide +kernel
theorem dX0_init_29 : decode cX0_init 29 = .ok (.bipush 120, 2) := by decide +kernel
theorem dX0_init_31 : decode cX0_init 31 = .ok (.newarray .int, 2) := by decide +kernel
theorem dX0_init_33 : decode cX0_init 33 = .ok (.putfield 21, 3) := by decide +kernel
theorem dX0_init_36 : decode cX0_init 36 = .ok (.aload_n 0, 1) := by decide +kernel
theorem dX0_init_37 : decode cX0_init 37 = .ok (.bipush 120, 2) := by decide +kernel
theorem dX0_init_39 : decode cX0_init 39 = .ok (.newarray .int, 2) := by decide +kernel
theorem dX0_init_41 : decode cX0_init 41 = .ok (.putfield 24, 3) := by decide +kernel
theorem dX0_init_44 : decode cX0_init 44 = .ok (.aload_n 0, 1) := by decide +kernel
theorem dX0_init_45 : decode cX0_init 45 = .ok (.bipush 120, 2) := by decide +kernel
theorem dX0_init_47 : decode cX0_init 47 = .ok (.newarray .int, 2) := by decide +kernel
theorem dX0_init_49 : decode cX0_init 49 = .ok (.putfield 27, 3) := by decide +kernel
theorem dX0_init_52 : decode cX0_init 52 = .ok (.return_, 1) := by decide +kernel
set_option maxRecDepth 20000 in
theorem ggX0_begin_J7_fill_53178 : GoodIn wsX0_begin wsJ7_fill_53178 := goodIn_r _ [10] (by decide +kernel) (by decide +kernel)
set_option maxRecDepth 20000 in
theorem gX0_begin_J7_fill_53178 : GoodIn wsX0_begin (va_wsS RX0 30 yJ7_fill_53178 wsJ7_fill_53178) := goodIn_app (goodIn_of _ (by decide +kernel)) ggX0_begin_J7_fill_53178
set_option maxRecDepth 20000 in
theorem ggX0_begin_X0_clearSticks : GoodIn wsX0_begin wsX0_clearSticks := goodIn_r _ [15, 16, 17, 18, 7, 8, 9, 10, 19, 20, 21, 22, 23, 24, 25, 26, 27] (by decide +kernel) (by decide +kernel)
set_option maxRecDepth 20000 in
theorem gX0_begin_X0_clearSticks : GoodIn wsX0_begin (wsV RX0 36 RX0 yX0_clearSticks wsX0_clearSticks) := goodIn_app (goodIn_of _ (by decide +kernel)) ggX0_begin_X0_clearSticks
theorem dX0_begin_0 : decode cX0_begin 0 = .ok (.aload_n 0, 1) := by decide +kernel
theorem dX0_begin_1 : decode cX0_begin 1 = .ok (.getfield 9, 3) := by decide +kernel
theorem dX0_begin_4 : decode cX0_begin 4 = .ok (.iconst 4, 1) := by decide +kernel
theorem dX0_begin_5 : decode cX0_begin 5 = .ok (.invokestatic 30, 3) := by decide +kernel
theorem dX0_begin_8 : decode cX0_begin 8 = .ok (.aload_n 0, 1) := by decide +kernel
theorem dX0_begin_9 : decode cX0_begin 9 = .ok (.getfield 15, 3) := by decide +kernel
theorem dX0_begin_12 : decode cX0_begin 12 = .ok (.iconst 0, 1) := by decide +kernel
theorem dX0_begin_13 : decode cX0_begin 13 = .ok (.invokestatic 30, 3) := by decide +kernel
theorem dX0_begin_16 : decode cX0_begin 16 = .ok (.aload_n 0, 1) := by decide +kernel
theorem dX0_begin_17 : decode cX0_begin 17 = .ok (.getfield 18, 3) := by decide +kernel
theorem dX0_begin_20 : decode cX0_begin 20 = .ok (.iconst 0, 1) := by decide +kernel
theorem dX0_begin_21 : decode cX0_begin 21 = .ok (.invokestatic 30, 3) := by decide +kernel
theorem dX0_begin_24 : decode cX0_begin 24 = .ok (.aload_n 0, 1) := by decide +kernel
theorem dX0_begin_25 : decode cX0_begin 25 = .ok (.invokevirtual 36, 3) := by decide +kernel
theorem dX0_begin_28 : decode cX0_begin 28 = .ok (.aload_n 0, 1) := by decide +kernel
theorem dX0_begin_29 : decode cX0_begin 29 = .ok (.iconst 0, 1) := by decide +kernel
theorem dX0_begin_30 : decode cX0_begin 30 = .ok (.putfield 39, 3) := by decide +kernel
theorem dX0_begin_33 : decode cX0_begin 33 = .ok (.aload_n 0, 1) := by decide +kernel
theorem dX0_begin_34 : decode cX0_begin 34 = .ok (.iconst 0, 1) := by decide +kernel
theorem dX0_begin_35 : decode cX0_begin 35 = .ok (.putfield 43, 3) := by decide +kernel
theorem dX0_begin_38 : decode cX0_begin 38 = .ok (.aload_n 0, 1) := by decide +kernel
theorem dX0_begin_39 : decode cX0_begin 39 = .ok (.iconst 0, 1) := by decide +kernel
theorem dX0_begin_40 : decode cX0_begin 40 = .ok (.putfield 46, 3) := by decide +kernel
theorem dX0_begin_43 : decode cX0_begin 43 = .ok (.return_, 1) := by decide +kernel
set_option maxRecDepth 20000 in
theorem ggX0_clearSticks_J7_fill_53178 : GoodIn wsX0_clearSticks wsJ7_fill_53178 := goodIn_r _ [7] (by decide +kernel) (by decide +kernel)
set_option maxRecDepth 20000 in
theorem gX0_clearSticks_J7_fill_53178 : GoodIn wsX0_clearSticks (va_wsS RX0 30 yJ7_fill_53178 wsJ7_fill_53178) := goodIn_app (goodIn_of _ (by decide +kernel)) ggX0_clearSticks_J7_fill_53178
theorem dX0_clearSticks_0 : decode cX0_clearSticks 0 = .ok (.aload_n 0, 1) := by decide +kernel
theorem dX0_clearSticks_1 : decode cX0_clearSticks 1 = .ok (.getfield 21, 3) := by decide +kernel
theorem dX0_clearSticks_4 : decode cX0_clearSticks 4 = .ok (.iconst (-1), 1) := by decide +kernel
theorem dX0_clearSticks_5 : decode cX0_clearSticks 5 = .ok (.invokestatic 30, 3) := by decide +kernel
theorem dX0_clearSticks_8 : decode cX0_clearSticks 8 = .ok (.aload_n 0, 1) := by decide +kernel
theorem dX0_clearSticks_9 : decode cX0_clearSticks 9 = .ok (.getfield 24, 3) := by decide +kernel
theorem dX0_clearSticks_12 : decode cX0_clearSticks 12 = .ok (.iconst 0, 1) := by decide +kernel
theorem dX0_clearSticks_13 : decode cX0_clearSticks 13 = .ok (.invokestatic 30, 3) := by decide +kernel
theorem dX0_clearSticks_16 : decode cX0_clearSticks 16 = .ok (.aload_n 0, 1) := by decide +kernel
theorem dX0_clearSticks_17 : decode cX0_clearSticks 17 = .ok (.getfield 27, 3) := by decide +kernel
theorem dX0_clearSticks_20 : decode cX0_clearSticks 20 = .ok (.iconst 0, 1) := by decide +kernel
theorem dX0_clearSticks_21 : decode cX0_clearSticks 21 = .ok (.invokestatic 30, 3) := by decide +kernel
theorem dX0_clearSticks_24 : decode cX0_clearSticks 24 = .ok (.return_, 1) := by decide +kernel
theorem dX0_become_0 : decode cX0_become 0 = .ok (.aload_n 1, 1) := by decide +kernel
theorem dX0_become_1 : decode cX0_become 1 = .ok (.getfield 9, 3) := by decide +kernel
theorem dX0_become_4 : decode cX0_become 4 = .ok (.iconst 0, 1) := by decide +kernel
theorem dX0_become_5 : decode cX0_become 5 = .ok (.aload_n 0, 1) := by decide +kernel
theorem dX0_become_6 : decode cX0_become 6 = .ok (.getfield 9, 3) := by decide +kernel
theorem dX0_become_9 : decode cX0_become 9 = .ok (.iconst 0, 1) := by decide +kernel
theorem dX0_become_10 : decode cX0_become 10 = .ok (.bipush 120, 2) := by decide +kernel
theorem dX0_become_12 : decode cX0_become 12 = .ok (.invokestatic 49, 3) := by decide +kernel
theorem dX0_become_15 : decode cX0_become 15 = .ok (.aload_n 1, 1) := by decide +kernel
theorem dX0_become_16 : decode cX0_become 16 = .ok (.getfield 15, 3) := by decide +kernel
theorem dX0_become_19 : decode cX0_become 19 = .ok (.iconst 0, 1) := by decide +kernel
theorem dX0_become_20 : decode cX0_become 20 = .ok (.aload_n 0, 1) := by decide +kernel
theorem dX0_become_21 : decode cX0_become 21 = .ok (.getfield 15, 3) := by decide +kernel
theorem dX0_become_24 : decode cX0_become 24 = .ok (.iconst 0, 1) := by decide +kernel
theorem dX0_become_25 : decode cX0_become 25 = .ok (.bipush 120, 2) := by decide +kernel
theorem dX0_become_27 : decode cX0_become 27 = .ok (.invokestatic 49, 3) := by decide +kernel
theorem dX0_become_30 : decode cX0_become 30 = .ok (.aload_n 1, 1) := by decide +kernel
theorem dX0_become_31 : decode cX0_become 31 = .ok (.getfield 18, 3) := by decide +kernel
theorem dX0_become_34 : decode cX0_become 34 = .ok (.iconst 0, 1) := by decide +kernel
theorem dX0_become_35 : decode cX0_become 35 = .ok (.aload_n 0, 1) := by decide +kernel
theorem dX0_become_36 : decode cX0_become 36 = .ok (.getfield 18, 3) := by decide +kernel
theorem dX0_become_39 : decode cX0_become 39 = .ok (.iconst 0, 1) := by decide +kernel
theorem dX0_become_40 : decode cX0_become 40 = .ok (.bipush 120, 2) := by decide +kernel
theorem dX0_become_42 : decode cX0_become 42 = .ok (.invokestatic 49, 3) := by decide +kernel
theorem dX0_become_45 : decode cX0_become 45 = .ok (.aload_n 1, 1) := by decide +kernel
theorem dX0_become_46 : decode cX0_become 46 = .ok (.getfield 21, 3) := by decide +kernel
theorem dX0_become_49 : decode cX0_become 49 = .ok (.iconst 0, 1) := by decide +kernel
theorem dX0_become_50 : decode cX0_become 50 = .ok (.aload_n 0, 1) := by decide +kernel
theorem dX0_become_51 : decode cX0_become 51 = .ok (.getfield 21, 3) := by decide +kernel
theorem dX0_become_54 : decode cX0_become 54 = .ok (.iconst 0, 1) := by decide +kernel
theorem dX0_become_55 : decode cX0_become 55 = .ok (.bipush 120, 2) := by decide +kernel
theorem dX0_become_57 : decode cX0_become 57 = .ok (.invokestatic 49, 3) := by decide +kernel
theorem dX0_become_60 : decode cX0_become 60 = .ok (.aload_n 1, 1) := by decide +kernel
theorem dX0_become_61 : decode cX0_become 61 = .ok (.getfield 24, 3) := by decide +kernel
theorem dX0_become_64 : decode cX0_become 64 = .ok (.iconst 0, 1) := by decide +kernel
theorem dX0_become_65 : decode cX0_become 65 = .ok (.aload_n 0, 1) := by decide +kernel
theorem dX0_become_66 : decode cX0_become 66 = .ok (.getfield 24, 3) := by decide +kernel
theorem dX0_become_69 : decode cX0_become 69 = .ok (.iconst 0, 1) := by decide +kernel
theorem dX0_become_70 : decode cX0_become 70 = .ok (.bipush 120, 2) := by decide +kernel
theorem dX0_become_72 : decode cX0_become 72 = .ok (.invokestatic 49, 3) := by decide +kernel
theorem dX0_become_75 : decode cX0_become 75 = .ok (.aload_n 1, 1) := by decide +kernel
theorem dX0_become_76 : decode cX0_become 76 = .ok (.getfield 27, 3) := by decide +kernel
theorem dX0_become_79 : decode cX0_become 79 = .ok (.iconst 0, 1) := by decide +kernel
theorem dX0_become_80 : decode cX0_become 80 = .ok (.aload_n 0, 1) := by decide +kernel
theorem dX0_become_81 : decode cX0_become 81 = .ok (.getfield 27, 3) := by decide +kernel
theorem dX0_become_84 : decode cX0_become 84 = .ok (.iconst 0, 1) := by decide +kernel
theorem dX0_become_85 : decode cX0_become 85 = .ok (.bipush 120, 2) := by decide +kernel
theorem dX0_become_87 : decode cX0_become 87 = .ok (.invokestatic 49, 3) := by decide +kernel
theorem dX0_become_90 : decode cX0_become 90 = .ok (.aload_n 0, 1) := by decide +kernel
theorem dX0_become_91 : decode cX0_become 91 = .ok (.aload_n 1, 1) := by decide +kernel
theorem dX0_become_92 : decode cX0_become 92 = .ok (.getfield 39, 3) := by decide +kernel
theorem dX0_become_95 : decode cX0_become 95 = .ok (.putfield 39, 3) := by decide +kernel
theorem dX0_become_98 : decode cX0_become 98 = .ok (.aload_n 0, 1) := by decide +kernel
theorem dX0_become_99 : decode cX0_become 99 = .ok (.aload_n 1, 1) := by decide +kernel
theorem dX0_become_100 : decode cX0_become 100 = .ok (.getfield 43, 3) := by decide +kernel
theorem dX0_become_103 : decode cX0_become 103 = .ok (.putfield 43, 3) := by decide +kernel
theorem dX0_become_106 : decode cX0_become 106 = .ok (.aload_n 0, 1) := by decide +kernel
theorem dX0_become_107 : decode cX0_become 107 = .ok (.aload_n 1, 1) := by decide +kernel
theorem dX0_become_108 : decode cX0_become 108 = .ok (.getfield 46, 3) := by decide +kernel
theorem dX0_become_111 : decode cX0_become 111 = .ok (.putfield 46, 3) := by decide +kernel
theorem dX0_become_114 : decode cX0_become 114 = .ok (.return_, 1) := by decide +kernel
theorem dX0_takeSand_0 : decode cX0_takeSand 0 = .ok (.iload_n 2, 1) := by decide +kernel
theorem dX0_takeSand_1 : decode cX0_takeSand 1 = .ok (.aload_n 0, 1) := by decide +kernel
theorem dX0_takeSand_2 : decode cX0_takeSand 2 = .ok (.getfield 9, 3) := by decide +kernel
theorem dX0_takeSand_5 : decode cX0_takeSand 5 = .ok (.iload_n 1, 1) := by decide +kernel
theorem dX0_takeSand_6 : decode cX0_takeSand 6 = .ok (.iaload, 1) := by decide +kernel
theorem dX0_takeSand_7 : decode cX0_takeSand 7 = .ok (.invokestatic 55, 3) := by decide +kernel
theorem dX0_takeSand_10 : decode cX0_takeSand 10 = .ok (.istore_n 3, 1) := by decide +kernel
theorem dX0_takeSand_11 : decode cX0_takeSand 11 = .ok (.aload_n 0, 1) := by decide +kernel
theorem dX0_takeSand_12 : decode cX0_takeSand 12 = .ok (.getfield 9, 3) := by decide +kernel
theorem dX0_takeSand_15 : decode cX0_takeSand 15 = .ok (.iload_n 1, 1) := by decide +kernel
theorem dX0_takeSand_16 : decode cX0_takeSand 16 = .ok (.dup2, 1) := by decide +kernel
theorem dX0_takeSand_17 : decode cX0_takeSand 17 = .ok (.iaload, 1) := by decide +kernel
theorem dX0_takeSand_18 : decode cX0_takeSand 18 = .ok (.iload_n 3, 1) := by decide +kernel
theorem dX0_takeSand_19 : decode cX0_takeSand 19 = .ok (.isub, 1) := by decide +kernel
theorem dX0_takeSand_20 : decode cX0_takeSand 20 = .ok (.iastore, 1) := by decide +kernel
theorem dX0_takeSand_21 : decode cX0_takeSand 21 = .ok (.aload_n 0, 1) := by decide +kernel
theorem dX0_takeSand_22 : decode cX0_takeSand 22 = .ok (.getfield 15, 3) := by decide +kernel
theorem dX0_takeSand_25 : decode cX0_takeSand 25 = .ok (.iload_n 1, 1) := by decide +kernel
theorem dX0_takeSand_26 : decode cX0_takeSand 26 = .ok (.iconst 0, 1) := by decide +kernel
theorem dX0_takeSand_27 : decode cX0_takeSand 27 = .ok (.iastore, 1) := by decide +kernel
theorem dX0_takeSand_28 : decode cX0_takeSand 28 = .ok (.iload_n 3, 1) := by decide +kernel
theorem dX0_takeSand_29 : decode cX0_takeSand 29 = .ok (.ireturn, 1) := by decide +kernel
set_option maxRecDepth 20000 in
theorem ggX0_putSand_X0_soften : GoodIn wsX0_putSand wsX0_soften := goodIn_r _ [10, 11, 12, 13, 14, 15, 16, 17, 18, 19, 20] (by decide +kernel) (by decide +kernel)
set_option maxRecDepth 20000 in
theorem gX0_putSand_X0_soften : GoodIn wsX0_putSand (wsV RX0 61 RX0 yX0_soften wsX0_soften) := goodIn_app (goodIn_of _ (by decide +kernel)) ggX0_putSand_X0_soften
theorem dX0_putSand_0 : decode cX0_putSand 0 = .ok (.iload_n 2, 1) := by decide +kernel
theorem dX0_putSand_1 : decode cX0_putSand 1 = .ok (.bipush 20, 2) := by decide +kernel
theorem dX0_putSand_3 : decode cX0_putSand 3 = .ok (.aload_n 0, 1) := by decide +kernel
theorem dX0_putSand_4 : decode cX0_putSand 4 = .ok (.getfield 9, 3) := by decide +kernel
theorem dX0_putSand_7 : decode cX0_putSand 7 = .ok (.iload_n 1, 1) := by decide +kernel
theorem dX0_putSand_8 : decode cX0_putSand 8 = .ok (.iaload, 1) := by decide +kernel
theorem dX0_putSand_9 : decode cX0_putSand 9 = .ok (.isub, 1) := by decide +kernel
theorem dX0_putSand_10 : decode cX0_putSand 10 = .ok (.invokestatic 55, 3) := by decide +kernel
theorem dX0_putSand_13 : decode cX0_putSand 13 = .ok (.istore_n 3, 1) := by decide +kernel
theorem dX0_putSand_14 : decode cX0_putSand 14 = .ok (.aload_n 0, 1) := by decide +kernel
theorem dX0_putSand_15 : decode cX0_putSand 15 = .ok (.getfield 9, 3) := by decide +kernel
theorem dX0_putSand_18 : decode cX0_putSand 18 = .ok (.iload_n 1, 1) := by decide +kernel
theorem dX0_putSand_19 : decode cX0_putSand 19 = .ok (.dup2, 1) := by decide +kernel
theorem dX0_putSand_20 : decode cX0_putSand 20 = .ok (.iaload, 1) := by decide +kernel
theorem dX0_putSand_21 : decode cX0_putSand 21 = .ok (.iload_n 3, 1) := by decide +kernel
theorem dX0_putSand_22 : decode cX0_putSand 22 = .ok (.iadd, 1) := by decide +kernel
theorem dX0_putSand_23 : decode cX0_putSand 23 = .ok (.iastore, 1) := by decide +kernel
theorem dX0_putSand_24 : decode cX0_putSand 24 = .ok (.iload_n 3, 1) := by decide +kernel
theorem dX0_putSand_25 : decode cX0_putSand 25 = .ok (.ifCond .le 8, 3) := by decide +kernel
theorem dX0_putSand_28 : decode cX0_putSand 28 = .ok (.aload_n 0, 1) := by decide +kernel
theorem dX0_putSand_29 : decode cX0_putSand 29 = .ok (.iload_n 1, 1) := by decide +kernel
theorem dX0_putSand_30 : decode cX0_putSand 30 = .ok (.invokevirtual 61, 3) := by decide +kernel
theorem dX0_putSand_33 : decode cX0_putSand 33 = .ok (.iload_n 3, 1) := by decide +kernel
theorem dX0_putSand_34 : decode cX0_putSand 34 = .ok (.ireturn, 1) := by decide +kernel
set_option maxRecDepth 20000 in
theorem ggX0_harden_X0_isWet : GoodIn wsX0_harden wsX0_isWet := goodIn_r _ [7, 8, 9, 10, 11, 12, 13, 14, 15, 16, 17] (by decide +kernel) (by decide +kernel)
set_option maxRecDepth 20000 in
theorem gX0_harden_X0_isWet : GoodIn wsX0_harden (wsV RX0 65 RX0 yX0_isWet wsX0_isWet) := goodIn_app (goodIn_of _ (by decide +kernel)) ggX0_harden_X0_isWet
theorem dX0_harden_0 : decode cX0_harden 0 = .ok (.aload_n 0, 1) := by decide +kernel
theorem dX0_harden_1 : decode cX0_harden 1 = .ok (.getfield 9, 3) := by decide +kernel
theorem dX0_harden_4 : decode cX0_harden 4 = .ok (.iload_n 1, 1) := by decide +kernel
theorem dX0_harden_5 : decode cX0_harden 5 = .ok (.iaload, 1) := by decide +kernel
theorem dX0_harden_6 : decode cX0_harden 6 = .ok (.ifCond .le 31, 3) := by decide +kernel
theorem dX0_harden_9 : decode cX0_harden 9 = .ok (.aload_n 0, 1) := by decide +kernel
theorem dX0_harden_10 : decode cX0_harden 10 = .ok (.iload_n 1, 1) := by decide +kernel
theorem dX0_harden_11 : decode cX0_harden 11 = .ok (.invokevirtual 65, 3) := by decide +kernel
theorem dX0_harden_14 : decode cX0_harden 14 = .ok (.ifCond .ne 23, 3) := by decide +kernel
theorem dX0_harden_17 : decode cX0_harden 17 = .ok (.aload_n 0, 1) := by decide +kernel
theorem dX0_harden_18 : decode cX0_harden 18 = .ok (.getfield 15, 3) := by decide +kernel
theorem dX0_harden_21 : decode cX0_harden 21 = .ok (.iload_n 1, 1) := by decide +kernel
theorem dX0_harden_22 : decode cX0_harden 22 = .ok (.iaload, 1) := by decide +kernel
theorem dX0_harden_23 : decode cX0_harden 23 = .ok (.iconst 5, 1) := by decide +kernel
theorem dX0_harden_24 : decode cX0_harden 24 = .ok (.if_icmp .ge 13, 3) := by decide +kernel
theorem dX0_harden_27 : decode cX0_harden 27 = .ok (.aload_n 0, 1) := by decide +kernel
theorem dX0_harden_28 : decode cX0_harden 28 = .ok (.getfield 15, 3) := by decide +kernel
theorem dX0_harden_31 : decode cX0_harden 31 = .ok (.iload_n 1, 1) := by decide +kernel
theorem dX0_harden_32 : decode cX0_harden 32 = .ok (.dup2, 1) := by decide +kernel
theorem dX0_harden_33 : decode cX0_harden 33 = .ok (.iaload, 1) := by decide +kernel
theorem dX0_harden_34 : decode cX0_harden 34 = .ok (.iconst 1, 1) := by decide +kernel
theorem dX0_harden_35 : decode cX0_harden 35 = .ok (.iadd, 1) := by decide +kernel
theorem dX0_harden_36 : decode cX0_harden 36 = .ok (.iastore, 1) := by decide +kernel
theorem dX0_harden_37 : decode cX0_harden 37 = .ok (.aload_n 0, 1) := by decide +kernel
theorem dX0_harden_38 : decode cX0_harden 38 = .ok (.getfield 15, 3) := by decide +kernel
theorem dX0_harden_41 : decode cX0_harden 41 = .ok (.iload_n 1, 1) := by decide +kernel
theorem dX0_harden_42 : decode cX0_harden 42 = .ok (.iaload, 1) := by decide +kernel
theorem dX0_harden_43 : decode cX0_harden 43 = .ok (.ireturn, 1) := by decide +kernel
set_option maxRecDepth 20000 in
theorem ggX0_putStick_X0_height : GoodIn wsX0_putStick wsX0_height := goodIn_r _ [7, 8, 9, 10, 11, 12, 13, 14, 15, 16, 17] (by decide +kernel) (by decide +kernel)
set_option maxRecDepth 20000 in
theorem gX0_putStick_X0_height : GoodIn wsX0_putStick (wsV RX0 69 RX0 yX0_height wsX0_height) := goodIn_app (goodIn_of _ (by decide +kernel)) ggX0_putStick_X0_height
theorem dX0_putStick_0 : decode cX0_putStick 0 = .ok (.aload_n 0, 1) := by decide +kernel
theorem dX0_putStick_1 : decode cX0_putStick 1 = .ok (.getfield 21, 3) := by decide +kernel
theorem dX0_putStick_4 : decode cX0_putStick 4 = .ok (.iload_n 1, 1) := by decide +kernel
theorem dX0_putStick_5 : decode cX0_putStick 5 = .ok (.iload_n 2, 1) := by decide +kernel
theorem dX0_putStick_6 : decode cX0_putStick 6 = .ok (.iastore, 1) := by decide +kernel
theorem dX0_putStick_7 : decode cX0_putStick 7 = .ok (.aload_n 0, 1) := by decide +kernel
theorem dX0_putStick_8 : decode cX0_putStick 8 = .ok (.getfield 24, 3) := by decide +kernel
theorem dX0_putStick_11 : decode cX0_putStick 11 = .ok (.iload_n 1, 1) := by decide +kernel
theorem dX0_putStick_12 : decode cX0_putStick 12 = .ok (.aload_n 0, 1) := by decide +kernel
theorem dX0_putStick_13 : decode cX0_putStick 13 = .ok (.iload_n 1, 1) := by decide +kernel
theorem dX0_putStick_14 : decode cX0_putStick 14 = .ok (.invokevirtual 69, 3) := by decide +kernel
theorem dX0_putStick_17 : decode cX0_putStick 17 = .ok (.iastore, 1) := by decide +kernel
theorem dX0_putStick_18 : decode cX0_putStick 18 = .ok (.return_, 1) := by decide +kernel
set_option maxRecDepth 20000 in
theorem ggX0_letHourGoBy_X0_findWater : GoodIn wsX0_letHourGoBy wsX0_findWater := goodIn_r _ [6, 7, 8, 9, 10, 11, 12, 13, 14, 5, 15, 16, 17, 18, 19, 20, 21, 22, 23, 24, 25, 26, 27, 28, 29, 30, 31, 73, 74, 75, 76, 77, 78, 79, 80, 81] (by decide +kernel) (by decide +kernel)
set_option maxRecDepth 20000 in
theorem gX0_letHourGoBy_X0_findWater : GoodIn wsX0_letHourGoBy (wsV RX0 73 RX0 yX0_findWater wsX0_findWater) := goodIn_app (goodIn_of _ (by decide +kernel)) ggX0_letHourGoBy_X0_findWater
set_option maxRecDepth 20000 in
theorem ggX0_letHourGoBy_X0_washSandAway : GoodIn wsX0_letHourGoBy wsX0_washSandAway := goodIn_r _ [35, 36, 37, 38, 39, 40, 24, 41, 42, 43, 44, 16, 17, 18, 5, 19, 7, 20, 21, 22, 23, 45, 46, 47, 48, 73, 74, 75, 76, 77, 78, 79, 80, 81] (by decide +kernel) (by decide +kernel)
set_option maxRecDepth 20000 in
theorem gX0_letHourGoBy_X0_washSandAway : GoodIn wsX0_letHourGoBy (wsV RX0 76 RX0 yX0_washSandAway wsX0_washSandAway) := goodIn_app (goodIn_of _ (by decide +kernel)) ggX0_letHourGoBy_X0_washSandAway
set_option maxRecDepth 20000 in
theorem ggX0_letHourGoBy_X0_letSandSlide : GoodIn wsX0_letHourGoBy wsX0_letSandSlide := goodIn_r _ [52, 53, 54, 55, 5, 56, 24, 57, 58, 59, 60, 29, 30, 31, 20, 21, 22, 23, 61, 62, 63, 64, 36, 73, 74, 75, 76, 77, 78, 79, 80, 81] (by decide +kernel) (by decide +kernel)
set_option maxRecDepth 20000 in
theorem gX0_letHourGoBy_X0_letSandSlide : GoodIn wsX0_letHourGoBy (wsV RX0 79 RX0 yX0_letSandSlide wsX0_letSandSlide) := goodIn_app (goodIn_of _ (by decide +kernel)) ggX0_letHourGoBy_X0_letSandSlide
set_option maxRecDepth 20000 in
theorem ggX0_letHourGoBy_X0_judgeSticks : GoodIn wsX0_letHourGoBy wsX0_judgeSticks := goodIn_r _ [68, 69, 70, 71, 72, 24, 16, 17, 18, 5, 19, 7, 20, 21, 22, 23, 73, 74, 75, 76, 77, 78, 79, 80, 81] (by decide +kernel) (by decide +kernel)
set_option maxRecDepth 20000 in
theorem gX0_letHourGoBy_X0_judgeSticks : GoodIn wsX0_letHourGoBy (wsV RX0 83 RX0 yX0_judgeSticks wsX0_judgeSticks) := goodIn_app (goodIn_of _ (by decide +kernel)) ggX0_letHourGoBy_X0_judgeSticks
theorem dX0_letHourGoBy_0 : decode cX0_letHourGoBy 0 = .ok (.aload_n 0, 1) := by decide +kernel
theorem dX0_letHourGoBy_1 : decode cX0_letHourGoBy 1 = .ok (.iload_n 1, 1) := by decide +kernel
theorem dX0_letHourGoBy_2 : decode cX0_letHourGoBy 2 = .ok (.invokevirtual 73, 3) := by decide +kernel
theorem dX0_letHourGoBy_5 : decode cX0_letHourGoBy 5 = .ok (.aload_n 0, 1) := by decide +kernel
theorem dX0_letHourGoBy_6 : decode cX0_letHourGoBy 6 = .ok (.iload_n 1, 1) := by decide +kernel
theorem dX0_letHourGoBy_7 : decode cX0_letHourGoBy 7 = .ok (.invokevirtual 76, 3) := by decide +kernel
theorem dX0_letHourGoBy_10 : decode cX0_letHourGoBy 10 = .ok (.aload_n 0, 1) := by decide +kernel
theorem dX0_letHourGoBy_11 : decode cX0_letHourGoBy 11 = .ok (.aload_n 0, 1) := by decide +kernel
theorem dX0_letHourGoBy_12 : decode cX0_letHourGoBy 12 = .ok (.invokevirtual 79, 3) := by decide +kernel
theorem dX0_letHourGoBy_15 : decode cX0_letHourGoBy 15 = .ok (.putfield 43, 3) := by decide +kernel
theorem dX0_letHourGoBy_18 : decode cX0_letHourGoBy 18 = .ok (.aload_n 0, 1) := by decide +kernel
theorem dX0_letHourGoBy_19 : decode cX0_letHourGoBy 19 = .ok (.invokevirtual 83, 3) := by decide +kernel
theorem dX0_letHourGoBy_22 : decode cX0_letHourGoBy 22 = .ok (.return_, 1) := by decide +kernel
set_option maxRecDepth 20000 in
theorem ggX0_findWater_J7_fill_53178 : GoodIn wsX0_findWater wsJ7_fill_53178 := goodIn_r _ [5] (by decide +kernel) (by decide +kernel)
set_option maxRecDepth 20000 in
theorem gX0_findWater_J7_fill_53178 : GoodIn wsX0_findWater (va_wsS RX0 30 yJ7_fill_53178 wsJ7_fill_53178) := goodIn_app (goodIn_of _ (by decide +kernel)) ggX0_findWater_J7_fill_53178
set_option maxRecDepth 20000 in
theorem ggX0_findWater_X0_sweepWater : GoodIn wsX0_findWater wsX0_sweepWater := goodIn_r _ [10, 1, 11, 12, 13, 9, 14, 15, 16, 17, 18, 19, 20, 21, 22, 23, 24, 25, 26, 27, 28, 29, 30, 31, 32, 33, 34, 35] (by decide +kernel) (by decide +kernel)
set_option maxRecDepth 20000 in
theorem gX0_findWater_X0_sweepWater : GoodIn wsX0_findWater (wsV RX0 86 RX0 yX0_sweepWater wsX0_sweepWater) := goodIn_app (goodIn_of _ (by decide +kernel)) ggX0_findWater_X0_sweepWater
theorem dX0_findWater_0 : decode cX0_findWater 0 = .ok (.aload_n 0, 1) := by decide +kernel
theorem dX0_findWater_1 : decode cX0_findWater 1 = .ok (.getfield 18, 3) := by decide +kernel
theorem dX0_findWater_4 : decode cX0_findWater 4 = .ok (.iconst 0, 1) := by decide +kernel
theorem dX0_findWater_5 : decode cX0_findWater 5 = .ok (.invokestatic 30, 3) := by decide +kernel
theorem dX0_findWater_8 : decode cX0_findWater 8 = .ok (.iconst 1, 1) := by decide +kernel
theorem dX0_findWater_9 : decode cX0_findWater 9 = .ok (.istore_n 2, 1) := by decide +kernel
theorem dX0_findWater_10 : decode cX0_findWater 10 = .ok (.iconst 0, 1) := by decide +kernel
theorem dX0_findWater_11 : decode cX0_findWater 11 = .ok (.istore_n 3, 1) := by decide +kernel
theorem dX0_findWater_12 : decode cX0_findWater 12 = .ok (.iload_n 2, 1) := by decide +kernel
theorem dX0_findWater_13 : decode cX0_findWater 13 = .ok (.ifCond .eq 21, 3) := by decide +kernel
theorem dX0_findWater_16 : decode cX0_findWater 16 = .ok (.iload_n 3, 1) := by decide +kernel
theorem dX0_findWater_17 : decode cX0_findWater 17 = .ok (.bipush 120, 2) := by decide +kernel
theorem dX0_findWater_19 : decode cX0_findWater 19 = .ok (.if_icmp .gt 15, 3) := by decide +kernel
theorem dX0_findWater_22 : decode cX0_findWater 22 = .ok (.aload_n 0, 1) := by decide +kernel
theorem dX0_findWater_23 : decode cX0_findWater 23 = .ok (.iload_n 1, 1) := by decide +kernel
theorem dX0_findWater_24 : decode cX0_findWater 24 = .ok (.invokevirtual 86, 3) := by decide +kernel
theorem dX0_findWater_27 : decode cX0_findWater 27 = .ok (.istore_n 2, 1) := by decide +kernel
theorem dX0_findWater_28 : decode cX0_findWater 28 = .ok (.iinc 3 1, 3) := by decide +kernel
theorem dX0_findWater_31 : decode cX0_findWater 31 = .ok (.goto (-19), 3) := by decide +kernel
theorem dX0_findWater_34 : decode cX0_findWater 34 = .ok (.return_, 1) := by decide +kernel
set_option maxRecDepth 20000 in
theorem ggX0_sweepWater_X0_isWet : GoodIn wsX0_sweepWater wsX0_isWet := goodIn_r _ [6, 1, 19, 20, 21, 22, 23, 24, 25, 26, 27] (by decide +kernel) (by decide +kernel)
set_option maxRecDepth 20000 in
theorem gX0_sweepWater_X0_isWet : GoodIn wsX0_sweepWater (wsV RX0 65 RX0 yX0_isWet wsX0_isWet) := goodIn_app (goodIn_of _ (by decide +kernel)) ggX0_sweepWater_X0_isWet
set_option maxRecDepth 20000 in
theorem ggX0_sweepWater_X0_height : GoodIn wsX0_sweepWater wsX0_height := goodIn_r _ [10, 11, 19, 20, 21, 22, 23, 24, 25, 26, 27] (by decide +kernel) (by decide +kernel)
set_option maxRecDepth 20000 in
theorem gX0_sweepWater_X0_height : GoodIn wsX0_sweepWater (wsV RX0 69 RX0 yX0_height wsX0_height) := goodIn_app (goodIn_of _ (by decide +kernel)) ggX0_sweepWater_X0_height
set_option maxRecDepth 20000 in
theorem ggX0_sweepWater_X0_isOpenToSea : GoodIn wsX0_sweepWater wsX0_isOpenToSea := goodIn_r _ [15, 16, 17, 5, 18, 2, 3, 4, 6, 1, 19, 20, 21, 22, 23, 24, 25, 26, 27] (by decide +kernel) (by decide +kernel)
set_option maxRecDepth 20000 in
theorem gX0_sweepWater_X0_isOpenToSea : GoodIn wsX0_sweepWater (wsV RX0 89 RX0 yX0_isOpenToSea wsX0_isOpenToSea) := goodIn_app (goodIn_of _ (by decide +kernel)) ggX0_sweepWater_X0_isOpenToSea
theorem dX0_sweepWater_0 : decode cX0_sweepWater 0 = .ok (.iconst 0, 1) := by decide +kernel
theorem dX0_sweepWater_1 : decode cX0_sweepWater 1 = .ok (.istore_n 2, 1) := by decide +kernel
theorem dX0_sweepWater_2 : decode cX0_sweepWater 2 = .ok (.iconst 0, 1) := by decide +kernel
theorem dX0_sweepWater_3 : decode cX0_sweepWater 3 = .ok (.istore_n 3, 1) := by decide +kernel
theorem dX0_sweepWater_4 : decode cX0_sweepWater 4 = .ok (.iload_n 3, 1) := by decide +kernel
theorem dX0_sweepWater_5 : decode cX0_sweepWater 5 = .ok (.bipush 120, 2) := by decide +kernel
theorem dX0_sweepWater_7 : decode cX0_sweepWater 7 = .ok (.if_icmp .ge 43, 3) := by decide +kernel
theorem dX0_sweepWater_10 : decode cX0_sweepWater 10 = .ok (.aload_n 0, 1) := by decide +kernel
theorem dX0_sweepWater_11 : decode cX0_sweepWater 11 = .ok (.iload_n 3, 1) := by decide +kernel
theorem dX0_sweepWater_12 : decode cX0_sweepWater 12 = .ok (.invokevirtual 65, 3) := by decide +kernel
theorem dX0_sweepWater_15 : decode cX0_sweepWater 15 = .ok (.ifCond .ne 29, 3) := by decide +kernel
theorem dX0_sweepWater_18 : decode cX0_sweepWater 18 = .ok (.aload_n 0, 1) := by decide +kernel
theorem dX0_sweepWater_19 : decode cX0_sweepWater 19 = .ok (.iload_n 3, 1) := by decide +kernel
theorem dX0_sweepWater_20 : decode cX0_sweepWater 20 = .ok (.invokevirtual 69, 3) := by decide +kernel
theorem dX0_sweepWater_23 : decode cX0_sweepWater 23 = .ok (.iload_n 1, 1) := by decide +kernel
theorem dX0_sweepWater_24 : decode cX0_sweepWater 24 = .ok (.if_icmp .ge 20, 3) := by decide +kernel
theorem dX0_sweepWater_27 : decode cX0_sweepWater 27 = .ok (.aload_n 0, 1) := by decide +kernel
theorem dX0_sweepWater_28 : decode cX0_sweepWater 28 = .ok (.iload_n 3, 1) := by decide +kernel
theorem dX0_sweepWater_29 : decode cX0_sweepWater 29 = .ok (.invokevirtual 89, 3) := by decide +kernel
theorem dX0_sweepWater_32 : decode cX0_sweepWater 32 = .ok (.ifCond .eq 12, 3) := by decide +kernel
theorem dX0_sweepWater_35 : decode cX0_sweepWater 35 = .ok (.aload_n 0, 1) := by decide +kernel
theorem dX0_sweepWater_36 : decode cX0_sweepWater 36 = .ok (.getfield 18, 3) := by decide +kernel
theorem dX0_sweepWater_39 : decode cX0_sweepWater 39 = .ok (.iload_n 3, 1) := by decide +kernel
theorem dX0_sweepWater_40 : decode cX0_sweepWater 40 = .ok (.iconst 1, 1) := by decide +kernel
theorem dX0_sweepWater_41 : decode cX0_sweepWater 41 = .ok (.iastore, 1) := by decide +kernel
theorem dX0_sweepWater_42 : decode cX0_sweepWater 42 = .ok (.iconst 1, 1) := by decide +kernel
theorem dX0_sweepWater_43 : decode cX0_sweepWater 43 = .ok (.istore_n 2, 1) := by decide +kernel
theorem dX0_sweepWater_44 : decode cX0_sweepWater 44 = .ok (.iinc 3 1, 3) := by decide +kernel
theorem dX0_sweepWater_47 : decode cX0_sweepWater 47 = .ok (.goto (-43), 3) := by decide +kernel
theorem dX0_sweepWater_50 : decode cX0_sweepWater 50 = .ok (.iload_n 2, 1) := by decide +kernel
theorem dX0_sweepWater_51 : decode cX0_sweepWater 51 = .ok (.ireturn, 1) := by decide +kernel
set_option maxRecDepth 20000 in
theorem ggX0_isOpenToSea_X0_beside : GoodIn wsX0_isOpenToSea wsX0_beside := goodIn_r _ [4] (by decide +kernel) (by decide +kernel)
set_option maxRecDepth 20000 in
theorem gX0_isOpenToSea_X0_beside : GoodIn wsX0_isOpenToSea (va_wsS RX0 92 yX0_beside wsX0_beside) := goodIn_app (goodIn_of _ (by decide +kernel)) ggX0_isOpenToSea_X0_beside
set_option maxRecDepth 20000 in
theorem ggX0_isOpenToSea_X0_isWet : GoodIn wsX0_isOpenToSea wsX0_isWet := goodIn_r _ [8, 9, 10, 11, 12, 13, 14, 15, 16, 17, 18] (by decide +kernel) (by decide +kernel)
set_option maxRecDepth 20000 in
theorem gX0_isOpenToSea_X0_isWet : GoodIn wsX0_isOpenToSea (wsV RX0 65 RX0 yX0_isWet wsX0_isWet) := goodIn_app (goodIn_of _ (by decide +kernel)) ggX0_isOpenToSea_X0_isWet
theorem dX0_isOpenToSea_0 : decode cX0_isOpenToSea 0 = .ok (.iload_n 1, 1) := by decide +kernel
theorem dX0_isOpenToSea_1 : decode cX0_isOpenToSea 1 = .ok (.bipush 12, 2) := by decide +kernel
theorem dX0_isOpenToSea_3 : decode cX0_isOpenToSea 3 = .ok (.if_icmp .ge 5, 3) := by decide +kernel
theorem dX0_isOpenToSea_6 : decode cX0_isOpenToSea 6 = .ok (.iconst 1, 1) := by decide +kernel
theorem dX0_isOpenToSea_7 : decode cX0_isOpenToSea 7 = .ok (.ireturn, 1) := by decide +kernel
theorem dX0_isOpenToSea_8 : decode cX0_isOpenToSea 8 = .ok (.iconst 0, 1) := by decide +kernel
theorem dX0_isOpenToSea_9 : decode cX0_isOpenToSea 9 = .ok (.istore_n 2, 1) := by decide +kernel
theorem dX0_isOpenToSea_10 : decode cX0_isOpenToSea 10 = .ok (.iload_n 2, 1) := by decide +kernel
theorem dX0_isOpenToSea_11 : decode cX0_isOpenToSea 11 = .ok (.iconst 4, 1) := by decide +kernel
theorem dX0_isOpenToSea_12 : decode cX0_isOpenToSea 12 = .ok (.if_icmp .ge 30, 3) := by decide +kernel
theorem dX0_isOpenToSea_15 : decode cX0_isOpenToSea 15 = .ok (.iload_n 1, 1) := by decide +kernel
theorem dX0_isOpenToSea_16 : decode cX0_isOpenToSea 16 = .ok (.iload_n 2, 1) := by decide +kernel
theorem dX0_isOpenToSea_17 : decode cX0_isOpenToSea 17 = .ok (.invokestatic 92, 3) := by decide +kernel
theorem dX0_isOpenToSea_20 : decode cX0_isOpenToSea 20 = .ok (.istore_n 3, 1) := by decide +kernel
theorem dX0_isOpenToSea_21 : decode cX0_isOpenToSea 21 = .ok (.iload_n 3, 1) := by decide +kernel
theorem dX0_isOpenToSea_22 : decode cX0_isOpenToSea 22 = .ok (.iconst (-1), 1) := by decide +kernel
theorem dX0_isOpenToSea_23 : decode cX0_isOpenToSea 23 = .ok (.if_icmp .eq 13, 3) := by decide +kernel
theorem dX0_isOpenToSea_26 : decode cX0_isOpenToSea 26 = .ok (.aload_n 0, 1) := by decide +kernel
theorem dX0_isOpenToSea_27 : decode cX0_isOpenToSea 27 = .ok (.iload_n 3, 1) := by decide +kernel
theorem dX0_isOpenToSea_28 : decode cX0_isOpenToSea 28 = .ok (.invokevirtual 65, 3) := by decide +kernel
theorem dX0_isOpenToSea_31 : decode cX0_isOpenToSea 31 = .ok (.ifCond .eq 5, 3) := by decide +kernel
theorem dX0_isOpenToSea_34 : decode cX0_isOpenToSea 34 = .ok (.iconst 1, 1) := by decide +kernel
theorem dX0_isOpenToSea_35 : decode cX0_isOpenToSea 35 = .ok (.ireturn, 1) := by decide +kernel
theorem dX0_isOpenToSea_36 : decode cX0_isOpenToSea 36 = .ok (.iinc 2 1, 3) := by decide +kernel
theorem dX0_isOpenToSea_39 : decode cX0_isOpenToSea 39 = .ok (.goto (-29), 3) := by decide +kernel
theorem dX0_isOpenToSea_42 : decode cX0_isOpenToSea 42 = .ok (.iconst 0, 1) := by decide +kernel
theorem dX0_isOpenToSea_43 : decode cX0_isOpenToSea 43 = .ok (.ireturn, 1) := by decide +kernel
set_option maxRecDepth 20000 in
theorem ggX0_washSandAway_X0_isWet : GoodIn wsX0_washSandAway wsX0_isWet := goodIn_r _ [15, 16, 25, 26, 27, 28, 29, 30, 31, 32, 33] (by decide +kernel) (by decide +kernel)
set_option maxRecDepth 20000 in
theorem gX0_washSandAway_X0_isWet : GoodIn wsX0_washSandAway (wsV RX0 65 RX0 yX0_isWet wsX0_isWet) := goodIn_app (goodIn_of _ (by decide +kernel)) ggX0_washSandAway_X0_isWet
set_option maxRecDepth 20000 in
theorem ggX0_washSandAway_X0_height : GoodIn wsX0_washSandAway wsX0_height := goodIn_r _ [20, 6, 25, 26, 27, 28, 29, 30, 31, 32, 33] (by decide +kernel) (by decide +kernel)
set_option maxRecDepth 20000 in
theorem gX0_washSandAway_X0_height : GoodIn wsX0_washSandAway (wsV RX0 69 RX0 yX0_height wsX0_height) := goodIn_app (goodIn_of _ (by decide +kernel)) ggX0_washSandAway_X0_height
set_option maxRecDepth 20000 in
theorem ggX0_washSandAway_X0_soften : GoodIn wsX0_washSandAway wsX0_soften := goodIn_r _ [24, 1, 25, 26, 27, 28, 29, 30, 31, 32, 33] (by decide +kernel) (by decide +kernel)
set_option maxRecDepth 20000 in
theorem gX0_washSandAway_X0_soften : GoodIn wsX0_washSandAway (wsV RX0 61 RX0 yX0_soften wsX0_soften) := goodIn_app (goodIn_of _ (by decide +kernel)) ggX0_washSandAway_X0_soften
theorem dX0_washSandAway_0 : decode cX0_washSandAway 0 = .ok (.iconst 0, 1) := by decide +kernel
theorem dX0_washSandAway_1 : decode cX0_washSandAway 1 = .ok (.istore_n 2, 1) := by decide +kernel
theorem dX0_washSandAway_2 : decode cX0_washSandAway 2 = .ok (.iload_n 2, 1) := by decide +kernel
theorem dX0_washSandAway_3 : decode cX0_washSandAway 3 = .ok (.bipush 120, 2) := by decide +kernel
theorem dX0_washSandAway_5 : decode cX0_washSandAway 5 = .ok (.if_icmp .ge 78, 3) := by decide +kernel
theorem dX0_washSandAway_8 : decode cX0_washSandAway 8 = .ok (.aload_n 0, 1) := by decide +kernel
theorem dX0_washSandAway_9 : decode cX0_washSandAway 9 = .ok (.iload_n 2, 1) := by decide +kernel
theorem dX0_washSandAway_10 : decode cX0_washSandAway 10 = .ok (.invokevirtual 65, 3) := by decide +kernel
theorem dX0_washSandAway_13 : decode cX0_washSandAway 13 = .ok (.ifCond .eq 64, 3) := by decide +kernel
theorem dX0_washSandAway_16 : decode cX0_washSandAway 16 = .ok (.iconst 1, 1) := by decide +kernel
theorem dX0_washSandAway_17 : decode cX0_washSandAway 17 = .ok (.iload_n 1, 1) := by decide +kernel
theorem dX0_washSandAway_18 : decode cX0_washSandAway 18 = .ok (.aload_n 0, 1) := by decide +kernel
theorem dX0_washSandAway_19 : decode cX0_washSandAway 19 = .ok (.iload_n 2, 1) := by decide +kernel
theorem dX0_washSandAway_20 : decode cX0_washSandAway 20 = .ok (.invokevirtual 69, 3) := by decide +kernel
theorem dX0_washSandAway_23 : decode cX0_washSandAway 23 = .ok (.isub, 1) := by decide +kernel
theorem dX0_washSandAway_24 : decode cX0_washSandAway 24 = .ok (.iconst 3, 1) := by decide +kernel
theorem dX0_washSandAway_25 : decode cX0_washSandAway 25 = .ok (.idiv, 1) := by decide +kernel
theorem dX0_washSandAway_26 : decode cX0_washSandAway 26 = .ok (.iadd, 1) := by decide +kernel
theorem dX0_washSandAway_27 : decode cX0_washSandAway 27 = .ok (.aload_n 0, 1) := by decide +kernel
theorem dX0_washSandAway_28 : decode cX0_washSandAway 28 = .ok (.getfield 15, 3) := by decide +kernel
theorem dX0_washSandAway_31 : decode cX0_washSandAway 31 = .ok (.iload_n 2, 1) := by decide +kernel
theorem dX0_washSandAway_32 : decode cX0_washSandAway 32 = .ok (.iaload, 1) := by decide +kernel
theorem dX0_washSandAway_33 : decode cX0_washSandAway 33 = .ok (.iconst 2, 1) := by decide +kernel
theorem dX0_washSandAway_34 : decode cX0_washSandAway 34 = .ok (.idiv, 1) := by decide +kernel
theorem dX0_washSandAway_35 : decode cX0_washSandAway 35 = .ok (.isub, 1) := by decide +kernel
theorem dX0_washSandAway_36 : decode cX0_washSandAway 36 = .ok (.istore_n 3, 1) := by decide +kernel
theorem dX0_washSandAway_37 : decode cX0_washSandAway 37 = .ok (.iload_n 3, 1) := by decide +kernel
theorem dX0_washSandAway_38 : decode cX0_washSandAway 38 = .ok (.iconst 0, 1) := by decide +kernel
theorem dX0_washSandAway_39 : decode cX0_washSandAway 39 = .ok (.invokestatic 95, 3) := by decide +kernel
theorem dX0_washSandAway_42 : decode cX0_washSandAway 42 = .ok (.aload_n 0, 1) := by decide +kernel
theorem dX0_washSandAway_43 : decode cX0_washSandAway 43 = .ok (.getfield 9, 3) := by decide +kernel
theorem dX0_washSandAway_46 : decode cX0_washSandAway 46 = .ok (.iload_n 2, 1) := by decide +kernel
theorem dX0_washSandAway_47 : decode cX0_washSandAway 47 = .ok (.iaload, 1) := by decide +kernel
theorem dX0_washSandAway_48 : decode cX0_washSandAway 48 = .ok (.invokestatic 55, 3) := by decide +kernel
theorem dX0_washSandAway_51 : decode cX0_washSandAway 51 = .ok (.istore_n 3, 1) := by decide +kernel
theorem dX0_washSandAway_52 : decode cX0_washSandAway 52 = .ok (.aload_n 0, 1) := by decide +kernel
theorem dX0_washSandAway_53 : decode cX0_washSandAway 53 = .ok (.getfield 9, 3) := by decide +kernel
theorem dX0_washSandAway_56 : decode cX0_washSandAway 56 = .ok (.iload_n 2, 1) := by decide +kernel
theorem dX0_washSandAway_57 : decode cX0_washSandAway 57 = .ok (.dup2, 1) := by decide +kernel
theorem dX0_washSandAway_58 : decode cX0_washSandAway 58 = .ok (.iaload, 1) := by decide +kernel
theorem dX0_washSandAway_59 : decode cX0_washSandAway 59 = .ok (.iload_n 3, 1) := by decide +kernel
theorem dX0_washSandAway_60 : decode cX0_washSandAway 60 = .ok (.isub, 1) := by decide +kernel
theorem dX0_washSandAway_61 : decode cX0_washSandAway 61 = .ok (.iastore, 1) := by decide +kernel
theorem dX0_washSandAway_62 : decode cX0_washSandAway 62 = .ok (.aload_n 0, 1) := by decide +kernel
theorem dX0_washSandAway_63 : decode cX0_washSandAway 63 = .ok (.dup, 1) := by decide +kernel
theorem dX0_washSandAway_64 : decode cX0_washSandAway 64 = .ok (.getfield 39, 3) := by decide +kernel
theorem dX0_washSandAway_67 : decode cX0_washSandAway 67 = .ok (.iload_n 3, 1) := by decide +kernel
theorem dX0_washSandAway_68 : decode cX0_washSandAway 68 = .ok (.iadd, 1) := by decide +kernel
theorem dX0_washSandAway_69 : decode cX0_washSandAway 69 = .ok (.putfield 39, 3) := by decide +kernel
theorem dX0_washSandAway_72 : decode cX0_washSandAway 72 = .ok (.aload_n 0, 1) := by decide +kernel
theorem dX0_washSandAway_73 : decode cX0_washSandAway 73 = .ok (.iload_n 2, 1) := by decide +kernel
theorem dX0_washSandAway_74 : decode cX0_washSandAway 74 = .ok (.invokevirtual 61, 3) := by decide +kernel
theorem dX0_washSandAway_77 : decode cX0_washSandAway 77 = .ok (.iinc 2 1, 3) := by decide +kernel
theorem dX0_washSandAway_80 : decode cX0_washSandAway 80 = .ok (.goto (-78), 3) := by decide +kernel
theorem dX0_washSandAway_83 : decode cX0_washSandAway 83 = .ok (.return_, 1) := by decide +kernel
set_option maxRecDepth 20000 in
theorem ggX0_letSandSlide_X0_slideOnce : GoodIn wsX0_letSandSlide wsX0_slideOnce := goodIn_r _ [5, 6, 7, 8, 9, 4, 10, 11, 12, 13, 14, 15, 16, 17, 18, 19, 20, 21, 22, 23, 24, 25, 26, 27, 28, 29, 30, 31] (by decide +kernel) (by decide +kernel)
set_option maxRecDepth 20000 in
theorem gX0_letSandSlide_X0_slideOnce : GoodIn wsX0_letSandSlide (wsV RX0 98 RX0 yX0_slideOnce wsX0_slideOnce) := goodIn_app (goodIn_of _ (by decide +kernel)) ggX0_letSandSlide_X0_slideOnce
theorem dX0_letSandSlide_0 : decode cX0_letSandSlide 0 = .ok (.iconst 0, 1) := by decide +kernel
theorem dX0_letSandSlide_1 : decode cX0_letSandSlide 1 = .ok (.istore_n 1, 1) := by decide +kernel
theorem dX0_letSandSlide_2 : decode cX0_letSandSlide 2 = .ok (.iconst 1, 1) := by decide +kernel
theorem dX0_letSandSlide_3 : decode cX0_letSandSlide 3 = .ok (.istore_n 2, 1) := by decide +kernel
theorem dX0_letSandSlide_4 : decode cX0_letSandSlide 4 = .ok (.iconst 0, 1) := by decide +kernel
theorem dX0_letSandSlide_5 : decode cX0_letSandSlide 5 = .ok (.istore_n 3, 1) := by decide +kernel
theorem dX0_letSandSlide_6 : decode cX0_letSandSlide 6 = .ok (.iload_n 2, 1) := by decide +kernel
theorem dX0_letSandSlide_7 : decode cX0_letSandSlide 7 = .ok (.ifCond .le 24, 3) := by decide +kernel
theorem dX0_letSandSlide_10 : decode cX0_letSandSlide 10 = .ok (.iload_n 3, 1) := by decide +kernel
theorem dX0_letSandSlide_11 : decode cX0_letSandSlide 11 = .ok (.bipush 40, 2) := by decide +kernel
theorem dX0_letSandSlide_13 : decode cX0_letSandSlide 13 = .ok (.if_icmp .ge 18, 3) := by decide +kernel
theorem dX0_letSandSlide_16 : decode cX0_letSandSlide 16 = .ok (.aload_n 0, 1) := by decide +kernel
theorem dX0_letSandSlide_17 : decode cX0_letSandSlide 17 = .ok (.invokevirtual 98, 3) := by decide +kernel
theorem dX0_letSandSlide_20 : decode cX0_letSandSlide 20 = .ok (.istore_n 2, 1) := by decide +kernel
theorem dX0_letSandSlide_21 : decode cX0_letSandSlide 21 = .ok (.iload_n 1, 1) := by decide +kernel
theorem dX0_letSandSlide_22 : decode cX0_letSandSlide 22 = .ok (.iload_n 2, 1) := by decide +kernel
theorem dX0_letSandSlide_23 : decode cX0_letSandSlide 23 = .ok (.iadd, 1) := by decide +kernel
theorem dX0_letSandSlide_24 : decode cX0_letSandSlide 24 = .ok (.istore_n 1, 1) := by decide +kernel
theorem dX0_letSandSlide_25 : decode cX0_letSandSlide 25 = .ok (.iinc 3 1, 3) := by decide +kernel
theorem dX0_letSandSlide_28 : decode cX0_letSandSlide 28 = .ok (.goto (-22), 3) := by decide +kernel
theorem dX0_letSandSlide_31 : decode cX0_letSandSlide 31 = .ok (.iload_n 1, 1) := by decide +kernel
theorem dX0_letSandSlide_32 : decode cX0_letSandSlide 32 = .ok (.ireturn, 1) := by decide +kernel
set_option maxRecDepth 20000 in
theorem ggX0_slideOnce_X0_lowestBeside : GoodIn wsX0_slideOnce wsX0_lowestBeside := goodIn_r _ [6, 7, 8, 5, 9, 10, 11, 12, 13, 1, 19, 20, 21, 22, 23, 24, 25, 26, 27] (by decide +kernel) (by decide +kernel)
set_option maxRecDepth 20000 in
theorem gX0_slideOnce_X0_lowestBeside : GoodIn wsX0_slideOnce (wsV RX0 101 RX0 yX0_lowestBeside wsX0_lowestBeside) := goodIn_app (goodIn_of _ (by decide +kernel)) ggX0_slideOnce_X0_lowestBeside
set_option maxRecDepth 20000 in
theorem ggX0_slideOnce_X0_slidesTo : GoodIn wsX0_slideOnce wsX0_slidesTo := goodIn_r _ [17, 1, 18, 10, 11, 12, 5, 13, 19, 20, 21, 22, 23, 24, 25, 26, 27] (by decide +kernel) (by decide +kernel)
set_option maxRecDepth 20000 in
theorem gX0_slideOnce_X0_slidesTo : GoodIn wsX0_slideOnce (wsV RX0 104 RX0 yX0_slidesTo wsX0_slidesTo) := goodIn_app (goodIn_of _ (by decide +kernel)) ggX0_slideOnce_X0_slidesTo
theorem dX0_slideOnce_0 : decode cX0_slideOnce 0 = .ok (.iconst 0, 1) := by decide +kernel
theorem dX0_slideOnce_1 : decode cX0_slideOnce 1 = .ok (.istore_n 1, 1) := by decide +kernel
theorem dX0_slideOnce_2 : decode cX0_slideOnce 2 = .ok (.iconst 0, 1) := by decide +kernel
theorem dX0_slideOnce_3 : decode cX0_slideOnce 3 = .ok (.istore_n 2, 1) := by decide +kernel
theorem dX0_slideOnce_4 : decode cX0_slideOnce 4 = .ok (.iload_n 2, 1) := by decide +kernel
theorem dX0_slideOnce_5 : decode cX0_slideOnce 5 = .ok (.bipush 120, 2) := by decide +kernel
theorem dX0_slideOnce_7 : decode cX0_slideOnce 7 = .ok (.if_icmp .ge 52, 3) := by decide +kernel
theorem dX0_slideOnce_10 : decode cX0_slideOnce 10 = .ok (.aload_n 0, 1) := by decide +kernel
theorem dX0_slideOnce_11 : decode cX0_slideOnce 11 = .ok (.iload_n 2, 1) := by decide +kernel
theorem dX0_slideOnce_12 : decode cX0_slideOnce 12 = .ok (.invokevirtual 101, 3) := by decide +kernel
theorem dX0_slideOnce_15 : decode cX0_slideOnce 15 = .ok (.istore_n 3, 1) := by decide +kernel
theorem dX0_slideOnce_16 : decode cX0_slideOnce 16 = .ok (.iload_n 3, 1) := by decide +kernel
theorem dX0_slideOnce_17 : decode cX0_slideOnce 17 = .ok (.iconst (-1), 1) := by decide +kernel
theorem dX0_slideOnce_18 : decode cX0_slideOnce 18 = .ok (.if_icmp .eq 35, 3) := by decide +kernel
theorem dX0_slideOnce_21 : decode cX0_slideOnce 21 = .ok (.aload_n 0, 1) := by decide +kernel
theorem dX0_slideOnce_22 : decode cX0_slideOnce 22 = .ok (.iload_n 2, 1) := by decide +kernel
theorem dX0_slideOnce_23 : decode cX0_slideOnce 23 = .ok (.iload_n 3, 1) := by decide +kernel
theorem dX0_slideOnce_24 : decode cX0_slideOnce 24 = .ok (.invokevirtual 104, 3) := by decide +kernel
theorem dX0_slideOnce_27 : decode cX0_slideOnce 27 = .ok (.ifCond .eq 26, 3) := by decide +kernel
theorem dX0_slideOnce_30 : decode cX0_slideOnce 30 = .ok (.aload_n 0, 1) := by decide +kernel
theorem dX0_slideOnce_31 : decode cX0_slideOnce 31 = .ok (.getfield 9, 3) := by decide +kernel
theorem dX0_slideOnce_34 : decode cX0_slideOnce 34 = .ok (.iload_n 2, 1) := by decide +kernel
theorem dX0_slideOnce_35 : decode cX0_slideOnce 35 = .ok (.dup2, 1) := by decide +kernel
theorem dX0_slideOnce_36 : decode cX0_slideOnce 36 = .ok (.iaload, 1) := by decide +kernel
theorem dX0_slideOnce_37 : decode cX0_slideOnce 37 = .ok (.iconst 1, 1) := by decide +kernel
theorem dX0_slideOnce_38 : decode cX0_slideOnce 38 = .ok (.isub, 1) := by decide +kernel
theorem dX0_slideOnce_39 : decode cX0_slideOnce 39 = .ok (.iastore, 1) := by decide +kernel
theorem dX0_slideOnce_40 : decode cX0_slideOnce 40 = .ok (.aload_n 0, 1) := by decide +kernel
theorem dX0_slideOnce_41 : decode cX0_slideOnce 41 = .ok (.getfield 9, 3) := by decide +kernel
theorem dX0_slideOnce_44 : decode cX0_slideOnce 44 = .ok (.iload_n 3, 1) := by decide +kernel
theorem dX0_slideOnce_45 : decode cX0_slideOnce 45 = .ok (.dup2, 1) := by decide +kernel
theorem dX0_slideOnce_46 : decode cX0_slideOnce 46 = .ok (.iaload, 1) := by decide +kernel
theorem dX0_slideOnce_47 : decode cX0_slideOnce 47 = .ok (.iconst 1, 1) := by decide +kernel
theorem dX0_slideOnce_48 : decode cX0_slideOnce 48 = .ok (.iadd, 1) := by decide +kernel
theorem dX0_slideOnce_49 : decode cX0_slideOnce 49 = .ok (.iastore, 1) := by decide +kernel
theorem dX0_slideOnce_50 : decode cX0_slideOnce 50 = .ok (.iinc 1 1, 3) := by decide +kernel
theorem dX0_slideOnce_53 : decode cX0_slideOnce 53 = .ok (.iinc 2 1, 3) := by decide +kernel
theorem dX0_slideOnce_56 : decode cX0_slideOnce 56 = .ok (.goto (-52), 3) := by decide +kernel
theorem dX0_slideOnce_59 : decode cX0_slideOnce 59 = .ok (.iload_n 1, 1) := by decide +kernel
theorem dX0_slideOnce_60 : decode cX0_slideOnce 60 = .ok (.ireturn, 1) := by decide +kernel
set_option maxRecDepth 20000 in
theorem ggX0_slidesTo_X0_height : GoodIn wsX0_slidesTo wsX0_height := goodIn_r _ [7, 1, 8, 9, 10, 11, 12, 13, 14, 15, 16] (by decide +kernel) (by decide +kernel)
set_option maxRecDepth 20000 in
theorem gX0_slidesTo_X0_height : GoodIn wsX0_slidesTo (wsV RX0 69 RX0 yX0_height wsX0_height) := goodIn_app (goodIn_of _ (by decide +kernel)) ggX0_slidesTo_X0_height
theorem dX0_slidesTo_0 : decode cX0_slidesTo 0 = .ok (.aload_n 0, 1) := by decide +kernel
theorem dX0_slidesTo_1 : decode cX0_slidesTo 1 = .ok (.getfield 9, 3) := by decide +kernel
theorem dX0_slidesTo_4 : decode cX0_slidesTo 4 = .ok (.iload_n 1, 1) := by decide +kernel
theorem dX0_slidesTo_5 : decode cX0_slidesTo 5 = .ok (.iaload, 1) := by decide +kernel
theorem dX0_slidesTo_6 : decode cX0_slidesTo 6 = .ok (.ifCond .le 40, 3) := by decide +kernel
theorem dX0_slidesTo_9 : decode cX0_slidesTo 9 = .ok (.aload_n 0, 1) := by decide +kernel
theorem dX0_slidesTo_10 : decode cX0_slidesTo 10 = .ok (.iload_n 1, 1) := by decide +kernel
theorem dX0_slidesTo_11 : decode cX0_slidesTo 11 = .ok (.invokevirtual 69, 3) := by decide +kernel
theorem dX0_slidesTo_14 : decode cX0_slidesTo 14 = .ok (.aload_n 0, 1) := by decide +kernel
theorem dX0_slidesTo_15 : decode cX0_slidesTo 15 = .ok (.iload_n 2, 1) := by decide +kernel
theorem dX0_slidesTo_16 : decode cX0_slidesTo 16 = .ok (.invokevirtual 69, 3) := by decide +kernel
theorem dX0_slidesTo_19 : decode cX0_slidesTo 19 = .ok (.iconst 4, 1) := by decide +kernel
theorem dX0_slidesTo_20 : decode cX0_slidesTo 20 = .ok (.iadd, 1) := by decide +kernel
theorem dX0_slidesTo_21 : decode cX0_slidesTo 21 = .ok (.aload_n 0, 1) := by decide +kernel
theorem dX0_slidesTo_22 : decode cX0_slidesTo 22 = .ok (.getfield 15, 3) := by decide +kernel
theorem dX0_slidesTo_25 : decode cX0_slidesTo 25 = .ok (.iload_n 1, 1) := by decide +kernel
theorem dX0_slidesTo_26 : decode cX0_slidesTo 26 = .ok (.iaload, 1) := by decide +kernel
theorem dX0_slidesTo_27 : decode cX0_slidesTo 27 = .ok (.iadd, 1) := by decide +kernel
theorem dX0_slidesTo_28 : decode cX0_slidesTo 28 = .ok (.if_icmp .le 18, 3) := by decide +kernel
theorem dX0_slidesTo_31 : decode cX0_slidesTo 31 = .ok (.aload_n 0, 1) := by decide +kernel
theorem dX0_slidesTo_32 : decode cX0_slidesTo 32 = .ok (.getfield 9, 3) := by decide +kernel
theorem dX0_slidesTo_35 : decode cX0_slidesTo 35 = .ok (.iload_n 2, 1) := by decide +kernel
theorem dX0_slidesTo_36 : decode cX0_slidesTo 36 = .ok (.iaload, 1) := by decide +kernel
theorem dX0_slidesTo_37 : decode cX0_slidesTo 37 = .ok (.bipush 20, 2) := by decide +kernel
theorem dX0_slidesTo_39 : decode cX0_slidesTo 39 = .ok (.if_icmp .ge 7, 3) := by decide +kernel
theorem dX0_slidesTo_42 : decode cX0_slidesTo 42 = .ok (.iconst 1, 1) := by decide +kernel
theorem dX0_slidesTo_43 : decode cX0_slidesTo 43 = .ok (.goto 4, 3) := by decide +kernel
theorem dX0_slidesTo_46 : decode cX0_slidesTo 46 = .ok (.iconst 0, 1) := by decide +kernel
theorem dX0_slidesTo_47 : decode cX0_slidesTo 47 = .ok (.ireturn, 1) := by decide +kernel
set_option maxRecDepth 20000 in
theorem ggX0_lowestBeside_X0_beside : GoodIn wsX0_lowestBeside wsX0_beside := goodIn_r _ [4] (by decide +kernel) (by decide +kernel)
set_option maxRecDepth 20000 in
theorem gX0_lowestBeside_X0_beside : GoodIn wsX0_lowestBeside (va_wsS RX0 92 yX0_beside wsX0_beside) := goodIn_app (goodIn_of _ (by decide +kernel)) ggX0_lowestBeside_X0_beside
set_option maxRecDepth 20000 in
theorem ggX0_lowestBeside_X0_height : GoodIn wsX0_lowestBeside wsX0_height := goodIn_r _ [8, 9, 10, 11, 12, 13, 14, 15, 16, 17, 18] (by decide +kernel) (by decide +kernel)
set_option maxRecDepth 20000 in
theorem gX0_lowestBeside_X0_height : GoodIn wsX0_lowestBeside (wsV RX0 69 RX0 yX0_height wsX0_height) := goodIn_app (goodIn_of _ (by decide +kernel)) ggX0_lowestBeside_X0_height
theorem dX0_lowestBeside_0 : decode cX0_lowestBeside 0 = .ok (.iconst (-1), 1) := by decide +kernel
theorem dX0_lowestBeside_1 : decode cX0_lowestBeside 1 = .ok (.istore_n 2, 1) := by decide +kernel
theorem dX0_lowestBeside_2 : decode cX0_lowestBeside 2 = .ok (.iconst 0, 1) := by decide +kernel
theorem dX0_lowestBeside_3 : decode cX0_lowestBeside 3 = .ok (.istore_n 3, 1) := by decide +kernel
theorem dX0_lowestBeside_4 : decode cX0_lowestBeside 4 = .ok (.iload_n 3, 1) := by decide +kernel
theorem dX0_lowestBeside_5 : decode cX0_lowestBeside 5 = .ok (.iconst 4, 1) := by decide +kernel
theorem dX0_lowestBeside_6 : decode cX0_lowestBeside 6 = .ok (.if_icmp .ge 44, 3) := by decide +kernel
theorem dX0_lowestBeside_9 : decode cX0_lowestBeside 9 = .ok (.iload_n 1, 1) := by decide +kernel
theorem dX0_lowestBeside_10 : decode cX0_lowestBeside 10 = .ok (.iload_n 3, 1) := by decide +kernel
theorem dX0_lowestBeside_11 : decode cX0_lowestBeside 11 = .ok (.invokestatic 92, 3) := by decide +kernel
theorem dX0_lowestBeside_14 : decode cX0_lowestBeside 14 = .ok (.istore 4, 2) := by decide +kernel
theorem dX0_lowestBeside_16 : decode cX0_lowestBeside 16 = .ok (.iload 4, 2) := by decide +kernel
theorem dX0_lowestBeside_18 : decode cX0_lowestBeside 18 = .ok (.iconst (-1), 1) := by decide +kernel
theorem dX0_lowestBeside_19 : decode cX0_lowestBeside 19 = .ok (.if_icmp .eq 25, 3) := by decide +kernel
theorem dX0_lowestBeside_22 : decode cX0_lowestBeside 22 = .ok (.iload_n 2, 1) := by decide +kernel
theorem dX0_lowestBeside_23 : decode cX0_lowestBeside 23 = .ok (.iconst (-1), 1) := by decide +kernel
theorem dX0_lowestBeside_24 : decode cX0_lowestBeside 24 = .ok (.if_icmp .eq 17, 3) := by decide +kernel
theorem dX0_lowestBeside_27 : decode cX0_lowestBeside 27 = .ok (.aload_n 0, 1) := by decide +kernel
theorem dX0_lowestBeside_28 : decode cX0_lowestBeside 28 = .ok (.iload 4, 2) := by decide +kernel
theorem dX0_lowestBeside_30 : decode cX0_lowestBeside 30 = .ok (.invokevirtual 69, 3) := by decide +kernel
theorem dX0_lowestBeside_33 : decode cX0_lowestBeside 33 = .ok (.aload_n 0, 1) := by decide +kernel
theorem dX0_lowestBeside_34 : decode cX0_lowestBeside 34 = .ok (.iload_n 2, 1) := by decide +kernel
theorem dX0_lowestBeside_35 : decode cX0_lowestBeside 35 = .ok (.invokevirtual 69, 3) := by decide +kernel
theorem dX0_lowestBeside_38 : decode cX0_lowestBeside 38 = .ok (.if_icmp .ge 6, 3) := by decide +kernel
theorem dX0_lowestBeside_41 : decode cX0_lowestBeside 41 = .ok (.iload 4, 2) := by decide +kernel
theorem dX0_lowestBeside_43 : decode cX0_lowestBeside 43 = .ok (.istore_n 2, 1) := by decide +kernel
theorem dX0_lowestBeside_44 : decode cX0_lowestBeside 44 = .ok (.iinc 3 1, 3) := by decide +kernel
theorem dX0_lowestBeside_47 : decode cX0_lowestBeside 47 = .ok (.goto (-43), 3) := by decide +kernel
theorem dX0_lowestBeside_50 : decode cX0_lowestBeside 50 = .ok (.iload_n 2, 1) := by decide +kernel
theorem dX0_lowestBeside_51 : decode cX0_lowestBeside 51 = .ok (.ireturn, 1) := by decide +kernel
theorem dX0_beside_0 : decode cX0_beside 0 = .ok (.iload_n 0, 1) := by decide +kernel
theorem dX0_beside_1 : decode cX0_beside 1 = .ok (.bipush 12, 2) := by decide +kernel
theorem dX0_beside_3 : decode cX0_beside 3 = .ok (.irem, 1) := by decide +kernel
theorem dX0_beside_4 : decode cX0_beside 4 = .ok (.istore_n 2, 1) := by decide +kernel
theorem dX0_beside_5 : decode cX0_beside 5 = .ok (.iload_n 1, 1) := by decide +kernel
theorem dX0_beside_6 : decode cX0_beside 6 = .ok (.tableswitch 67 0 2 #[26, 41, 53], 26) := by decide +kernel
theorem dX0_beside_32 : decode cX0_beside 32 = .ok (.iload_n 0, 1) := by decide +kernel
theorem dX0_beside_33 : decode cX0_beside 33 = .ok (.bipush 12, 2) := by decide +kernel
theorem dX0_beside_35 : decode cX0_beside 35 = .ok (.if_icmp .lt 10, 3) := by decide +kernel
theorem dX0_beside_38 : decode cX0_beside 38 = .ok (.iload_n 0, 1) := by decide +kernel
theorem dX0_beside_39 : decode cX0_beside 39 = .ok (.bipush 12, 2) := by decide +kernel
theorem dX0_beside_41 : decode cX0_beside 41 = .ok (.isub, 1) := by decide +kernel
theorem dX0_beside_42 : decode cX0_beside 42 = .ok (.goto 4, 3) := by decide +kernel
theorem dX0_beside_45 : decode cX0_beside 45 = .ok (.iconst (-1), 1) := by decide +kernel
theorem dX0_beside_46 : decode cX0_beside 46 = .ok (.ireturn, 1) := by decide +kernel
theorem dX0_beside_47 : decode cX0_beside 47 = .ok (.iload_n 2, 1) := by decide +kernel
theorem dX0_beside_48 : decode cX0_beside 48 = .ok (.ifCond .le 9, 3) := by decide +kernel
theorem dX0_beside_51 : decode cX0_beside 51 = .ok (.iload_n 0, 1) := by decide +kernel
theorem dX0_beside_52 : decode cX0_beside 52 = .ok (.iconst 1, 1) := by decide +kernel
theorem dX0_beside_53 : decode cX0_beside 53 = .ok (.isub, 1) := by decide +kernel
theorem dX0_beside_54 : decode cX0_beside 54 = .ok (.goto 4, 3) := by decide +kernel
theorem dX0_beside_57 : decode cX0_beside 57 = .ok (.iconst (-1), 1) := by decide +kernel
theorem dX0_beside_58 : decode cX0_beside 58 = .ok (.ireturn, 1) := by decide +kernel
theorem dX0_beside_59 : decode cX0_beside 59 = .ok (.iload_n 2, 1) := by decide +kernel
theorem dX0_beside_60 : decode cX0_beside 60 = .ok (.bipush 11, 2) := by decide +kernel
theorem dX0_beside_62 : decode cX0_beside 62 = .ok (.if_icmp .ge 9, 3) := by decide +kernel
theorem dX0_beside_65 : decode cX0_beside 65 = .ok (.iload_n 0, 1) := by decide +kernel
theorem dX0_beside_66 : decode cX0_beside 66 = .ok (.iconst 1, 1) := by decide +kernel
theorem dX0_beside_67 : decode cX0_beside 67 = .ok (.iadd, 1) := by decide +kernel
theorem dX0_beside_68 : decode cX0_beside 68 = .ok (.goto 4, 3) := by decide +kernel
theorem dX0_beside_71 : decode cX0_beside 71 = .ok (.iconst (-1), 1) := by decide +kernel
theorem dX0_beside_72 : decode cX0_beside 72 = .ok (.ireturn, 1) := by decide +kernel
theorem dX0_beside_73 : decode cX0_beside 73 = .ok (.iload_n 0, 1) := by decide +kernel
theorem dX0_beside_74 : decode cX0_beside 74 = .ok (.bipush 108, 2) := by decide +kernel
theorem dX0_beside_76 : decode cX0_beside 76 = .ok (.if_icmp .ge 10, 3) := by decide +kernel
theorem dX0_beside_79 : decode cX0_beside 79 = .ok (.iload_n 0, 1) := by decide +kernel
theorem dX0_beside_80 : decode cX0_beside 80 = .ok (.bipush 12, 2) := by decide +kernel
theorem dX0_beside_82 : decode cX0_beside 82 = .ok (.iadd, 1) := by decide +kernel
theorem dX0_beside_83 : decode cX0_beside 83 = .ok (.goto 4, 3) := by decide +kernel
theorem dX0_beside_86 : decode cX0_beside 86 = .ok (.iconst (-1), 1) := by decide +kernel
theorem dX0_beside_87 : decode cX0_beside 87 = .ok (.ireturn, 1) := by decide +kernel
set_option maxRecDepth 20000 in
theorem ggX0_judgeSticks_X0_isWet : GoodIn wsX0_judgeSticks wsX0_isWet := goodIn_r _ [10, 11, 16, 17, 18, 19, 20, 21, 22, 23, 24] (by decide +kernel) (by decide +kernel)
set_option maxRecDepth 20000 in
theorem gX0_judgeSticks_X0_isWet : GoodIn wsX0_judgeSticks (wsV RX0 65 RX0 yX0_isWet wsX0_isWet) := goodIn_app (goodIn_of _ (by decide +kernel)) ggX0_judgeSticks_X0_isWet
set_option maxRecDepth 20000 in
theorem ggX0_judgeSticks_X0_height : GoodIn wsX0_judgeSticks wsX0_height := goodIn_r _ [15, 5, 16, 17, 18, 19, 20, 21, 22, 23, 24] (by decide +kernel) (by decide +kernel)
set_option maxRecDepth 20000 in
theorem gX0_judgeSticks_X0_height : GoodIn wsX0_judgeSticks (wsV RX0 69 RX0 yX0_height wsX0_height) := goodIn_app (goodIn_of _ (by decide +kernel)) ggX0_judgeSticks_X0_height
theorem dX0_judgeSticks_0 : decode cX0_judgeSticks 0 = .ok (.iconst 0, 1) := by decide +kernel
theorem dX0_judgeSticks_1 : decode cX0_judgeSticks 1 = .ok (.istore_n 1, 1) := by decide +kernel
theorem dX0_judgeSticks_2 : decode cX0_judgeSticks 2 = .ok (.iload_n 1, 1) := by decide +kernel
theorem dX0_judgeSticks_3 : decode cX0_judgeSticks 3 = .ok (.bipush 120, 2) := by decide +kernel
theorem dX0_judgeSticks_5 : decode cX0_judgeSticks 5 = .ok (.if_icmp .ge 96, 3) := by decide +kernel
theorem dX0_judgeSticks_8 : decode cX0_judgeSticks 8 = .ok (.aload_n 0, 1) := by decide +kernel
theorem dX0_judgeSticks_9 : decode cX0_judgeSticks 9 = .ok (.getfield 21, 3) := by decide +kernel
theorem dX0_judgeSticks_12 : decode cX0_judgeSticks 12 = .ok (.iload_n 1, 1) := by decide +kernel
theorem dX0_judgeSticks_13 : decode cX0_judgeSticks 13 = .ok (.iaload, 1) := by decide +kernel
theorem dX0_judgeSticks_14 : decode cX0_judgeSticks 14 = .ok (.istore_n 2, 1) := by decide +kernel
theorem dX0_judgeSticks_15 : decode cX0_judgeSticks 15 = .ok (.iload_n 2, 1) := by decide +kernel
theorem dX0_judgeSticks_16 : decode cX0_judgeSticks 16 = .ok (.ifCond .lt 79, 3) := by decide +kernel
theorem dX0_judgeSticks_19 : decode cX0_judgeSticks 19 = .ok (.iload_n 2, 1) := by decide +kernel
theorem dX0_judgeSticks_20 : decode cX0_judgeSticks 20 = .ok (.bipush 120, 2) := by decide +kernel
theorem dX0_judgeSticks_22 : decode cX0_judgeSticks 22 = .ok (.if_icmp .ge 73, 3) := by decide +kernel
theorem dX0_judgeSticks_25 : decode cX0_judgeSticks 25 = .ok (.aload_n 0, 1) := by decide +kernel
theorem dX0_judgeSticks_26 : decode cX0_judgeSticks 26 = .ok (.iload_n 1, 1) := by decide +kernel
theorem dX0_judgeSticks_27 : decode cX0_judgeSticks 27 = .ok (.invokevirtual 65, 3) := by decide +kernel
theorem dX0_judgeSticks_30 : decode cX0_judgeSticks 30 = .ok (.ifCond .ne 19, 3) := by decide +kernel
theorem dX0_judgeSticks_33 : decode cX0_judgeSticks 33 = .ok (.aload_n 0, 1) := by decide +kernel
theorem dX0_judgeSticks_34 : decode cX0_judgeSticks 34 = .ok (.iload_n 1, 1) := by decide +kernel
theorem dX0_judgeSticks_35 : decode cX0_judgeSticks 35 = .ok (.invokevirtual 69, 3) := by decide +kernel
theorem dX0_judgeSticks_38 : decode cX0_judgeSticks 38 = .ok (.aload_n 0, 1) := by decide +kernel
theorem dX0_judgeSticks_39 : decode cX0_judgeSticks 39 = .ok (.getfield 24, 3) := by decide +kernel
theorem dX0_judgeSticks_42 : decode cX0_judgeSticks 42 = .ok (.iload_n 1, 1) := by decide +kernel
theorem dX0_judgeSticks_43 : decode cX0_judgeSticks 43 = .ok (.iaload, 1) := by decide +kernel
theorem dX0_judgeSticks_44 : decode cX0_judgeSticks 44 = .ok (.iconst 1, 1) := by decide +kernel
theorem dX0_judgeSticks_45 : decode cX0_judgeSticks 45 = .ok (.isub, 1) := by decide +kernel
theorem dX0_judgeSticks_46 : decode cX0_judgeSticks 46 = .ok (.if_icmp .ge 30, 3) := by decide +kernel
theorem dX0_judgeSticks_49 : decode cX0_judgeSticks 49 = .ok (.aload_n 0, 1) := by decide +kernel
theorem dX0_judgeSticks_50 : decode cX0_judgeSticks 50 = .ok (.getfield 21, 3) := by decide +kernel
theorem dX0_judgeSticks_53 : decode cX0_judgeSticks 53 = .ok (.iload_n 1, 1) := by decide +kernel
theorem dX0_judgeSticks_54 : decode cX0_judgeSticks 54 = .ok (.iconst (-1), 1) := by decide +kernel
theorem dX0_judgeSticks_55 : decode cX0_judgeSticks 55 = .ok (.iastore, 1) := by decide +kernel
theorem dX0_judgeSticks_56 : decode cX0_judgeSticks 56 = .ok (.aload_n 0, 1) := by decide +kernel
theorem dX0_judgeSticks_57 : decode cX0_judgeSticks 57 = .ok (.getfield 24, 3) := by decide +kernel
theorem dX0_judgeSticks_60 : decode cX0_judgeSticks 60 = .ok (.iload_n 1, 1) := by decide +kernel
theorem dX0_judgeSticks_61 : decode cX0_judgeSticks 61 = .ok (.iconst 0, 1) := by decide +kernel
theorem dX0_judgeSticks_62 : decode cX0_judgeSticks 62 = .ok (.iastore, 1) := by decide +kernel
theorem dX0_judgeSticks_63 : decode cX0_judgeSticks 63 = .ok (.aload_n 0, 1) := by decide +kernel
theorem dX0_judgeSticks_64 : decode cX0_judgeSticks 64 = .ok (.dup, 1) := by decide +kernel
theorem dX0_judgeSticks_65 : decode cX0_judgeSticks 65 = .ok (.getfield 46, 3) := by decide +kernel
theorem dX0_judgeSticks_68 : decode cX0_judgeSticks 68 = .ok (.iconst 1, 1) := by decide +kernel
theorem dX0_judgeSticks_69 : decode cX0_judgeSticks 69 = .ok (.iadd, 1) := by decide +kernel
theorem dX0_judgeSticks_70 : decode cX0_judgeSticks 70 = .ok (.putfield 46, 3) := by decide +kernel
theorem dX0_judgeSticks_73 : decode cX0_judgeSticks 73 = .ok (.goto 22, 3) := by decide +kernel
theorem dX0_judgeSticks_76 : decode cX0_judgeSticks 76 = .ok (.aload_n 0, 1) := by decide +kernel
theorem dX0_judgeSticks_77 : decode cX0_judgeSticks 77 = .ok (.getfield 27, 3) := by decide +kernel
theorem dX0_judgeSticks_80 : decode cX0_judgeSticks 80 = .ok (.iload_n 2, 1) := by decide +kernel
theorem dX0_judgeSticks_81 : decode cX0_judgeSticks 81 = .ok (.dup2, 1) := by decide +kernel
theorem dX0_judgeSticks_82 : decode cX0_judgeSticks 82 = .ok (.iaload, 1) := by decide +kernel
theorem dX0_judgeSticks_83 : decode cX0_judgeSticks 83 = .ok (.iconst 1, 1) := by decide +kernel
theorem dX0_judgeSticks_84 : decode cX0_judgeSticks 84 = .ok (.aload_n 0, 1) := by decide +kernel
theorem dX0_judgeSticks_85 : decode cX0_judgeSticks 85 = .ok (.getfield 9, 3) := by decide +kernel
theorem dX0_judgeSticks_88 : decode cX0_judgeSticks 88 = .ok (.iload_n 1, 1) := by decide +kernel
theorem dX0_judgeSticks_89 : decode cX0_judgeSticks 89 = .ok (.iaload, 1) := by decide +kernel
theorem dX0_judgeSticks_90 : decode cX0_judgeSticks 90 = .ok (.iconst 5, 1) := by decide +kernel
theorem dX0_judgeSticks_91 : decode cX0_judgeSticks 91 = .ok (.idiv, 1) := by decide +kernel
theorem dX0_judgeSticks_92 : decode cX0_judgeSticks 92 = .ok (.iadd, 1) := by decide +kernel
theorem dX0_judgeSticks_93 : decode cX0_judgeSticks 93 = .ok (.iadd, 1) := by decide +kernel
theorem dX0_judgeSticks_94 : decode cX0_judgeSticks 94 = .ok (.iastore, 1) := by decide +kernel
theorem dX0_judgeSticks_95 : decode cX0_judgeSticks 95 = .ok (.iinc 1 1, 3) := by decide +kernel
theorem dX0_judgeSticks_98 : decode cX0_judgeSticks 98 = .ok (.goto (-96), 3) := by decide +kernel
theorem dX0_judgeSticks_101 : decode cX0_judgeSticks 101 = .ok (.return_, 1) := by decide +kernel
theorem dX0_soften_0 : decode cX0_soften 0 = .ok (.aload_n 0, 1) := by decide +kernel
theorem dX0_soften_1 : decode cX0_soften 1 = .ok (.getfield 15, 3) := by decide +kernel
theorem dX0_soften_4 : decode cX0_soften 4 = .ok (.iload_n 1, 1) := by decide +kernel
theorem dX0_soften_5 : decode cX0_soften 5 = .ok (.iaload, 1) := by decide +kernel
theorem dX0_soften_6 : decode cX0_soften 6 = .ok (.ifCond .le 13, 3) := by decide +kernel
theorem dX0_soften_9 : decode cX0_soften 9 = .ok (.aload_n 0, 1) := by decide +kernel
theorem dX0_soften_10 : decode cX0_soften 10 = .ok (.getfield 15, 3) := by decide +kernel
theorem dX0_soften_13 : decode cX0_soften 13 = .ok (.iload_n 1, 1) := by decide +kernel
theorem dX0_soften_14 : decode cX0_soften 14 = .ok (.dup2, 1) := by decide +kernel
theorem dX0_soften_15 : decode cX0_soften 15 = .ok (.iaload, 1) := by decide +kernel
theorem dX0_soften_16 : decode cX0_soften 16 = .ok (.iconst 1, 1) := by decide +kernel
theorem dX0_soften_17 : decode cX0_soften 17 = .ok (.isub, 1) := by decide +kernel
theorem dX0_soften_18 : decode cX0_soften 18 = .ok (.iastore, 1) := by decide +kernel
theorem dX0_soften_19 : decode cX0_soften 19 = .ok (.return_, 1) := by decide +kernel
theorem dX0_height_0 : decode cX0_height 0 = .ok (.iconst 2, 1) := by decide +kernel
theorem dX0_height_1 : decode cX0_height 1 = .ok (.iload_n 1, 1) := by decide +kernel
theorem dX0_height_2 : decode cX0_height 2 = .ok (.bipush 12, 2) := by decide +kernel
theorem dX0_height_4 : decode cX0_height 4 = .ok (.idiv, 1) := by decide +kernel
theorem dX0_height_5 : decode cX0_height 5 = .ok (.imul, 1) := by decide +kernel
theorem dX0_height_6 : decode cX0_height 6 = .ok (.aload_n 0, 1) := by decide +kernel
theorem dX0_height_7 : decode cX0_height 7 = .ok (.getfield 9, 3) := by decide +kernel
theorem dX0_height_10 : decode cX0_height 10 = .ok (.iload_n 1, 1) := by decide +kernel
theorem dX0_height_11 : decode cX0_height 11 = .ok (.iaload, 1) := by decide +kernel
theorem dX0_height_12 : decode cX0_height 12 = .ok (.iadd, 1) := by decide +kernel
theorem dX0_height_13 : decode cX0_height 13 = .ok (.ireturn, 1) := by decide +kernel
theorem dX0_isWet_0 : decode cX0_isWet 0 = .ok (.aload_n 0, 1) := by decide +kernel
theorem dX0_isWet_1 : decode cX0_isWet 1 = .ok (.getfield 18, 3) := by decide +kernel
theorem dX0_isWet_4 : decode cX0_isWet 4 = .ok (.iload_n 1, 1) := by decide +kernel
theorem dX0_isWet_5 : decode cX0_isWet 5 = .ok (.iaload, 1) := by decide +kernel
theorem dX0_isWet_6 : decode cX0_isWet 6 = .ok (.ifCond .eq 7, 3) := by decide +kernel
theorem dX0_isWet_9 : decode cX0_isWet 9 = .ok (.iconst 1, 1) := by decide +kernel
theorem dX0_isWet_10 : decode cX0_isWet 10 = .ok (.goto 4, 3) := by decide +kernel
theorem dX0_isWet_13 : decode cX0_isWet 13 = .ok (.iconst 0, 1) := by decide +kernel
theorem dX0_isWet_14 : decode cX0_isWet 14 = .ok (.ireturn, 1) := by decide +kernel
theorem dX0_hasStick_0 : decode cX0_hasStick 0 = .ok (.aload_n 0, 1) := by decide +kernel
theorem dX0_hasStick_1 : decode cX0_hasStick 1 = .ok (.getfield 21, 3) := by decide +kernel
theorem dX0_hasStick_4 : decode cX0_hasStick 4 = .ok (.iload_n 1, 1) := by decide +kernel
theorem dX0_hasStick_5 : decode cX0_hasStick 5 = .ok (.iaload, 1) := by decide +kernel
theorem dX0_hasStick_6 : decode cX0_hasStick 6 = .ok (.iconst (-1), 1) := by decide +kernel
theorem dX0_hasStick_7 : decode cX0_hasStick 7 = .ok (.if_icmp .eq 7, 3) := by decide +kernel
theorem dX0_hasStick_10 : decode cX0_hasStick 10 = .ok (.iconst 1, 1) := by decide +kernel
theorem dX0_hasStick_11 : decode cX0_hasStick 11 = .ok (.goto 4, 3) := by decide +kernel
theorem dX0_hasStick_14 : decode cX0_hasStick 14 = .ok (.iconst 0, 1) := by decide +kernel
theorem dX0_hasStick_15 : decode cX0_hasStick 15 = .ok (.ireturn, 1) := by decide +kernel
set_option maxRecDepth 20000 in
theorem ggX0_isFree_X0_hasStick : GoodIn wsX0_isFree wsX0_hasStick := goodIn_r _ [5, 6, 12, 13, 14, 15, 16, 17, 18, 19, 20] (by decide +kernel) (by decide +kernel)
set_option maxRecDepth 20000 in
theorem gX0_isFree_X0_hasStick : GoodIn wsX0_isFree (wsV RX0 108 RX0 yX0_hasStick wsX0_hasStick) := goodIn_app (goodIn_of _ (by decide +kernel)) ggX0_isFree_X0_hasStick
set_option maxRecDepth 20000 in
theorem ggX0_isFree_X0_isWet : GoodIn wsX0_isFree wsX0_isWet := goodIn_r _ [10, 11, 12, 13, 14, 15, 16, 17, 18, 19, 20] (by decide +kernel) (by decide +kernel)
set_option maxRecDepth 20000 in
theorem gX0_isFree_X0_isWet : GoodIn wsX0_isFree (wsV RX0 65 RX0 yX0_isWet wsX0_isWet) := goodIn_app (goodIn_of _ (by decide +kernel)) ggX0_isFree_X0_isWet
theorem dX0_isFree_0 : decode cX0_isFree 0 = .ok (.aload_n 0, 1) := by decide +kernel
theorem dX0_isFree_1 : decode cX0_isFree 1 = .ok (.iload_n 1, 1) := by decide +kernel
theorem dX0_isFree_2 : decode cX0_isFree 2 = .ok (.invokevirtual 108, 3) := by decide +kernel
theorem dX0_isFree_5 : decode cX0_isFree 5 = .ok (.ifCond .ne 15, 3) := by decide +kernel
theorem dX0_isFree_8 : decode cX0_isFree 8 = .ok (.aload_n 0, 1) := by decide +kernel
theorem dX0_isFree_9 : decode cX0_isFree 9 = .ok (.iload_n 1, 1) := by decide +kernel
theorem dX0_isFree_10 : decode cX0_isFree 10 = .ok (.invokevirtual 65, 3) := by decide +kernel
theorem dX0_isFree_13 : decode cX0_isFree 13 = .ok (.ifCond .ne 7, 3) := by decide +kernel
theorem dX0_isFree_16 : decode cX0_isFree 16 = .ok (.iconst 1, 1) := by decide +kernel
theorem dX0_isFree_17 : decode cX0_isFree 17 = .ok (.goto 4, 3) := by decide +kernel
theorem dX0_isFree_20 : decode cX0_isFree 20 = .ok (.iconst 0, 1) := by decide +kernel
theorem dX0_isFree_21 : decode cX0_isFree 21 = .ok (.ireturn, 1) := by decide +kernel
set_option maxRecDepth 20000 in
theorem ggX0_tellCell_X0_height : GoodIn wsX0_tellCell wsX0_height := goodIn_r _ [9, 1, 15, 16, 17, 18, 19, 20, 21, 22, 23] (by decide +kernel) (by decide +kernel)
set_option maxRecDepth 20000 in
theorem gX0_tellCell_X0_height : GoodIn wsX0_tellCell (wsV RX0 69 RX0 yX0_height wsX0_height) := goodIn_app (goodIn_of _ (by decide +kernel)) ggX0_tellCell_X0_height
set_option maxRecDepth 20000 in
theorem ggX0_tellCell_X0_hasStick : GoodIn wsX0_tellCell wsX0_hasStick := goodIn_r _ [13, 14, 15, 16, 17, 18, 19, 20, 21, 22, 23] (by decide +kernel) (by decide +kernel)
set_option maxRecDepth 20000 in
theorem gX0_tellCell_X0_hasStick : GoodIn wsX0_tellCell (wsV RX0 108 RX0 yX0_hasStick wsX0_hasStick) := goodIn_app (goodIn_of _ (by decide +kernel)) ggX0_tellCell_X0_hasStick
theorem dX0_tellCell_0 : decode cX0_tellCell 0 = .ok (.iload_n 2, 1) := by decide +kernel
theorem dX0_tellCell_1 : decode cX0_tellCell 1 = .ok (.tableswitch 76 0 4 #[35, 42, 49, 55, 62], 35) := by decide +kernel
theorem dX0_tellCell_36 : decode cX0_tellCell 36 = .ok (.aload_n 0, 1) := by decide +kernel
theorem dX0_tellCell_37 : decode cX0_tellCell 37 = .ok (.getfield 9, 3) := by decide +kernel
theorem dX0_tellCell_40 : decode cX0_tellCell 40 = .ok (.iload_n 1, 1) := by decide +kernel
theorem dX0_tellCell_41 : decode cX0_tellCell 41 = .ok (.iaload, 1) := by decide +kernel
theorem dX0_tellCell_42 : decode cX0_tellCell 42 = .ok (.ireturn, 1) := by decide +kernel
theorem dX0_tellCell_43 : decode cX0_tellCell 43 = .ok (.aload_n 0, 1) := by decide +kernel
theorem dX0_tellCell_44 : decode cX0_tellCell 44 = .ok (.getfield 15, 3) := by decide +kernel
theorem dX0_tellCell_47 : decode cX0_tellCell 47 = .ok (.iload_n 1, 1) := by decide +kernel
theorem dX0_tellCell_48 : decode cX0_tellCell 48 = .ok (.iaload, 1) := by decide +kernel
theorem dX0_tellCell_49 : decode cX0_tellCell 49 = .ok (.ireturn, 1) := by decide +kernel
theorem dX0_tellCell_50 : decode cX0_tellCell 50 = .ok (.aload_n 0, 1) := by decide +kernel
theorem dX0_tellCell_51 : decode cX0_tellCell 51 = .ok (.iload_n 1, 1) := by decide +kernel
theorem dX0_tellCell_52 : decode cX0_tellCell 52 = .ok (.invokevirtual 69, 3) := by decide +kernel
theorem dX0_tellCell_55 : decode cX0_tellCell 55 = .ok (.ireturn, 1) := by decide +kernel
theorem dX0_tellCell_56 : decode cX0_tellCell 56 = .ok (.aload_n 0, 1) := by decide +kernel
theorem dX0_tellCell_57 : decode cX0_tellCell 57 = .ok (.getfield 18, 3) := by decide +kernel
theorem dX0_tellCell_60 : decode cX0_tellCell 60 = .ok (.iload_n 1, 1) := by decide +kernel
theorem dX0_tellCell_61 : decode cX0_tellCell 61 = .ok (.iaload, 1) := by decide +kernel
theorem dX0_tellCell_62 : decode cX0_tellCell 62 = .ok (.ireturn, 1) := by decide +kernel
theorem dX0_tellCell_63 : decode cX0_tellCell 63 = .ok (.aload_n 0, 1) := by decide +kernel
theorem dX0_tellCell_64 : decode cX0_tellCell 64 = .ok (.iload_n 1, 1) := by decide +kernel
theorem dX0_tellCell_65 : decode cX0_tellCell 65 = .ok (.invokevirtual 108, 3) := by decide +kernel
theorem dX0_tellCell_68 : decode cX0_tellCell 68 = .ok (.ifCond .eq 7, 3) := by decide +kernel
theorem dX0_tellCell_71 : decode cX0_tellCell 71 = .ok (.iconst 1, 1) := by decide +kernel
theorem dX0_tellCell_72 : decode cX0_tellCell 72 = .ok (.goto 4, 3) := by decide +kernel
theorem dX0_tellCell_75 : decode cX0_tellCell 75 = .ok (.iconst 0, 1) := by decide +kernel
theorem dX0_tellCell_76 : decode cX0_tellCell 76 = .ok (.ireturn, 1) := by decide +kernel
theorem dX0_tellCell_77 : decode cX0_tellCell 77 = .ok (.aload_n 0, 1) := by decide +kernel
theorem dX0_tellCell_78 : decode cX0_tellCell 78 = .ok (.getfield 24, 3) := by decide +kernel
theorem dX0_tellCell_81 : decode cX0_tellCell 81 = .ok (.iload_n 1, 1) := by decide +kernel
theorem dX0_tellCell_82 : decode cX0_tellCell 82 = .ok (.iaload, 1) := by decide +kernel
theorem dX0_tellCell_83 : decode cX0_tellCell 83 = .ok (.ireturn, 1) := by decide +kernel
theorem dX0_pointsOf_0 : decode cX0_pointsOf 0 = .ok (.aload_n 0, 1) := by decide +kernel
theorem dX0_pointsOf_1 : decode cX0_pointsOf 1 = .ok (.getfield 27, 3) := by decide +kernel
theorem dX0_pointsOf_4 : decode cX0_pointsOf 4 = .ok (.iload_n 1, 1) := by decide +kernel
theorem dX0_pointsOf_5 : decode cX0_pointsOf 5 = .ok (.iaload, 1) := by decide +kernel
theorem dX0_pointsOf_6 : decode cX0_pointsOf 6 = .ok (.ireturn, 1) := by decide +kernel
theorem dX0_sticksOf_0 : decode cX0_sticksOf 0 = .ok (.iconst 0, 1) := by decide +kernel
theorem dX0_sticksOf_1 : decode cX0_sticksOf 1 = .ok (.istore_n 2, 1) := by decide +kernel
theorem dX0_sticksOf_2 : decode cX0_sticksOf 2 = .ok (.iconst 0, 1) := by decide +kernel
theorem dX0_sticksOf_3 : decode cX0_sticksOf 3 = .ok (.istore_n 3, 1) := by decide +kernel
theorem dX0_sticksOf_4 : decode cX0_sticksOf 4 = .ok (.iload_n 3, 1) := by decide +kernel
theorem dX0_sticksOf_5 : decode cX0_sticksOf 5 = .ok (.bipush 120, 2) := by decide +kernel
theorem dX0_sticksOf_7 : decode cX0_sticksOf 7 = .ok (.if_icmp .ge 22, 3) := by decide +kernel
theorem dX0_sticksOf_10 : decode cX0_sticksOf 10 = .ok (.aload_n 0, 1) := by decide +kernel
theorem dX0_sticksOf_11 : decode cX0_sticksOf 11 = .ok (.getfield 21, 3) := by decide +kernel
theorem dX0_sticksOf_14 : decode cX0_sticksOf 14 = .ok (.iload_n 3, 1) := by decide +kernel
theorem dX0_sticksOf_15 : decode cX0_sticksOf 15 = .ok (.iaload, 1) := by decide +kernel
theorem dX0_sticksOf_16 : decode cX0_sticksOf 16 = .ok (.iload_n 1, 1) := by decide +kernel
theorem dX0_sticksOf_17 : decode cX0_sticksOf 17 = .ok (.if_icmp .ne 6, 3) := by decide +kernel
theorem dX0_sticksOf_20 : decode cX0_sticksOf 20 = .ok (.iinc 2 1, 3) := by decide +kernel
theorem dX0_sticksOf_23 : decode cX0_sticksOf 23 = .ok (.iinc 3 1, 3) := by decide +kernel
theorem dX0_sticksOf_26 : decode cX0_sticksOf 26 = .ok (.goto (-22), 3) := by decide +kernel
theorem dX0_sticksOf_29 : decode cX0_sticksOf 29 = .ok (.iload_n 2, 1) := by decide +kernel
theorem dX0_sticksOf_30 : decode cX0_sticksOf 30 = .ok (.ireturn, 1) := by decide +kernel
set_option maxRecDepth 20000 in
theorem ggX0_sandOfArea_X0_sumOfArea : GoodIn wsX0_sandOfArea wsX0_sumOfArea := goodIn_r _ [5, 6, 7, 8] (by decide +kernel) (by decide +kernel)
set_option maxRecDepth 20000 in
theorem gX0_sandOfArea_X0_sumOfArea : GoodIn wsX0_sandOfArea (va_wsS RX0 111 yX0_sumOfArea wsX0_sumOfArea) := goodIn_app (goodIn_of _ (by decide +kernel)) ggX0_sandOfArea_X0_sumOfArea
theorem dX0_sandOfArea_0 : decode cX0_sandOfArea 0 = .ok (.aload_n 0, 1) := by decide +kernel
theorem dX0_sandOfArea_1 : decode cX0_sandOfArea 1 = .ok (.getfield 9, 3) := by decide +kernel
theorem dX0_sandOfArea_4 : decode cX0_sandOfArea 4 = .ok (.iload_n 1, 1) := by decide +kernel
theorem dX0_sandOfArea_5 : decode cX0_sandOfArea 5 = .ok (.invokestatic 111, 3) := by decide +kernel
theorem dX0_sandOfArea_8 : decode cX0_sandOfArea 8 = .ok (.ireturn, 1) := by decide +kernel
set_option maxRecDepth 20000 in
theorem ggX0_waterOfArea_X0_sumOfArea : GoodIn wsX0_waterOfArea wsX0_sumOfArea := goodIn_r _ [5, 6, 7, 8] (by decide +kernel) (by decide +kernel)
set_option maxRecDepth 20000 in
theorem gX0_waterOfArea_X0_sumOfArea : GoodIn wsX0_waterOfArea (va_wsS RX0 111 yX0_sumOfArea wsX0_sumOfArea) := goodIn_app (goodIn_of _ (by decide +kernel)) ggX0_waterOfArea_X0_sumOfArea
theorem dX0_waterOfArea_0 : decode cX0_waterOfArea 0 = .ok (.aload_n 0, 1) := by decide +kernel
theorem dX0_waterOfArea_1 : decode cX0_waterOfArea 1 = .ok (.getfield 18, 3) := by decide +kernel
theorem dX0_waterOfArea_4 : decode cX0_waterOfArea 4 = .ok (.iload_n 1, 1) := by decide +kernel
theorem dX0_waterOfArea_5 : decode cX0_waterOfArea 5 = .ok (.invokestatic 111, 3) := by decide +kernel
theorem dX0_waterOfArea_8 : decode cX0_waterOfArea 8 = .ok (.ireturn, 1) := by decide +kernel
set_option maxRecDepth 20000 in
theorem ggX0_greatestHeightOfArea_X1_isInArea : GoodIn wsX0_greatestHeightOfArea wsX1_isInArea := goodIn_r _ [7] (by decide +kernel) (by decide +kernel)
set_option maxRecDepth 20000 in
theorem gX0_greatestHeightOfArea_X1_isInArea_n115 : GoodIn wsX0_greatestHeightOfArea (wsX1_isInArea) := ggX0_greatestHeightOfArea_X1_isInArea
set_option maxRecDepth 20000 in
theorem ggX0_greatestHeightOfArea_X0_height : GoodIn wsX0_greatestHeightOfArea wsX0_height := goodIn_r _ [12, 13, 14, 15, 16, 17, 18, 19, 20, 21, 22] (by decide +kernel) (by decide +kernel)
set_option maxRecDepth 20000 in
theorem gX0_greatestHeightOfArea_X0_height : GoodIn wsX0_greatestHeightOfArea (wsV RX0 69 RX0 yX0_height wsX0_height) := goodIn_app (goodIn_of _ (by decide +kernel)) ggX0_greatestHeightOfArea_X0_height
theorem dX0_greatestHeightOfArea_0 : decode cX0_greatestHeightOfArea 0 = .ok (.iconst 0, 1) := by decide +kernel
theorem dX0_greatestHeightOfArea_1 : decode cX0_greatestHeightOfArea 1 = .ok (.istore_n 2, 1) := by decide +kernel
theorem dX0_greatestHeightOfArea_2 : decode cX0_greatestHeightOfArea 2 = .ok (.iconst 0, 1) := by decide +kernel
theorem dX0_greatestHeightOfArea_3 : decode cX0_greatestHeightOfArea 3 = .ok (.istore_n 3, 1) := by decide +kernel
theorem dX0_greatestHeightOfArea_4 : decode cX0_greatestHeightOfArea 4 = .ok (.iload_n 3, 1) := by decide +kernel
theorem dX0_greatestHeightOfArea_5 : decode cX0_greatestHeightOfArea 5 = .ok (.bipush 120, 2) := by decide +kernel
theorem dX0_greatestHeightOfArea_7 : decode cX0_greatestHeightOfArea 7 = .ok (.if_icmp .ge 27, 3) := by decide +kernel
theorem dX0_greatestHeightOfArea_10 : decode cX0_greatestHeightOfArea 10 = .ok (.iload_n 1, 1) := by decide +kernel
theorem dX0_greatestHeightOfArea_11 : decode cX0_greatestHeightOfArea 11 = .ok (.iload_n 3, 1) := by decide +kernel
theorem dX0_greatestHeightOfArea_12 : decode cX0_greatestHeightOfArea 12 = .ok (.invokestatic 115, 3) := by decide +kernel
theorem dX0_greatestHeightOfArea_15 : decode cX0_greatestHeightOfArea 15 = .ok (.ifCond .eq 13, 3) := by decide +kernel
theorem dX0_greatestHeightOfArea_18 : decode cX0_greatestHeightOfArea 18 = .ok (.iload_n 2, 1) := by decide +kernel
theorem dX0_greatestHeightOfArea_19 : decode cX0_greatestHeightOfArea 19 = .ok (.aload_n 0, 1) := by decide +kernel
theorem dX0_greatestHeightOfArea_20 : decode cX0_greatestHeightOfArea 20 = .ok (.iload_n 3, 1) := by decide +kernel
theorem dX0_greatestHeightOfArea_21 : decode cX0_greatestHeightOfArea 21 = .ok (.invokevirtual 69, 3) := by decide +kernel
theorem dX0_greatestHeightOfArea_24 : decode cX0_greatestHeightOfArea 24 = .ok (.invokestatic 95, 3) := by decide +kernel
theorem dX0_greatestHeightOfArea_27 : decode cX0_greatestHeightOfArea 27 = .ok (.istore_n 2, 1) := by decide +kernel
theorem dX0_greatestHeightOfArea_28 : decode cX0_greatestHeightOfArea 28 = .ok (.iinc 3 1, 3) := by decide +kernel
theorem dX0_greatestHeightOfArea_31 : decode cX0_greatestHeightOfArea 31 = .ok (.goto (-27), 3) := by decide +kernel
theorem dX0_greatestHeightOfArea_34 : decode cX0_greatestHeightOfArea 34 = .ok (.iload_n 2, 1) := by decide +kernel
theorem dX0_greatestHeightOfArea_35 : decode cX0_greatestHeightOfArea 35 = .ok (.ireturn, 1) := by decide +kernel
set_option maxRecDepth 20000 in
theorem ggX0_allSand_X0_sum : GoodIn wsX0_allSand wsX0_sum := goodIn_r _ [5] (by decide +kernel) (by decide +kernel)
set_option maxRecDepth 20000 in
theorem gX0_allSand_X0_sum : GoodIn wsX0_allSand (va_wsS RX0 118 yX0_sum wsX0_sum) := goodIn_app (goodIn_of _ (by decide +kernel)) ggX0_allSand_X0_sum
theorem dX0_allSand_0 : decode cX0_allSand 0 = .ok (.aload_n 0, 1) := by decide +kernel
theorem dX0_allSand_1 : decode cX0_allSand 1 = .ok (.getfield 9, 3) := by decide +kernel
theorem dX0_allSand_4 : decode cX0_allSand 4 = .ok (.invokestatic 118, 3) := by decide +kernel
theorem dX0_allSand_7 : decode cX0_allSand 7 = .ok (.ireturn, 1) := by decide +kernel
set_option maxRecDepth 20000 in
theorem ggX0_allWater_X0_sum : GoodIn wsX0_allWater wsX0_sum := goodIn_r _ [5] (by decide +kernel) (by decide +kernel)
set_option maxRecDepth 20000 in
theorem gX0_allWater_X0_sum : GoodIn wsX0_allWater (va_wsS RX0 118 yX0_sum wsX0_sum) := goodIn_app (goodIn_of _ (by decide +kernel)) ggX0_allWater_X0_sum
theorem dX0_allWater_0 : decode cX0_allWater 0 = .ok (.aload_n 0, 1) := by decide +kernel
theorem dX0_allWater_1 : decode cX0_allWater 1 = .ok (.getfield 18, 3) := by decide +kernel
theorem dX0_allWater_4 : decode cX0_allWater 4 = .ok (.invokestatic 118, 3) := by decide +kernel
theorem dX0_allWater_7 : decode cX0_allWater 7 = .ok (.ireturn, 1) := by decide +kernel
set_option maxRecDepth 20000 in
theorem ggX0_allHeights_X0_height : GoodIn wsX0_allHeights wsX0_height := goodIn_r _ [5, 6, 7, 8, 9, 10, 11, 12, 13, 14, 15] (by decide +kernel) (by decide +kernel)
set_option maxRecDepth 20000 in
theorem gX0_allHeights_X0_height : GoodIn wsX0_allHeights (wsV RX0 69 RX0 yX0_height wsX0_height) := goodIn_app (goodIn_of _ (by decide +kernel)) ggX0_allHeights_X0_height
theorem dX0_allHeights_0 : decode cX0_allHeights 0 = .ok (.iconst 0, 1) := by decide +kernel
theorem dX0_allHeights_1 : decode cX0_allHeights 1 = .ok (.istore_n 1, 1) := by decide +kernel
theorem dX0_allHeights_2 : decode cX0_allHeights 2 = .ok (.iconst 0, 1) := by decide +kernel
theorem dX0_allHeights_3 : decode cX0_allHeights 3 = .ok (.istore_n 2, 1) := by decide +kernel
theorem dX0_allHeights_4 : decode cX0_allHeights 4 = .ok (.iload_n 2, 1) := by decide +kernel
theorem dX0_allHeights_5 : decode cX0_allHeights 5 = .ok (.bipush 120, 2) := by decide +kernel
theorem dX0_allHeights_7 : decode cX0_allHeights 7 = .ok (.if_icmp .ge 17, 3) := by decide +kernel
theorem dX0_allHeights_10 : decode cX0_allHeights 10 = .ok (.iload_n 1, 1) := by decide +kernel
theorem dX0_allHeights_11 : decode cX0_allHeights 11 = .ok (.aload_n 0, 1) := by decide +kernel
theorem dX0_allHeights_12 : decode cX0_allHeights 12 = .ok (.iload_n 2, 1) := by decide +kernel
theorem dX0_allHeights_13 : decode cX0_allHeights 13 = .ok (.invokevirtual 69, 3) := by decide +kernel
theorem dX0_allHeights_16 : decode cX0_allHeights 16 = .ok (.iadd, 1) := by decide +kernel
theorem dX0_allHeights_17 : decode cX0_allHeights 17 = .ok (.istore_n 1, 1) := by decide +kernel
theorem dX0_allHeights_18 : decode cX0_allHeights 18 = .ok (.iinc 2 1, 3) := by decide +kernel
theorem dX0_allHeights_21 : decode cX0_allHeights 21 = .ok (.goto (-17), 3) := by decide +kernel
theorem dX0_allHeights_24 : decode cX0_allHeights 24 = .ok (.iload_n 1, 1) := by decide +kernel
theorem dX0_allHeights_25 : decode cX0_allHeights 25 = .ok (.ireturn, 1) := by decide +kernel
set_option maxRecDepth 20000 in
theorem ggX0_allSticks_X0_hasStick : GoodIn wsX0_allSticks wsX0_hasStick := goodIn_r _ [5, 6, 7, 8, 9, 10, 11, 12, 13, 14, 15] (by decide +kernel) (by decide +kernel)
set_option maxRecDepth 20000 in
theorem gX0_allSticks_X0_hasStick : GoodIn wsX0_allSticks (wsV RX0 108 RX0 yX0_hasStick wsX0_hasStick) := goodIn_app (goodIn_of _ (by decide +kernel)) ggX0_allSticks_X0_hasStick
theorem dX0_allSticks_0 : decode cX0_allSticks 0 = .ok (.iconst 0, 1) := by decide +kernel
theorem dX0_allSticks_1 : decode cX0_allSticks 1 = .ok (.istore_n 1, 1) := by decide +kernel
theorem dX0_allSticks_2 : decode cX0_allSticks 2 = .ok (.iconst 0, 1) := by decide +kernel
theorem dX0_allSticks_3 : decode cX0_allSticks 3 = .ok (.istore_n 2, 1) := by decide +kernel
theorem dX0_allSticks_4 : decode cX0_allSticks 4 = .ok (.iload_n 2, 1) := by decide +kernel
theorem dX0_allSticks_5 : decode cX0_allSticks 5 = .ok (.bipush 120, 2) := by decide +kernel
theorem dX0_allSticks_7 : decode cX0_allSticks 7 = .ok (.if_icmp .ge 20, 3) := by decide +kernel
theorem dX0_allSticks_10 : decode cX0_allSticks 10 = .ok (.aload_n 0, 1) := by decide +kernel
theorem dX0_allSticks_11 : decode cX0_allSticks 11 = .ok (.iload_n 2, 1) := by decide +kernel
theorem dX0_allSticks_12 : decode cX0_allSticks 12 = .ok (.invokevirtual 108, 3) := by decide +kernel
theorem dX0_allSticks_15 : decode cX0_allSticks 15 = .ok (.ifCond .eq 6, 3) := by decide +kernel
theorem dX0_allSticks_18 : decode cX0_allSticks 18 = .ok (.iinc 1 1, 3) := by decide +kernel
theorem dX0_allSticks_21 : decode cX0_allSticks 21 = .ok (.iinc 2 1, 3) := by decide +kernel
theorem dX0_allSticks_24 : decode cX0_allSticks 24 = .ok (.goto (-20), 3) := by decide +kernel
theorem dX0_allSticks_27 : decode cX0_allSticks 27 = .ok (.iload_n 1, 1) := by decide +kernel
theorem dX0_allSticks_28 : decode cX0_allSticks 28 = .ok (.ireturn, 1) := by decide +kernel
theorem dX0_sum_0 : decode cX0_sum 0 = .ok (.iconst 0, 1) := by decide +kernel
theorem dX0_sum_1 : decode cX0_sum 1 = .ok (.istore_n 1, 1) := by decide +kernel
theorem dX0_sum_2 : decode cX0_sum 2 = .ok (.aload_n 0, 1) := by decide +kernel
theorem dX0_sum_3 : decode cX0_sum 3 = .ok (.astore_n 2, 1) := by decide +kernel
theorem dX0_sum_4 : decode cX0_sum 4 = .ok (.aload_n 2, 1) := by decide +kernel
theorem dX0_sum_5 : decode cX0_sum 5 = .ok (.arraylength, 1) := by decide +kernel
theorem dX0_sum_6 : decode cX0_sum 6 = .ok (.istore_n 3, 1) := by decide +kernel
theorem dX0_sum_7 : decode cX0_sum 7 = .ok (.iconst 0, 1) := by decide +kernel
theorem dX0_sum_8 : decode cX0_sum 8 = .ok (.istore 4, 2) := by decide +kernel
theorem dX0_sum_10 : decode cX0_sum 10 = .ok (.iload 4, 2) := by decide +kernel
theorem dX0_sum_12 : decode cX0_sum 12 = .ok (.iload_n 3, 1) := by decide +kernel
theorem dX0_sum_13 : decode cX0_sum 13 = .ok (.if_icmp .ge 20, 3) := by decide +kernel
theorem dX0_sum_16 : decode cX0_sum 16 = .ok (.aload_n 2, 1) := by decide +kernel
theorem dX0_sum_17 : decode cX0_sum 17 = .ok (.iload 4, 2) := by decide +kernel
theorem dX0_sum_19 : decode cX0_sum 19 = .ok (.iaload, 1) := by decide +kernel
theorem dX0_sum_20 : decode cX0_sum 20 = .ok (.istore 5, 2) := by decide +kernel
theorem dX0_sum_22 : decode cX0_sum 22 = .ok (.iload_n 1, 1) := by decide +kernel
theorem dX0_sum_23 : decode cX0_sum 23 = .ok (.iload 5, 2) := by decide +kernel
theorem dX0_sum_25 : decode cX0_sum 25 = .ok (.iadd, 1) := by decide +kernel
theorem dX0_sum_26 : decode cX0_sum 26 = .ok (.istore_n 1, 1) := by decide +kernel
theorem dX0_sum_27 : decode cX0_sum 27 = .ok (.iinc 4 1, 3) := by decide +kernel
theorem dX0_sum_30 : decode cX0_sum 30 = .ok (.goto (-20), 3) := by decide +kernel
theorem dX0_sum_33 : decode cX0_sum 33 = .ok (.iload_n 1, 1) := by decide +kernel
theorem dX0_sum_34 : decode cX0_sum 34 = .ok (.ireturn, 1) := by decide +kernel
set_option maxRecDepth 20000 in
theorem ggX0_sumOfArea_X1_isInArea : GoodIn wsX0_sumOfArea wsX1_isInArea := goodIn_r _ [3] (by decide +kernel) (by decide +kernel)
set_option maxRecDepth 20000 in
theorem gX0_sumOfArea_X1_isInArea_n115 : GoodIn wsX0_sumOfArea (wsX1_isInArea) := ggX0_sumOfArea_X1_isInArea
theorem dX0_sumOfArea_0 : decode cX0_sumOfArea 0 = .ok (.iconst 0, 1) := by decide +kernel
theorem dX0_sumOfArea_1 : decode cX0_sumOfArea 1 = .ok (.istore_n 2, 1) := by decide +kernel
theorem dX0_sumOfArea_2 : decode cX0_sumOfArea 2 = .ok (.iconst 0, 1) := by decide +kernel
theorem dX0_sumOfArea_3 : decode cX0_sumOfArea 3 = .ok (.istore_n 3, 1) := by decide +kernel
theorem dX0_sumOfArea_4 : decode cX0_sumOfArea 4 = .ok (.iload_n 3, 1) := by decide +kernel
theorem dX0_sumOfArea_5 : decode cX0_sumOfArea 5 = .ok (.bipush 120, 2) := by decide +kernel
theorem dX0_sumOfArea_7 : decode cX0_sumOfArea 7 = .ok (.if_icmp .ge 29, 3) := by decide +kernel
theorem dX0_sumOfArea_10 : decode cX0_sumOfArea 10 = .ok (.iload_n 3, 1) := by decide +kernel
theorem dX0_sumOfArea_11 : decode cX0_sumOfArea 11 = .ok (.aload_n 0, 1) := by decide +kernel
theorem dX0_sumOfArea_12 : decode cX0_sumOfArea 12 = .ok (.arraylength, 1) := by decide +kernel
theorem dX0_sumOfArea_13 : decode cX0_sumOfArea 13 = .ok (.if_icmp .ge 23, 3) := by decide +kernel
theorem dX0_sumOfArea_16 : decode cX0_sumOfArea 16 = .ok (.iload_n 1, 1) := by decide +kernel
theorem dX0_sumOfArea_17 : decode cX0_sumOfArea 17 = .ok (.iload_n 3, 1) := by decide +kernel
theorem dX0_sumOfArea_18 : decode cX0_sumOfArea 18 = .ok (.invokestatic 115, 3) := by decide +kernel
theorem dX0_sumOfArea_21 : decode cX0_sumOfArea 21 = .ok (.ifCond .eq 9, 3) := by decide +kernel
theorem dX0_sumOfArea_24 : decode cX0_sumOfArea 24 = .ok (.iload_n 2, 1) := by decide +kernel
theorem dX0_sumOfArea_25 : decode cX0_sumOfArea 25 = .ok (.aload_n 0, 1) := by decide +kernel
theorem dX0_sumOfArea_26 : decode cX0_sumOfArea 26 = .ok (.iload_n 3, 1) := by decide +kernel
theorem dX0_sumOfArea_27 : decode cX0_sumOfArea 27 = .ok (.iaload, 1) := by decide +kernel
theorem dX0_sumOfArea_28 : decode cX0_sumOfArea 28 = .ok (.iadd, 1) := by decide +kernel
theorem dX0_sumOfArea_29 : decode cX0_sumOfArea 29 = .ok (.istore_n 2, 1) := by decide +kernel
theorem dX0_sumOfArea_30 : decode cX0_sumOfArea 30 = .ok (.iinc 3 1, 3) := by decide +kernel
theorem dX0_sumOfArea_33 : decode cX0_sumOfArea 33 = .ok (.goto (-29), 3) := by decide +kernel
theorem dX0_sumOfArea_36 : decode cX0_sumOfArea 36 = .ok (.iload_n 2, 1) := by decide +kernel
theorem dX0_sumOfArea_37 : decode cX0_sumOfArea 37 = .ok (.ireturn, 1) := by decide +kernel
set_option maxRecDepth 20000 in
theorem dJ9_floorMod_7cf53_0 : decode cJ9_floorMod_7cf53 0 = .ok (.iload_n 0, 1) := by decide +kernel
theorem dJ9_floorMod_7cf53_1 : decode cJ9_floorMod_7cf53 1 = .ok (.iload_n 1, 1) := by decide +kernel
theorem dJ9_floorMod_7cf53_2 : decode cJ9_floorMod_7cf53 2 = .ok (.irem, 1) := by decide +kernel
theorem dJ9_floorMod_7cf53_3 : decode cJ9_floorMod_7cf53 3 = .ok (.istore_n 2, 1) := by decide +kernel
theorem dJ9_floorMod_7cf53_4 : decode cJ9_floorMod_7cf53 4 = .ok (.iload_n 0, 1) := by decide +kernel
theorem dJ9_floorMod_7cf53_5 : decode cJ9_floorMod_7cf53 5 = .ok (.iload_n 1, 1) := by decide +kernel
theorem dJ9_floorMod_7cf53_6 : decode cJ9_floorMod_7cf53 6 = .ok (.ixor, 1) := by decide +kernel
theorem dJ9_floorMod_7cf53_7 : decode cJ9_floorMod_7cf53 7 = .ok (.ifCond .ge 11, 3) := by decide +kernel
theorem dJ9_floorMod_7cf53_10 : decode cJ9_floorMod_7cf53 10 = .ok (.iload_n 2, 1) := by decide +kernel
theorem dJ9_floorMod_7cf53_11 : decode cJ9_floorMod_7cf53 11 = .ok (.ifCond .eq 7, 3) := by decide +kernel
theorem dJ9_floorMod_7cf53_14 : decode cJ9_floorMod_7cf53 14 = .ok (.iload_n 2, 1) := by decide +kernel
theorem dJ9_floorMod_7cf53_15 : decode cJ9_floorMod_7cf53 15 = .ok (.iload_n 1, 1) := by decide +kernel
theorem dJ9_floorMod_7cf53_16 : decode cJ9_floorMod_7cf53 16 = .ok (.iadd, 1) := by decide +kernel
theorem dJ9_floorMod_7cf53_17 : decode cJ9_floorMod_7cf53 17 = .ok (.ireturn, 1) := by decide +kernel
theorem dJ9_floorMod_7cf53_18 : decode cJ9_floorMod_7cf53 18 = .ok (.iload_n 2, 1) := by decide +kernel
theorem dJ9_floorMod_7cf53_19 : decode cJ9_floorMod_7cf53 19 = .ok (.ireturn, 1) := by decide +kernel
theorem dJ9_max_7cf53_0 : decode cJ9_max_7cf53 0 = .ok (.iload_n 0, 1) := by decide +kernel
theorem dJ9_max_7cf53_1 : decode cJ9_max_7cf53 1 = .ok (.iload_n 1, 1) := by decide +kernel
theorem dJ9_max_7cf53_2 : decode cJ9_max_7cf53 2 = .ok (.if_icmp .lt 7, 3) := by decide +kernel
theorem dJ9_max_7cf53_5 : decode cJ9_max_7cf53 5 = .ok (.iload_n 0, 1) := by decide +kernel
theorem dJ9_max_7cf53_6 : decode cJ9_max_7cf53 6 = .ok (.goto 4, 3) := by decide +kernel
theorem dJ9_max_7cf53_9 : decode cJ9_max_7cf53 9 = .ok (.iload_n 1, 1) := by decide +kernel
theorem dJ9_max_7cf53_10 : decode cJ9_max_7cf53 10 = .ok (.ireturn, 1) := by decide +kernel
theorem dJ9_min_7cf53_0 : decode cJ9_min_7cf53 0 = .ok (.iload_n 0, 1) := by decide +kernel
theorem dJ9_min_7cf53_1 : decode cJ9_min_7cf53 1 = .ok (.iload_n 1, 1) := by decide +kernel
theorem dJ9_min_7cf53_2 : decode cJ9_min_7cf53 2 = .ok (.if_icmp .gt 7, 3) := by decide +kernel
theorem dJ9_min_7cf53_5 : decode cJ9_min_7cf53 5 = .ok (.iload_n 0, 1) := by decide +kernel
theorem dJ9_min_7cf53_6 : decode cJ9_min_7cf53 6 = .ok (.goto 4, 3) := by decide +kernel
theorem dJ9_min_7cf53_9 : decode cJ9_min_7cf53 9 = .ok (.iload_n 1, 1) := by decide +kernel
theorem dJ9_min_7cf53_10 : decode cJ9_min_7cf53 10 = .ok (.ireturn, 1) := by decide +kernel
theorem dJ7_fill_53178_0 : decode cJ7_fill_53178 0 = .ok (.iconst 0, 1) := by decide +kernel
theorem dJ7_fill_53178_1 : decode cJ7_fill_53178 1 = .ok (.istore_n 2, 1) := by decide +kernel
theorem dJ7_fill_53178_2 : decode cJ7_fill_53178 2 = .ok (.aload_n 0, 1) := by decide +kernel
theorem dJ7_fill_53178_3 : decode cJ7_fill_53178 3 = .ok (.arraylength, 1) := by decide +kernel
theorem dJ7_fill_53178_4 : decode cJ7_fill_53178 4 = .ok (.istore_n 3, 1) := by decide +kernel
theorem dJ7_fill_53178_5 : decode cJ7_fill_53178 5 = .ok (.iload_n 2, 1) := by decide +kernel
theorem dJ7_fill_53178_6 : decode cJ7_fill_53178 6 = .ok (.iload_n 3, 1) := by decide +kernel
theorem dJ7_fill_53178_7 : decode cJ7_fill_53178 7 = .ok (.if_icmp .ge 13, 3) := by decide +kernel
theorem dJ7_fill_53178_10 : decode cJ7_fill_53178 10 = .ok (.aload_n 0, 1) := by decide +kernel
theorem dJ7_fill_53178_11 : decode cJ7_fill_53178 11 = .ok (.iload_n 2, 1) := by decide +kernel
theorem dJ7_fill_53178_12 : decode cJ7_fill_53178 12 = .ok (.iload_n 1, 1) := by decide +kernel
theorem dJ7_fill_53178_13 : decode cJ7_fill_53178 13 = .ok (.iastore, 1) := by decide +kernel
theorem dJ7_fill_53178_14 : decode cJ7_fill_53178 14 = .ok (.iinc 2 1, 3) := by decide +kernel
theorem dJ7_fill_53178_17 : decode cJ7_fill_53178 17 = .ok (.goto (-12), 3) := by decide +kernel
theorem dJ7_fill_53178_20 : decode cJ7_fill_53178 20 = .ok (.return_, 1) := by decide +kernel
set_option maxRecDepth 20000 in
abbrev vwCl : List vw_C := [(RX0, TX0, 9), (RX1, TX1, 9), (RX2, TX2, 14)]
