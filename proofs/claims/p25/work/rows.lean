section
/-! ===== BEGIN words of one list among another's, by their places ===== -/
theorem goodIn_r {big : List Cond} (ws : List Cond) (ps : List Nat) (hp : ws = ps.filterMap (fun i => big[i]?)) (h : ws.all goodWord = true) : GoodIn big ws := by
  intro w hw
  have h1 := List.all_eq_true.mp h w hw
  rw [hp] at hw
  obtain ⟨i, -, hi⟩ := List.mem_filterMap.mp hw
  have hm : w ∈ big := by first | exact List.mem_of_getElem? hi | exact List.getElem?_mem hi
  exact ⟨hm, good_of_word h1⟩
theorem goodIn_app {big a b : List Cond} (ha : GoodIn big a) (hb : GoodIn big b) : GoodIn big (a ++ b) := fun w h => (List.mem_append.mp h).elim (ha w) (hb w)
theorem goodIn_ca {big a b : List Cond} {c : Cond} (ha : GoodIn big (c :: a)) (hb : GoodIn big b) : GoodIn big (c :: (a ++ b)) := fun w h => (List.mem_cons.mp h).elim (fun e => ha w (List.mem_cons.mpr (Or.inl e))) (fun h => (List.mem_append.mp h).elim (fun h => ha w (List.mem_cons.mpr (Or.inr h))) (hb w))
theorem goodIn_sub {big ws : List Cond} (hm : ∀ w ∈ ws, w ∈ big) (h : ws.all goodWord = true) : GoodIn big ws := fun w hw => ⟨hm w hw, good_of_word (List.all_eq_true.mp h w hw)⟩
/-! ===== END ===== -/

/-! ===== BEGIN printed: names, fields, word lists, decode rows ===== -/
def RX0 : String := "BaroRuns$History"
def TX0 : u_T := fun k => match k with
  | 0 => ("BaroRuns$History", "places", "[LBaroRuns$State;", true)
  | 1 => ("BaroRuns$History", "oldest", "I", false)
  | _ => ("BaroRuns$History", "size", "I", false)
def tyX0 : Nat → FieldType := fun k => match k with
  | 0 => .array (.object "BaroRuns$State")
  | 1 => .int
  | _ => .int
abbrev wsX00 : List Cond := u_ws RX0 TX0 3
theorem nmX0 : ∀ a, a < 3 → ∀ b, b < 3 → a ≠ b → (TX0 a).2.1 ≠ (TX0 b).2.1 := by decide +kernel
theorem tyX0_ok : ∀ k, k < 3 → parseFieldDescriptor (TX0 k).2.2.1 = some (tyX0 k) := by decide +kernel
abbrev cX0_init : ByteArray := prog_2_method_1_code
def yX0_init : MethodName := ⟨RX0, "<init>", "()V"⟩
abbrev cX0_keep : ByteArray := prog_2_method_2_code
def yX0_keep : MethodName := ⟨RX0, "keep", "(LBaroRuns$State;)V"⟩
abbrev cX0_giveBack : ByteArray := prog_2_method_3_code
def yX0_giveBack : MethodName := ⟨RX0, "giveBack", "(LBaroRuns$State;)V"⟩
abbrev cX0_place : ByteArray := prog_2_method_4_code
def yX0_place : MethodName := ⟨RX0, "place", "(I)LBaroRuns$State;"⟩
def RX1 : String := "BaroRuns$PointSum"
def TX1 : u_T := fun k => match k with
  | 0 => ("BaroRuns$PointSum", "sum", "J", false)
  | 1 => ("BaroRuns$PointSum", "number", "I", false)
  | 2 => ("BaroRuns$PointSum", "least", "I", false)
  | _ => ("BaroRuns$PointSum", "greatest", "I", false)
def tyX1 : Nat → FieldType := fun k => match k with
  | 0 => .long
  | 1 => .int
  | 2 => .int
  | _ => .int
abbrev wsX10 : List Cond := u_ws RX1 TX1 4
theorem nmX1 : ∀ a, a < 4 → ∀ b, b < 4 → a ≠ b → (TX1 a).2.1 ≠ (TX1 b).2.1 := by decide +kernel
theorem tyX1_ok : ∀ k, k < 4 → parseFieldDescriptor (TX1 k).2.2.1 = some (tyX1 k) := by decide +kernel
abbrev cX1_init : ByteArray := prog_3_method_1_code
def yX1_init : MethodName := ⟨RX1, "<init>", "()V"⟩
abbrev cX1_clear : ByteArray := prog_3_method_2_code
def yX1_clear : MethodName := ⟨RX1, "clear", "()V"⟩
abbrev cX1_add : ByteArray := prog_3_method_3_code
def yX1_add : MethodName := ⟨RX1, "add", "(I)V"⟩
abbrev cX1_height : ByteArray := prog_3_method_4_code
def yX1_height : MethodName := ⟨RX1, "height", "()I"⟩
abbrev cX1_spread : ByteArray := prog_3_method_5_code
def yX1_spread : MethodName := ⟨RX1, "spread", "()I"⟩
def RX2 : String := "BaroRuns$State"
def TX2 : u_T := fun k => match k with
  | 0 => ("BaroRuns$State", "baseTrack", "LBaroRuns$Track;", true)
  | 1 => ("BaroRuns$State", "firstTrack", "LBaroRuns$Track;", true)
  | 2 => ("BaroRuns$State", "secondTrack", "LBaroRuns$Track;", true)
  | 3 => ("BaroRuns$State", "thirdTrack", "LBaroRuns$Track;", true)
  | 4 => ("BaroRuns$State", "baseHeight", "I", false)
  | 5 => ("BaroRuns$State", "gustLimit", "I", false)
  | _ => ("BaroRuns$State", "stepLimit", "I", false)
def tyX2 : Nat → FieldType := fun k => match k with
  | 0 => .object "BaroRuns$Track"
  | 1 => .object "BaroRuns$Track"
  | 2 => .object "BaroRuns$Track"
  | 3 => .object "BaroRuns$Track"
  | 4 => .int
  | 5 => .int
  | _ => .int
abbrev wsX20 : List Cond := u_ws RX2 TX2 7
theorem nmX2 : ∀ a, a < 7 → ∀ b, b < 7 → a ≠ b → (TX2 a).2.1 ≠ (TX2 b).2.1 := by decide +kernel
theorem tyX2_ok : ∀ k, k < 7 → parseFieldDescriptor (TX2 k).2.2.1 = some (tyX2 k) := by decide +kernel
abbrev cX2_init : ByteArray := prog_4_method_1_code
def yX2_init : MethodName := ⟨RX2, "<init>", "()V"⟩
abbrev cX2_track : ByteArray := prog_4_method_2_code
def yX2_track : MethodName := ⟨RX2, "track", "(I)LBaroRuns$Track;"⟩
abbrev cX2_setting : ByteArray := prog_4_method_3_code
def yX2_setting : MethodName := ⟨RX2, "setting", "(I)I"⟩
abbrev cX2_putSetting : ByteArray := prog_4_method_4_code
def yX2_putSetting : MethodName := ⟨RX2, "putSetting", "(II)V"⟩
abbrev cX2_copyFrom : ByteArray := prog_4_method_5_code
def yX2_copyFrom : MethodName := ⟨RX2, "copyFrom", "(LBaroRuns$State;)V"⟩
abbrev cX2_baseValue : ByteArray := prog_4_method_6_code
def yX2_baseValue : MethodName := ⟨RX2, "baseValue", "(II)I"⟩
abbrev cX2_heightAt : ByteArray := prog_4_method_7_code
def yX2_heightAt : MethodName := ⟨RX2, "heightAt", "(III)I"⟩
abbrev cX2_isStepEnd : ByteArray := prog_4_method_8_code
def yX2_isStepEnd : MethodName := ⟨RX2, "isStepEnd", "(I)Z"⟩
abbrev cX2_steps : ByteArray := prog_4_method_9_code
def yX2_steps : MethodName := ⟨RX2, "steps", "()I"⟩
def RX3 : String := "BaroRuns$Survey"
def TX3 : u_T := fun k => match k with
  | 0 => ("BaroRuns$Survey", "times", "[I", true)
  | 1 => ("BaroRuns$Survey", "points", "[I", true)
  | 2 => ("BaroRuns$Survey", "heights", "[I", true)
  | 3 => ("BaroRuns$Survey", "gusts", "[I", true)
  | 4 => ("BaroRuns$Survey", "openLoops", "[I", true)
  | 5 => ("BaroRuns$Survey", "correctedHeights", "[I", true)
  | 6 => ("BaroRuns$Survey", "begins", "[I", true)
  | 7 => ("BaroRuns$Survey", "ends", "[I", true)
  | 8 => ("BaroRuns$Survey", "size", "I", false)
  | 9 => ("BaroRuns$Survey", "gustCount", "I", false)
  | 10 => ("BaroRuns$Survey", "goodCount", "I", false)
  | _ => ("BaroRuns$Survey", "loopCount", "I", false)
def tyX3 : Nat → FieldType := fun k => match k with
  | 0 => .array .int
  | 1 => .array .int
  | 2 => .array .int
  | 3 => .array .int
  | 4 => .array .int
  | 5 => .array .int
  | 6 => .array .int
  | 7 => .array .int
  | 8 => .int
  | 9 => .int
  | 10 => .int
  | _ => .int
abbrev wsX30 : List Cond := u_ws RX3 TX3 12
theorem nmX3 : ∀ a, a < 12 → ∀ b, b < 12 → a ≠ b → (TX3 a).2.1 ≠ (TX3 b).2.1 := by decide +kernel
theorem tyX3_ok : ∀ k, k < 12 → parseFieldDescriptor (TX3 k).2.2.1 = some (tyX3 k) := by decide +kernel
abbrev cX3_init : ByteArray := prog_5_method_1_code
def yX3_init : MethodName := ⟨RX3, "<init>", "()V"⟩
abbrev cX3_workOut : ByteArray := prog_5_method_2_code
def yX3_workOut : MethodName := ⟨RX3, "workOut", "(LBaroRuns$State;I)V"⟩
abbrev cX3_isGust : ByteArray := prog_5_method_3_code
def yX3_isGust : MethodName := ⟨RX3, "isGust", "(I)Z"⟩
abbrev cX3_rawHeight : ByteArray := prog_5_method_4_code
def yX3_rawHeight : MethodName := ⟨RX3, "rawHeight", "(I)I"⟩
abbrev cX3_isGood : ByteArray := prog_5_method_5_code
def yX3_isGood : MethodName := ⟨RX3, "isGood", "(I)Z"⟩
abbrev cX3_openLoopOf : ByteArray := prog_5_method_6_code
def yX3_openLoopOf : MethodName := ⟨RX3, "openLoopOf", "(I)I"⟩
abbrev cX3_correctedHeight : ByteArray := prog_5_method_7_code
def yX3_correctedHeight : MethodName := ⟨RX3, "correctedHeight", "(I)I"⟩
abbrev cX3_begin : ByteArray := prog_5_method_8_code
def yX3_begin : MethodName := ⟨RX3, "begin", "(I)I"⟩
abbrev cX3_end : ByteArray := prog_5_method_9_code
def yX3_end : MethodName := ⟨RX3, "end", "(I)I"⟩
abbrev cX3_minutes : ByteArray := prog_5_method_10_code
def yX3_minutes : MethodName := ⟨RX3, "minutes", "(I)I"⟩
abbrev cX3_misclosure : ByteArray := prog_5_method_11_code
def yX3_misclosure : MethodName := ⟨RX3, "misclosure", "(I)I"⟩
abbrev cX3_misclosureBySteps : ByteArray := prog_5_method_12_code
def yX3_misclosureBySteps : MethodName := ⟨RX3, "misclosureBySteps", "(I)I"⟩
abbrev cX3_addTo : ByteArray := prog_5_method_13_code
def yX3_addTo : MethodName := ⟨RX3, "addTo", "(LBaroRuns$PointSum;I)V"⟩
abbrev cX3_endsOpenLoop : ByteArray := prog_5_method_14_code
def yX3_endsOpenLoop : MethodName := ⟨RX3, "endsOpenLoop", "(I)Z"⟩
abbrev cX3_countKinds : ByteArray := prog_5_method_15_code
def yX3_countKinds : MethodName := ⟨RX3, "countKinds", "()V"⟩
abbrev cX3_findLoops : ByteArray := prog_5_method_16_code
def yX3_findLoops : MethodName := ⟨RX3, "findLoops", "()V"⟩
abbrev cX3_lastVisit : ByteArray := prog_5_method_17_code
def yX3_lastVisit : MethodName := ⟨RX3, "lastVisit", "(I)I"⟩
abbrev cX3_shortestLoop : ByteArray := prog_5_method_18_code
def yX3_shortestLoop : MethodName := ⟨RX3, "shortestLoop", "(I)I"⟩
abbrev cX3_withoutDrift : ByteArray := prog_5_method_19_code
def yX3_withoutDrift : MethodName := ⟨RX3, "withoutDrift", "(I)I"⟩
def RX4 : String := "BaroRuns$Text"
def TX4 : u_T := fun k => match k with
  | 0 => ("BaroRuns$Text", "characters", "[I", true)
  | 1 => ("BaroRuns$Text", "length", "I", false)
  | 2 => ("BaroRuns$Text", "position", "I", false)
  | 3 => ("BaroRuns$Text", "cell", "I", false)
  | 4 => ("BaroRuns$Text", "point", "I", false)
  | 5 => ("BaroRuns$Text", "time", "I", false)
  | 6 => ("BaroRuns$Text", "pressure", "I", false)
  | 7 => ("BaroRuns$Text", "temperature", "I", false)
  | 8 => ("BaroRuns$Text", "taken", "I", false)
  | 9 => ("BaroRuns$Text", "faultPosition", "I", false)
  | _ => ("BaroRuns$Text", "faultReason", "I", false)
def tyX4 : Nat → FieldType := fun k => match k with
  | 0 => .array .int
  | 1 => .int
  | 2 => .int
  | 3 => .int
  | 4 => .int
  | 5 => .int
  | 6 => .int
  | 7 => .int
  | 8 => .int
  | 9 => .int
  | _ => .int
abbrev wsX40 : List Cond := u_ws RX4 TX4 11
theorem nmX4 : ∀ a, a < 11 → ∀ b, b < 11 → a ≠ b → (TX4 a).2.1 ≠ (TX4 b).2.1 := by decide +kernel
theorem tyX4_ok : ∀ k, k < 11 → parseFieldDescriptor (TX4 k).2.2.1 = some (tyX4 k) := by decide +kernel
abbrev cX4_init : ByteArray := prog_6_method_1_code
def yX4_init : MethodName := ⟨RX4, "<init>", "()V"⟩
def RX5 : String := "BaroRuns$Track"
def TX5 : u_T := fun k => match k with
  | 0 => ("BaroRuns$Track", "values", "[I", true)
  | 1 => ("BaroRuns$Track", "room", "I", true)
  | _ => ("BaroRuns$Track", "size", "I", false)
def tyX5 : Nat → FieldType := fun k => match k with
  | 0 => .array .int
  | 1 => .int
  | _ => .int
abbrev wsX50 : List Cond := u_ws RX5 TX5 3
theorem nmX5 : ∀ a, a < 3 → ∀ b, b < 3 → a ≠ b → (TX5 a).2.1 ≠ (TX5 b).2.1 := by decide +kernel
theorem tyX5_ok : ∀ k, k < 3 → parseFieldDescriptor (TX5 k).2.2.1 = some (tyX5 k) := by decide +kernel
abbrev cX5_init : ByteArray := prog_7_method_1_code
def yX5_init : MethodName := ⟨RX5, "<init>", "(I)V"⟩
abbrev cX5_value : ByteArray := prog_7_method_2_code
def yX5_value : MethodName := ⟨RX5, "value", "(II)I"⟩
abbrev cX5_isFull : ByteArray := prog_7_method_3_code
def yX5_isFull : MethodName := ⟨RX5, "isFull", "()Z"⟩
abbrev cX5_hasTime : ByteArray := prog_7_method_4_code
def yX5_hasTime : MethodName := ⟨RX5, "hasTime", "(I)Z"⟩
abbrev cX5_standsOut : ByteArray := prog_7_method_5_code
def yX5_standsOut : MethodName := ⟨RX5, "standsOut", "(II)Z"⟩
abbrev cX5_insert : ByteArray := prog_7_method_6_code
def yX5_insert : MethodName := ⟨RX5, "insert", "(IIII)I"⟩
abbrev cX5_remove : ByteArray := prog_7_method_7_code
def yX5_remove : MethodName := ⟨RX5, "remove", "(I)V"⟩
abbrev cX5_copyFrom : ByteArray := prog_7_method_8_code
def yX5_copyFrom : MethodName := ⟨RX5, "copyFrom", "(LBaroRuns$Track;)V"⟩
abbrev cX5_move : ByteArray := prog_7_method_9_code
def yX5_move : MethodName := ⟨RX5, "move", "(II)V"⟩
def RX6 : String := "BaroRuns"
def TX6 : u_T := fun k => match k with
  | 0 => ("BaroRuns", "now", "LBaroRuns$State;", true)
  | 1 => ("BaroRuns", "trial", "LBaroRuns$State;", true)
  | 2 => ("BaroRuns", "history", "LBaroRuns$History;", true)
  | 3 => ("BaroRuns", "firstSurvey", "LBaroRuns$Survey;", true)
  | 4 => ("BaroRuns", "secondSurvey", "LBaroRuns$Survey;", true)
  | 5 => ("BaroRuns", "thirdSurvey", "LBaroRuns$Survey;", true)
  | 6 => ("BaroRuns", "pointSum", "LBaroRuns$PointSum;", true)
  | 7 => ("BaroRuns", "text", "LBaroRuns$Text;", true)
  | _ => ("BaroRuns", "stale", "Z", false)
def tyX6 : Nat → FieldType := fun k => match k with
  | 0 => .object "BaroRuns$State"
  | 1 => .object "BaroRuns$State"
  | 2 => .object "BaroRuns$History"
  | 3 => .object "BaroRuns$Survey"
  | 4 => .object "BaroRuns$Survey"
  | 5 => .object "BaroRuns$Survey"
  | 6 => .object "BaroRuns$PointSum"
  | 7 => .object "BaroRuns$Text"
  | _ => .boolean
abbrev wsX60 : List Cond := u_ws RX6 TX6 9
theorem nmX6 : ∀ a, a < 9 → ∀ b, b < 9 → a ≠ b → (TX6 a).2.1 ≠ (TX6 b).2.1 := by decide +kernel
theorem tyX6_ok : ∀ k, k < 9 → parseFieldDescriptor (TX6 k).2.2.1 = some (tyX6 k) := by decide +kernel
abbrev cX6_init : ByteArray := prog_1_method_1_code
def yX6_init : MethodName := ⟨RX6, "<init>", "()V"⟩
abbrev cX6_set : ByteArray := prog_1_method_2_code
def yX6_set : MethodName := ⟨RX6, "set", "(II)I"⟩
abbrev cX6_base : ByteArray := prog_1_method_3_code
def yX6_base : MethodName := ⟨RX6, "base", "(III)I"⟩
abbrev cX6_read : ByteArray := prog_1_method_4_code
def yX6_read : MethodName := ⟨RX6, "read", "(IIIII)I"⟩
abbrev cX6_drop : ByteArray := prog_1_method_5_code
def yX6_drop : MethodName := ⟨RX6, "drop", "(II)I"⟩
abbrev cX6_reading : ByteArray := prog_1_method_6_code
def yX6_reading : MethodName := ⟨RX6, "reading", "(III)I"⟩
abbrev cX6_count : ByteArray := prog_1_method_7_code
def yX6_count : MethodName := ⟨RX6, "count", "(I)I"⟩
abbrev cX6_undo : ByteArray := prog_1_method_8_code
def yX6_undo : MethodName := ⟨RX6, "undo", "()I"⟩
abbrev cX6_baseAt : ByteArray := prog_1_method_9_code
def yX6_baseAt : MethodName := ⟨RX6, "baseAt", "(II)I"⟩
abbrev cX6_raw : ByteArray := prog_1_method_11_code
def yX6_raw : MethodName := ⟨RX6, "raw", "(II)I"⟩
abbrev cX6_would : ByteArray := prog_1_method_12_code
def yX6_would : MethodName := ⟨RX6, "would", "(III)I"⟩
abbrev cX6_loops : ByteArray := prog_1_method_14_code
def yX6_loops : MethodName := ⟨RX6, "loops", "(I)I"⟩
abbrev cX6_loop : ByteArray := prog_1_method_15_code
def yX6_loop : MethodName := ⟨RX6, "loop", "(III)I"⟩
abbrev cX6_openLoop : ByteArray := prog_1_method_16_code
def yX6_openLoop : MethodName := ⟨RX6, "openLoop", "(II)I"⟩
abbrev cX6_corrected : ByteArray := prog_1_method_17_code
def yX6_corrected : MethodName := ⟨RX6, "corrected", "(II)I"⟩
abbrev cX6_point : ByteArray := prog_1_method_18_code
def yX6_point : MethodName := ⟨RX6, "point", "(II)I"⟩
abbrev cX6_within : ByteArray := prog_1_method_24_code
def yX6_within : MethodName := ⟨RX6, "within", "(III)Z"⟩
abbrev cX6_isSetting : ByteArray := prog_1_method_25_code
def yX6_isSetting : MethodName := ⟨RX6, "isSetting", "(II)Z"⟩
abbrev cX6_isCell : ByteArray := prog_1_method_26_code
def yX6_isCell : MethodName := ⟨RX6, "isCell", "(I)Z"⟩
abbrev cX6_isPoint : ByteArray := prog_1_method_27_code
def yX6_isPoint : MethodName := ⟨RX6, "isPoint", "(I)Z"⟩
abbrev cX6_isTime : ByteArray := prog_1_method_28_code
def yX6_isTime : MethodName := ⟨RX6, "isTime", "(I)Z"⟩
abbrev cX6_isTemperature : ByteArray := prog_1_method_29_code
def yX6_isTemperature : MethodName := ⟨RX6, "isTemperature", "(I)Z"⟩
abbrev cX6_isReading : ByteArray := prog_1_method_30_code
def yX6_isReading : MethodName := ⟨RX6, "isReading", "(III)Z"⟩
abbrev cX6_isReadingOf : ByteArray := prog_1_method_31_code
def yX6_isReadingOf : MethodName := ⟨RX6, "isReadingOf", "(II)Z"⟩
abbrev cX6_at : ByteArray := prog_1_method_32_code
def yX6_at : MethodName := ⟨RX6, "at", "([II)I"⟩
abbrev cX6_put : ByteArray := prog_1_method_33_code
def yX6_put : MethodName := ⟨RX6, "put", "([III)V"⟩
abbrev cX6_divideDown : ByteArray := prog_1_method_34_code
def yX6_divideDown : MethodName := ⟨RX6, "divideDown", "(JJ)J"⟩
abbrev cX6_record : ByteArray := prog_1_method_35_code
def yX6_record : MethodName := ⟨RX6, "record", "()V"⟩
abbrev cX6_take : ByteArray := prog_1_method_36_code
def yX6_take : MethodName := ⟨RX6, "take", "(IIIII)I"⟩
abbrev cX6_refresh : ByteArray := prog_1_method_38_code
def yX6_refresh : MethodName := ⟨RX6, "refresh", "()V"⟩
abbrev cX6_surveyOf : ByteArray := prog_1_method_39_code
def yX6_surveyOf : MethodName := ⟨RX6, "surveyOf", "(I)LBaroRuns$Survey;"⟩
abbrev cX6_pointsWithHeight : ByteArray := prog_1_method_40_code
def yX6_pointsWithHeight : MethodName := ⟨RX6, "pointsWithHeight", "()I"⟩
abbrev cX6_gather : ByteArray := prog_1_method_41_code
def yX6_gather : MethodName := ⟨RX6, "gather", "(I)V"⟩
def RX7 : String := "BaroRunsModel"
def TX7 : u_T := fun k => match k with
  | _ => ("", "", "", false)
def tyX7 : Nat → FieldType := fun k => match k with
  | _ => .int
abbrev wsX70 : List Cond := u_ws RX7 TX7 0
theorem nmX7 : ∀ a, a < 0 → ∀ b, b < 0 → a ≠ b → (TX7 a).2.1 ≠ (TX7 b).2.1 := by decide +kernel
theorem tyX7_ok : ∀ k, k < 0 → parseFieldDescriptor (TX7 k).2.2.1 = some (tyX7 k) := by decide +kernel
def RJ9 : String := "java/lang/Math"
def TJ9 : u_T := fun k => match k with
  | _ => ("", "", "", false)
def tyJ9 : Nat → FieldType := fun k => match k with
  | _ => .int
abbrev wsJ90 : List Cond := u_ws RJ9 TJ9 0
theorem nmJ9 : ∀ a, a < 0 → ∀ b, b < 0 → a ≠ b → (TJ9 a).2.1 ≠ (TJ9 b).2.1 := by decide +kernel
theorem tyJ9_ok : ∀ k, k < 0 → parseFieldDescriptor (TJ9 k).2.2.1 = some (tyJ9 k) := by decide +kernel
abbrev cJ9_floorDiv_7cf53 : ByteArray := prog_10_method_47_code
def yJ9_floorDiv_7cf53 : MethodName := ⟨RJ9, "floorDiv", "(II)I"⟩
abbrev cJ9_floorDiv_f86c9 : ByteArray := prog_10_method_49_code
def yJ9_floorDiv_f86c9 : MethodName := ⟨RJ9, "floorDiv", "(JJ)J"⟩
abbrev cJ9_abs_0f7a4 : ByteArray := prog_10_method_59_code
def yJ9_abs_0f7a4 : MethodName := ⟨RJ9, "abs", "(I)I"⟩
abbrev cJ9_max_7cf53 : ByteArray := prog_10_method_65_code
def yJ9_max_7cf53 : MethodName := ⟨RJ9, "max", "(II)I"⟩
abbrev cJ9_min_7cf53 : ByteArray := prog_10_method_69_code
def yJ9_min_7cf53 : MethodName := ⟨RJ9, "min", "(II)I"⟩
def RJ10 : String := "java/lang/System"
def TJ10 : u_T := fun k => match k with
  | _ => ("", "", "", false)
def tyJ10 : Nat → FieldType := fun k => match k with
  | _ => .int
abbrev wsJ100 : List Cond := u_ws RJ10 TJ10 0
theorem nmJ10 : ∀ a, a < 0 → ∀ b, b < 0 → a ≠ b → (TJ10 a).2.1 ≠ (TJ10 b).2.1 := by decide +kernel
theorem tyJ10_ok : ∀ k, k < 0 → parseFieldDescriptor (TJ10 k).2.2.1 = some (tyJ10 k) := by decide +kernel
def RL : String := "BaroRunsLaw"
abbrev cL_cell : ByteArray := method_2_code
def yL_cell : MethodName := ⟨RL, "cell", "([II)I"⟩
abbrev cL_holds : ByteArray := method_3_code
def yL_holds : MethodName := ⟨RL, "holds", "(LBaroRuns;)Z"⟩
abbrev cL_level : ByteArray := method_4_code
def yL_level : MethodName := ⟨RL, "level", "(LBaroRuns;)Z"⟩
abbrev cL_law : ByteArray := code
def yL_law : MethodName := ⟨RL, "law", "([I)Z"⟩
def wsX5_init : List Cond := .code yX5_init cX5_init 2 none :: ([.methodLink RX5 3 objectInit, .instanceMethod objectInit, .code objectInit ⟨#[0xb1]⟩ 1 none, .arrayClass .int, .fieldLink RX5 9 "BaroRuns$Track" "values" "[I", .methodLink RX5 15 Lib.Math.min.name, .static Lib.Math.min.name, .initialized "java/lang/Math", .code Lib.Math.min.name Lib.Math.min.code 2 (some .int), .fieldLink RX5 21 "BaroRuns$Track" "room" "I"] ++ wsX50)
def wsX2_init : List Cond := .code yX2_init cX2_init 1 none :: ([.methodLink RX2 3 objectInit, .instanceMethod objectInit, .code objectInit ⟨#[0xb1]⟩ 1 none, .classLink RX2 9 RX5, .instantiable RX5 3, .initialized RX5, .fieldLink RX2 14 "BaroRuns$State" "baseTrack" "LBaroRuns$Track;", .fieldLink RX2 20 "BaroRuns$State" "firstTrack" "LBaroRuns$Track;", .fieldLink RX2 23 "BaroRuns$State" "secondTrack" "LBaroRuns$Track;", .fieldLink RX2 26 "BaroRuns$State" "thirdTrack" "LBaroRuns$Track;", .fieldLink RX2 29 "BaroRuns$State" "baseHeight" "I", .fieldLink RX2 33 "BaroRuns$State" "gustLimit" "I", .fieldLink RX2 36 "BaroRuns$State" "stepLimit" "I", .methodLink RX2 11 yX5_init, .instanceMethod yX5_init, .code yX5_init cX5_init 2 none, .methodLink RX5 3 objectInit, .arrayClass .int, .fieldLink RX5 9 "BaroRuns$Track" "values" "[I", .methodLink RX5 15 Lib.Math.min.name, .static Lib.Math.min.name, .initialized "java/lang/Math", .code Lib.Math.min.name Lib.Math.min.code 2 (some .int), .fieldLink RX5 21 "BaroRuns$Track" "room" "I"] ++ wsX50 ++ wsX20)
def wsX0_init_r1 : List Cond := [Cond.methodLink RX0 3 objectInit, Cond.instanceMethod objectInit, Cond.code objectInit ⟨#[0xb1]⟩ 1 none, Cond.classLink RX0 9 RX2, Cond.fieldLink RX0 11 "BaroRuns$History" "places" "[LBaroRuns$State;", Cond.instantiable RX2 7, Cond.initialized RX2, Cond.methodLink RX0 17 yX2_init, Cond.instanceMethod yX2_init, Cond.code yX2_init cX2_init 1 none, Cond.methodLink RX2 3 objectInit, Cond.classLink RX2 9 RX5, Cond.instantiable RX5 3, Cond.initialized RX5, Cond.fieldLink RX2 14 "BaroRuns$State" "baseTrack" "LBaroRuns$Track;", Cond.fieldLink RX2 20 "BaroRuns$State" "firstTrack" "LBaroRuns$Track;", Cond.fieldLink RX2 23 "BaroRuns$State" "secondTrack" "LBaroRuns$Track;", Cond.fieldLink RX2 26 "BaroRuns$State" "thirdTrack" "LBaroRuns$Track;", Cond.fieldLink RX2 29 "BaroRuns$State" "baseHeight" "I", Cond.fieldLink RX2 33 "BaroRuns$State" "gustLimit" "I", Cond.fieldLink RX2 36 "BaroRuns$State" "stepLimit" "I", Cond.methodLink RX2 11 yX5_init, Cond.instanceMethod yX5_init, Cond.code yX5_init cX5_init 2 none]
def wsX0_init_r2 : List Cond := [Cond.methodLink RX5 3 objectInit, Cond.arrayClass .int, Cond.fieldLink RX5 9 "BaroRuns$Track" "values" "[I", Cond.methodLink RX5 15 Lib.Math.min.name, Cond.static Lib.Math.min.name, Cond.initialized "java/lang/Math", Cond.code Lib.Math.min.name Lib.Math.min.code 2 (some .int), Cond.fieldLink RX5 21 "BaroRuns$Track" "room" "I"]
def wsX0_init : List Cond := .code yX0_init cX0_init 2 none :: ((wsX0_init_r1 ++ wsX0_init_r2) ++ wsX00 ++ wsX20 ++ wsX50)
def wsX0_place : List Cond := .code yX0_place cX0_place 3 (some (.object "BaroRuns$State")) :: ([.fieldLink RX0 22 "BaroRuns$History" "oldest" "I", .fieldLink RX0 11 "BaroRuns$History" "places" "[LBaroRuns$State;"] ++ wsX00)
def wsX5_copyFrom : List Cond := .code yX5_copyFrom cX5_copyFrom 2 none :: ([.fieldLink RX5 9 "BaroRuns$Track" "values" "[I", .methodLink RX5 15 Lib.Math.min.name, .static Lib.Math.min.name, .initialized "java/lang/Math", .code Lib.Math.min.name Lib.Math.min.code 2 (some .int), .methodLink RX5 43 arraycopyName, .native arraycopyName, .static arraycopyName, .initialized "java/lang/System", .fieldLink RX5 29 "BaroRuns$Track" "size" "I"] ++ wsX50)
def wsX2_copyFrom : List Cond := .code yX2_copyFrom cX2_copyFrom 2 none :: ([.fieldLink RX2 14 "BaroRuns$State" "baseTrack" "LBaroRuns$Track;", .fieldLink RX2 20 "BaroRuns$State" "firstTrack" "LBaroRuns$Track;", .fieldLink RX2 23 "BaroRuns$State" "secondTrack" "LBaroRuns$Track;", .fieldLink RX2 26 "BaroRuns$State" "thirdTrack" "LBaroRuns$Track;", .fieldLink RX2 29 "BaroRuns$State" "baseHeight" "I", .fieldLink RX2 33 "BaroRuns$State" "gustLimit" "I", .fieldLink RX2 36 "BaroRuns$State" "stepLimit" "I", .methodLink RX2 39 yX5_copyFrom, .instanceMethod yX5_copyFrom, .selects RX5 yX5_copyFrom yX5_copyFrom, .initialized RX5, .code yX5_copyFrom cX5_copyFrom 2 none, .fieldLink RX5 9 "BaroRuns$Track" "values" "[I", .methodLink RX5 15 Lib.Math.min.name, .static Lib.Math.min.name, .initialized "java/lang/Math", .code Lib.Math.min.name Lib.Math.min.code 2 (some .int), .methodLink RX5 43 arraycopyName, .native arraycopyName, .static arraycopyName, .initialized "java/lang/System", .fieldLink RX5 29 "BaroRuns$Track" "size" "I"] ++ wsX20 ++ wsX50)
def wsX0_keep_r1 : List Cond := [Cond.fieldLink RX0 18 "BaroRuns$History" "size" "I", Cond.fieldLink RX0 22 "BaroRuns$History" "oldest" "I", Cond.methodLink RX0 25 yX0_place, Cond.instanceMethod yX0_place, Cond.selects RX0 yX0_place yX0_place, Cond.initialized RX0, Cond.code yX0_place cX0_place 3 (some (.object "BaroRuns$State")), Cond.fieldLink RX0 11 "BaroRuns$History" "places" "[LBaroRuns$State;", Cond.methodLink RX0 29 yX2_copyFrom, Cond.instanceMethod yX2_copyFrom, Cond.selects RX2 yX2_copyFrom yX2_copyFrom, Cond.initialized RX2, Cond.code yX2_copyFrom cX2_copyFrom 2 none, Cond.fieldLink RX2 14 "BaroRuns$State" "baseTrack" "LBaroRuns$Track;", Cond.fieldLink RX2 20 "BaroRuns$State" "firstTrack" "LBaroRuns$Track;", Cond.fieldLink RX2 23 "BaroRuns$State" "secondTrack" "LBaroRuns$Track;", Cond.fieldLink RX2 26 "BaroRuns$State" "thirdTrack" "LBaroRuns$Track;", Cond.fieldLink RX2 29 "BaroRuns$State" "baseHeight" "I", Cond.fieldLink RX2 33 "BaroRuns$State" "gustLimit" "I", Cond.fieldLink RX2 36 "BaroRuns$State" "stepLimit" "I", Cond.methodLink RX2 39 yX5_copyFrom, Cond.instanceMethod yX5_copyFrom, Cond.selects RX5 yX5_copyFrom yX5_copyFrom, Cond.initialized RX5]
def wsX0_keep_r2 : List Cond := [Cond.code yX5_copyFrom cX5_copyFrom 2 none, Cond.fieldLink RX5 9 "BaroRuns$Track" "values" "[I", Cond.methodLink RX5 15 Lib.Math.min.name, Cond.static Lib.Math.min.name, Cond.initialized "java/lang/Math", Cond.code Lib.Math.min.name Lib.Math.min.code 2 (some .int), Cond.methodLink RX5 43 arraycopyName, Cond.native arraycopyName, Cond.static arraycopyName, Cond.initialized "java/lang/System", Cond.fieldLink RX5 29 "BaroRuns$Track" "size" "I"]
def wsX0_keep : List Cond := .code yX0_keep cX0_keep 3 none :: ((wsX0_keep_r1 ++ wsX0_keep_r2) ++ wsX00 ++ wsX20 ++ wsX50)
def wsX0_giveBack_r1 : List Cond := [Cond.fieldLink RX0 18 "BaroRuns$History" "size" "I", Cond.methodLink RX0 25 yX0_place, Cond.instanceMethod yX0_place, Cond.selects RX0 yX0_place yX0_place, Cond.initialized RX0, Cond.code yX0_place cX0_place 3 (some (.object "BaroRuns$State")), Cond.fieldLink RX0 22 "BaroRuns$History" "oldest" "I", Cond.fieldLink RX0 11 "BaroRuns$History" "places" "[LBaroRuns$State;", Cond.methodLink RX0 29 yX2_copyFrom, Cond.instanceMethod yX2_copyFrom, Cond.selects RX2 yX2_copyFrom yX2_copyFrom, Cond.initialized RX2, Cond.code yX2_copyFrom cX2_copyFrom 2 none, Cond.fieldLink RX2 14 "BaroRuns$State" "baseTrack" "LBaroRuns$Track;", Cond.fieldLink RX2 20 "BaroRuns$State" "firstTrack" "LBaroRuns$Track;", Cond.fieldLink RX2 23 "BaroRuns$State" "secondTrack" "LBaroRuns$Track;", Cond.fieldLink RX2 26 "BaroRuns$State" "thirdTrack" "LBaroRuns$Track;", Cond.fieldLink RX2 29 "BaroRuns$State" "baseHeight" "I", Cond.fieldLink RX2 33 "BaroRuns$State" "gustLimit" "I", Cond.fieldLink RX2 36 "BaroRuns$State" "stepLimit" "I", Cond.methodLink RX2 39 yX5_copyFrom, Cond.instanceMethod yX5_copyFrom, Cond.selects RX5 yX5_copyFrom yX5_copyFrom, Cond.initialized RX5]
def wsX0_giveBack_r2 : List Cond := [Cond.code yX5_copyFrom cX5_copyFrom 2 none, Cond.fieldLink RX5 9 "BaroRuns$Track" "values" "[I", Cond.methodLink RX5 15 Lib.Math.min.name, Cond.static Lib.Math.min.name, Cond.initialized "java/lang/Math", Cond.code Lib.Math.min.name Lib.Math.min.code 2 (some .int), Cond.methodLink RX5 43 arraycopyName, Cond.native arraycopyName, Cond.static arraycopyName, Cond.initialized "java/lang/System", Cond.fieldLink RX5 29 "BaroRuns$Track" "size" "I"]
def wsX0_giveBack : List Cond := .code yX0_giveBack cX0_giveBack 3 none :: ((wsX0_giveBack_r1 ++ wsX0_giveBack_r2) ++ wsX00 ++ wsX20 ++ wsX50)
def wsX1_init : List Cond := .code yX1_init cX1_init 1 none :: ([.methodLink RX1 1 objectInit, .instanceMethod objectInit, .code objectInit ⟨#[0xb1]⟩ 1 none])
def wsX1_clear : List Cond := .code yX1_clear cX1_clear 1 none :: ([.fieldLink RX1 7 "BaroRuns$PointSum" "sum" "J", .fieldLink RX1 13 "BaroRuns$PointSum" "number" "I"] ++ wsX10)
def wsX1_add : List Cond := .code yX1_add cX1_add 2 none :: ([.fieldLink RX1 13 "BaroRuns$PointSum" "number" "I", .fieldLink RX1 17 "BaroRuns$PointSum" "least" "I", .methodLink RX1 20 Lib.Math.min.name, .static Lib.Math.min.name, .initialized "java/lang/Math", .code Lib.Math.min.name Lib.Math.min.code 2 (some .int), .fieldLink RX1 26 "BaroRuns$PointSum" "greatest" "I", .methodLink RX1 29 Lib.Math.max.name, .static Lib.Math.max.name, .code Lib.Math.max.name Lib.Math.max.code 2 (some .int), .fieldLink RX1 7 "BaroRuns$PointSum" "sum" "J"] ++ wsX10)
def wsJ9_floorDiv_f86c9 : List Cond := .code yJ9_floorDiv_f86c9 cJ9_floorDiv_f86c9 6 (some .long) :: ([])
def wsX6_divideDown : List Cond := .code yX6_divideDown cX6_divideDown 4 (some .long) :: ([.methodLink RX6 236 yJ9_floorDiv_f86c9, .static yJ9_floorDiv_f86c9, .initialized RJ9, .code yJ9_floorDiv_f86c9 cJ9_floorDiv_f86c9 6 (some .long)])
def wsX1_height : List Cond := .code yX1_height cX1_height 1 (some .int) :: ([.fieldLink RX1 7 "BaroRuns$PointSum" "sum" "J", .fieldLink RX1 13 "BaroRuns$PointSum" "number" "I", .static yX6_divideDown, .initialized RX6, .code yX6_divideDown cX6_divideDown 4 (some .long), .methodLink RX6 236 yJ9_floorDiv_f86c9, .static yJ9_floorDiv_f86c9, .initialized RJ9, .code yJ9_floorDiv_f86c9 cJ9_floorDiv_f86c9 6 (some .long)] ++ wsX10)
def wsX1_spread : List Cond := .code yX1_spread cX1_spread 1 (some .int) :: ([.fieldLink RX1 26 "BaroRuns$PointSum" "greatest" "I", .fieldLink RX1 17 "BaroRuns$PointSum" "least" "I"] ++ wsX10)
def wsX2_track : List Cond := .code yX2_track cX2_track 2 (some (.object "BaroRuns$Track")) :: ([.fieldLink RX2 20 "BaroRuns$State" "firstTrack" "LBaroRuns$Track;", .fieldLink RX2 23 "BaroRuns$State" "secondTrack" "LBaroRuns$Track;", .fieldLink RX2 26 "BaroRuns$State" "thirdTrack" "LBaroRuns$Track;", .fieldLink RX2 14 "BaroRuns$State" "baseTrack" "LBaroRuns$Track;"] ++ wsX20)
def wsX2_setting : List Cond := .code yX2_setting cX2_setting 2 (some .int) :: ([.fieldLink RX2 29 "BaroRuns$State" "baseHeight" "I", .fieldLink RX2 33 "BaroRuns$State" "gustLimit" "I", .fieldLink RX2 36 "BaroRuns$State" "stepLimit" "I"] ++ wsX20)
def wsX2_putSetting : List Cond := .code yX2_putSetting cX2_putSetting 3 none :: ([.fieldLink RX2 29 "BaroRuns$State" "baseHeight" "I", .fieldLink RX2 33 "BaroRuns$State" "gustLimit" "I", .fieldLink RX2 36 "BaroRuns$State" "stepLimit" "I"] ++ wsX20)
def wsX6_at : List Cond := .code yX6_at cX6_at 2 (some .int) :: ([])
def wsX5_value : List Cond := .code yX5_value cX5_value 3 (some .int) :: ([.fieldLink RX5 9 "BaroRuns$Track" "values" "[I", .static yX6_at, .initialized RX6, .code yX6_at cX6_at 2 (some .int)] ++ wsX50)
def wsX2_baseValue : List Cond := .code yX2_baseValue cX2_baseValue 10 (some .int) :: ([.fieldLink RX2 14 "BaroRuns$State" "baseTrack" "LBaroRuns$Track;", .constant RX2 50 (-2000000004), .methodLink RX2 46 yX5_value, .instanceMethod yX5_value, .selects RX5 yX5_value yX5_value, .initialized RX5, .code yX5_value cX5_value 3 (some .int), .fieldLink RX5 9 "BaroRuns$Track" "values" "[I", .static yX6_at, .initialized RX6, .code yX6_at cX6_at 2 (some .int), .static yX6_divideDown, .code yX6_divideDown cX6_divideDown 4 (some .long), .methodLink RX6 236 yJ9_floorDiv_f86c9, .static yJ9_floorDiv_f86c9, .initialized RJ9, .code yJ9_floorDiv_f86c9 cJ9_floorDiv_f86c9 6 (some .long)] ++ wsX20 ++ wsX50)
def wsJ9_floorDiv_7cf53 : List Cond := .code yJ9_floorDiv_7cf53 cJ9_floorDiv_7cf53 3 (some .int) :: ([])
def wsX2_heightAt_r1 : List Cond := [Cond.constant RX2 50 (-2000000004), Cond.constantLong RX2 63 (2930), Cond.fieldLink RX2 29 "BaroRuns$State" "baseHeight" "I", Cond.methodLink RX2 55 yX2_baseValue, Cond.instanceMethod yX2_baseValue, Cond.selects RX2 yX2_baseValue yX2_baseValue, Cond.initialized RX2, Cond.code yX2_baseValue cX2_baseValue 10 (some .int), Cond.fieldLink RX2 14 "BaroRuns$State" "baseTrack" "LBaroRuns$Track;", Cond.methodLink RX2 46 yX5_value, Cond.instanceMethod yX5_value, Cond.selects RX5 yX5_value yX5_value, Cond.initialized RX5, Cond.code yX5_value cX5_value 3 (some .int), Cond.fieldLink RX5 9 "BaroRuns$Track" "values" "[I", Cond.static yX6_at, Cond.initialized RX6, Cond.code yX6_at cX6_at 2 (some .int), Cond.static yX6_divideDown, Cond.code yX6_divideDown cX6_divideDown 4 (some .long), Cond.methodLink RX6 236 yJ9_floorDiv_f86c9, Cond.static yJ9_floorDiv_f86c9, Cond.initialized RJ9, Cond.code yJ9_floorDiv_f86c9 cJ9_floorDiv_f86c9 6 (some .long)]
def wsX2_heightAt_r2 : List Cond := [Cond.methodLink RX2 58 yJ9_floorDiv_7cf53, Cond.static yJ9_floorDiv_7cf53, Cond.code yJ9_floorDiv_7cf53 cJ9_floorDiv_7cf53 3 (some .int)]
def wsX2_heightAt : List Cond := .code yX2_heightAt cX2_heightAt 12 (some .int) :: ((wsX2_heightAt_r1 ++ wsX2_heightAt_r2) ++ wsX20 ++ wsX50)
def wsX2_isStepEnd : List Cond := .code yX2_isStepEnd cX2_isStepEnd 3 (some .boolean) :: ([.fieldLink RX2 14 "BaroRuns$State" "baseTrack" "LBaroRuns$Track;", .methodLink RX2 65 Lib.Math.abs.name, .static Lib.Math.abs.name, .initialized "java/lang/Math", .code Lib.Math.abs.name Lib.Math.abs.code 1 (some .int), .fieldLink RX2 36 "BaroRuns$State" "stepLimit" "I", .methodLink RX2 46 yX5_value, .instanceMethod yX5_value, .selects RX5 yX5_value yX5_value, .initialized RX5, .code yX5_value cX5_value 3 (some .int), .fieldLink RX5 9 "BaroRuns$Track" "values" "[I", .static yX6_at, .initialized RX6, .code yX6_at cX6_at 2 (some .int)] ++ wsX20 ++ wsX50)
def wsX2_steps : List Cond := .code yX2_steps cX2_steps 3 (some .int) :: ([.fieldLink RX2 14 "BaroRuns$State" "baseTrack" "LBaroRuns$Track;", .methodLink RX2 69 yX2_isStepEnd, .instanceMethod yX2_isStepEnd, .selects RX2 yX2_isStepEnd yX2_isStepEnd, .initialized RX2, .code yX2_isStepEnd cX2_isStepEnd 3 (some .boolean), .methodLink RX2 65 Lib.Math.abs.name, .static Lib.Math.abs.name, .initialized "java/lang/Math", .code Lib.Math.abs.name Lib.Math.abs.code 1 (some .int), .fieldLink RX2 36 "BaroRuns$State" "stepLimit" "I", .methodLink RX2 46 yX5_value, .instanceMethod yX5_value, .selects RX5 yX5_value yX5_value, .initialized RX5, .code yX5_value cX5_value 3 (some .int), .fieldLink RX5 9 "BaroRuns$Track" "values" "[I", .static yX6_at, .initialized RX6, .code yX6_at cX6_at 2 (some .int)] ++ wsX20 ++ wsX50)
def wsX3_init : List Cond := .code yX3_init cX3_init 1 none :: ([.methodLink RX3 3 objectInit, .instanceMethod objectInit, .code objectInit ⟨#[0xb1]⟩ 1 none, .arrayClass .int, .fieldLink RX3 9 "BaroRuns$Survey" "times" "[I", .fieldLink RX3 15 "BaroRuns$Survey" "points" "[I", .fieldLink RX3 18 "BaroRuns$Survey" "heights" "[I", .fieldLink RX3 21 "BaroRuns$Survey" "gusts" "[I", .fieldLink RX3 24 "BaroRuns$Survey" "openLoops" "[I", .fieldLink RX3 27 "BaroRuns$Survey" "correctedHeights" "[I", .fieldLink RX3 30 "BaroRuns$Survey" "begins" "[I", .fieldLink RX3 33 "BaroRuns$Survey" "ends" "[I"] ++ wsX30)
def wsX6_put : List Cond := .code yX6_put cX6_put 3 none :: ([])
def wsX5_standsOut : List Cond := .code yX5_standsOut cX5_standsOut 6 (some .boolean) :: ([.fieldLink RX5 29 "BaroRuns$Track" "size" "I", .methodLink RX5 32 yX5_value, .instanceMethod yX5_value, .selects RX5 yX5_value yX5_value, .initialized RX5, .code yX5_value cX5_value 3 (some .int), .fieldLink RX5 9 "BaroRuns$Track" "values" "[I", .static yX6_at, .initialized RX6, .code yX6_at cX6_at 2 (some .int)] ++ wsX50)
def wsX3_isGust : List Cond := .code yX3_isGust cX3_isGust 2 (some .boolean) :: ([.fieldLink RX3 21 "BaroRuns$Survey" "gusts" "[I", .static yX6_at, .initialized RX6, .code yX6_at cX6_at 2 (some .int)] ++ wsX30)
def wsX3_isGood : List Cond := .code yX3_isGood cX3_isGood 2 (some .boolean) :: ([.fieldLink RX3 18 "BaroRuns$Survey" "heights" "[I", .constant RX3 85 (-2000000004), .fieldLink RX3 21 "BaroRuns$Survey" "gusts" "[I", .static yX6_at, .initialized RX6, .code yX6_at cX6_at 2 (some .int)] ++ wsX30)
def wsX3_countKinds : List Cond := .code yX3_countKinds cX3_countKinds 2 none :: ([.fieldLink RX3 114 "BaroRuns$Survey" "gustCount" "I", .fieldLink RX3 117 "BaroRuns$Survey" "goodCount" "I", .fieldLink RX3 48 "BaroRuns$Survey" "size" "I", .methodLink RX3 120 yX3_isGust, .instanceMethod yX3_isGust, .selects RX3 yX3_isGust yX3_isGust, .initialized RX3, .code yX3_isGust cX3_isGust 2 (some .boolean), .fieldLink RX3 21 "BaroRuns$Survey" "gusts" "[I", .static yX6_at, .initialized RX6, .code yX6_at cX6_at 2 (some .int), .methodLink RX3 95 yX3_isGood, .instanceMethod yX3_isGood, .selects RX3 yX3_isGood yX3_isGood, .code yX3_isGood cX3_isGood 2 (some .boolean), .fieldLink RX3 18 "BaroRuns$Survey" "heights" "[I", .constant RX3 85 (-2000000004)] ++ wsX30)
def wsX3_lastVisit : List Cond := .code yX3_lastVisit cX3_lastVisit 4 (some .int) :: ([.fieldLink RX3 15 "BaroRuns$Survey" "points" "[I", .static yX6_at, .initialized RX6, .code yX6_at cX6_at 2 (some .int), .methodLink RX3 95 yX3_isGood, .instanceMethod yX3_isGood, .selects RX3 yX3_isGood yX3_isGood, .initialized RX3, .code yX3_isGood cX3_isGood 2 (some .boolean), .fieldLink RX3 18 "BaroRuns$Survey" "heights" "[I", .constant RX3 85 (-2000000004), .fieldLink RX3 21 "BaroRuns$Survey" "gusts" "[I"] ++ wsX30)
def wsX3_findLoops : List Cond := .code yX3_findLoops cX3_findLoops 3 none :: ([.fieldLink RX3 123 "BaroRuns$Survey" "loopCount" "I", .fieldLink RX3 48 "BaroRuns$Survey" "size" "I", .fieldLink RX3 30 "BaroRuns$Survey" "begins" "[I", .fieldLink RX3 33 "BaroRuns$Survey" "ends" "[I", .methodLink RX3 95 yX3_isGood, .instanceMethod yX3_isGood, .selects RX3 yX3_isGood yX3_isGood, .initialized RX3, .code yX3_isGood cX3_isGood 2 (some .boolean), .fieldLink RX3 18 "BaroRuns$Survey" "heights" "[I", .constant RX3 85 (-2000000004), .fieldLink RX3 21 "BaroRuns$Survey" "gusts" "[I", .static yX6_at, .initialized RX6, .code yX6_at cX6_at 2 (some .int), .methodLink RX3 126 yX3_lastVisit, .instanceMethod yX3_lastVisit, .selects RX3 yX3_lastVisit yX3_lastVisit, .code yX3_lastVisit cX3_lastVisit 4 (some .int), .fieldLink RX3 15 "BaroRuns$Survey" "points" "[I", .static yX6_put, .code yX6_put cX6_put 3 none] ++ wsX30)
def wsX3_begin : List Cond := .code yX3_begin cX3_begin 2 (some .int) :: ([.fieldLink RX3 30 "BaroRuns$Survey" "begins" "[I", .static yX6_at, .initialized RX6, .code yX6_at cX6_at 2 (some .int)] ++ wsX30)
def wsX3_end : List Cond := .code yX3_end cX3_end 2 (some .int) :: ([.fieldLink RX3 33 "BaroRuns$Survey" "ends" "[I", .static yX6_at, .initialized RX6, .code yX6_at cX6_at 2 (some .int)] ++ wsX30)
def wsX3_minutes : List Cond := .code yX3_minutes cX3_minutes 2 (some .int) :: ([.fieldLink RX3 9 "BaroRuns$Survey" "times" "[I", .methodLink RX3 86 yX3_end, .instanceMethod yX3_end, .selects RX3 yX3_end yX3_end, .initialized RX3, .code yX3_end cX3_end 2 (some .int), .fieldLink RX3 33 "BaroRuns$Survey" "ends" "[I", .static yX6_at, .initialized RX6, .code yX6_at cX6_at 2 (some .int), .methodLink RX3 89 yX3_begin, .instanceMethod yX3_begin, .selects RX3 yX3_begin yX3_begin, .code yX3_begin cX3_begin 2 (some .int), .fieldLink RX3 30 "BaroRuns$Survey" "begins" "[I"] ++ wsX30)
def wsX3_shortestLoop_r1 : List Cond := [Cond.fieldLink RX3 123 "BaroRuns$Survey" "loopCount" "I", Cond.methodLink RX3 95 yX3_isGood, Cond.instanceMethod yX3_isGood, Cond.selects RX3 yX3_isGood yX3_isGood, Cond.initialized RX3, Cond.code yX3_isGood cX3_isGood 2 (some .boolean), Cond.fieldLink RX3 18 "BaroRuns$Survey" "heights" "[I", Cond.constant RX3 85 (-2000000004), Cond.fieldLink RX3 21 "BaroRuns$Survey" "gusts" "[I", Cond.static yX6_at, Cond.initialized RX6, Cond.code yX6_at cX6_at 2 (some .int), Cond.methodLink RX3 89 yX3_begin, Cond.instanceMethod yX3_begin, Cond.selects RX3 yX3_begin yX3_begin, Cond.code yX3_begin cX3_begin 2 (some .int), Cond.fieldLink RX3 30 "BaroRuns$Survey" "begins" "[I", Cond.methodLink RX3 86 yX3_end, Cond.instanceMethod yX3_end, Cond.selects RX3 yX3_end yX3_end, Cond.code yX3_end cX3_end 2 (some .int), Cond.fieldLink RX3 33 "BaroRuns$Survey" "ends" "[I", Cond.methodLink RX3 129 yX3_minutes, Cond.instanceMethod yX3_minutes]
def wsX3_shortestLoop_r2 : List Cond := [Cond.selects RX3 yX3_minutes yX3_minutes, Cond.code yX3_minutes cX3_minutes 2 (some .int), Cond.fieldLink RX3 9 "BaroRuns$Survey" "times" "[I"]
def wsX3_shortestLoop : List Cond := .code yX3_shortestLoop cX3_shortestLoop 5 (some .int) :: ((wsX3_shortestLoop_r1 ++ wsX3_shortestLoop_r2) ++ wsX30)
def wsX3_openLoopOf : List Cond := .code yX3_openLoopOf cX3_openLoopOf 2 (some .int) :: ([.fieldLink RX3 24 "BaroRuns$Survey" "openLoops" "[I", .static yX6_at, .initialized RX6, .code yX6_at cX6_at 2 (some .int)] ++ wsX30)
def wsX3_rawHeight : List Cond := .code yX3_rawHeight cX3_rawHeight 2 (some .int) :: ([.fieldLink RX3 18 "BaroRuns$Survey" "heights" "[I", .static yX6_at, .initialized RX6, .code yX6_at cX6_at 2 (some .int)] ++ wsX30)
def wsX3_misclosure : List Cond := .code yX3_misclosure cX3_misclosure 2 (some .int) :: ([.methodLink RX3 86 yX3_end, .instanceMethod yX3_end, .selects RX3 yX3_end yX3_end, .initialized RX3, .code yX3_end cX3_end 2 (some .int), .fieldLink RX3 33 "BaroRuns$Survey" "ends" "[I", .static yX6_at, .initialized RX6, .code yX6_at cX6_at 2 (some .int), .methodLink RX3 92 yX3_rawHeight, .instanceMethod yX3_rawHeight, .selects RX3 yX3_rawHeight yX3_rawHeight, .code yX3_rawHeight cX3_rawHeight 2 (some .int), .fieldLink RX3 18 "BaroRuns$Survey" "heights" "[I", .methodLink RX3 89 yX3_begin, .instanceMethod yX3_begin, .selects RX3 yX3_begin yX3_begin, .code yX3_begin cX3_begin 2 (some .int), .fieldLink RX3 30 "BaroRuns$Survey" "begins" "[I"] ++ wsX30)
def wsX3_withoutDrift_r1 : List Cond := [Cond.constant RX3 85 (-2000000004), Cond.fieldLink RX3 9 "BaroRuns$Survey" "times" "[I", Cond.methodLink RX3 95 yX3_isGood, Cond.instanceMethod yX3_isGood, Cond.selects RX3 yX3_isGood yX3_isGood, Cond.initialized RX3, Cond.code yX3_isGood cX3_isGood 2 (some .boolean), Cond.fieldLink RX3 18 "BaroRuns$Survey" "heights" "[I", Cond.fieldLink RX3 21 "BaroRuns$Survey" "gusts" "[I", Cond.static yX6_at, Cond.initialized RX6, Cond.code yX6_at cX6_at 2 (some .int), Cond.methodLink RX3 111 yX3_openLoopOf, Cond.instanceMethod yX3_openLoopOf, Cond.selects RX3 yX3_openLoopOf yX3_openLoopOf, Cond.code yX3_openLoopOf cX3_openLoopOf 2 (some .int), Cond.fieldLink RX3 24 "BaroRuns$Survey" "openLoops" "[I", Cond.methodLink RX3 92 yX3_rawHeight, Cond.instanceMethod yX3_rawHeight, Cond.selects RX3 yX3_rawHeight yX3_rawHeight, Cond.code yX3_rawHeight cX3_rawHeight 2 (some .int), Cond.methodLink RX3 89 yX3_begin, Cond.instanceMethod yX3_begin, Cond.selects RX3 yX3_begin yX3_begin]
def wsX3_withoutDrift_r2 : List Cond := [Cond.code yX3_begin cX3_begin 2 (some .int), Cond.fieldLink RX3 30 "BaroRuns$Survey" "begins" "[I", Cond.methodLink RX3 132 yX3_misclosure, Cond.instanceMethod yX3_misclosure, Cond.selects RX3 yX3_misclosure yX3_misclosure, Cond.code yX3_misclosure cX3_misclosure 2 (some .int), Cond.methodLink RX3 86 yX3_end, Cond.instanceMethod yX3_end, Cond.selects RX3 yX3_end yX3_end, Cond.code yX3_end cX3_end 2 (some .int), Cond.fieldLink RX3 33 "BaroRuns$Survey" "ends" "[I", Cond.methodLink RX3 129 yX3_minutes, Cond.instanceMethod yX3_minutes, Cond.selects RX3 yX3_minutes yX3_minutes, Cond.code yX3_minutes cX3_minutes 2 (some .int), Cond.static yX6_divideDown, Cond.code yX6_divideDown cX6_divideDown 4 (some .long), Cond.methodLink RX6 236 yJ9_floorDiv_f86c9, Cond.static yJ9_floorDiv_f86c9, Cond.initialized RJ9, Cond.code yJ9_floorDiv_f86c9 cJ9_floorDiv_f86c9 6 (some .long)]
def wsX3_withoutDrift : List Cond := .code yX3_withoutDrift cX3_withoutDrift 5 (some .int) :: ((wsX3_withoutDrift_r1 ++ wsX3_withoutDrift_r2) ++ wsX30)
def wsX3_workOut_r1 : List Cond := [Cond.fieldLink RX3 48 "BaroRuns$Survey" "size" "I", Cond.fieldLink RX3 9 "BaroRuns$Survey" "times" "[I", Cond.fieldLink RX3 15 "BaroRuns$Survey" "points" "[I", Cond.fieldLink RX3 18 "BaroRuns$Survey" "heights" "[I", Cond.fieldLink RX3 21 "BaroRuns$Survey" "gusts" "[I", Cond.fieldLink RX3 24 "BaroRuns$Survey" "openLoops" "[I", Cond.fieldLink RX3 27 "BaroRuns$Survey" "correctedHeights" "[I", Cond.methodLink RX3 36 yX2_track, Cond.instanceMethod yX2_track, Cond.selects RX2 yX2_track yX2_track, Cond.initialized RX2, Cond.code yX2_track cX2_track 2 (some (.object "BaroRuns$Track")), Cond.fieldLink RX2 20 "BaroRuns$State" "firstTrack" "LBaroRuns$Track;", Cond.fieldLink RX2 23 "BaroRuns$State" "secondTrack" "LBaroRuns$Track;", Cond.fieldLink RX2 26 "BaroRuns$State" "thirdTrack" "LBaroRuns$Track;", Cond.fieldLink RX2 14 "BaroRuns$State" "baseTrack" "LBaroRuns$Track;", Cond.methodLink RX3 49 yX5_value, Cond.instanceMethod yX5_value, Cond.selects RX5 yX5_value yX5_value, Cond.initialized RX5, Cond.code yX5_value cX5_value 3 (some .int), Cond.fieldLink RX5 9 "BaroRuns$Track" "values" "[I", Cond.static yX6_at, Cond.initialized RX6]
def wsX3_workOut_r2 : List Cond := [Cond.code yX6_at cX6_at 2 (some .int), Cond.static yX6_put, Cond.code yX6_put cX6_put 3 none, Cond.methodLink RX3 57 yX2_heightAt, Cond.instanceMethod yX2_heightAt, Cond.selects RX2 yX2_heightAt yX2_heightAt, Cond.code yX2_heightAt cX2_heightAt 12 (some .int), Cond.constant RX2 50 (-2000000004), Cond.constantLong RX2 63 (2930), Cond.fieldLink RX2 29 "BaroRuns$State" "baseHeight" "I", Cond.methodLink RX2 55 yX2_baseValue, Cond.instanceMethod yX2_baseValue, Cond.selects RX2 yX2_baseValue yX2_baseValue, Cond.code yX2_baseValue cX2_baseValue 10 (some .int), Cond.methodLink RX2 46 yX5_value, Cond.static yX6_divideDown, Cond.code yX6_divideDown cX6_divideDown 4 (some .long), Cond.methodLink RX6 236 yJ9_floorDiv_f86c9, Cond.static yJ9_floorDiv_f86c9, Cond.initialized RJ9, Cond.code yJ9_floorDiv_f86c9 cJ9_floorDiv_f86c9 6 (some .long), Cond.methodLink RX2 58 yJ9_floorDiv_7cf53, Cond.static yJ9_floorDiv_7cf53, Cond.code yJ9_floorDiv_7cf53 cJ9_floorDiv_7cf53 3 (some .int)]
def wsX3_workOut_r3 : List Cond := [Cond.methodLink RX3 64 yX5_standsOut, Cond.instanceMethod yX5_standsOut, Cond.selects RX5 yX5_standsOut yX5_standsOut, Cond.code yX5_standsOut cX5_standsOut 6 (some .boolean), Cond.fieldLink RX5 29 "BaroRuns$Track" "size" "I", Cond.methodLink RX5 32 yX5_value, Cond.methodLink RX3 68 yX3_countKinds, Cond.instanceMethod yX3_countKinds, Cond.selects RX3 yX3_countKinds yX3_countKinds, Cond.initialized RX3, Cond.code yX3_countKinds cX3_countKinds 2 none, Cond.fieldLink RX3 114 "BaroRuns$Survey" "gustCount" "I", Cond.fieldLink RX3 117 "BaroRuns$Survey" "goodCount" "I", Cond.methodLink RX3 120 yX3_isGust, Cond.instanceMethod yX3_isGust, Cond.selects RX3 yX3_isGust yX3_isGust, Cond.code yX3_isGust cX3_isGust 2 (some .boolean), Cond.methodLink RX3 95 yX3_isGood, Cond.instanceMethod yX3_isGood, Cond.selects RX3 yX3_isGood yX3_isGood, Cond.code yX3_isGood cX3_isGood 2 (some .boolean), Cond.constant RX3 85 (-2000000004), Cond.methodLink RX3 71 yX3_findLoops, Cond.instanceMethod yX3_findLoops]
def wsX3_workOut_r4 : List Cond := [Cond.selects RX3 yX3_findLoops yX3_findLoops, Cond.code yX3_findLoops cX3_findLoops 3 none, Cond.fieldLink RX3 123 "BaroRuns$Survey" "loopCount" "I", Cond.fieldLink RX3 30 "BaroRuns$Survey" "begins" "[I", Cond.fieldLink RX3 33 "BaroRuns$Survey" "ends" "[I", Cond.methodLink RX3 126 yX3_lastVisit, Cond.instanceMethod yX3_lastVisit, Cond.selects RX3 yX3_lastVisit yX3_lastVisit, Cond.code yX3_lastVisit cX3_lastVisit 4 (some .int), Cond.methodLink RX3 74 yX3_shortestLoop, Cond.instanceMethod yX3_shortestLoop, Cond.selects RX3 yX3_shortestLoop yX3_shortestLoop, Cond.code yX3_shortestLoop cX3_shortestLoop 5 (some .int), Cond.methodLink RX3 89 yX3_begin, Cond.instanceMethod yX3_begin, Cond.selects RX3 yX3_begin yX3_begin, Cond.code yX3_begin cX3_begin 2 (some .int), Cond.methodLink RX3 86 yX3_end, Cond.instanceMethod yX3_end, Cond.selects RX3 yX3_end yX3_end, Cond.code yX3_end cX3_end 2 (some .int), Cond.methodLink RX3 129 yX3_minutes, Cond.instanceMethod yX3_minutes, Cond.selects RX3 yX3_minutes yX3_minutes]
def wsX3_workOut_r5 : List Cond := [Cond.code yX3_minutes cX3_minutes 2 (some .int), Cond.methodLink RX3 78 yX3_withoutDrift, Cond.instanceMethod yX3_withoutDrift, Cond.selects RX3 yX3_withoutDrift yX3_withoutDrift, Cond.code yX3_withoutDrift cX3_withoutDrift 5 (some .int), Cond.methodLink RX3 111 yX3_openLoopOf, Cond.instanceMethod yX3_openLoopOf, Cond.selects RX3 yX3_openLoopOf yX3_openLoopOf, Cond.code yX3_openLoopOf cX3_openLoopOf 2 (some .int), Cond.methodLink RX3 92 yX3_rawHeight, Cond.instanceMethod yX3_rawHeight, Cond.selects RX3 yX3_rawHeight yX3_rawHeight, Cond.code yX3_rawHeight cX3_rawHeight 2 (some .int), Cond.methodLink RX3 132 yX3_misclosure, Cond.instanceMethod yX3_misclosure, Cond.selects RX3 yX3_misclosure yX3_misclosure, Cond.code yX3_misclosure cX3_misclosure 2 (some .int)]
def wsX3_workOut : List Cond := .code yX3_workOut cX3_workOut 8 none :: ((wsX3_workOut_r1 ++ (wsX3_workOut_r2 ++ (wsX3_workOut_r3 ++ (wsX3_workOut_r4 ++ wsX3_workOut_r5)))) ++ wsX50 ++ wsX30 ++ wsX20)
def wsX3_correctedHeight : List Cond := .code yX3_correctedHeight cX3_correctedHeight 2 (some .int) :: ([.fieldLink RX3 27 "BaroRuns$Survey" "correctedHeights" "[I", .static yX6_at, .initialized RX6, .code yX6_at cX6_at 2 (some .int)] ++ wsX30)
def wsX3_misclosureBySteps_r1 : List Cond := [Cond.fieldLink RX3 48 "BaroRuns$Survey" "size" "I", Cond.methodLink RX3 89 yX3_begin, Cond.instanceMethod yX3_begin, Cond.selects RX3 yX3_begin yX3_begin, Cond.initialized RX3, Cond.code yX3_begin cX3_begin 2 (some .int), Cond.fieldLink RX3 30 "BaroRuns$Survey" "begins" "[I", Cond.static yX6_at, Cond.initialized RX6, Cond.code yX6_at cX6_at 2 (some .int), Cond.methodLink RX3 92 yX3_rawHeight, Cond.instanceMethod yX3_rawHeight, Cond.selects RX3 yX3_rawHeight yX3_rawHeight, Cond.code yX3_rawHeight cX3_rawHeight 2 (some .int), Cond.fieldLink RX3 18 "BaroRuns$Survey" "heights" "[I", Cond.methodLink RX3 86 yX3_end, Cond.instanceMethod yX3_end, Cond.selects RX3 yX3_end yX3_end, Cond.code yX3_end cX3_end 2 (some .int), Cond.fieldLink RX3 33 "BaroRuns$Survey" "ends" "[I", Cond.methodLink RX3 95 yX3_isGood, Cond.instanceMethod yX3_isGood, Cond.selects RX3 yX3_isGood yX3_isGood, Cond.code yX3_isGood cX3_isGood 2 (some .boolean)]
def wsX3_misclosureBySteps_r2 : List Cond := [Cond.constant RX3 85 (-2000000004), Cond.fieldLink RX3 21 "BaroRuns$Survey" "gusts" "[I"]
def wsX3_misclosureBySteps : List Cond := .code yX3_misclosureBySteps cX3_misclosureBySteps 5 (some .int) :: ((wsX3_misclosureBySteps_r1 ++ wsX3_misclosureBySteps_r2) ++ wsX30)
def wsX3_endsOpenLoop : List Cond := .code yX3_endsOpenLoop cX3_endsOpenLoop 3 (some .boolean) :: ([.methodLink RX3 111 yX3_openLoopOf, .instanceMethod yX3_openLoopOf, .selects RX3 yX3_openLoopOf yX3_openLoopOf, .initialized RX3, .code yX3_openLoopOf cX3_openLoopOf 2 (some .int), .fieldLink RX3 24 "BaroRuns$Survey" "openLoops" "[I", .static yX6_at, .initialized RX6, .code yX6_at cX6_at 2 (some .int), .methodLink RX3 86 yX3_end, .instanceMethod yX3_end, .selects RX3 yX3_end yX3_end, .code yX3_end cX3_end 2 (some .int), .fieldLink RX3 33 "BaroRuns$Survey" "ends" "[I"] ++ wsX30)
def wsX3_addTo_r1 : List Cond := [Cond.fieldLink RX3 48 "BaroRuns$Survey" "size" "I", Cond.fieldLink RX3 15 "BaroRuns$Survey" "points" "[I", Cond.methodLink RX3 95 yX3_isGood, Cond.instanceMethod yX3_isGood, Cond.selects RX3 yX3_isGood yX3_isGood, Cond.initialized RX3, Cond.code yX3_isGood cX3_isGood 2 (some .boolean), Cond.fieldLink RX3 18 "BaroRuns$Survey" "heights" "[I", Cond.constant RX3 85 (-2000000004), Cond.fieldLink RX3 21 "BaroRuns$Survey" "gusts" "[I", Cond.static yX6_at, Cond.initialized RX6, Cond.code yX6_at cX6_at 2 (some .int), Cond.methodLink RX3 99 yX3_endsOpenLoop, Cond.instanceMethod yX3_endsOpenLoop, Cond.selects RX3 yX3_endsOpenLoop yX3_endsOpenLoop, Cond.code yX3_endsOpenLoop cX3_endsOpenLoop 3 (some .boolean), Cond.methodLink RX3 111 yX3_openLoopOf, Cond.instanceMethod yX3_openLoopOf, Cond.selects RX3 yX3_openLoopOf yX3_openLoopOf, Cond.code yX3_openLoopOf cX3_openLoopOf 2 (some .int), Cond.fieldLink RX3 24 "BaroRuns$Survey" "openLoops" "[I", Cond.methodLink RX3 86 yX3_end, Cond.instanceMethod yX3_end]
def wsX3_addTo_r2 : List Cond := [Cond.selects RX3 yX3_end yX3_end, Cond.code yX3_end cX3_end 2 (some .int), Cond.fieldLink RX3 33 "BaroRuns$Survey" "ends" "[I", Cond.methodLink RX3 102 yX3_correctedHeight, Cond.instanceMethod yX3_correctedHeight, Cond.selects RX3 yX3_correctedHeight yX3_correctedHeight, Cond.code yX3_correctedHeight cX3_correctedHeight 2 (some .int), Cond.fieldLink RX3 27 "BaroRuns$Survey" "correctedHeights" "[I", Cond.methodLink RX3 105 yX1_add, Cond.instanceMethod yX1_add, Cond.selects RX1 yX1_add yX1_add, Cond.initialized RX1, Cond.code yX1_add cX1_add 2 none, Cond.fieldLink RX1 13 "BaroRuns$PointSum" "number" "I", Cond.fieldLink RX1 17 "BaroRuns$PointSum" "least" "I", Cond.methodLink RX1 20 Lib.Math.min.name, Cond.static Lib.Math.min.name, Cond.initialized "java/lang/Math", Cond.code Lib.Math.min.name Lib.Math.min.code 2 (some .int), Cond.fieldLink RX1 26 "BaroRuns$PointSum" "greatest" "I", Cond.methodLink RX1 29 Lib.Math.max.name, Cond.static Lib.Math.max.name, Cond.code Lib.Math.max.name Lib.Math.max.code 2 (some .int), Cond.fieldLink RX1 7 "BaroRuns$PointSum" "sum" "J"]
def wsX3_addTo : List Cond := .code yX3_addTo cX3_addTo 4 none :: ((wsX3_addTo_r1 ++ wsX3_addTo_r2) ++ wsX30 ++ wsX10)
def wsX4_init : List Cond := .code yX4_init cX4_init 1 none :: ([.methodLink RX4 3 objectInit, .instanceMethod objectInit, .code objectInit ⟨#[0xb1]⟩ 1 none, .arrayClass .int, .fieldLink RX4 9 "BaroRuns$Text" "characters" "[I", .fieldLink RX4 15 "BaroRuns$Text" "faultPosition" "I"] ++ wsX40)
def wsX5_isFull : List Cond := .code yX5_isFull cX5_isFull 1 (some .boolean) :: ([.fieldLink RX5 29 "BaroRuns$Track" "size" "I", .fieldLink RX5 21 "BaroRuns$Track" "room" "I"] ++ wsX50)
def wsX5_hasTime : List Cond := .code yX5_hasTime cX5_hasTime 3 (some .boolean) :: ([.fieldLink RX5 29 "BaroRuns$Track" "size" "I", .methodLink RX5 32 yX5_value, .instanceMethod yX5_value, .selects RX5 yX5_value yX5_value, .initialized RX5, .code yX5_value cX5_value 3 (some .int), .fieldLink RX5 9 "BaroRuns$Track" "values" "[I", .static yX6_at, .initialized RX6, .code yX6_at cX6_at 2 (some .int)] ++ wsX50)
def wsX5_move : List Cond := .code yX5_move cX5_move 4 none :: ([.fieldLink RX5 9 "BaroRuns$Track" "values" "[I", .methodLink RX5 32 yX5_value, .instanceMethod yX5_value, .selects RX5 yX5_value yX5_value, .initialized RX5, .code yX5_value cX5_value 3 (some .int), .static yX6_at, .initialized RX6, .code yX6_at cX6_at 2 (some .int), .static yX6_put, .code yX6_put cX6_put 3 none] ++ wsX50)
def wsX5_insert : List Cond := .code yX5_insert cX5_insert 7 (some .int) :: ([.fieldLink RX5 29 "BaroRuns$Track" "size" "I", .fieldLink RX5 9 "BaroRuns$Track" "values" "[I", .methodLink RX5 32 yX5_value, .instanceMethod yX5_value, .selects RX5 yX5_value yX5_value, .initialized RX5, .code yX5_value cX5_value 3 (some .int), .static yX6_at, .initialized RX6, .code yX6_at cX6_at 2 (some .int), .methodLink RX5 35 yX5_move, .instanceMethod yX5_move, .selects RX5 yX5_move yX5_move, .code yX5_move cX5_move 4 none, .static yX6_put, .code yX6_put cX6_put 3 none] ++ wsX50)
def wsX5_remove : List Cond := .code yX5_remove cX5_remove 3 none :: ([.fieldLink RX5 29 "BaroRuns$Track" "size" "I", .methodLink RX5 35 yX5_move, .instanceMethod yX5_move, .selects RX5 yX5_move yX5_move, .initialized RX5, .code yX5_move cX5_move 4 none, .fieldLink RX5 9 "BaroRuns$Track" "values" "[I", .methodLink RX5 32 yX5_value, .instanceMethod yX5_value, .selects RX5 yX5_value yX5_value, .code yX5_value cX5_value 3 (some .int), .static yX6_at, .initialized RX6, .code yX6_at cX6_at 2 (some .int), .static yX6_put, .code yX6_put cX6_put 3 none] ++ wsX50)
def wsX6_init_r1 : List Cond := [Cond.methodLink RX6 1 objectInit, Cond.instanceMethod objectInit, Cond.code objectInit ⟨#[0xb1]⟩ 1 none, Cond.classLink RX6 7 RX2, Cond.instantiable RX2 7, Cond.initialized RX2, Cond.fieldLink RX6 10 "BaroRuns" "now" "LBaroRuns$State;", Cond.fieldLink RX6 16 "BaroRuns" "trial" "LBaroRuns$State;", Cond.classLink RX6 19 RX0, Cond.instantiable RX0 3, Cond.initialized RX0, Cond.fieldLink RX6 22 "BaroRuns" "history" "LBaroRuns$History;", Cond.classLink RX6 26 RX3, Cond.instantiable RX3 12, Cond.initialized RX3, Cond.fieldLink RX6 29 "BaroRuns" "firstSurvey" "LBaroRuns$Survey;", Cond.fieldLink RX6 33 "BaroRuns" "secondSurvey" "LBaroRuns$Survey;", Cond.fieldLink RX6 36 "BaroRuns" "thirdSurvey" "LBaroRuns$Survey;", Cond.classLink RX6 39 RX1, Cond.instantiable RX1 4, Cond.initialized RX1, Cond.fieldLink RX6 42 "BaroRuns" "pointSum" "LBaroRuns$PointSum;", Cond.classLink RX6 46 RX4, Cond.instantiable RX4 11]
def wsX6_init_r2 : List Cond := [Cond.initialized RX4, Cond.fieldLink RX6 49 "BaroRuns" "text" "LBaroRuns$Text;", Cond.fieldLink RX6 53 "BaroRuns" "stale" "Z", Cond.methodLink RX6 9 yX2_init, Cond.instanceMethod yX2_init, Cond.code yX2_init cX2_init 1 none, Cond.methodLink RX2 3 objectInit, Cond.classLink RX2 9 RX5, Cond.instantiable RX5 3, Cond.initialized RX5, Cond.fieldLink RX2 14 "BaroRuns$State" "baseTrack" "LBaroRuns$Track;", Cond.fieldLink RX2 20 "BaroRuns$State" "firstTrack" "LBaroRuns$Track;", Cond.fieldLink RX2 23 "BaroRuns$State" "secondTrack" "LBaroRuns$Track;", Cond.fieldLink RX2 26 "BaroRuns$State" "thirdTrack" "LBaroRuns$Track;", Cond.fieldLink RX2 29 "BaroRuns$State" "baseHeight" "I", Cond.fieldLink RX2 33 "BaroRuns$State" "gustLimit" "I", Cond.fieldLink RX2 36 "BaroRuns$State" "stepLimit" "I", Cond.methodLink RX2 11 yX5_init, Cond.instanceMethod yX5_init, Cond.code yX5_init cX5_init 2 none, Cond.methodLink RX5 3 objectInit, Cond.arrayClass .int, Cond.fieldLink RX5 9 "BaroRuns$Track" "values" "[I", Cond.methodLink RX5 15 Lib.Math.min.name]
def wsX6_init_r3 : List Cond := [Cond.static Lib.Math.min.name, Cond.initialized "java/lang/Math", Cond.code Lib.Math.min.name Lib.Math.min.code 2 (some .int), Cond.fieldLink RX5 21 "BaroRuns$Track" "room" "I", Cond.methodLink RX6 21 yX0_init, Cond.instanceMethod yX0_init, Cond.code yX0_init cX0_init 2 none, Cond.methodLink RX0 3 objectInit, Cond.classLink RX0 9 RX2, Cond.fieldLink RX0 11 "BaroRuns$History" "places" "[LBaroRuns$State;", Cond.methodLink RX0 17 yX2_init, Cond.methodLink RX6 28 yX3_init, Cond.instanceMethod yX3_init, Cond.code yX3_init cX3_init 1 none, Cond.methodLink RX3 3 objectInit, Cond.fieldLink RX3 9 "BaroRuns$Survey" "times" "[I", Cond.fieldLink RX3 15 "BaroRuns$Survey" "points" "[I", Cond.fieldLink RX3 18 "BaroRuns$Survey" "heights" "[I", Cond.fieldLink RX3 21 "BaroRuns$Survey" "gusts" "[I", Cond.fieldLink RX3 24 "BaroRuns$Survey" "openLoops" "[I", Cond.fieldLink RX3 27 "BaroRuns$Survey" "correctedHeights" "[I", Cond.fieldLink RX3 30 "BaroRuns$Survey" "begins" "[I", Cond.fieldLink RX3 33 "BaroRuns$Survey" "ends" "[I", Cond.methodLink RX6 41 yX1_init]
def wsX6_init_r4 : List Cond := [Cond.instanceMethod yX1_init, Cond.code yX1_init cX1_init 1 none, Cond.methodLink RX1 1 objectInit, Cond.methodLink RX6 48 yX4_init, Cond.instanceMethod yX4_init, Cond.code yX4_init cX4_init 1 none, Cond.methodLink RX4 3 objectInit, Cond.fieldLink RX4 9 "BaroRuns$Text" "characters" "[I", Cond.fieldLink RX4 15 "BaroRuns$Text" "faultPosition" "I"]
def wsX6_init : List Cond := .code yX6_init cX6_init 1 none :: ((wsX6_init_r1 ++ (wsX6_init_r2 ++ (wsX6_init_r3 ++ wsX6_init_r4))) ++ wsX20 ++ wsX60 ++ wsX00 ++ wsX30 ++ wsX10 ++ wsX40 ++ wsX50)
def wsX6_within : List Cond := .code yX6_within cX6_within 3 (some .boolean) :: ([])
def wsX6_isSetting : List Cond := .code yX6_isSetting cX6_isSetting 2 (some .boolean) :: ([.constant RX6 233 (-500000), .constant RX6 234 (9000000), .methodLink RX6 105 yX6_within, .static yX6_within, .initialized RX6, .code yX6_within cX6_within 3 (some .boolean)])
def wsX6_record_r1 : List Cond := [Cond.fieldLink RX6 22 "BaroRuns" "history" "LBaroRuns$History;", Cond.fieldLink RX6 10 "BaroRuns" "now" "LBaroRuns$State;", Cond.fieldLink RX6 53 "BaroRuns" "stale" "Z", Cond.methodLink RX6 240 yX0_keep, Cond.instanceMethod yX0_keep, Cond.selects RX0 yX0_keep yX0_keep, Cond.initialized RX0, Cond.code yX0_keep cX0_keep 3 none, Cond.fieldLink RX0 18 "BaroRuns$History" "size" "I", Cond.fieldLink RX0 22 "BaroRuns$History" "oldest" "I", Cond.methodLink RX0 25 yX0_place, Cond.instanceMethod yX0_place, Cond.selects RX0 yX0_place yX0_place, Cond.code yX0_place cX0_place 3 (some (.object "BaroRuns$State")), Cond.fieldLink RX0 11 "BaroRuns$History" "places" "[LBaroRuns$State;", Cond.methodLink RX0 29 yX2_copyFrom, Cond.instanceMethod yX2_copyFrom, Cond.selects RX2 yX2_copyFrom yX2_copyFrom, Cond.initialized RX2, Cond.code yX2_copyFrom cX2_copyFrom 2 none, Cond.fieldLink RX2 14 "BaroRuns$State" "baseTrack" "LBaroRuns$Track;", Cond.fieldLink RX2 20 "BaroRuns$State" "firstTrack" "LBaroRuns$Track;", Cond.fieldLink RX2 23 "BaroRuns$State" "secondTrack" "LBaroRuns$Track;", Cond.fieldLink RX2 26 "BaroRuns$State" "thirdTrack" "LBaroRuns$Track;"]
def wsX6_record_r2 : List Cond := [Cond.fieldLink RX2 29 "BaroRuns$State" "baseHeight" "I", Cond.fieldLink RX2 33 "BaroRuns$State" "gustLimit" "I", Cond.fieldLink RX2 36 "BaroRuns$State" "stepLimit" "I", Cond.methodLink RX2 39 yX5_copyFrom, Cond.instanceMethod yX5_copyFrom, Cond.selects RX5 yX5_copyFrom yX5_copyFrom, Cond.initialized RX5, Cond.code yX5_copyFrom cX5_copyFrom 2 none, Cond.fieldLink RX5 9 "BaroRuns$Track" "values" "[I", Cond.methodLink RX5 15 Lib.Math.min.name, Cond.static Lib.Math.min.name, Cond.initialized "java/lang/Math", Cond.code Lib.Math.min.name Lib.Math.min.code 2 (some .int), Cond.methodLink RX5 43 arraycopyName, Cond.native arraycopyName, Cond.static arraycopyName, Cond.initialized "java/lang/System", Cond.fieldLink RX5 29 "BaroRuns$Track" "size" "I"]
def wsX6_record : List Cond := .code yX6_record cX6_record 1 none :: ((wsX6_record_r1 ++ wsX6_record_r2) ++ wsX60 ++ wsX00 ++ wsX20 ++ wsX50)
def wsX6_set_r1 : List Cond := [Cond.constant RX6 61 (-2000000001), Cond.fieldLink RX6 10 "BaroRuns" "now" "LBaroRuns$State;", Cond.methodLink RX6 57 yX6_isSetting, Cond.static yX6_isSetting, Cond.initialized RX6, Cond.code yX6_isSetting cX6_isSetting 2 (some .boolean), Cond.constant RX6 233 (-500000), Cond.constant RX6 234 (9000000), Cond.methodLink RX6 105 yX6_within, Cond.static yX6_within, Cond.code yX6_within cX6_within 3 (some .boolean), Cond.methodLink RX6 62 yX6_record, Cond.instanceMethod yX6_record, Cond.selects RX6 yX6_record yX6_record, Cond.code yX6_record cX6_record 1 none, Cond.fieldLink RX6 22 "BaroRuns" "history" "LBaroRuns$History;", Cond.fieldLink RX6 53 "BaroRuns" "stale" "Z", Cond.methodLink RX6 240 yX0_keep, Cond.instanceMethod yX0_keep, Cond.selects RX0 yX0_keep yX0_keep, Cond.initialized RX0, Cond.code yX0_keep cX0_keep 3 none, Cond.fieldLink RX0 18 "BaroRuns$History" "size" "I", Cond.fieldLink RX0 22 "BaroRuns$History" "oldest" "I"]
def wsX6_set_r2 : List Cond := [Cond.methodLink RX0 25 yX0_place, Cond.instanceMethod yX0_place, Cond.selects RX0 yX0_place yX0_place, Cond.code yX0_place cX0_place 3 (some (.object "BaroRuns$State")), Cond.fieldLink RX0 11 "BaroRuns$History" "places" "[LBaroRuns$State;", Cond.methodLink RX0 29 yX2_copyFrom, Cond.instanceMethod yX2_copyFrom, Cond.selects RX2 yX2_copyFrom yX2_copyFrom, Cond.initialized RX2, Cond.code yX2_copyFrom cX2_copyFrom 2 none, Cond.fieldLink RX2 14 "BaroRuns$State" "baseTrack" "LBaroRuns$Track;", Cond.fieldLink RX2 20 "BaroRuns$State" "firstTrack" "LBaroRuns$Track;", Cond.fieldLink RX2 23 "BaroRuns$State" "secondTrack" "LBaroRuns$Track;", Cond.fieldLink RX2 26 "BaroRuns$State" "thirdTrack" "LBaroRuns$Track;", Cond.fieldLink RX2 29 "BaroRuns$State" "baseHeight" "I", Cond.fieldLink RX2 33 "BaroRuns$State" "gustLimit" "I", Cond.fieldLink RX2 36 "BaroRuns$State" "stepLimit" "I", Cond.methodLink RX2 39 yX5_copyFrom, Cond.instanceMethod yX5_copyFrom, Cond.selects RX5 yX5_copyFrom yX5_copyFrom, Cond.initialized RX5, Cond.code yX5_copyFrom cX5_copyFrom 2 none, Cond.fieldLink RX5 9 "BaroRuns$Track" "values" "[I", Cond.methodLink RX5 15 Lib.Math.min.name]
def wsX6_set_r3 : List Cond := [Cond.static Lib.Math.min.name, Cond.initialized "java/lang/Math", Cond.code Lib.Math.min.name Lib.Math.min.code 2 (some .int), Cond.methodLink RX5 43 arraycopyName, Cond.native arraycopyName, Cond.static arraycopyName, Cond.initialized "java/lang/System", Cond.fieldLink RX5 29 "BaroRuns$Track" "size" "I", Cond.methodLink RX6 65 yX2_setting, Cond.instanceMethod yX2_setting, Cond.selects RX2 yX2_setting yX2_setting, Cond.code yX2_setting cX2_setting 2 (some .int), Cond.methodLink RX6 69 yX2_putSetting, Cond.instanceMethod yX2_putSetting, Cond.selects RX2 yX2_putSetting yX2_putSetting, Cond.code yX2_putSetting cX2_putSetting 3 none]
def wsX6_set : List Cond := .code yX6_set cX6_set 4 (some .int) :: ((wsX6_set_r1 ++ (wsX6_set_r2 ++ wsX6_set_r3)) ++ wsX60 ++ wsX00 ++ wsX20 ++ wsX50)
def wsX6_isTime : List Cond := .code yX6_isTime cX6_isTime 1 (some .boolean) :: ([.methodLink RX6 105 yX6_within, .static yX6_within, .initialized RX6, .code yX6_within cX6_within 3 (some .boolean)])
def wsX6_isTemperature : List Cond := .code yX6_isTemperature cX6_isTemperature 1 (some .boolean) :: ([.methodLink RX6 105 yX6_within, .static yX6_within, .initialized RX6, .code yX6_within cX6_within 3 (some .boolean)])
def wsX6_isReading : List Cond := .code yX6_isReading cX6_isReading 3 (some .boolean) :: ([.constant RX6 172 (50000), .constant RX6 235 (110000), .methodLink RX6 151 yX6_isTime, .static yX6_isTime, .initialized RX6, .code yX6_isTime cX6_isTime 1 (some .boolean), .methodLink RX6 105 yX6_within, .static yX6_within, .code yX6_within cX6_within 3 (some .boolean), .methodLink RX6 167 yX6_isTemperature, .static yX6_isTemperature, .code yX6_isTemperature cX6_isTemperature 1 (some .boolean)])
def wsX6_take_r1 : List Cond := [Cond.fieldLink RX6 10 "BaroRuns" "now" "LBaroRuns$State;", Cond.constant RX6 146 (-2000000002), Cond.constant RX6 214 (-2000000003), Cond.methodLink RX6 91 yX2_track, Cond.instanceMethod yX2_track, Cond.selects RX2 yX2_track yX2_track, Cond.initialized RX2, Cond.code yX2_track cX2_track 2 (some (.object "BaroRuns$Track")), Cond.fieldLink RX2 20 "BaroRuns$State" "firstTrack" "LBaroRuns$Track;", Cond.fieldLink RX2 23 "BaroRuns$State" "secondTrack" "LBaroRuns$Track;", Cond.fieldLink RX2 26 "BaroRuns$State" "thirdTrack" "LBaroRuns$Track;", Cond.fieldLink RX2 14 "BaroRuns$State" "baseTrack" "LBaroRuns$Track;", Cond.methodLink RX6 243 yX5_hasTime, Cond.instanceMethod yX5_hasTime, Cond.selects RX5 yX5_hasTime yX5_hasTime, Cond.initialized RX5, Cond.code yX5_hasTime cX5_hasTime 3 (some .boolean), Cond.fieldLink RX5 29 "BaroRuns$Track" "size" "I", Cond.methodLink RX5 32 yX5_value, Cond.instanceMethod yX5_value, Cond.selects RX5 yX5_value yX5_value, Cond.code yX5_value cX5_value 3 (some .int), Cond.fieldLink RX5 9 "BaroRuns$Track" "values" "[I", Cond.static yX6_at]
def wsX6_take_r2 : List Cond := [Cond.initialized RX6, Cond.code yX6_at cX6_at 2 (some .int), Cond.methodLink RX6 246 yX5_isFull, Cond.instanceMethod yX5_isFull, Cond.selects RX5 yX5_isFull yX5_isFull, Cond.code yX5_isFull cX5_isFull 1 (some .boolean), Cond.fieldLink RX5 21 "BaroRuns$Track" "room" "I", Cond.methodLink RX6 62 yX6_record, Cond.instanceMethod yX6_record, Cond.selects RX6 yX6_record yX6_record, Cond.code yX6_record cX6_record 1 none, Cond.fieldLink RX6 22 "BaroRuns" "history" "LBaroRuns$History;", Cond.fieldLink RX6 53 "BaroRuns" "stale" "Z", Cond.methodLink RX6 240 yX0_keep, Cond.instanceMethod yX0_keep, Cond.selects RX0 yX0_keep yX0_keep, Cond.initialized RX0, Cond.code yX0_keep cX0_keep 3 none, Cond.fieldLink RX0 18 "BaroRuns$History" "size" "I", Cond.fieldLink RX0 22 "BaroRuns$History" "oldest" "I", Cond.methodLink RX0 25 yX0_place, Cond.instanceMethod yX0_place, Cond.selects RX0 yX0_place yX0_place, Cond.code yX0_place cX0_place 3 (some (.object "BaroRuns$State"))]
def wsX6_take_r3 : List Cond := [Cond.fieldLink RX0 11 "BaroRuns$History" "places" "[LBaroRuns$State;", Cond.methodLink RX0 29 yX2_copyFrom, Cond.instanceMethod yX2_copyFrom, Cond.selects RX2 yX2_copyFrom yX2_copyFrom, Cond.code yX2_copyFrom cX2_copyFrom 2 none, Cond.fieldLink RX2 29 "BaroRuns$State" "baseHeight" "I", Cond.fieldLink RX2 33 "BaroRuns$State" "gustLimit" "I", Cond.fieldLink RX2 36 "BaroRuns$State" "stepLimit" "I", Cond.methodLink RX2 39 yX5_copyFrom, Cond.instanceMethod yX5_copyFrom, Cond.selects RX5 yX5_copyFrom yX5_copyFrom, Cond.code yX5_copyFrom cX5_copyFrom 2 none, Cond.methodLink RX5 15 Lib.Math.min.name, Cond.static Lib.Math.min.name, Cond.initialized "java/lang/Math", Cond.code Lib.Math.min.name Lib.Math.min.code 2 (some .int), Cond.methodLink RX5 43 arraycopyName, Cond.native arraycopyName, Cond.static arraycopyName, Cond.initialized "java/lang/System", Cond.methodLink RX6 250 yX5_insert, Cond.instanceMethod yX5_insert, Cond.selects RX5 yX5_insert yX5_insert, Cond.code yX5_insert cX5_insert 7 (some .int)]
def wsX6_take_r4 : List Cond := [Cond.methodLink RX5 35 yX5_move, Cond.instanceMethod yX5_move, Cond.selects RX5 yX5_move yX5_move, Cond.code yX5_move cX5_move 4 none, Cond.static yX6_put, Cond.code yX6_put cX6_put 3 none]
def wsX6_take : List Cond := .code yX6_take cX6_take 7 (some .int) :: ((wsX6_take_r1 ++ (wsX6_take_r2 ++ (wsX6_take_r3 ++ wsX6_take_r4))) ++ wsX60 ++ wsX20 ++ wsX50 ++ wsX00)
def wsX6_base_r1 : List Cond := [Cond.constant RX6 61 (-2000000001), Cond.methodLink RX6 73 yX6_isReading, Cond.static yX6_isReading, Cond.initialized RX6, Cond.code yX6_isReading cX6_isReading 3 (some .boolean), Cond.constant RX6 172 (50000), Cond.constant RX6 235 (110000), Cond.methodLink RX6 151 yX6_isTime, Cond.static yX6_isTime, Cond.code yX6_isTime cX6_isTime 1 (some .boolean), Cond.methodLink RX6 105 yX6_within, Cond.static yX6_within, Cond.code yX6_within cX6_within 3 (some .boolean), Cond.methodLink RX6 167 yX6_isTemperature, Cond.static yX6_isTemperature, Cond.code yX6_isTemperature cX6_isTemperature 1 (some .boolean), Cond.methodLink RX6 77 yX6_take, Cond.instanceMethod yX6_take, Cond.selects RX6 yX6_take yX6_take, Cond.code yX6_take cX6_take 7 (some .int), Cond.fieldLink RX6 10 "BaroRuns" "now" "LBaroRuns$State;", Cond.constant RX6 146 (-2000000002), Cond.constant RX6 214 (-2000000003), Cond.methodLink RX6 91 yX2_track]
def wsX6_base_r2 : List Cond := [Cond.instanceMethod yX2_track, Cond.selects RX2 yX2_track yX2_track, Cond.initialized RX2, Cond.code yX2_track cX2_track 2 (some (.object "BaroRuns$Track")), Cond.fieldLink RX2 20 "BaroRuns$State" "firstTrack" "LBaroRuns$Track;", Cond.fieldLink RX2 23 "BaroRuns$State" "secondTrack" "LBaroRuns$Track;", Cond.fieldLink RX2 26 "BaroRuns$State" "thirdTrack" "LBaroRuns$Track;", Cond.fieldLink RX2 14 "BaroRuns$State" "baseTrack" "LBaroRuns$Track;", Cond.methodLink RX6 243 yX5_hasTime, Cond.instanceMethod yX5_hasTime, Cond.selects RX5 yX5_hasTime yX5_hasTime, Cond.initialized RX5, Cond.code yX5_hasTime cX5_hasTime 3 (some .boolean), Cond.fieldLink RX5 29 "BaroRuns$Track" "size" "I", Cond.methodLink RX5 32 yX5_value, Cond.instanceMethod yX5_value, Cond.selects RX5 yX5_value yX5_value, Cond.code yX5_value cX5_value 3 (some .int), Cond.fieldLink RX5 9 "BaroRuns$Track" "values" "[I", Cond.static yX6_at, Cond.code yX6_at cX6_at 2 (some .int), Cond.methodLink RX6 246 yX5_isFull, Cond.instanceMethod yX5_isFull, Cond.selects RX5 yX5_isFull yX5_isFull]
def wsX6_base_r3 : List Cond := [Cond.code yX5_isFull cX5_isFull 1 (some .boolean), Cond.fieldLink RX5 21 "BaroRuns$Track" "room" "I", Cond.methodLink RX6 62 yX6_record, Cond.instanceMethod yX6_record, Cond.selects RX6 yX6_record yX6_record, Cond.code yX6_record cX6_record 1 none, Cond.fieldLink RX6 22 "BaroRuns" "history" "LBaroRuns$History;", Cond.fieldLink RX6 53 "BaroRuns" "stale" "Z", Cond.methodLink RX6 240 yX0_keep, Cond.instanceMethod yX0_keep, Cond.selects RX0 yX0_keep yX0_keep, Cond.initialized RX0, Cond.code yX0_keep cX0_keep 3 none, Cond.fieldLink RX0 18 "BaroRuns$History" "size" "I", Cond.fieldLink RX0 22 "BaroRuns$History" "oldest" "I", Cond.methodLink RX0 25 yX0_place, Cond.instanceMethod yX0_place, Cond.selects RX0 yX0_place yX0_place, Cond.code yX0_place cX0_place 3 (some (.object "BaroRuns$State")), Cond.fieldLink RX0 11 "BaroRuns$History" "places" "[LBaroRuns$State;", Cond.methodLink RX0 29 yX2_copyFrom, Cond.instanceMethod yX2_copyFrom, Cond.selects RX2 yX2_copyFrom yX2_copyFrom, Cond.code yX2_copyFrom cX2_copyFrom 2 none]
def wsX6_base_r4 : List Cond := [Cond.fieldLink RX2 29 "BaroRuns$State" "baseHeight" "I", Cond.fieldLink RX2 33 "BaroRuns$State" "gustLimit" "I", Cond.fieldLink RX2 36 "BaroRuns$State" "stepLimit" "I", Cond.methodLink RX2 39 yX5_copyFrom, Cond.instanceMethod yX5_copyFrom, Cond.selects RX5 yX5_copyFrom yX5_copyFrom, Cond.code yX5_copyFrom cX5_copyFrom 2 none, Cond.methodLink RX5 15 Lib.Math.min.name, Cond.static Lib.Math.min.name, Cond.initialized "java/lang/Math", Cond.code Lib.Math.min.name Lib.Math.min.code 2 (some .int), Cond.methodLink RX5 43 arraycopyName, Cond.native arraycopyName, Cond.static arraycopyName, Cond.initialized "java/lang/System", Cond.methodLink RX6 250 yX5_insert, Cond.instanceMethod yX5_insert, Cond.selects RX5 yX5_insert yX5_insert, Cond.code yX5_insert cX5_insert 7 (some .int), Cond.methodLink RX5 35 yX5_move, Cond.instanceMethod yX5_move, Cond.selects RX5 yX5_move yX5_move, Cond.code yX5_move cX5_move 4 none, Cond.static yX6_put]
def wsX6_base_r5 : List Cond := [Cond.code yX6_put cX6_put 3 none]
def wsX6_base : List Cond := .code yX6_base cX6_base 4 (some .int) :: ((wsX6_base_r1 ++ (wsX6_base_r2 ++ (wsX6_base_r3 ++ (wsX6_base_r4 ++ wsX6_base_r5)))) ++ wsX60 ++ wsX20 ++ wsX50 ++ wsX00)
def wsX6_isCell : List Cond := .code yX6_isCell cX6_isCell 1 (some .boolean) :: ([.methodLink RX6 105 yX6_within, .static yX6_within, .initialized RX6, .code yX6_within cX6_within 3 (some .boolean)])
def wsX6_isPoint : List Cond := .code yX6_isPoint cX6_isPoint 1 (some .boolean) :: ([.methodLink RX6 105 yX6_within, .static yX6_within, .initialized RX6, .code yX6_within cX6_within 3 (some .boolean)])
def wsX6_read_r1 : List Cond := [Cond.constant RX6 61 (-2000000001), Cond.methodLink RX6 81 yX6_isCell, Cond.static yX6_isCell, Cond.initialized RX6, Cond.code yX6_isCell cX6_isCell 1 (some .boolean), Cond.methodLink RX6 105 yX6_within, Cond.static yX6_within, Cond.code yX6_within cX6_within 3 (some .boolean), Cond.methodLink RX6 85 yX6_isPoint, Cond.static yX6_isPoint, Cond.code yX6_isPoint cX6_isPoint 1 (some .boolean), Cond.methodLink RX6 73 yX6_isReading, Cond.static yX6_isReading, Cond.code yX6_isReading cX6_isReading 3 (some .boolean), Cond.constant RX6 172 (50000), Cond.constant RX6 235 (110000), Cond.methodLink RX6 151 yX6_isTime, Cond.static yX6_isTime, Cond.code yX6_isTime cX6_isTime 1 (some .boolean), Cond.methodLink RX6 167 yX6_isTemperature, Cond.static yX6_isTemperature, Cond.code yX6_isTemperature cX6_isTemperature 1 (some .boolean), Cond.methodLink RX6 77 yX6_take, Cond.instanceMethod yX6_take]
def wsX6_read_r2 : List Cond := [Cond.selects RX6 yX6_take yX6_take, Cond.code yX6_take cX6_take 7 (some .int), Cond.fieldLink RX6 10 "BaroRuns" "now" "LBaroRuns$State;", Cond.constant RX6 146 (-2000000002), Cond.constant RX6 214 (-2000000003), Cond.methodLink RX6 91 yX2_track, Cond.instanceMethod yX2_track, Cond.selects RX2 yX2_track yX2_track, Cond.initialized RX2, Cond.code yX2_track cX2_track 2 (some (.object "BaroRuns$Track")), Cond.fieldLink RX2 20 "BaroRuns$State" "firstTrack" "LBaroRuns$Track;", Cond.fieldLink RX2 23 "BaroRuns$State" "secondTrack" "LBaroRuns$Track;", Cond.fieldLink RX2 26 "BaroRuns$State" "thirdTrack" "LBaroRuns$Track;", Cond.fieldLink RX2 14 "BaroRuns$State" "baseTrack" "LBaroRuns$Track;", Cond.methodLink RX6 243 yX5_hasTime, Cond.instanceMethod yX5_hasTime, Cond.selects RX5 yX5_hasTime yX5_hasTime, Cond.initialized RX5, Cond.code yX5_hasTime cX5_hasTime 3 (some .boolean), Cond.fieldLink RX5 29 "BaroRuns$Track" "size" "I", Cond.methodLink RX5 32 yX5_value, Cond.instanceMethod yX5_value, Cond.selects RX5 yX5_value yX5_value, Cond.code yX5_value cX5_value 3 (some .int)]
def wsX6_read_r3 : List Cond := [Cond.fieldLink RX5 9 "BaroRuns$Track" "values" "[I", Cond.static yX6_at, Cond.code yX6_at cX6_at 2 (some .int), Cond.methodLink RX6 246 yX5_isFull, Cond.instanceMethod yX5_isFull, Cond.selects RX5 yX5_isFull yX5_isFull, Cond.code yX5_isFull cX5_isFull 1 (some .boolean), Cond.fieldLink RX5 21 "BaroRuns$Track" "room" "I", Cond.methodLink RX6 62 yX6_record, Cond.instanceMethod yX6_record, Cond.selects RX6 yX6_record yX6_record, Cond.code yX6_record cX6_record 1 none, Cond.fieldLink RX6 22 "BaroRuns" "history" "LBaroRuns$History;", Cond.fieldLink RX6 53 "BaroRuns" "stale" "Z", Cond.methodLink RX6 240 yX0_keep, Cond.instanceMethod yX0_keep, Cond.selects RX0 yX0_keep yX0_keep, Cond.initialized RX0, Cond.code yX0_keep cX0_keep 3 none, Cond.fieldLink RX0 18 "BaroRuns$History" "size" "I", Cond.fieldLink RX0 22 "BaroRuns$History" "oldest" "I", Cond.methodLink RX0 25 yX0_place, Cond.instanceMethod yX0_place, Cond.selects RX0 yX0_place yX0_place]
def wsX6_read_r4 : List Cond := [Cond.code yX0_place cX0_place 3 (some (.object "BaroRuns$State")), Cond.fieldLink RX0 11 "BaroRuns$History" "places" "[LBaroRuns$State;", Cond.methodLink RX0 29 yX2_copyFrom, Cond.instanceMethod yX2_copyFrom, Cond.selects RX2 yX2_copyFrom yX2_copyFrom, Cond.code yX2_copyFrom cX2_copyFrom 2 none, Cond.fieldLink RX2 29 "BaroRuns$State" "baseHeight" "I", Cond.fieldLink RX2 33 "BaroRuns$State" "gustLimit" "I", Cond.fieldLink RX2 36 "BaroRuns$State" "stepLimit" "I", Cond.methodLink RX2 39 yX5_copyFrom, Cond.instanceMethod yX5_copyFrom, Cond.selects RX5 yX5_copyFrom yX5_copyFrom, Cond.code yX5_copyFrom cX5_copyFrom 2 none, Cond.methodLink RX5 15 Lib.Math.min.name, Cond.static Lib.Math.min.name, Cond.initialized "java/lang/Math", Cond.code Lib.Math.min.name Lib.Math.min.code 2 (some .int), Cond.methodLink RX5 43 arraycopyName, Cond.native arraycopyName, Cond.static arraycopyName, Cond.initialized "java/lang/System", Cond.methodLink RX6 250 yX5_insert, Cond.instanceMethod yX5_insert, Cond.selects RX5 yX5_insert yX5_insert]
def wsX6_read_r5 : List Cond := [Cond.code yX5_insert cX5_insert 7 (some .int), Cond.methodLink RX5 35 yX5_move, Cond.instanceMethod yX5_move, Cond.selects RX5 yX5_move yX5_move, Cond.code yX5_move cX5_move 4 none, Cond.static yX6_put, Cond.code yX6_put cX6_put 3 none]
def wsX6_read : List Cond := .code yX6_read cX6_read 6 (some .int) :: ((wsX6_read_r1 ++ (wsX6_read_r2 ++ (wsX6_read_r3 ++ (wsX6_read_r4 ++ wsX6_read_r5)))) ++ wsX60 ++ wsX20 ++ wsX50 ++ wsX00)
def wsX6_isReadingOf : List Cond := .code yX6_isReadingOf cX6_isReadingOf 3 (some .boolean) :: ([.fieldLink RX6 10 "BaroRuns" "now" "LBaroRuns$State;", .methodLink RX6 81 yX6_isCell, .static yX6_isCell, .initialized RX6, .code yX6_isCell cX6_isCell 1 (some .boolean), .methodLink RX6 105 yX6_within, .static yX6_within, .code yX6_within cX6_within 3 (some .boolean), .methodLink RX6 91 yX2_track, .instanceMethod yX2_track, .selects RX2 yX2_track yX2_track, .initialized RX2, .code yX2_track cX2_track 2 (some (.object "BaroRuns$Track")), .fieldLink RX2 20 "BaroRuns$State" "firstTrack" "LBaroRuns$Track;", .fieldLink RX2 23 "BaroRuns$State" "secondTrack" "LBaroRuns$Track;", .fieldLink RX2 26 "BaroRuns$State" "thirdTrack" "LBaroRuns$Track;", .fieldLink RX2 14 "BaroRuns$State" "baseTrack" "LBaroRuns$Track;"] ++ wsX60 ++ wsX50 ++ wsX20)
def wsX6_drop_r1 : List Cond := [Cond.constant RX6 61 (-2000000001), Cond.fieldLink RX6 10 "BaroRuns" "now" "LBaroRuns$State;", Cond.methodLink RX6 88 yX6_isReadingOf, Cond.instanceMethod yX6_isReadingOf, Cond.selects RX6 yX6_isReadingOf yX6_isReadingOf, Cond.initialized RX6, Cond.code yX6_isReadingOf cX6_isReadingOf 3 (some .boolean), Cond.methodLink RX6 81 yX6_isCell, Cond.static yX6_isCell, Cond.code yX6_isCell cX6_isCell 1 (some .boolean), Cond.methodLink RX6 105 yX6_within, Cond.static yX6_within, Cond.code yX6_within cX6_within 3 (some .boolean), Cond.methodLink RX6 91 yX2_track, Cond.instanceMethod yX2_track, Cond.selects RX2 yX2_track yX2_track, Cond.initialized RX2, Cond.code yX2_track cX2_track 2 (some (.object "BaroRuns$Track")), Cond.fieldLink RX2 20 "BaroRuns$State" "firstTrack" "LBaroRuns$Track;", Cond.fieldLink RX2 23 "BaroRuns$State" "secondTrack" "LBaroRuns$Track;", Cond.fieldLink RX2 26 "BaroRuns$State" "thirdTrack" "LBaroRuns$Track;", Cond.fieldLink RX2 14 "BaroRuns$State" "baseTrack" "LBaroRuns$Track;", Cond.methodLink RX6 62 yX6_record, Cond.instanceMethod yX6_record]
def wsX6_drop_r2 : List Cond := [Cond.selects RX6 yX6_record yX6_record, Cond.code yX6_record cX6_record 1 none, Cond.fieldLink RX6 22 "BaroRuns" "history" "LBaroRuns$History;", Cond.fieldLink RX6 53 "BaroRuns" "stale" "Z", Cond.methodLink RX6 240 yX0_keep, Cond.instanceMethod yX0_keep, Cond.selects RX0 yX0_keep yX0_keep, Cond.initialized RX0, Cond.code yX0_keep cX0_keep 3 none, Cond.fieldLink RX0 18 "BaroRuns$History" "size" "I", Cond.fieldLink RX0 22 "BaroRuns$History" "oldest" "I", Cond.methodLink RX0 25 yX0_place, Cond.instanceMethod yX0_place, Cond.selects RX0 yX0_place yX0_place, Cond.code yX0_place cX0_place 3 (some (.object "BaroRuns$State")), Cond.fieldLink RX0 11 "BaroRuns$History" "places" "[LBaroRuns$State;", Cond.methodLink RX0 29 yX2_copyFrom, Cond.instanceMethod yX2_copyFrom, Cond.selects RX2 yX2_copyFrom yX2_copyFrom, Cond.code yX2_copyFrom cX2_copyFrom 2 none, Cond.fieldLink RX2 29 "BaroRuns$State" "baseHeight" "I", Cond.fieldLink RX2 33 "BaroRuns$State" "gustLimit" "I", Cond.fieldLink RX2 36 "BaroRuns$State" "stepLimit" "I", Cond.methodLink RX2 39 yX5_copyFrom]
def wsX6_drop_r3 : List Cond := [Cond.instanceMethod yX5_copyFrom, Cond.selects RX5 yX5_copyFrom yX5_copyFrom, Cond.initialized RX5, Cond.code yX5_copyFrom cX5_copyFrom 2 none, Cond.fieldLink RX5 9 "BaroRuns$Track" "values" "[I", Cond.methodLink RX5 15 Lib.Math.min.name, Cond.static Lib.Math.min.name, Cond.initialized "java/lang/Math", Cond.code Lib.Math.min.name Lib.Math.min.code 2 (some .int), Cond.methodLink RX5 43 arraycopyName, Cond.native arraycopyName, Cond.static arraycopyName, Cond.initialized "java/lang/System", Cond.fieldLink RX5 29 "BaroRuns$Track" "size" "I", Cond.methodLink RX6 95 yX5_remove, Cond.instanceMethod yX5_remove, Cond.selects RX5 yX5_remove yX5_remove, Cond.code yX5_remove cX5_remove 3 none, Cond.methodLink RX5 35 yX5_move, Cond.instanceMethod yX5_move, Cond.selects RX5 yX5_move yX5_move, Cond.code yX5_move cX5_move 4 none, Cond.methodLink RX5 32 yX5_value, Cond.instanceMethod yX5_value]
def wsX6_drop_r4 : List Cond := [Cond.selects RX5 yX5_value yX5_value, Cond.code yX5_value cX5_value 3 (some .int), Cond.static yX6_at, Cond.code yX6_at cX6_at 2 (some .int), Cond.static yX6_put, Cond.code yX6_put cX6_put 3 none]
def wsX6_drop : List Cond := .code yX6_drop cX6_drop 4 (some .int) :: ((wsX6_drop_r1 ++ (wsX6_drop_r2 ++ (wsX6_drop_r3 ++ wsX6_drop_r4))) ++ wsX60 ++ wsX50 ++ wsX20 ++ wsX00)
def wsX6_refresh_r1 : List Cond := [Cond.fieldLink RX6 53 "BaroRuns" "stale" "Z", Cond.fieldLink RX6 29 "BaroRuns" "firstSurvey" "LBaroRuns$Survey;", Cond.fieldLink RX6 10 "BaroRuns" "now" "LBaroRuns$State;", Cond.fieldLink RX6 33 "BaroRuns" "secondSurvey" "LBaroRuns$Survey;", Cond.fieldLink RX6 36 "BaroRuns" "thirdSurvey" "LBaroRuns$Survey;", Cond.methodLink RX6 257 yX3_workOut, Cond.instanceMethod yX3_workOut, Cond.selects RX3 yX3_workOut yX3_workOut, Cond.initialized RX3, Cond.code yX3_workOut cX3_workOut 8 none, Cond.fieldLink RX3 48 "BaroRuns$Survey" "size" "I", Cond.fieldLink RX3 9 "BaroRuns$Survey" "times" "[I", Cond.fieldLink RX3 15 "BaroRuns$Survey" "points" "[I", Cond.fieldLink RX3 18 "BaroRuns$Survey" "heights" "[I", Cond.fieldLink RX3 21 "BaroRuns$Survey" "gusts" "[I", Cond.fieldLink RX3 24 "BaroRuns$Survey" "openLoops" "[I", Cond.fieldLink RX3 27 "BaroRuns$Survey" "correctedHeights" "[I", Cond.methodLink RX3 36 yX2_track, Cond.instanceMethod yX2_track, Cond.selects RX2 yX2_track yX2_track, Cond.initialized RX2, Cond.code yX2_track cX2_track 2 (some (.object "BaroRuns$Track")), Cond.fieldLink RX2 20 "BaroRuns$State" "firstTrack" "LBaroRuns$Track;", Cond.fieldLink RX2 23 "BaroRuns$State" "secondTrack" "LBaroRuns$Track;"]
def wsX6_refresh_r2 : List Cond := [Cond.fieldLink RX2 26 "BaroRuns$State" "thirdTrack" "LBaroRuns$Track;", Cond.fieldLink RX2 14 "BaroRuns$State" "baseTrack" "LBaroRuns$Track;", Cond.methodLink RX3 49 yX5_value, Cond.instanceMethod yX5_value, Cond.selects RX5 yX5_value yX5_value, Cond.initialized RX5, Cond.code yX5_value cX5_value 3 (some .int), Cond.fieldLink RX5 9 "BaroRuns$Track" "values" "[I", Cond.static yX6_at, Cond.initialized RX6, Cond.code yX6_at cX6_at 2 (some .int), Cond.static yX6_put, Cond.code yX6_put cX6_put 3 none, Cond.methodLink RX3 57 yX2_heightAt, Cond.instanceMethod yX2_heightAt, Cond.selects RX2 yX2_heightAt yX2_heightAt, Cond.code yX2_heightAt cX2_heightAt 12 (some .int), Cond.constant RX2 50 (-2000000004), Cond.constantLong RX2 63 (2930), Cond.fieldLink RX2 29 "BaroRuns$State" "baseHeight" "I", Cond.methodLink RX2 55 yX2_baseValue, Cond.instanceMethod yX2_baseValue, Cond.selects RX2 yX2_baseValue yX2_baseValue, Cond.code yX2_baseValue cX2_baseValue 10 (some .int)]
def wsX6_refresh_r3 : List Cond := [Cond.methodLink RX2 46 yX5_value, Cond.static yX6_divideDown, Cond.code yX6_divideDown cX6_divideDown 4 (some .long), Cond.methodLink RX6 236 yJ9_floorDiv_f86c9, Cond.static yJ9_floorDiv_f86c9, Cond.initialized RJ9, Cond.code yJ9_floorDiv_f86c9 cJ9_floorDiv_f86c9 6 (some .long), Cond.methodLink RX2 58 yJ9_floorDiv_7cf53, Cond.static yJ9_floorDiv_7cf53, Cond.code yJ9_floorDiv_7cf53 cJ9_floorDiv_7cf53 3 (some .int), Cond.methodLink RX3 64 yX5_standsOut, Cond.instanceMethod yX5_standsOut, Cond.selects RX5 yX5_standsOut yX5_standsOut, Cond.code yX5_standsOut cX5_standsOut 6 (some .boolean), Cond.fieldLink RX5 29 "BaroRuns$Track" "size" "I", Cond.methodLink RX5 32 yX5_value, Cond.methodLink RX3 68 yX3_countKinds, Cond.instanceMethod yX3_countKinds, Cond.selects RX3 yX3_countKinds yX3_countKinds, Cond.code yX3_countKinds cX3_countKinds 2 none, Cond.fieldLink RX3 114 "BaroRuns$Survey" "gustCount" "I", Cond.fieldLink RX3 117 "BaroRuns$Survey" "goodCount" "I", Cond.methodLink RX3 120 yX3_isGust, Cond.instanceMethod yX3_isGust]
def wsX6_refresh_r4 : List Cond := [Cond.selects RX3 yX3_isGust yX3_isGust, Cond.code yX3_isGust cX3_isGust 2 (some .boolean), Cond.methodLink RX3 95 yX3_isGood, Cond.instanceMethod yX3_isGood, Cond.selects RX3 yX3_isGood yX3_isGood, Cond.code yX3_isGood cX3_isGood 2 (some .boolean), Cond.constant RX3 85 (-2000000004), Cond.methodLink RX3 71 yX3_findLoops, Cond.instanceMethod yX3_findLoops, Cond.selects RX3 yX3_findLoops yX3_findLoops, Cond.code yX3_findLoops cX3_findLoops 3 none, Cond.fieldLink RX3 123 "BaroRuns$Survey" "loopCount" "I", Cond.fieldLink RX3 30 "BaroRuns$Survey" "begins" "[I", Cond.fieldLink RX3 33 "BaroRuns$Survey" "ends" "[I", Cond.methodLink RX3 126 yX3_lastVisit, Cond.instanceMethod yX3_lastVisit, Cond.selects RX3 yX3_lastVisit yX3_lastVisit, Cond.code yX3_lastVisit cX3_lastVisit 4 (some .int), Cond.methodLink RX3 74 yX3_shortestLoop, Cond.instanceMethod yX3_shortestLoop, Cond.selects RX3 yX3_shortestLoop yX3_shortestLoop, Cond.code yX3_shortestLoop cX3_shortestLoop 5 (some .int), Cond.methodLink RX3 89 yX3_begin, Cond.instanceMethod yX3_begin]
def wsX6_refresh_r5 : List Cond := [Cond.selects RX3 yX3_begin yX3_begin, Cond.code yX3_begin cX3_begin 2 (some .int), Cond.methodLink RX3 86 yX3_end, Cond.instanceMethod yX3_end, Cond.selects RX3 yX3_end yX3_end, Cond.code yX3_end cX3_end 2 (some .int), Cond.methodLink RX3 129 yX3_minutes, Cond.instanceMethod yX3_minutes, Cond.selects RX3 yX3_minutes yX3_minutes, Cond.code yX3_minutes cX3_minutes 2 (some .int), Cond.methodLink RX3 78 yX3_withoutDrift, Cond.instanceMethod yX3_withoutDrift, Cond.selects RX3 yX3_withoutDrift yX3_withoutDrift, Cond.code yX3_withoutDrift cX3_withoutDrift 5 (some .int), Cond.methodLink RX3 111 yX3_openLoopOf, Cond.instanceMethod yX3_openLoopOf, Cond.selects RX3 yX3_openLoopOf yX3_openLoopOf, Cond.code yX3_openLoopOf cX3_openLoopOf 2 (some .int), Cond.methodLink RX3 92 yX3_rawHeight, Cond.instanceMethod yX3_rawHeight, Cond.selects RX3 yX3_rawHeight yX3_rawHeight, Cond.code yX3_rawHeight cX3_rawHeight 2 (some .int), Cond.methodLink RX3 132 yX3_misclosure, Cond.instanceMethod yX3_misclosure]
def wsX6_refresh_r6 : List Cond := [Cond.selects RX3 yX3_misclosure yX3_misclosure, Cond.code yX3_misclosure cX3_misclosure 2 (some .int)]
def wsX6_refresh : List Cond := .code yX6_refresh cX6_refresh 1 none :: ((wsX6_refresh_r1 ++ (wsX6_refresh_r2 ++ (wsX6_refresh_r3 ++ (wsX6_refresh_r4 ++ (wsX6_refresh_r5 ++ wsX6_refresh_r6))))) ++ wsX60 ++ wsX50 ++ wsX30 ++ wsX20)
def wsX6_surveyOf : List Cond := .code yX6_surveyOf cX6_surveyOf 2 (some (.object "BaroRuns$Survey")) :: ([.fieldLink RX6 29 "BaroRuns" "firstSurvey" "LBaroRuns$Survey;", .fieldLink RX6 33 "BaroRuns" "secondSurvey" "LBaroRuns$Survey;", .fieldLink RX6 36 "BaroRuns" "thirdSurvey" "LBaroRuns$Survey;"] ++ wsX60)
def wsX6_reading_r1 : List Cond := [Cond.constant RX6 61 (-2000000001), Cond.constant RX6 108 (-2000000004), Cond.fieldLink RX6 10 "BaroRuns" "now" "LBaroRuns$State;", Cond.methodLink RX6 88 yX6_isReadingOf, Cond.instanceMethod yX6_isReadingOf, Cond.selects RX6 yX6_isReadingOf yX6_isReadingOf, Cond.initialized RX6, Cond.code yX6_isReadingOf cX6_isReadingOf 3 (some .boolean), Cond.methodLink RX6 81 yX6_isCell, Cond.static yX6_isCell, Cond.code yX6_isCell cX6_isCell 1 (some .boolean), Cond.methodLink RX6 105 yX6_within, Cond.static yX6_within, Cond.code yX6_within cX6_within 3 (some .boolean), Cond.methodLink RX6 91 yX2_track, Cond.instanceMethod yX2_track, Cond.selects RX2 yX2_track yX2_track, Cond.initialized RX2, Cond.code yX2_track cX2_track 2 (some (.object "BaroRuns$Track")), Cond.fieldLink RX2 20 "BaroRuns$State" "firstTrack" "LBaroRuns$Track;", Cond.fieldLink RX2 23 "BaroRuns$State" "secondTrack" "LBaroRuns$Track;", Cond.fieldLink RX2 26 "BaroRuns$State" "thirdTrack" "LBaroRuns$Track;", Cond.fieldLink RX2 14 "BaroRuns$State" "baseTrack" "LBaroRuns$Track;", Cond.methodLink RX6 109 yX6_refresh]
def wsX6_reading_r2 : List Cond := [Cond.instanceMethod yX6_refresh, Cond.selects RX6 yX6_refresh yX6_refresh, Cond.code yX6_refresh cX6_refresh 1 none, Cond.fieldLink RX6 53 "BaroRuns" "stale" "Z", Cond.fieldLink RX6 29 "BaroRuns" "firstSurvey" "LBaroRuns$Survey;", Cond.fieldLink RX6 33 "BaroRuns" "secondSurvey" "LBaroRuns$Survey;", Cond.fieldLink RX6 36 "BaroRuns" "thirdSurvey" "LBaroRuns$Survey;", Cond.methodLink RX6 257 yX3_workOut, Cond.instanceMethod yX3_workOut, Cond.selects RX3 yX3_workOut yX3_workOut, Cond.initialized RX3, Cond.code yX3_workOut cX3_workOut 8 none, Cond.fieldLink RX3 48 "BaroRuns$Survey" "size" "I", Cond.fieldLink RX3 9 "BaroRuns$Survey" "times" "[I", Cond.fieldLink RX3 15 "BaroRuns$Survey" "points" "[I", Cond.fieldLink RX3 18 "BaroRuns$Survey" "heights" "[I", Cond.fieldLink RX3 21 "BaroRuns$Survey" "gusts" "[I", Cond.fieldLink RX3 24 "BaroRuns$Survey" "openLoops" "[I", Cond.fieldLink RX3 27 "BaroRuns$Survey" "correctedHeights" "[I", Cond.methodLink RX3 36 yX2_track, Cond.methodLink RX3 49 yX5_value, Cond.instanceMethod yX5_value, Cond.selects RX5 yX5_value yX5_value, Cond.initialized RX5]
def wsX6_reading_r3 : List Cond := [Cond.code yX5_value cX5_value 3 (some .int), Cond.fieldLink RX5 9 "BaroRuns$Track" "values" "[I", Cond.static yX6_at, Cond.code yX6_at cX6_at 2 (some .int), Cond.static yX6_put, Cond.code yX6_put cX6_put 3 none, Cond.methodLink RX3 57 yX2_heightAt, Cond.instanceMethod yX2_heightAt, Cond.selects RX2 yX2_heightAt yX2_heightAt, Cond.code yX2_heightAt cX2_heightAt 12 (some .int), Cond.constant RX2 50 (-2000000004), Cond.constantLong RX2 63 (2930), Cond.fieldLink RX2 29 "BaroRuns$State" "baseHeight" "I", Cond.methodLink RX2 55 yX2_baseValue, Cond.instanceMethod yX2_baseValue, Cond.selects RX2 yX2_baseValue yX2_baseValue, Cond.code yX2_baseValue cX2_baseValue 10 (some .int), Cond.methodLink RX2 46 yX5_value, Cond.static yX6_divideDown, Cond.code yX6_divideDown cX6_divideDown 4 (some .long), Cond.methodLink RX6 236 yJ9_floorDiv_f86c9, Cond.static yJ9_floorDiv_f86c9, Cond.initialized RJ9, Cond.code yJ9_floorDiv_f86c9 cJ9_floorDiv_f86c9 6 (some .long)]
def wsX6_reading_r4 : List Cond := [Cond.methodLink RX2 58 yJ9_floorDiv_7cf53, Cond.static yJ9_floorDiv_7cf53, Cond.code yJ9_floorDiv_7cf53 cJ9_floorDiv_7cf53 3 (some .int), Cond.methodLink RX3 64 yX5_standsOut, Cond.instanceMethod yX5_standsOut, Cond.selects RX5 yX5_standsOut yX5_standsOut, Cond.code yX5_standsOut cX5_standsOut 6 (some .boolean), Cond.fieldLink RX5 29 "BaroRuns$Track" "size" "I", Cond.methodLink RX5 32 yX5_value, Cond.methodLink RX3 68 yX3_countKinds, Cond.instanceMethod yX3_countKinds, Cond.selects RX3 yX3_countKinds yX3_countKinds, Cond.code yX3_countKinds cX3_countKinds 2 none, Cond.fieldLink RX3 114 "BaroRuns$Survey" "gustCount" "I", Cond.fieldLink RX3 117 "BaroRuns$Survey" "goodCount" "I", Cond.methodLink RX3 120 yX3_isGust, Cond.instanceMethod yX3_isGust, Cond.selects RX3 yX3_isGust yX3_isGust, Cond.code yX3_isGust cX3_isGust 2 (some .boolean), Cond.methodLink RX3 95 yX3_isGood, Cond.instanceMethod yX3_isGood, Cond.selects RX3 yX3_isGood yX3_isGood, Cond.code yX3_isGood cX3_isGood 2 (some .boolean), Cond.constant RX3 85 (-2000000004)]
def wsX6_reading_r5 : List Cond := [Cond.methodLink RX3 71 yX3_findLoops, Cond.instanceMethod yX3_findLoops, Cond.selects RX3 yX3_findLoops yX3_findLoops, Cond.code yX3_findLoops cX3_findLoops 3 none, Cond.fieldLink RX3 123 "BaroRuns$Survey" "loopCount" "I", Cond.fieldLink RX3 30 "BaroRuns$Survey" "begins" "[I", Cond.fieldLink RX3 33 "BaroRuns$Survey" "ends" "[I", Cond.methodLink RX3 126 yX3_lastVisit, Cond.instanceMethod yX3_lastVisit, Cond.selects RX3 yX3_lastVisit yX3_lastVisit, Cond.code yX3_lastVisit cX3_lastVisit 4 (some .int), Cond.methodLink RX3 74 yX3_shortestLoop, Cond.instanceMethod yX3_shortestLoop, Cond.selects RX3 yX3_shortestLoop yX3_shortestLoop, Cond.code yX3_shortestLoop cX3_shortestLoop 5 (some .int), Cond.methodLink RX3 89 yX3_begin, Cond.instanceMethod yX3_begin, Cond.selects RX3 yX3_begin yX3_begin, Cond.code yX3_begin cX3_begin 2 (some .int), Cond.methodLink RX3 86 yX3_end, Cond.instanceMethod yX3_end, Cond.selects RX3 yX3_end yX3_end, Cond.code yX3_end cX3_end 2 (some .int), Cond.methodLink RX3 129 yX3_minutes]
def wsX6_reading_r6 : List Cond := [Cond.instanceMethod yX3_minutes, Cond.selects RX3 yX3_minutes yX3_minutes, Cond.code yX3_minutes cX3_minutes 2 (some .int), Cond.methodLink RX3 78 yX3_withoutDrift, Cond.instanceMethod yX3_withoutDrift, Cond.selects RX3 yX3_withoutDrift yX3_withoutDrift, Cond.code yX3_withoutDrift cX3_withoutDrift 5 (some .int), Cond.methodLink RX3 111 yX3_openLoopOf, Cond.instanceMethod yX3_openLoopOf, Cond.selects RX3 yX3_openLoopOf yX3_openLoopOf, Cond.code yX3_openLoopOf cX3_openLoopOf 2 (some .int), Cond.methodLink RX3 92 yX3_rawHeight, Cond.instanceMethod yX3_rawHeight, Cond.selects RX3 yX3_rawHeight yX3_rawHeight, Cond.code yX3_rawHeight cX3_rawHeight 2 (some .int), Cond.methodLink RX3 132 yX3_misclosure, Cond.instanceMethod yX3_misclosure, Cond.selects RX3 yX3_misclosure yX3_misclosure, Cond.code yX3_misclosure cX3_misclosure 2 (some .int), Cond.methodLink RX6 112 yX6_surveyOf, Cond.instanceMethod yX6_surveyOf, Cond.selects RX6 yX6_surveyOf yX6_surveyOf, Cond.code yX6_surveyOf cX6_surveyOf 2 (some (.object "BaroRuns$Survey")), Cond.methodLink RX6 116 yX3_isGust]
def wsX6_reading_r7 : List Cond := [Cond.methodLink RX6 119 yX3_isGood, Cond.methodLink RX6 122 yX5_value]
def wsX6_reading : List Cond := .code yX6_reading cX6_reading 4 (some .int) :: ((wsX6_reading_r1 ++ (wsX6_reading_r2 ++ (wsX6_reading_r3 ++ (wsX6_reading_r4 ++ (wsX6_reading_r5 ++ (wsX6_reading_r6 ++ wsX6_reading_r7)))))) ++ wsX60 ++ wsX50 ++ wsX20 ++ wsX30)
def wsX6_gather_r1 : List Cond := [Cond.fieldLink RX6 42 "BaroRuns" "pointSum" "LBaroRuns$PointSum;", Cond.methodLink RX6 261 yX1_clear, Cond.instanceMethod yX1_clear, Cond.selects RX1 yX1_clear yX1_clear, Cond.initialized RX1, Cond.code yX1_clear cX1_clear 1 none, Cond.fieldLink RX1 7 "BaroRuns$PointSum" "sum" "J", Cond.fieldLink RX1 13 "BaroRuns$PointSum" "number" "I", Cond.methodLink RX6 112 yX6_surveyOf, Cond.instanceMethod yX6_surveyOf, Cond.selects RX6 yX6_surveyOf yX6_surveyOf, Cond.initialized RX6, Cond.code yX6_surveyOf cX6_surveyOf 2 (some (.object "BaroRuns$Survey")), Cond.fieldLink RX6 29 "BaroRuns" "firstSurvey" "LBaroRuns$Survey;", Cond.fieldLink RX6 33 "BaroRuns" "secondSurvey" "LBaroRuns$Survey;", Cond.fieldLink RX6 36 "BaroRuns" "thirdSurvey" "LBaroRuns$Survey;", Cond.methodLink RX6 264 yX3_addTo, Cond.instanceMethod yX3_addTo, Cond.selects RX3 yX3_addTo yX3_addTo, Cond.initialized RX3, Cond.code yX3_addTo cX3_addTo 4 none, Cond.fieldLink RX3 48 "BaroRuns$Survey" "size" "I", Cond.fieldLink RX3 15 "BaroRuns$Survey" "points" "[I", Cond.methodLink RX3 95 yX3_isGood]
def wsX6_gather_r2 : List Cond := [Cond.instanceMethod yX3_isGood, Cond.selects RX3 yX3_isGood yX3_isGood, Cond.code yX3_isGood cX3_isGood 2 (some .boolean), Cond.fieldLink RX3 18 "BaroRuns$Survey" "heights" "[I", Cond.constant RX3 85 (-2000000004), Cond.fieldLink RX3 21 "BaroRuns$Survey" "gusts" "[I", Cond.static yX6_at, Cond.code yX6_at cX6_at 2 (some .int), Cond.methodLink RX3 99 yX3_endsOpenLoop, Cond.instanceMethod yX3_endsOpenLoop, Cond.selects RX3 yX3_endsOpenLoop yX3_endsOpenLoop, Cond.code yX3_endsOpenLoop cX3_endsOpenLoop 3 (some .boolean), Cond.methodLink RX3 111 yX3_openLoopOf, Cond.instanceMethod yX3_openLoopOf, Cond.selects RX3 yX3_openLoopOf yX3_openLoopOf, Cond.code yX3_openLoopOf cX3_openLoopOf 2 (some .int), Cond.fieldLink RX3 24 "BaroRuns$Survey" "openLoops" "[I", Cond.methodLink RX3 86 yX3_end, Cond.instanceMethod yX3_end, Cond.selects RX3 yX3_end yX3_end, Cond.code yX3_end cX3_end 2 (some .int), Cond.fieldLink RX3 33 "BaroRuns$Survey" "ends" "[I", Cond.methodLink RX3 102 yX3_correctedHeight, Cond.instanceMethod yX3_correctedHeight]
def wsX6_gather_r3 : List Cond := [Cond.selects RX3 yX3_correctedHeight yX3_correctedHeight, Cond.code yX3_correctedHeight cX3_correctedHeight 2 (some .int), Cond.fieldLink RX3 27 "BaroRuns$Survey" "correctedHeights" "[I", Cond.methodLink RX3 105 yX1_add, Cond.instanceMethod yX1_add, Cond.selects RX1 yX1_add yX1_add, Cond.code yX1_add cX1_add 2 none, Cond.fieldLink RX1 17 "BaroRuns$PointSum" "least" "I", Cond.methodLink RX1 20 Lib.Math.min.name, Cond.static Lib.Math.min.name, Cond.initialized "java/lang/Math", Cond.code Lib.Math.min.name Lib.Math.min.code 2 (some .int), Cond.fieldLink RX1 26 "BaroRuns$PointSum" "greatest" "I", Cond.methodLink RX1 29 Lib.Math.max.name, Cond.static Lib.Math.max.name, Cond.code Lib.Math.max.name Lib.Math.max.code 2 (some .int)]
def wsX6_gather : List Cond := .code yX6_gather cX6_gather 3 none :: ((wsX6_gather_r1 ++ (wsX6_gather_r2 ++ wsX6_gather_r3)) ++ wsX60 ++ wsX10 ++ wsX30)
def wsX6_pointsWithHeight_r1 : List Cond := [Cond.fieldLink RX6 42 "BaroRuns" "pointSum" "LBaroRuns$PointSum;", Cond.methodLink RX6 197 yX6_gather, Cond.instanceMethod yX6_gather, Cond.selects RX6 yX6_gather yX6_gather, Cond.initialized RX6, Cond.code yX6_gather cX6_gather 3 none, Cond.methodLink RX6 261 yX1_clear, Cond.instanceMethod yX1_clear, Cond.selects RX1 yX1_clear yX1_clear, Cond.initialized RX1, Cond.code yX1_clear cX1_clear 1 none, Cond.fieldLink RX1 7 "BaroRuns$PointSum" "sum" "J", Cond.fieldLink RX1 13 "BaroRuns$PointSum" "number" "I", Cond.methodLink RX6 112 yX6_surveyOf, Cond.instanceMethod yX6_surveyOf, Cond.selects RX6 yX6_surveyOf yX6_surveyOf, Cond.code yX6_surveyOf cX6_surveyOf 2 (some (.object "BaroRuns$Survey")), Cond.fieldLink RX6 29 "BaroRuns" "firstSurvey" "LBaroRuns$Survey;", Cond.fieldLink RX6 33 "BaroRuns" "secondSurvey" "LBaroRuns$Survey;", Cond.fieldLink RX6 36 "BaroRuns" "thirdSurvey" "LBaroRuns$Survey;", Cond.methodLink RX6 264 yX3_addTo, Cond.instanceMethod yX3_addTo, Cond.selects RX3 yX3_addTo yX3_addTo, Cond.initialized RX3]
def wsX6_pointsWithHeight_r2 : List Cond := [Cond.code yX3_addTo cX3_addTo 4 none, Cond.fieldLink RX3 48 "BaroRuns$Survey" "size" "I", Cond.fieldLink RX3 15 "BaroRuns$Survey" "points" "[I", Cond.methodLink RX3 95 yX3_isGood, Cond.instanceMethod yX3_isGood, Cond.selects RX3 yX3_isGood yX3_isGood, Cond.code yX3_isGood cX3_isGood 2 (some .boolean), Cond.fieldLink RX3 18 "BaroRuns$Survey" "heights" "[I", Cond.constant RX3 85 (-2000000004), Cond.fieldLink RX3 21 "BaroRuns$Survey" "gusts" "[I", Cond.static yX6_at, Cond.code yX6_at cX6_at 2 (some .int), Cond.methodLink RX3 99 yX3_endsOpenLoop, Cond.instanceMethod yX3_endsOpenLoop, Cond.selects RX3 yX3_endsOpenLoop yX3_endsOpenLoop, Cond.code yX3_endsOpenLoop cX3_endsOpenLoop 3 (some .boolean), Cond.methodLink RX3 111 yX3_openLoopOf, Cond.instanceMethod yX3_openLoopOf, Cond.selects RX3 yX3_openLoopOf yX3_openLoopOf, Cond.code yX3_openLoopOf cX3_openLoopOf 2 (some .int), Cond.fieldLink RX3 24 "BaroRuns$Survey" "openLoops" "[I", Cond.methodLink RX3 86 yX3_end, Cond.instanceMethod yX3_end, Cond.selects RX3 yX3_end yX3_end]
def wsX6_pointsWithHeight_r3 : List Cond := [Cond.code yX3_end cX3_end 2 (some .int), Cond.fieldLink RX3 33 "BaroRuns$Survey" "ends" "[I", Cond.methodLink RX3 102 yX3_correctedHeight, Cond.instanceMethod yX3_correctedHeight, Cond.selects RX3 yX3_correctedHeight yX3_correctedHeight, Cond.code yX3_correctedHeight cX3_correctedHeight 2 (some .int), Cond.fieldLink RX3 27 "BaroRuns$Survey" "correctedHeights" "[I", Cond.methodLink RX3 105 yX1_add, Cond.instanceMethod yX1_add, Cond.selects RX1 yX1_add yX1_add, Cond.code yX1_add cX1_add 2 none, Cond.fieldLink RX1 17 "BaroRuns$PointSum" "least" "I", Cond.methodLink RX1 20 Lib.Math.min.name, Cond.static Lib.Math.min.name, Cond.initialized "java/lang/Math", Cond.code Lib.Math.min.name Lib.Math.min.code 2 (some .int), Cond.fieldLink RX1 26 "BaroRuns$PointSum" "greatest" "I", Cond.methodLink RX1 29 Lib.Math.max.name, Cond.static Lib.Math.max.name, Cond.code Lib.Math.max.name Lib.Math.max.code 2 (some .int)]
def wsX6_pointsWithHeight : List Cond := .code yX6_pointsWithHeight cX6_pointsWithHeight 3 (some .int) :: ((wsX6_pointsWithHeight_r1 ++ (wsX6_pointsWithHeight_r2 ++ wsX6_pointsWithHeight_r3)) ++ wsX60 ++ wsX10 ++ wsX30)
def wsX6_count_r1 : List Cond := [Cond.fieldLink RX6 10 "BaroRuns" "now" "LBaroRuns$State;", Cond.fieldLink RX6 29 "BaroRuns" "firstSurvey" "LBaroRuns$Survey;", Cond.fieldLink RX6 33 "BaroRuns" "secondSurvey" "LBaroRuns$Survey;", Cond.fieldLink RX6 36 "BaroRuns" "thirdSurvey" "LBaroRuns$Survey;", Cond.fieldLink RX6 22 "BaroRuns" "history" "LBaroRuns$History;", Cond.fieldLink RX6 49 "BaroRuns" "text" "LBaroRuns$Text;", Cond.constant RX6 61 (-2000000001), Cond.methodLink RX6 109 yX6_refresh, Cond.instanceMethod yX6_refresh, Cond.selects RX6 yX6_refresh yX6_refresh, Cond.initialized RX6, Cond.code yX6_refresh cX6_refresh 1 none, Cond.fieldLink RX6 53 "BaroRuns" "stale" "Z", Cond.methodLink RX6 257 yX3_workOut, Cond.instanceMethod yX3_workOut, Cond.selects RX3 yX3_workOut yX3_workOut, Cond.initialized RX3, Cond.code yX3_workOut cX3_workOut 8 none, Cond.fieldLink RX3 48 "BaroRuns$Survey" "size" "I", Cond.fieldLink RX3 9 "BaroRuns$Survey" "times" "[I", Cond.fieldLink RX3 15 "BaroRuns$Survey" "points" "[I", Cond.fieldLink RX3 18 "BaroRuns$Survey" "heights" "[I", Cond.fieldLink RX3 21 "BaroRuns$Survey" "gusts" "[I", Cond.fieldLink RX3 24 "BaroRuns$Survey" "openLoops" "[I"]
def wsX6_count_r2 : List Cond := [Cond.fieldLink RX3 27 "BaroRuns$Survey" "correctedHeights" "[I", Cond.methodLink RX3 36 yX2_track, Cond.instanceMethod yX2_track, Cond.selects RX2 yX2_track yX2_track, Cond.initialized RX2, Cond.code yX2_track cX2_track 2 (some (.object "BaroRuns$Track")), Cond.fieldLink RX2 20 "BaroRuns$State" "firstTrack" "LBaroRuns$Track;", Cond.fieldLink RX2 23 "BaroRuns$State" "secondTrack" "LBaroRuns$Track;", Cond.fieldLink RX2 26 "BaroRuns$State" "thirdTrack" "LBaroRuns$Track;", Cond.fieldLink RX2 14 "BaroRuns$State" "baseTrack" "LBaroRuns$Track;", Cond.methodLink RX3 49 yX5_value, Cond.instanceMethod yX5_value, Cond.selects RX5 yX5_value yX5_value, Cond.initialized RX5, Cond.code yX5_value cX5_value 3 (some .int), Cond.fieldLink RX5 9 "BaroRuns$Track" "values" "[I", Cond.static yX6_at, Cond.code yX6_at cX6_at 2 (some .int), Cond.static yX6_put, Cond.code yX6_put cX6_put 3 none, Cond.methodLink RX3 57 yX2_heightAt, Cond.instanceMethod yX2_heightAt, Cond.selects RX2 yX2_heightAt yX2_heightAt, Cond.code yX2_heightAt cX2_heightAt 12 (some .int)]
def wsX6_count_r3 : List Cond := [Cond.constant RX2 50 (-2000000004), Cond.constantLong RX2 63 (2930), Cond.fieldLink RX2 29 "BaroRuns$State" "baseHeight" "I", Cond.methodLink RX2 55 yX2_baseValue, Cond.instanceMethod yX2_baseValue, Cond.selects RX2 yX2_baseValue yX2_baseValue, Cond.code yX2_baseValue cX2_baseValue 10 (some .int), Cond.methodLink RX2 46 yX5_value, Cond.static yX6_divideDown, Cond.code yX6_divideDown cX6_divideDown 4 (some .long), Cond.methodLink RX6 236 yJ9_floorDiv_f86c9, Cond.static yJ9_floorDiv_f86c9, Cond.initialized RJ9, Cond.code yJ9_floorDiv_f86c9 cJ9_floorDiv_f86c9 6 (some .long), Cond.methodLink RX2 58 yJ9_floorDiv_7cf53, Cond.static yJ9_floorDiv_7cf53, Cond.code yJ9_floorDiv_7cf53 cJ9_floorDiv_7cf53 3 (some .int), Cond.methodLink RX3 64 yX5_standsOut, Cond.instanceMethod yX5_standsOut, Cond.selects RX5 yX5_standsOut yX5_standsOut, Cond.code yX5_standsOut cX5_standsOut 6 (some .boolean), Cond.fieldLink RX5 29 "BaroRuns$Track" "size" "I", Cond.methodLink RX5 32 yX5_value, Cond.methodLink RX3 68 yX3_countKinds]
def wsX6_count_r4 : List Cond := [Cond.instanceMethod yX3_countKinds, Cond.selects RX3 yX3_countKinds yX3_countKinds, Cond.code yX3_countKinds cX3_countKinds 2 none, Cond.fieldLink RX3 114 "BaroRuns$Survey" "gustCount" "I", Cond.fieldLink RX3 117 "BaroRuns$Survey" "goodCount" "I", Cond.methodLink RX3 120 yX3_isGust, Cond.instanceMethod yX3_isGust, Cond.selects RX3 yX3_isGust yX3_isGust, Cond.code yX3_isGust cX3_isGust 2 (some .boolean), Cond.methodLink RX3 95 yX3_isGood, Cond.instanceMethod yX3_isGood, Cond.selects RX3 yX3_isGood yX3_isGood, Cond.code yX3_isGood cX3_isGood 2 (some .boolean), Cond.constant RX3 85 (-2000000004), Cond.methodLink RX3 71 yX3_findLoops, Cond.instanceMethod yX3_findLoops, Cond.selects RX3 yX3_findLoops yX3_findLoops, Cond.code yX3_findLoops cX3_findLoops 3 none, Cond.fieldLink RX3 123 "BaroRuns$Survey" "loopCount" "I", Cond.fieldLink RX3 30 "BaroRuns$Survey" "begins" "[I", Cond.fieldLink RX3 33 "BaroRuns$Survey" "ends" "[I", Cond.methodLink RX3 126 yX3_lastVisit, Cond.instanceMethod yX3_lastVisit, Cond.selects RX3 yX3_lastVisit yX3_lastVisit]
def wsX6_count_r5 : List Cond := [Cond.code yX3_lastVisit cX3_lastVisit 4 (some .int), Cond.methodLink RX3 74 yX3_shortestLoop, Cond.instanceMethod yX3_shortestLoop, Cond.selects RX3 yX3_shortestLoop yX3_shortestLoop, Cond.code yX3_shortestLoop cX3_shortestLoop 5 (some .int), Cond.methodLink RX3 89 yX3_begin, Cond.instanceMethod yX3_begin, Cond.selects RX3 yX3_begin yX3_begin, Cond.code yX3_begin cX3_begin 2 (some .int), Cond.methodLink RX3 86 yX3_end, Cond.instanceMethod yX3_end, Cond.selects RX3 yX3_end yX3_end, Cond.code yX3_end cX3_end 2 (some .int), Cond.methodLink RX3 129 yX3_minutes, Cond.instanceMethod yX3_minutes, Cond.selects RX3 yX3_minutes yX3_minutes, Cond.code yX3_minutes cX3_minutes 2 (some .int), Cond.methodLink RX3 78 yX3_withoutDrift, Cond.instanceMethod yX3_withoutDrift, Cond.selects RX3 yX3_withoutDrift yX3_withoutDrift, Cond.code yX3_withoutDrift cX3_withoutDrift 5 (some .int), Cond.methodLink RX3 111 yX3_openLoopOf, Cond.instanceMethod yX3_openLoopOf, Cond.selects RX3 yX3_openLoopOf yX3_openLoopOf]
def wsX6_count_r6 : List Cond := [Cond.code yX3_openLoopOf cX3_openLoopOf 2 (some .int), Cond.methodLink RX3 92 yX3_rawHeight, Cond.instanceMethod yX3_rawHeight, Cond.selects RX3 yX3_rawHeight yX3_rawHeight, Cond.code yX3_rawHeight cX3_rawHeight 2 (some .int), Cond.methodLink RX3 132 yX3_misclosure, Cond.instanceMethod yX3_misclosure, Cond.selects RX3 yX3_misclosure yX3_misclosure, Cond.code yX3_misclosure cX3_misclosure 2 (some .int), Cond.methodLink RX6 91 yX2_track, Cond.methodLink RX6 132 yX2_steps, Cond.instanceMethod yX2_steps, Cond.selects RX2 yX2_steps yX2_steps, Cond.code yX2_steps cX2_steps 3 (some .int), Cond.methodLink RX2 69 yX2_isStepEnd, Cond.instanceMethod yX2_isStepEnd, Cond.selects RX2 yX2_isStepEnd yX2_isStepEnd, Cond.code yX2_isStepEnd cX2_isStepEnd 3 (some .boolean), Cond.methodLink RX2 65 Lib.Math.abs.name, Cond.static Lib.Math.abs.name, Cond.initialized "java/lang/Math", Cond.code Lib.Math.abs.name Lib.Math.abs.code 1 (some .int), Cond.fieldLink RX2 36 "BaroRuns$State" "stepLimit" "I", Cond.methodLink RX6 136 yX6_pointsWithHeight]
def wsX6_count_r7 : List Cond := [Cond.instanceMethod yX6_pointsWithHeight, Cond.selects RX6 yX6_pointsWithHeight yX6_pointsWithHeight, Cond.code yX6_pointsWithHeight cX6_pointsWithHeight 3 (some .int), Cond.fieldLink RX6 42 "BaroRuns" "pointSum" "LBaroRuns$PointSum;", Cond.methodLink RX6 197 yX6_gather, Cond.instanceMethod yX6_gather, Cond.selects RX6 yX6_gather yX6_gather, Cond.code yX6_gather cX6_gather 3 none, Cond.methodLink RX6 261 yX1_clear, Cond.instanceMethod yX1_clear, Cond.selects RX1 yX1_clear yX1_clear, Cond.initialized RX1, Cond.code yX1_clear cX1_clear 1 none, Cond.fieldLink RX1 7 "BaroRuns$PointSum" "sum" "J", Cond.fieldLink RX1 13 "BaroRuns$PointSum" "number" "I", Cond.methodLink RX6 112 yX6_surveyOf, Cond.instanceMethod yX6_surveyOf, Cond.selects RX6 yX6_surveyOf yX6_surveyOf, Cond.code yX6_surveyOf cX6_surveyOf 2 (some (.object "BaroRuns$Survey")), Cond.methodLink RX6 264 yX3_addTo, Cond.instanceMethod yX3_addTo, Cond.selects RX3 yX3_addTo yX3_addTo, Cond.code yX3_addTo cX3_addTo 4 none, Cond.methodLink RX3 99 yX3_endsOpenLoop]
def wsX6_count_r8 : List Cond := [Cond.instanceMethod yX3_endsOpenLoop, Cond.selects RX3 yX3_endsOpenLoop yX3_endsOpenLoop, Cond.code yX3_endsOpenLoop cX3_endsOpenLoop 3 (some .boolean), Cond.methodLink RX3 102 yX3_correctedHeight, Cond.instanceMethod yX3_correctedHeight, Cond.selects RX3 yX3_correctedHeight yX3_correctedHeight, Cond.code yX3_correctedHeight cX3_correctedHeight 2 (some .int), Cond.methodLink RX3 105 yX1_add, Cond.instanceMethod yX1_add, Cond.selects RX1 yX1_add yX1_add, Cond.code yX1_add cX1_add 2 none, Cond.fieldLink RX1 17 "BaroRuns$PointSum" "least" "I", Cond.methodLink RX1 20 Lib.Math.min.name, Cond.static Lib.Math.min.name, Cond.code Lib.Math.min.name Lib.Math.min.code 2 (some .int), Cond.fieldLink RX1 26 "BaroRuns$PointSum" "greatest" "I", Cond.methodLink RX1 29 Lib.Math.max.name, Cond.static Lib.Math.max.name, Cond.code Lib.Math.max.name Lib.Math.max.code 2 (some .int), Cond.methodLink RX6 65 yX2_setting, Cond.instanceMethod yX2_setting, Cond.selects RX2 yX2_setting yX2_setting, Cond.code yX2_setting cX2_setting 2 (some .int), Cond.fieldLink RX2 33 "BaroRuns$State" "gustLimit" "I"]
def wsX6_count : List Cond := .code yX6_count cX6_count 2 (some .int) :: ((wsX6_count_r1 ++ (wsX6_count_r2 ++ (wsX6_count_r3 ++ (wsX6_count_r4 ++ (wsX6_count_r5 ++ (wsX6_count_r6 ++ (wsX6_count_r7 ++ wsX6_count_r8))))))) ++ wsX60 ++ wsX50 ++ wsX30 ++ wsX00 ++ wsX40 ++ wsX20 ++ wsX10)
def wsX6_undo_r1 : List Cond := [Cond.fieldLink RX6 22 "BaroRuns" "history" "LBaroRuns$History;", Cond.constant RX6 146 (-2000000002), Cond.fieldLink RX6 10 "BaroRuns" "now" "LBaroRuns$State;", Cond.fieldLink RX6 53 "BaroRuns" "stale" "Z", Cond.methodLink RX6 147 yX0_giveBack, Cond.instanceMethod yX0_giveBack, Cond.selects RX0 yX0_giveBack yX0_giveBack, Cond.initialized RX0, Cond.code yX0_giveBack cX0_giveBack 3 none, Cond.fieldLink RX0 18 "BaroRuns$History" "size" "I", Cond.methodLink RX0 25 yX0_place, Cond.instanceMethod yX0_place, Cond.selects RX0 yX0_place yX0_place, Cond.code yX0_place cX0_place 3 (some (.object "BaroRuns$State")), Cond.fieldLink RX0 22 "BaroRuns$History" "oldest" "I", Cond.fieldLink RX0 11 "BaroRuns$History" "places" "[LBaroRuns$State;", Cond.methodLink RX0 29 yX2_copyFrom, Cond.instanceMethod yX2_copyFrom, Cond.selects RX2 yX2_copyFrom yX2_copyFrom, Cond.initialized RX2, Cond.code yX2_copyFrom cX2_copyFrom 2 none, Cond.fieldLink RX2 14 "BaroRuns$State" "baseTrack" "LBaroRuns$Track;", Cond.fieldLink RX2 20 "BaroRuns$State" "firstTrack" "LBaroRuns$Track;", Cond.fieldLink RX2 23 "BaroRuns$State" "secondTrack" "LBaroRuns$Track;"]
def wsX6_undo_r2 : List Cond := [Cond.fieldLink RX2 26 "BaroRuns$State" "thirdTrack" "LBaroRuns$Track;", Cond.fieldLink RX2 29 "BaroRuns$State" "baseHeight" "I", Cond.fieldLink RX2 33 "BaroRuns$State" "gustLimit" "I", Cond.fieldLink RX2 36 "BaroRuns$State" "stepLimit" "I", Cond.methodLink RX2 39 yX5_copyFrom, Cond.instanceMethod yX5_copyFrom, Cond.selects RX5 yX5_copyFrom yX5_copyFrom, Cond.initialized RX5, Cond.code yX5_copyFrom cX5_copyFrom 2 none, Cond.fieldLink RX5 9 "BaroRuns$Track" "values" "[I", Cond.methodLink RX5 15 Lib.Math.min.name, Cond.static Lib.Math.min.name, Cond.initialized "java/lang/Math", Cond.code Lib.Math.min.name Lib.Math.min.code 2 (some .int), Cond.methodLink RX5 43 arraycopyName, Cond.native arraycopyName, Cond.static arraycopyName, Cond.initialized "java/lang/System", Cond.fieldLink RX5 29 "BaroRuns$Track" "size" "I"]
def wsX6_undo : List Cond := .code yX6_undo cX6_undo 1 (some .int) :: ((wsX6_undo_r1 ++ wsX6_undo_r2) ++ wsX60 ++ wsX00 ++ wsX20 ++ wsX50)
def wsX6_baseAt_r1 : List Cond := [Cond.constant RX6 61 (-2000000001), Cond.fieldLink RX6 10 "BaroRuns" "now" "LBaroRuns$State;", Cond.methodLink RX6 151 yX6_isTime, Cond.static yX6_isTime, Cond.initialized RX6, Cond.code yX6_isTime cX6_isTime 1 (some .boolean), Cond.methodLink RX6 105 yX6_within, Cond.static yX6_within, Cond.code yX6_within cX6_within 3 (some .boolean), Cond.methodLink RX6 154 yX2_baseValue, Cond.instanceMethod yX2_baseValue, Cond.selects RX2 yX2_baseValue yX2_baseValue, Cond.initialized RX2, Cond.code yX2_baseValue cX2_baseValue 10 (some .int), Cond.fieldLink RX2 14 "BaroRuns$State" "baseTrack" "LBaroRuns$Track;", Cond.constant RX2 50 (-2000000004), Cond.methodLink RX2 46 yX5_value, Cond.instanceMethod yX5_value, Cond.selects RX5 yX5_value yX5_value, Cond.initialized RX5, Cond.code yX5_value cX5_value 3 (some .int), Cond.fieldLink RX5 9 "BaroRuns$Track" "values" "[I", Cond.static yX6_at, Cond.code yX6_at cX6_at 2 (some .int)]
def wsX6_baseAt_r2 : List Cond := [Cond.static yX6_divideDown, Cond.code yX6_divideDown cX6_divideDown 4 (some .long), Cond.methodLink RX6 236 yJ9_floorDiv_f86c9, Cond.static yJ9_floorDiv_f86c9, Cond.initialized RJ9, Cond.code yJ9_floorDiv_f86c9 cJ9_floorDiv_f86c9 6 (some .long)]
def wsX6_baseAt : List Cond := .code yX6_baseAt cX6_baseAt 3 (some .int) :: ((wsX6_baseAt_r1 ++ wsX6_baseAt_r2) ++ wsX60 ++ wsX20 ++ wsX50)
def wsX6_raw_r1 : List Cond := [Cond.constant RX6 61 (-2000000001), Cond.methodLink RX6 81 yX6_isCell, Cond.static yX6_isCell, Cond.initialized RX6, Cond.code yX6_isCell cX6_isCell 1 (some .boolean), Cond.methodLink RX6 105 yX6_within, Cond.static yX6_within, Cond.code yX6_within cX6_within 3 (some .boolean), Cond.methodLink RX6 88 yX6_isReadingOf, Cond.instanceMethod yX6_isReadingOf, Cond.selects RX6 yX6_isReadingOf yX6_isReadingOf, Cond.code yX6_isReadingOf cX6_isReadingOf 3 (some .boolean), Cond.fieldLink RX6 10 "BaroRuns" "now" "LBaroRuns$State;", Cond.methodLink RX6 91 yX2_track, Cond.instanceMethod yX2_track, Cond.selects RX2 yX2_track yX2_track, Cond.initialized RX2, Cond.code yX2_track cX2_track 2 (some (.object "BaroRuns$Track")), Cond.fieldLink RX2 20 "BaroRuns$State" "firstTrack" "LBaroRuns$Track;", Cond.fieldLink RX2 23 "BaroRuns$State" "secondTrack" "LBaroRuns$Track;", Cond.fieldLink RX2 26 "BaroRuns$State" "thirdTrack" "LBaroRuns$Track;", Cond.fieldLink RX2 14 "BaroRuns$State" "baseTrack" "LBaroRuns$Track;", Cond.methodLink RX6 109 yX6_refresh, Cond.instanceMethod yX6_refresh]
def wsX6_raw_r2 : List Cond := [Cond.selects RX6 yX6_refresh yX6_refresh, Cond.code yX6_refresh cX6_refresh 1 none, Cond.fieldLink RX6 53 "BaroRuns" "stale" "Z", Cond.fieldLink RX6 29 "BaroRuns" "firstSurvey" "LBaroRuns$Survey;", Cond.fieldLink RX6 33 "BaroRuns" "secondSurvey" "LBaroRuns$Survey;", Cond.fieldLink RX6 36 "BaroRuns" "thirdSurvey" "LBaroRuns$Survey;", Cond.methodLink RX6 257 yX3_workOut, Cond.instanceMethod yX3_workOut, Cond.selects RX3 yX3_workOut yX3_workOut, Cond.initialized RX3, Cond.code yX3_workOut cX3_workOut 8 none, Cond.fieldLink RX3 48 "BaroRuns$Survey" "size" "I", Cond.fieldLink RX3 9 "BaroRuns$Survey" "times" "[I", Cond.fieldLink RX3 15 "BaroRuns$Survey" "points" "[I", Cond.fieldLink RX3 18 "BaroRuns$Survey" "heights" "[I", Cond.fieldLink RX3 21 "BaroRuns$Survey" "gusts" "[I", Cond.fieldLink RX3 24 "BaroRuns$Survey" "openLoops" "[I", Cond.fieldLink RX3 27 "BaroRuns$Survey" "correctedHeights" "[I", Cond.methodLink RX3 36 yX2_track, Cond.methodLink RX3 49 yX5_value, Cond.instanceMethod yX5_value, Cond.selects RX5 yX5_value yX5_value, Cond.initialized RX5, Cond.code yX5_value cX5_value 3 (some .int)]
def wsX6_raw_r3 : List Cond := [Cond.fieldLink RX5 9 "BaroRuns$Track" "values" "[I", Cond.static yX6_at, Cond.code yX6_at cX6_at 2 (some .int), Cond.static yX6_put, Cond.code yX6_put cX6_put 3 none, Cond.methodLink RX3 57 yX2_heightAt, Cond.instanceMethod yX2_heightAt, Cond.selects RX2 yX2_heightAt yX2_heightAt, Cond.code yX2_heightAt cX2_heightAt 12 (some .int), Cond.constant RX2 50 (-2000000004), Cond.constantLong RX2 63 (2930), Cond.fieldLink RX2 29 "BaroRuns$State" "baseHeight" "I", Cond.methodLink RX2 55 yX2_baseValue, Cond.instanceMethod yX2_baseValue, Cond.selects RX2 yX2_baseValue yX2_baseValue, Cond.code yX2_baseValue cX2_baseValue 10 (some .int), Cond.methodLink RX2 46 yX5_value, Cond.static yX6_divideDown, Cond.code yX6_divideDown cX6_divideDown 4 (some .long), Cond.methodLink RX6 236 yJ9_floorDiv_f86c9, Cond.static yJ9_floorDiv_f86c9, Cond.initialized RJ9, Cond.code yJ9_floorDiv_f86c9 cJ9_floorDiv_f86c9 6 (some .long), Cond.methodLink RX2 58 yJ9_floorDiv_7cf53]
def wsX6_raw_r4 : List Cond := [Cond.static yJ9_floorDiv_7cf53, Cond.code yJ9_floorDiv_7cf53 cJ9_floorDiv_7cf53 3 (some .int), Cond.methodLink RX3 64 yX5_standsOut, Cond.instanceMethod yX5_standsOut, Cond.selects RX5 yX5_standsOut yX5_standsOut, Cond.code yX5_standsOut cX5_standsOut 6 (some .boolean), Cond.fieldLink RX5 29 "BaroRuns$Track" "size" "I", Cond.methodLink RX5 32 yX5_value, Cond.methodLink RX3 68 yX3_countKinds, Cond.instanceMethod yX3_countKinds, Cond.selects RX3 yX3_countKinds yX3_countKinds, Cond.code yX3_countKinds cX3_countKinds 2 none, Cond.fieldLink RX3 114 "BaroRuns$Survey" "gustCount" "I", Cond.fieldLink RX3 117 "BaroRuns$Survey" "goodCount" "I", Cond.methodLink RX3 120 yX3_isGust, Cond.instanceMethod yX3_isGust, Cond.selects RX3 yX3_isGust yX3_isGust, Cond.code yX3_isGust cX3_isGust 2 (some .boolean), Cond.methodLink RX3 95 yX3_isGood, Cond.instanceMethod yX3_isGood, Cond.selects RX3 yX3_isGood yX3_isGood, Cond.code yX3_isGood cX3_isGood 2 (some .boolean), Cond.constant RX3 85 (-2000000004), Cond.methodLink RX3 71 yX3_findLoops]
def wsX6_raw_r5 : List Cond := [Cond.instanceMethod yX3_findLoops, Cond.selects RX3 yX3_findLoops yX3_findLoops, Cond.code yX3_findLoops cX3_findLoops 3 none, Cond.fieldLink RX3 123 "BaroRuns$Survey" "loopCount" "I", Cond.fieldLink RX3 30 "BaroRuns$Survey" "begins" "[I", Cond.fieldLink RX3 33 "BaroRuns$Survey" "ends" "[I", Cond.methodLink RX3 126 yX3_lastVisit, Cond.instanceMethod yX3_lastVisit, Cond.selects RX3 yX3_lastVisit yX3_lastVisit, Cond.code yX3_lastVisit cX3_lastVisit 4 (some .int), Cond.methodLink RX3 74 yX3_shortestLoop, Cond.instanceMethod yX3_shortestLoop, Cond.selects RX3 yX3_shortestLoop yX3_shortestLoop, Cond.code yX3_shortestLoop cX3_shortestLoop 5 (some .int), Cond.methodLink RX3 89 yX3_begin, Cond.instanceMethod yX3_begin, Cond.selects RX3 yX3_begin yX3_begin, Cond.code yX3_begin cX3_begin 2 (some .int), Cond.methodLink RX3 86 yX3_end, Cond.instanceMethod yX3_end, Cond.selects RX3 yX3_end yX3_end, Cond.code yX3_end cX3_end 2 (some .int), Cond.methodLink RX3 129 yX3_minutes, Cond.instanceMethod yX3_minutes]
def wsX6_raw_r6 : List Cond := [Cond.selects RX3 yX3_minutes yX3_minutes, Cond.code yX3_minutes cX3_minutes 2 (some .int), Cond.methodLink RX3 78 yX3_withoutDrift, Cond.instanceMethod yX3_withoutDrift, Cond.selects RX3 yX3_withoutDrift yX3_withoutDrift, Cond.code yX3_withoutDrift cX3_withoutDrift 5 (some .int), Cond.methodLink RX3 111 yX3_openLoopOf, Cond.instanceMethod yX3_openLoopOf, Cond.selects RX3 yX3_openLoopOf yX3_openLoopOf, Cond.code yX3_openLoopOf cX3_openLoopOf 2 (some .int), Cond.methodLink RX3 92 yX3_rawHeight, Cond.instanceMethod yX3_rawHeight, Cond.selects RX3 yX3_rawHeight yX3_rawHeight, Cond.code yX3_rawHeight cX3_rawHeight 2 (some .int), Cond.methodLink RX3 132 yX3_misclosure, Cond.instanceMethod yX3_misclosure, Cond.selects RX3 yX3_misclosure yX3_misclosure, Cond.code yX3_misclosure cX3_misclosure 2 (some .int), Cond.methodLink RX6 112 yX6_surveyOf, Cond.instanceMethod yX6_surveyOf, Cond.selects RX6 yX6_surveyOf yX6_surveyOf, Cond.code yX6_surveyOf cX6_surveyOf 2 (some (.object "BaroRuns$Survey")), Cond.methodLink RX6 160 yX3_rawHeight]
def wsX6_raw : List Cond := .code yX6_raw cX6_raw 3 (some .int) :: ((wsX6_raw_r1 ++ (wsX6_raw_r2 ++ (wsX6_raw_r3 ++ (wsX6_raw_r4 ++ (wsX6_raw_r5 ++ wsX6_raw_r6))))) ++ wsX60 ++ wsX50 ++ wsX20 ++ wsX30)
def wsX6_would_r1 : List Cond := [Cond.constant RX6 61 (-2000000001), Cond.fieldLink RX6 10 "BaroRuns" "now" "LBaroRuns$State;", Cond.methodLink RX6 73 yX6_isReading, Cond.static yX6_isReading, Cond.initialized RX6, Cond.code yX6_isReading cX6_isReading 3 (some .boolean), Cond.constant RX6 172 (50000), Cond.constant RX6 235 (110000), Cond.methodLink RX6 151 yX6_isTime, Cond.static yX6_isTime, Cond.code yX6_isTime cX6_isTime 1 (some .boolean), Cond.methodLink RX6 105 yX6_within, Cond.static yX6_within, Cond.code yX6_within cX6_within 3 (some .boolean), Cond.methodLink RX6 167 yX6_isTemperature, Cond.static yX6_isTemperature, Cond.code yX6_isTemperature cX6_isTemperature 1 (some .boolean), Cond.methodLink RX6 163 yX2_heightAt, Cond.instanceMethod yX2_heightAt, Cond.selects RX2 yX2_heightAt yX2_heightAt, Cond.initialized RX2, Cond.code yX2_heightAt cX2_heightAt 12 (some .int), Cond.constant RX2 50 (-2000000004), Cond.constantLong RX2 63 (2930)]
def wsX6_would_r2 : List Cond := [Cond.fieldLink RX2 29 "BaroRuns$State" "baseHeight" "I", Cond.methodLink RX2 55 yX2_baseValue, Cond.instanceMethod yX2_baseValue, Cond.selects RX2 yX2_baseValue yX2_baseValue, Cond.code yX2_baseValue cX2_baseValue 10 (some .int), Cond.fieldLink RX2 14 "BaroRuns$State" "baseTrack" "LBaroRuns$Track;", Cond.methodLink RX2 46 yX5_value, Cond.instanceMethod yX5_value, Cond.selects RX5 yX5_value yX5_value, Cond.initialized RX5, Cond.code yX5_value cX5_value 3 (some .int), Cond.fieldLink RX5 9 "BaroRuns$Track" "values" "[I", Cond.static yX6_at, Cond.code yX6_at cX6_at 2 (some .int), Cond.static yX6_divideDown, Cond.code yX6_divideDown cX6_divideDown 4 (some .long), Cond.methodLink RX6 236 yJ9_floorDiv_f86c9, Cond.static yJ9_floorDiv_f86c9, Cond.initialized RJ9, Cond.code yJ9_floorDiv_f86c9 cJ9_floorDiv_f86c9 6 (some .long), Cond.methodLink RX2 58 yJ9_floorDiv_7cf53, Cond.static yJ9_floorDiv_7cf53, Cond.code yJ9_floorDiv_7cf53 cJ9_floorDiv_7cf53 3 (some .int)]
def wsX6_would : List Cond := .code yX6_would cX6_would 4 (some .int) :: ((wsX6_would_r1 ++ wsX6_would_r2) ++ wsX60 ++ wsX20 ++ wsX50)
def wsX6_loops_r1 : List Cond := [Cond.constant RX6 61 (-2000000001), Cond.methodLink RX6 81 yX6_isCell, Cond.static yX6_isCell, Cond.initialized RX6, Cond.code yX6_isCell cX6_isCell 1 (some .boolean), Cond.methodLink RX6 105 yX6_within, Cond.static yX6_within, Cond.code yX6_within cX6_within 3 (some .boolean), Cond.methodLink RX6 109 yX6_refresh, Cond.instanceMethod yX6_refresh, Cond.selects RX6 yX6_refresh yX6_refresh, Cond.code yX6_refresh cX6_refresh 1 none, Cond.fieldLink RX6 53 "BaroRuns" "stale" "Z", Cond.fieldLink RX6 29 "BaroRuns" "firstSurvey" "LBaroRuns$Survey;", Cond.fieldLink RX6 10 "BaroRuns" "now" "LBaroRuns$State;", Cond.fieldLink RX6 33 "BaroRuns" "secondSurvey" "LBaroRuns$Survey;", Cond.fieldLink RX6 36 "BaroRuns" "thirdSurvey" "LBaroRuns$Survey;", Cond.methodLink RX6 257 yX3_workOut, Cond.instanceMethod yX3_workOut, Cond.selects RX3 yX3_workOut yX3_workOut, Cond.initialized RX3, Cond.code yX3_workOut cX3_workOut 8 none, Cond.fieldLink RX3 48 "BaroRuns$Survey" "size" "I", Cond.fieldLink RX3 9 "BaroRuns$Survey" "times" "[I"]
def wsX6_loops_r2 : List Cond := [Cond.fieldLink RX3 15 "BaroRuns$Survey" "points" "[I", Cond.fieldLink RX3 18 "BaroRuns$Survey" "heights" "[I", Cond.fieldLink RX3 21 "BaroRuns$Survey" "gusts" "[I", Cond.fieldLink RX3 24 "BaroRuns$Survey" "openLoops" "[I", Cond.fieldLink RX3 27 "BaroRuns$Survey" "correctedHeights" "[I", Cond.methodLink RX3 36 yX2_track, Cond.instanceMethod yX2_track, Cond.selects RX2 yX2_track yX2_track, Cond.initialized RX2, Cond.code yX2_track cX2_track 2 (some (.object "BaroRuns$Track")), Cond.fieldLink RX2 20 "BaroRuns$State" "firstTrack" "LBaroRuns$Track;", Cond.fieldLink RX2 23 "BaroRuns$State" "secondTrack" "LBaroRuns$Track;", Cond.fieldLink RX2 26 "BaroRuns$State" "thirdTrack" "LBaroRuns$Track;", Cond.fieldLink RX2 14 "BaroRuns$State" "baseTrack" "LBaroRuns$Track;", Cond.methodLink RX3 49 yX5_value, Cond.instanceMethod yX5_value, Cond.selects RX5 yX5_value yX5_value, Cond.initialized RX5, Cond.code yX5_value cX5_value 3 (some .int), Cond.fieldLink RX5 9 "BaroRuns$Track" "values" "[I", Cond.static yX6_at, Cond.code yX6_at cX6_at 2 (some .int), Cond.static yX6_put, Cond.code yX6_put cX6_put 3 none]
def wsX6_loops_r3 : List Cond := [Cond.methodLink RX3 57 yX2_heightAt, Cond.instanceMethod yX2_heightAt, Cond.selects RX2 yX2_heightAt yX2_heightAt, Cond.code yX2_heightAt cX2_heightAt 12 (some .int), Cond.constant RX2 50 (-2000000004), Cond.constantLong RX2 63 (2930), Cond.fieldLink RX2 29 "BaroRuns$State" "baseHeight" "I", Cond.methodLink RX2 55 yX2_baseValue, Cond.instanceMethod yX2_baseValue, Cond.selects RX2 yX2_baseValue yX2_baseValue, Cond.code yX2_baseValue cX2_baseValue 10 (some .int), Cond.methodLink RX2 46 yX5_value, Cond.static yX6_divideDown, Cond.code yX6_divideDown cX6_divideDown 4 (some .long), Cond.methodLink RX6 236 yJ9_floorDiv_f86c9, Cond.static yJ9_floorDiv_f86c9, Cond.initialized RJ9, Cond.code yJ9_floorDiv_f86c9 cJ9_floorDiv_f86c9 6 (some .long), Cond.methodLink RX2 58 yJ9_floorDiv_7cf53, Cond.static yJ9_floorDiv_7cf53, Cond.code yJ9_floorDiv_7cf53 cJ9_floorDiv_7cf53 3 (some .int), Cond.methodLink RX3 64 yX5_standsOut, Cond.instanceMethod yX5_standsOut, Cond.selects RX5 yX5_standsOut yX5_standsOut]
def wsX6_loops_r4 : List Cond := [Cond.code yX5_standsOut cX5_standsOut 6 (some .boolean), Cond.fieldLink RX5 29 "BaroRuns$Track" "size" "I", Cond.methodLink RX5 32 yX5_value, Cond.methodLink RX3 68 yX3_countKinds, Cond.instanceMethod yX3_countKinds, Cond.selects RX3 yX3_countKinds yX3_countKinds, Cond.code yX3_countKinds cX3_countKinds 2 none, Cond.fieldLink RX3 114 "BaroRuns$Survey" "gustCount" "I", Cond.fieldLink RX3 117 "BaroRuns$Survey" "goodCount" "I", Cond.methodLink RX3 120 yX3_isGust, Cond.instanceMethod yX3_isGust, Cond.selects RX3 yX3_isGust yX3_isGust, Cond.code yX3_isGust cX3_isGust 2 (some .boolean), Cond.methodLink RX3 95 yX3_isGood, Cond.instanceMethod yX3_isGood, Cond.selects RX3 yX3_isGood yX3_isGood, Cond.code yX3_isGood cX3_isGood 2 (some .boolean), Cond.constant RX3 85 (-2000000004), Cond.methodLink RX3 71 yX3_findLoops, Cond.instanceMethod yX3_findLoops, Cond.selects RX3 yX3_findLoops yX3_findLoops, Cond.code yX3_findLoops cX3_findLoops 3 none, Cond.fieldLink RX3 123 "BaroRuns$Survey" "loopCount" "I", Cond.fieldLink RX3 30 "BaroRuns$Survey" "begins" "[I"]
def wsX6_loops_r5 : List Cond := [Cond.fieldLink RX3 33 "BaroRuns$Survey" "ends" "[I", Cond.methodLink RX3 126 yX3_lastVisit, Cond.instanceMethod yX3_lastVisit, Cond.selects RX3 yX3_lastVisit yX3_lastVisit, Cond.code yX3_lastVisit cX3_lastVisit 4 (some .int), Cond.methodLink RX3 74 yX3_shortestLoop, Cond.instanceMethod yX3_shortestLoop, Cond.selects RX3 yX3_shortestLoop yX3_shortestLoop, Cond.code yX3_shortestLoop cX3_shortestLoop 5 (some .int), Cond.methodLink RX3 89 yX3_begin, Cond.instanceMethod yX3_begin, Cond.selects RX3 yX3_begin yX3_begin, Cond.code yX3_begin cX3_begin 2 (some .int), Cond.methodLink RX3 86 yX3_end, Cond.instanceMethod yX3_end, Cond.selects RX3 yX3_end yX3_end, Cond.code yX3_end cX3_end 2 (some .int), Cond.methodLink RX3 129 yX3_minutes, Cond.instanceMethod yX3_minutes, Cond.selects RX3 yX3_minutes yX3_minutes, Cond.code yX3_minutes cX3_minutes 2 (some .int), Cond.methodLink RX3 78 yX3_withoutDrift, Cond.instanceMethod yX3_withoutDrift, Cond.selects RX3 yX3_withoutDrift yX3_withoutDrift]
def wsX6_loops_r6 : List Cond := [Cond.code yX3_withoutDrift cX3_withoutDrift 5 (some .int), Cond.methodLink RX3 111 yX3_openLoopOf, Cond.instanceMethod yX3_openLoopOf, Cond.selects RX3 yX3_openLoopOf yX3_openLoopOf, Cond.code yX3_openLoopOf cX3_openLoopOf 2 (some .int), Cond.methodLink RX3 92 yX3_rawHeight, Cond.instanceMethod yX3_rawHeight, Cond.selects RX3 yX3_rawHeight yX3_rawHeight, Cond.code yX3_rawHeight cX3_rawHeight 2 (some .int), Cond.methodLink RX3 132 yX3_misclosure, Cond.instanceMethod yX3_misclosure, Cond.selects RX3 yX3_misclosure yX3_misclosure, Cond.code yX3_misclosure cX3_misclosure 2 (some .int), Cond.methodLink RX6 112 yX6_surveyOf, Cond.instanceMethod yX6_surveyOf, Cond.selects RX6 yX6_surveyOf yX6_surveyOf, Cond.code yX6_surveyOf cX6_surveyOf 2 (some (.object "BaroRuns$Survey"))]
def wsX6_loops : List Cond := .code yX6_loops cX6_loops 2 (some .int) :: ((wsX6_loops_r1 ++ (wsX6_loops_r2 ++ (wsX6_loops_r3 ++ (wsX6_loops_r4 ++ (wsX6_loops_r5 ++ wsX6_loops_r6))))) ++ wsX30 ++ wsX60 ++ wsX50 ++ wsX20)
def wsX6_loop_r1 : List Cond := [Cond.constant RX6 61 (-2000000001), Cond.methodLink RX6 81 yX6_isCell, Cond.static yX6_isCell, Cond.initialized RX6, Cond.code yX6_isCell cX6_isCell 1 (some .boolean), Cond.methodLink RX6 105 yX6_within, Cond.static yX6_within, Cond.code yX6_within cX6_within 3 (some .boolean), Cond.methodLink RX6 109 yX6_refresh, Cond.instanceMethod yX6_refresh, Cond.selects RX6 yX6_refresh yX6_refresh, Cond.code yX6_refresh cX6_refresh 1 none, Cond.fieldLink RX6 53 "BaroRuns" "stale" "Z", Cond.fieldLink RX6 29 "BaroRuns" "firstSurvey" "LBaroRuns$Survey;", Cond.fieldLink RX6 10 "BaroRuns" "now" "LBaroRuns$State;", Cond.fieldLink RX6 33 "BaroRuns" "secondSurvey" "LBaroRuns$Survey;", Cond.fieldLink RX6 36 "BaroRuns" "thirdSurvey" "LBaroRuns$Survey;", Cond.methodLink RX6 257 yX3_workOut, Cond.instanceMethod yX3_workOut, Cond.selects RX3 yX3_workOut yX3_workOut, Cond.initialized RX3, Cond.code yX3_workOut cX3_workOut 8 none, Cond.fieldLink RX3 48 "BaroRuns$Survey" "size" "I", Cond.fieldLink RX3 9 "BaroRuns$Survey" "times" "[I"]
def wsX6_loop_r2 : List Cond := [Cond.fieldLink RX3 15 "BaroRuns$Survey" "points" "[I", Cond.fieldLink RX3 18 "BaroRuns$Survey" "heights" "[I", Cond.fieldLink RX3 21 "BaroRuns$Survey" "gusts" "[I", Cond.fieldLink RX3 24 "BaroRuns$Survey" "openLoops" "[I", Cond.fieldLink RX3 27 "BaroRuns$Survey" "correctedHeights" "[I", Cond.methodLink RX3 36 yX2_track, Cond.instanceMethod yX2_track, Cond.selects RX2 yX2_track yX2_track, Cond.initialized RX2, Cond.code yX2_track cX2_track 2 (some (.object "BaroRuns$Track")), Cond.fieldLink RX2 20 "BaroRuns$State" "firstTrack" "LBaroRuns$Track;", Cond.fieldLink RX2 23 "BaroRuns$State" "secondTrack" "LBaroRuns$Track;", Cond.fieldLink RX2 26 "BaroRuns$State" "thirdTrack" "LBaroRuns$Track;", Cond.fieldLink RX2 14 "BaroRuns$State" "baseTrack" "LBaroRuns$Track;", Cond.methodLink RX3 49 yX5_value, Cond.instanceMethod yX5_value, Cond.selects RX5 yX5_value yX5_value, Cond.initialized RX5, Cond.code yX5_value cX5_value 3 (some .int), Cond.fieldLink RX5 9 "BaroRuns$Track" "values" "[I", Cond.static yX6_at, Cond.code yX6_at cX6_at 2 (some .int), Cond.static yX6_put, Cond.code yX6_put cX6_put 3 none]
def wsX6_loop_r3 : List Cond := [Cond.methodLink RX3 57 yX2_heightAt, Cond.instanceMethod yX2_heightAt, Cond.selects RX2 yX2_heightAt yX2_heightAt, Cond.code yX2_heightAt cX2_heightAt 12 (some .int), Cond.constant RX2 50 (-2000000004), Cond.constantLong RX2 63 (2930), Cond.fieldLink RX2 29 "BaroRuns$State" "baseHeight" "I", Cond.methodLink RX2 55 yX2_baseValue, Cond.instanceMethod yX2_baseValue, Cond.selects RX2 yX2_baseValue yX2_baseValue, Cond.code yX2_baseValue cX2_baseValue 10 (some .int), Cond.methodLink RX2 46 yX5_value, Cond.static yX6_divideDown, Cond.code yX6_divideDown cX6_divideDown 4 (some .long), Cond.methodLink RX6 236 yJ9_floorDiv_f86c9, Cond.static yJ9_floorDiv_f86c9, Cond.initialized RJ9, Cond.code yJ9_floorDiv_f86c9 cJ9_floorDiv_f86c9 6 (some .long), Cond.methodLink RX2 58 yJ9_floorDiv_7cf53, Cond.static yJ9_floorDiv_7cf53, Cond.code yJ9_floorDiv_7cf53 cJ9_floorDiv_7cf53 3 (some .int), Cond.methodLink RX3 64 yX5_standsOut, Cond.instanceMethod yX5_standsOut, Cond.selects RX5 yX5_standsOut yX5_standsOut]
def wsX6_loop_r4 : List Cond := [Cond.code yX5_standsOut cX5_standsOut 6 (some .boolean), Cond.fieldLink RX5 29 "BaroRuns$Track" "size" "I", Cond.methodLink RX5 32 yX5_value, Cond.methodLink RX3 68 yX3_countKinds, Cond.instanceMethod yX3_countKinds, Cond.selects RX3 yX3_countKinds yX3_countKinds, Cond.code yX3_countKinds cX3_countKinds 2 none, Cond.fieldLink RX3 114 "BaroRuns$Survey" "gustCount" "I", Cond.fieldLink RX3 117 "BaroRuns$Survey" "goodCount" "I", Cond.methodLink RX3 120 yX3_isGust, Cond.instanceMethod yX3_isGust, Cond.selects RX3 yX3_isGust yX3_isGust, Cond.code yX3_isGust cX3_isGust 2 (some .boolean), Cond.methodLink RX3 95 yX3_isGood, Cond.instanceMethod yX3_isGood, Cond.selects RX3 yX3_isGood yX3_isGood, Cond.code yX3_isGood cX3_isGood 2 (some .boolean), Cond.constant RX3 85 (-2000000004), Cond.methodLink RX3 71 yX3_findLoops, Cond.instanceMethod yX3_findLoops, Cond.selects RX3 yX3_findLoops yX3_findLoops, Cond.code yX3_findLoops cX3_findLoops 3 none, Cond.fieldLink RX3 123 "BaroRuns$Survey" "loopCount" "I", Cond.fieldLink RX3 30 "BaroRuns$Survey" "begins" "[I"]
def wsX6_loop_r5 : List Cond := [Cond.fieldLink RX3 33 "BaroRuns$Survey" "ends" "[I", Cond.methodLink RX3 126 yX3_lastVisit, Cond.instanceMethod yX3_lastVisit, Cond.selects RX3 yX3_lastVisit yX3_lastVisit, Cond.code yX3_lastVisit cX3_lastVisit 4 (some .int), Cond.methodLink RX3 74 yX3_shortestLoop, Cond.instanceMethod yX3_shortestLoop, Cond.selects RX3 yX3_shortestLoop yX3_shortestLoop, Cond.code yX3_shortestLoop cX3_shortestLoop 5 (some .int), Cond.methodLink RX3 89 yX3_begin, Cond.instanceMethod yX3_begin, Cond.selects RX3 yX3_begin yX3_begin, Cond.code yX3_begin cX3_begin 2 (some .int), Cond.methodLink RX3 86 yX3_end, Cond.instanceMethod yX3_end, Cond.selects RX3 yX3_end yX3_end, Cond.code yX3_end cX3_end 2 (some .int), Cond.methodLink RX3 129 yX3_minutes, Cond.instanceMethod yX3_minutes, Cond.selects RX3 yX3_minutes yX3_minutes, Cond.code yX3_minutes cX3_minutes 2 (some .int), Cond.methodLink RX3 78 yX3_withoutDrift, Cond.instanceMethod yX3_withoutDrift, Cond.selects RX3 yX3_withoutDrift yX3_withoutDrift]
def wsX6_loop_r6 : List Cond := [Cond.code yX3_withoutDrift cX3_withoutDrift 5 (some .int), Cond.methodLink RX3 111 yX3_openLoopOf, Cond.instanceMethod yX3_openLoopOf, Cond.selects RX3 yX3_openLoopOf yX3_openLoopOf, Cond.code yX3_openLoopOf cX3_openLoopOf 2 (some .int), Cond.methodLink RX3 92 yX3_rawHeight, Cond.instanceMethod yX3_rawHeight, Cond.selects RX3 yX3_rawHeight yX3_rawHeight, Cond.code yX3_rawHeight cX3_rawHeight 2 (some .int), Cond.methodLink RX3 132 yX3_misclosure, Cond.instanceMethod yX3_misclosure, Cond.selects RX3 yX3_misclosure yX3_misclosure, Cond.code yX3_misclosure cX3_misclosure 2 (some .int), Cond.methodLink RX6 112 yX6_surveyOf, Cond.instanceMethod yX6_surveyOf, Cond.selects RX6 yX6_surveyOf yX6_surveyOf, Cond.code yX6_surveyOf cX6_surveyOf 2 (some (.object "BaroRuns$Survey")), Cond.methodLink RX6 176 yX3_begin, Cond.methodLink RX6 179 yX3_end, Cond.methodLink RX6 182 yX3_misclosure, Cond.methodLink RX6 185 yX3_misclosureBySteps, Cond.instanceMethod yX3_misclosureBySteps, Cond.selects RX3 yX3_misclosureBySteps yX3_misclosureBySteps, Cond.code yX3_misclosureBySteps cX3_misclosureBySteps 5 (some .int)]
def wsX6_loop_r7 : List Cond := [Cond.methodLink RX6 188 yX3_minutes]
def wsX6_loop : List Cond := .code yX6_loop cX6_loop 5 (some .int) :: ((wsX6_loop_r1 ++ (wsX6_loop_r2 ++ (wsX6_loop_r3 ++ (wsX6_loop_r4 ++ (wsX6_loop_r5 ++ (wsX6_loop_r6 ++ wsX6_loop_r7)))))) ++ wsX30 ++ wsX60 ++ wsX50 ++ wsX20)
def wsX6_openLoop_r1 : List Cond := [Cond.constant RX6 61 (-2000000001), Cond.constant RX6 108 (-2000000004), Cond.methodLink RX6 81 yX6_isCell, Cond.static yX6_isCell, Cond.initialized RX6, Cond.code yX6_isCell cX6_isCell 1 (some .boolean), Cond.methodLink RX6 105 yX6_within, Cond.static yX6_within, Cond.code yX6_within cX6_within 3 (some .boolean), Cond.methodLink RX6 88 yX6_isReadingOf, Cond.instanceMethod yX6_isReadingOf, Cond.selects RX6 yX6_isReadingOf yX6_isReadingOf, Cond.code yX6_isReadingOf cX6_isReadingOf 3 (some .boolean), Cond.fieldLink RX6 10 "BaroRuns" "now" "LBaroRuns$State;", Cond.methodLink RX6 91 yX2_track, Cond.instanceMethod yX2_track, Cond.selects RX2 yX2_track yX2_track, Cond.initialized RX2, Cond.code yX2_track cX2_track 2 (some (.object "BaroRuns$Track")), Cond.fieldLink RX2 20 "BaroRuns$State" "firstTrack" "LBaroRuns$Track;", Cond.fieldLink RX2 23 "BaroRuns$State" "secondTrack" "LBaroRuns$Track;", Cond.fieldLink RX2 26 "BaroRuns$State" "thirdTrack" "LBaroRuns$Track;", Cond.fieldLink RX2 14 "BaroRuns$State" "baseTrack" "LBaroRuns$Track;", Cond.methodLink RX6 109 yX6_refresh]
def wsX6_openLoop_r2 : List Cond := [Cond.instanceMethod yX6_refresh, Cond.selects RX6 yX6_refresh yX6_refresh, Cond.code yX6_refresh cX6_refresh 1 none, Cond.fieldLink RX6 53 "BaroRuns" "stale" "Z", Cond.fieldLink RX6 29 "BaroRuns" "firstSurvey" "LBaroRuns$Survey;", Cond.fieldLink RX6 33 "BaroRuns" "secondSurvey" "LBaroRuns$Survey;", Cond.fieldLink RX6 36 "BaroRuns" "thirdSurvey" "LBaroRuns$Survey;", Cond.methodLink RX6 257 yX3_workOut, Cond.instanceMethod yX3_workOut, Cond.selects RX3 yX3_workOut yX3_workOut, Cond.initialized RX3, Cond.code yX3_workOut cX3_workOut 8 none, Cond.fieldLink RX3 48 "BaroRuns$Survey" "size" "I", Cond.fieldLink RX3 9 "BaroRuns$Survey" "times" "[I", Cond.fieldLink RX3 15 "BaroRuns$Survey" "points" "[I", Cond.fieldLink RX3 18 "BaroRuns$Survey" "heights" "[I", Cond.fieldLink RX3 21 "BaroRuns$Survey" "gusts" "[I", Cond.fieldLink RX3 24 "BaroRuns$Survey" "openLoops" "[I", Cond.fieldLink RX3 27 "BaroRuns$Survey" "correctedHeights" "[I", Cond.methodLink RX3 36 yX2_track, Cond.methodLink RX3 49 yX5_value, Cond.instanceMethod yX5_value, Cond.selects RX5 yX5_value yX5_value, Cond.initialized RX5]
def wsX6_openLoop_r3 : List Cond := [Cond.code yX5_value cX5_value 3 (some .int), Cond.fieldLink RX5 9 "BaroRuns$Track" "values" "[I", Cond.static yX6_at, Cond.code yX6_at cX6_at 2 (some .int), Cond.static yX6_put, Cond.code yX6_put cX6_put 3 none, Cond.methodLink RX3 57 yX2_heightAt, Cond.instanceMethod yX2_heightAt, Cond.selects RX2 yX2_heightAt yX2_heightAt, Cond.code yX2_heightAt cX2_heightAt 12 (some .int), Cond.constant RX2 50 (-2000000004), Cond.constantLong RX2 63 (2930), Cond.fieldLink RX2 29 "BaroRuns$State" "baseHeight" "I", Cond.methodLink RX2 55 yX2_baseValue, Cond.instanceMethod yX2_baseValue, Cond.selects RX2 yX2_baseValue yX2_baseValue, Cond.code yX2_baseValue cX2_baseValue 10 (some .int), Cond.methodLink RX2 46 yX5_value, Cond.static yX6_divideDown, Cond.code yX6_divideDown cX6_divideDown 4 (some .long), Cond.methodLink RX6 236 yJ9_floorDiv_f86c9, Cond.static yJ9_floorDiv_f86c9, Cond.initialized RJ9, Cond.code yJ9_floorDiv_f86c9 cJ9_floorDiv_f86c9 6 (some .long)]
def wsX6_openLoop_r4 : List Cond := [Cond.methodLink RX2 58 yJ9_floorDiv_7cf53, Cond.static yJ9_floorDiv_7cf53, Cond.code yJ9_floorDiv_7cf53 cJ9_floorDiv_7cf53 3 (some .int), Cond.methodLink RX3 64 yX5_standsOut, Cond.instanceMethod yX5_standsOut, Cond.selects RX5 yX5_standsOut yX5_standsOut, Cond.code yX5_standsOut cX5_standsOut 6 (some .boolean), Cond.fieldLink RX5 29 "BaroRuns$Track" "size" "I", Cond.methodLink RX5 32 yX5_value, Cond.methodLink RX3 68 yX3_countKinds, Cond.instanceMethod yX3_countKinds, Cond.selects RX3 yX3_countKinds yX3_countKinds, Cond.code yX3_countKinds cX3_countKinds 2 none, Cond.fieldLink RX3 114 "BaroRuns$Survey" "gustCount" "I", Cond.fieldLink RX3 117 "BaroRuns$Survey" "goodCount" "I", Cond.methodLink RX3 120 yX3_isGust, Cond.instanceMethod yX3_isGust, Cond.selects RX3 yX3_isGust yX3_isGust, Cond.code yX3_isGust cX3_isGust 2 (some .boolean), Cond.methodLink RX3 95 yX3_isGood, Cond.instanceMethod yX3_isGood, Cond.selects RX3 yX3_isGood yX3_isGood, Cond.code yX3_isGood cX3_isGood 2 (some .boolean), Cond.constant RX3 85 (-2000000004)]
def wsX6_openLoop_r5 : List Cond := [Cond.methodLink RX3 71 yX3_findLoops, Cond.instanceMethod yX3_findLoops, Cond.selects RX3 yX3_findLoops yX3_findLoops, Cond.code yX3_findLoops cX3_findLoops 3 none, Cond.fieldLink RX3 123 "BaroRuns$Survey" "loopCount" "I", Cond.fieldLink RX3 30 "BaroRuns$Survey" "begins" "[I", Cond.fieldLink RX3 33 "BaroRuns$Survey" "ends" "[I", Cond.methodLink RX3 126 yX3_lastVisit, Cond.instanceMethod yX3_lastVisit, Cond.selects RX3 yX3_lastVisit yX3_lastVisit, Cond.code yX3_lastVisit cX3_lastVisit 4 (some .int), Cond.methodLink RX3 74 yX3_shortestLoop, Cond.instanceMethod yX3_shortestLoop, Cond.selects RX3 yX3_shortestLoop yX3_shortestLoop, Cond.code yX3_shortestLoop cX3_shortestLoop 5 (some .int), Cond.methodLink RX3 89 yX3_begin, Cond.instanceMethod yX3_begin, Cond.selects RX3 yX3_begin yX3_begin, Cond.code yX3_begin cX3_begin 2 (some .int), Cond.methodLink RX3 86 yX3_end, Cond.instanceMethod yX3_end, Cond.selects RX3 yX3_end yX3_end, Cond.code yX3_end cX3_end 2 (some .int), Cond.methodLink RX3 129 yX3_minutes]
def wsX6_openLoop_r6 : List Cond := [Cond.instanceMethod yX3_minutes, Cond.selects RX3 yX3_minutes yX3_minutes, Cond.code yX3_minutes cX3_minutes 2 (some .int), Cond.methodLink RX3 78 yX3_withoutDrift, Cond.instanceMethod yX3_withoutDrift, Cond.selects RX3 yX3_withoutDrift yX3_withoutDrift, Cond.code yX3_withoutDrift cX3_withoutDrift 5 (some .int), Cond.methodLink RX3 111 yX3_openLoopOf, Cond.instanceMethod yX3_openLoopOf, Cond.selects RX3 yX3_openLoopOf yX3_openLoopOf, Cond.code yX3_openLoopOf cX3_openLoopOf 2 (some .int), Cond.methodLink RX3 92 yX3_rawHeight, Cond.instanceMethod yX3_rawHeight, Cond.selects RX3 yX3_rawHeight yX3_rawHeight, Cond.code yX3_rawHeight cX3_rawHeight 2 (some .int), Cond.methodLink RX3 132 yX3_misclosure, Cond.instanceMethod yX3_misclosure, Cond.selects RX3 yX3_misclosure yX3_misclosure, Cond.code yX3_misclosure cX3_misclosure 2 (some .int), Cond.methodLink RX6 112 yX6_surveyOf, Cond.instanceMethod yX6_surveyOf, Cond.selects RX6 yX6_surveyOf yX6_surveyOf, Cond.code yX6_surveyOf cX6_surveyOf 2 (some (.object "BaroRuns$Survey")), Cond.methodLink RX6 191 yX3_openLoopOf]
def wsX6_openLoop : List Cond := .code yX6_openLoop cX6_openLoop 4 (some .int) :: ((wsX6_openLoop_r1 ++ (wsX6_openLoop_r2 ++ (wsX6_openLoop_r3 ++ (wsX6_openLoop_r4 ++ (wsX6_openLoop_r5 ++ wsX6_openLoop_r6))))) ++ wsX60 ++ wsX50 ++ wsX20 ++ wsX30)
def wsX6_corrected_r1 : List Cond := [Cond.constant RX6 61 (-2000000001), Cond.methodLink RX6 81 yX6_isCell, Cond.static yX6_isCell, Cond.initialized RX6, Cond.code yX6_isCell cX6_isCell 1 (some .boolean), Cond.methodLink RX6 105 yX6_within, Cond.static yX6_within, Cond.code yX6_within cX6_within 3 (some .boolean), Cond.methodLink RX6 88 yX6_isReadingOf, Cond.instanceMethod yX6_isReadingOf, Cond.selects RX6 yX6_isReadingOf yX6_isReadingOf, Cond.code yX6_isReadingOf cX6_isReadingOf 3 (some .boolean), Cond.fieldLink RX6 10 "BaroRuns" "now" "LBaroRuns$State;", Cond.methodLink RX6 91 yX2_track, Cond.instanceMethod yX2_track, Cond.selects RX2 yX2_track yX2_track, Cond.initialized RX2, Cond.code yX2_track cX2_track 2 (some (.object "BaroRuns$Track")), Cond.fieldLink RX2 20 "BaroRuns$State" "firstTrack" "LBaroRuns$Track;", Cond.fieldLink RX2 23 "BaroRuns$State" "secondTrack" "LBaroRuns$Track;", Cond.fieldLink RX2 26 "BaroRuns$State" "thirdTrack" "LBaroRuns$Track;", Cond.fieldLink RX2 14 "BaroRuns$State" "baseTrack" "LBaroRuns$Track;", Cond.methodLink RX6 109 yX6_refresh, Cond.instanceMethod yX6_refresh]
def wsX6_corrected_r2 : List Cond := [Cond.selects RX6 yX6_refresh yX6_refresh, Cond.code yX6_refresh cX6_refresh 1 none, Cond.fieldLink RX6 53 "BaroRuns" "stale" "Z", Cond.fieldLink RX6 29 "BaroRuns" "firstSurvey" "LBaroRuns$Survey;", Cond.fieldLink RX6 33 "BaroRuns" "secondSurvey" "LBaroRuns$Survey;", Cond.fieldLink RX6 36 "BaroRuns" "thirdSurvey" "LBaroRuns$Survey;", Cond.methodLink RX6 257 yX3_workOut, Cond.instanceMethod yX3_workOut, Cond.selects RX3 yX3_workOut yX3_workOut, Cond.initialized RX3, Cond.code yX3_workOut cX3_workOut 8 none, Cond.fieldLink RX3 48 "BaroRuns$Survey" "size" "I", Cond.fieldLink RX3 9 "BaroRuns$Survey" "times" "[I", Cond.fieldLink RX3 15 "BaroRuns$Survey" "points" "[I", Cond.fieldLink RX3 18 "BaroRuns$Survey" "heights" "[I", Cond.fieldLink RX3 21 "BaroRuns$Survey" "gusts" "[I", Cond.fieldLink RX3 24 "BaroRuns$Survey" "openLoops" "[I", Cond.fieldLink RX3 27 "BaroRuns$Survey" "correctedHeights" "[I", Cond.methodLink RX3 36 yX2_track, Cond.methodLink RX3 49 yX5_value, Cond.instanceMethod yX5_value, Cond.selects RX5 yX5_value yX5_value, Cond.initialized RX5, Cond.code yX5_value cX5_value 3 (some .int)]
def wsX6_corrected_r3 : List Cond := [Cond.fieldLink RX5 9 "BaroRuns$Track" "values" "[I", Cond.static yX6_at, Cond.code yX6_at cX6_at 2 (some .int), Cond.static yX6_put, Cond.code yX6_put cX6_put 3 none, Cond.methodLink RX3 57 yX2_heightAt, Cond.instanceMethod yX2_heightAt, Cond.selects RX2 yX2_heightAt yX2_heightAt, Cond.code yX2_heightAt cX2_heightAt 12 (some .int), Cond.constant RX2 50 (-2000000004), Cond.constantLong RX2 63 (2930), Cond.fieldLink RX2 29 "BaroRuns$State" "baseHeight" "I", Cond.methodLink RX2 55 yX2_baseValue, Cond.instanceMethod yX2_baseValue, Cond.selects RX2 yX2_baseValue yX2_baseValue, Cond.code yX2_baseValue cX2_baseValue 10 (some .int), Cond.methodLink RX2 46 yX5_value, Cond.static yX6_divideDown, Cond.code yX6_divideDown cX6_divideDown 4 (some .long), Cond.methodLink RX6 236 yJ9_floorDiv_f86c9, Cond.static yJ9_floorDiv_f86c9, Cond.initialized RJ9, Cond.code yJ9_floorDiv_f86c9 cJ9_floorDiv_f86c9 6 (some .long), Cond.methodLink RX2 58 yJ9_floorDiv_7cf53]
def wsX6_corrected_r4 : List Cond := [Cond.static yJ9_floorDiv_7cf53, Cond.code yJ9_floorDiv_7cf53 cJ9_floorDiv_7cf53 3 (some .int), Cond.methodLink RX3 64 yX5_standsOut, Cond.instanceMethod yX5_standsOut, Cond.selects RX5 yX5_standsOut yX5_standsOut, Cond.code yX5_standsOut cX5_standsOut 6 (some .boolean), Cond.fieldLink RX5 29 "BaroRuns$Track" "size" "I", Cond.methodLink RX5 32 yX5_value, Cond.methodLink RX3 68 yX3_countKinds, Cond.instanceMethod yX3_countKinds, Cond.selects RX3 yX3_countKinds yX3_countKinds, Cond.code yX3_countKinds cX3_countKinds 2 none, Cond.fieldLink RX3 114 "BaroRuns$Survey" "gustCount" "I", Cond.fieldLink RX3 117 "BaroRuns$Survey" "goodCount" "I", Cond.methodLink RX3 120 yX3_isGust, Cond.instanceMethod yX3_isGust, Cond.selects RX3 yX3_isGust yX3_isGust, Cond.code yX3_isGust cX3_isGust 2 (some .boolean), Cond.methodLink RX3 95 yX3_isGood, Cond.instanceMethod yX3_isGood, Cond.selects RX3 yX3_isGood yX3_isGood, Cond.code yX3_isGood cX3_isGood 2 (some .boolean), Cond.constant RX3 85 (-2000000004), Cond.methodLink RX3 71 yX3_findLoops]
def wsX6_corrected_r5 : List Cond := [Cond.instanceMethod yX3_findLoops, Cond.selects RX3 yX3_findLoops yX3_findLoops, Cond.code yX3_findLoops cX3_findLoops 3 none, Cond.fieldLink RX3 123 "BaroRuns$Survey" "loopCount" "I", Cond.fieldLink RX3 30 "BaroRuns$Survey" "begins" "[I", Cond.fieldLink RX3 33 "BaroRuns$Survey" "ends" "[I", Cond.methodLink RX3 126 yX3_lastVisit, Cond.instanceMethod yX3_lastVisit, Cond.selects RX3 yX3_lastVisit yX3_lastVisit, Cond.code yX3_lastVisit cX3_lastVisit 4 (some .int), Cond.methodLink RX3 74 yX3_shortestLoop, Cond.instanceMethod yX3_shortestLoop, Cond.selects RX3 yX3_shortestLoop yX3_shortestLoop, Cond.code yX3_shortestLoop cX3_shortestLoop 5 (some .int), Cond.methodLink RX3 89 yX3_begin, Cond.instanceMethod yX3_begin, Cond.selects RX3 yX3_begin yX3_begin, Cond.code yX3_begin cX3_begin 2 (some .int), Cond.methodLink RX3 86 yX3_end, Cond.instanceMethod yX3_end, Cond.selects RX3 yX3_end yX3_end, Cond.code yX3_end cX3_end 2 (some .int), Cond.methodLink RX3 129 yX3_minutes, Cond.instanceMethod yX3_minutes]
def wsX6_corrected_r6 : List Cond := [Cond.selects RX3 yX3_minutes yX3_minutes, Cond.code yX3_minutes cX3_minutes 2 (some .int), Cond.methodLink RX3 78 yX3_withoutDrift, Cond.instanceMethod yX3_withoutDrift, Cond.selects RX3 yX3_withoutDrift yX3_withoutDrift, Cond.code yX3_withoutDrift cX3_withoutDrift 5 (some .int), Cond.methodLink RX3 111 yX3_openLoopOf, Cond.instanceMethod yX3_openLoopOf, Cond.selects RX3 yX3_openLoopOf yX3_openLoopOf, Cond.code yX3_openLoopOf cX3_openLoopOf 2 (some .int), Cond.methodLink RX3 92 yX3_rawHeight, Cond.instanceMethod yX3_rawHeight, Cond.selects RX3 yX3_rawHeight yX3_rawHeight, Cond.code yX3_rawHeight cX3_rawHeight 2 (some .int), Cond.methodLink RX3 132 yX3_misclosure, Cond.instanceMethod yX3_misclosure, Cond.selects RX3 yX3_misclosure yX3_misclosure, Cond.code yX3_misclosure cX3_misclosure 2 (some .int), Cond.methodLink RX6 112 yX6_surveyOf, Cond.instanceMethod yX6_surveyOf, Cond.selects RX6 yX6_surveyOf yX6_surveyOf, Cond.code yX6_surveyOf cX6_surveyOf 2 (some (.object "BaroRuns$Survey")), Cond.methodLink RX6 194 yX3_correctedHeight, Cond.instanceMethod yX3_correctedHeight]
def wsX6_corrected_r7 : List Cond := [Cond.selects RX3 yX3_correctedHeight yX3_correctedHeight, Cond.code yX3_correctedHeight cX3_correctedHeight 2 (some .int)]
def wsX6_corrected : List Cond := .code yX6_corrected cX6_corrected 3 (some .int) :: ((wsX6_corrected_r1 ++ (wsX6_corrected_r2 ++ (wsX6_corrected_r3 ++ (wsX6_corrected_r4 ++ (wsX6_corrected_r5 ++ (wsX6_corrected_r6 ++ wsX6_corrected_r7)))))) ++ wsX60 ++ wsX50 ++ wsX20 ++ wsX30)
def wsX6_point_r1 : List Cond := [Cond.constant RX6 61 (-2000000001), Cond.fieldLink RX6 42 "BaroRuns" "pointSum" "LBaroRuns$PointSum;", Cond.constant RX6 108 (-2000000004), Cond.methodLink RX6 85 yX6_isPoint, Cond.static yX6_isPoint, Cond.initialized RX6, Cond.code yX6_isPoint cX6_isPoint 1 (some .boolean), Cond.methodLink RX6 105 yX6_within, Cond.static yX6_within, Cond.code yX6_within cX6_within 3 (some .boolean), Cond.methodLink RX6 109 yX6_refresh, Cond.instanceMethod yX6_refresh, Cond.selects RX6 yX6_refresh yX6_refresh, Cond.code yX6_refresh cX6_refresh 1 none, Cond.fieldLink RX6 53 "BaroRuns" "stale" "Z", Cond.fieldLink RX6 29 "BaroRuns" "firstSurvey" "LBaroRuns$Survey;", Cond.fieldLink RX6 10 "BaroRuns" "now" "LBaroRuns$State;", Cond.fieldLink RX6 33 "BaroRuns" "secondSurvey" "LBaroRuns$Survey;", Cond.fieldLink RX6 36 "BaroRuns" "thirdSurvey" "LBaroRuns$Survey;", Cond.methodLink RX6 257 yX3_workOut, Cond.instanceMethod yX3_workOut, Cond.selects RX3 yX3_workOut yX3_workOut, Cond.initialized RX3, Cond.code yX3_workOut cX3_workOut 8 none]
def wsX6_point_r2 : List Cond := [Cond.fieldLink RX3 48 "BaroRuns$Survey" "size" "I", Cond.fieldLink RX3 9 "BaroRuns$Survey" "times" "[I", Cond.fieldLink RX3 15 "BaroRuns$Survey" "points" "[I", Cond.fieldLink RX3 18 "BaroRuns$Survey" "heights" "[I", Cond.fieldLink RX3 21 "BaroRuns$Survey" "gusts" "[I", Cond.fieldLink RX3 24 "BaroRuns$Survey" "openLoops" "[I", Cond.fieldLink RX3 27 "BaroRuns$Survey" "correctedHeights" "[I", Cond.methodLink RX3 36 yX2_track, Cond.instanceMethod yX2_track, Cond.selects RX2 yX2_track yX2_track, Cond.initialized RX2, Cond.code yX2_track cX2_track 2 (some (.object "BaroRuns$Track")), Cond.fieldLink RX2 20 "BaroRuns$State" "firstTrack" "LBaroRuns$Track;", Cond.fieldLink RX2 23 "BaroRuns$State" "secondTrack" "LBaroRuns$Track;", Cond.fieldLink RX2 26 "BaroRuns$State" "thirdTrack" "LBaroRuns$Track;", Cond.fieldLink RX2 14 "BaroRuns$State" "baseTrack" "LBaroRuns$Track;", Cond.methodLink RX3 49 yX5_value, Cond.instanceMethod yX5_value, Cond.selects RX5 yX5_value yX5_value, Cond.initialized RX5, Cond.code yX5_value cX5_value 3 (some .int), Cond.fieldLink RX5 9 "BaroRuns$Track" "values" "[I", Cond.static yX6_at, Cond.code yX6_at cX6_at 2 (some .int)]
def wsX6_point_r3 : List Cond := [Cond.static yX6_put, Cond.code yX6_put cX6_put 3 none, Cond.methodLink RX3 57 yX2_heightAt, Cond.instanceMethod yX2_heightAt, Cond.selects RX2 yX2_heightAt yX2_heightAt, Cond.code yX2_heightAt cX2_heightAt 12 (some .int), Cond.constant RX2 50 (-2000000004), Cond.constantLong RX2 63 (2930), Cond.fieldLink RX2 29 "BaroRuns$State" "baseHeight" "I", Cond.methodLink RX2 55 yX2_baseValue, Cond.instanceMethod yX2_baseValue, Cond.selects RX2 yX2_baseValue yX2_baseValue, Cond.code yX2_baseValue cX2_baseValue 10 (some .int), Cond.methodLink RX2 46 yX5_value, Cond.static yX6_divideDown, Cond.code yX6_divideDown cX6_divideDown 4 (some .long), Cond.methodLink RX6 236 yJ9_floorDiv_f86c9, Cond.static yJ9_floorDiv_f86c9, Cond.initialized RJ9, Cond.code yJ9_floorDiv_f86c9 cJ9_floorDiv_f86c9 6 (some .long), Cond.methodLink RX2 58 yJ9_floorDiv_7cf53, Cond.static yJ9_floorDiv_7cf53, Cond.code yJ9_floorDiv_7cf53 cJ9_floorDiv_7cf53 3 (some .int), Cond.methodLink RX3 64 yX5_standsOut]
def wsX6_point_r4 : List Cond := [Cond.instanceMethod yX5_standsOut, Cond.selects RX5 yX5_standsOut yX5_standsOut, Cond.code yX5_standsOut cX5_standsOut 6 (some .boolean), Cond.fieldLink RX5 29 "BaroRuns$Track" "size" "I", Cond.methodLink RX5 32 yX5_value, Cond.methodLink RX3 68 yX3_countKinds, Cond.instanceMethod yX3_countKinds, Cond.selects RX3 yX3_countKinds yX3_countKinds, Cond.code yX3_countKinds cX3_countKinds 2 none, Cond.fieldLink RX3 114 "BaroRuns$Survey" "gustCount" "I", Cond.fieldLink RX3 117 "BaroRuns$Survey" "goodCount" "I", Cond.methodLink RX3 120 yX3_isGust, Cond.instanceMethod yX3_isGust, Cond.selects RX3 yX3_isGust yX3_isGust, Cond.code yX3_isGust cX3_isGust 2 (some .boolean), Cond.methodLink RX3 95 yX3_isGood, Cond.instanceMethod yX3_isGood, Cond.selects RX3 yX3_isGood yX3_isGood, Cond.code yX3_isGood cX3_isGood 2 (some .boolean), Cond.constant RX3 85 (-2000000004), Cond.methodLink RX3 71 yX3_findLoops, Cond.instanceMethod yX3_findLoops, Cond.selects RX3 yX3_findLoops yX3_findLoops, Cond.code yX3_findLoops cX3_findLoops 3 none]
def wsX6_point_r5 : List Cond := [Cond.fieldLink RX3 123 "BaroRuns$Survey" "loopCount" "I", Cond.fieldLink RX3 30 "BaroRuns$Survey" "begins" "[I", Cond.fieldLink RX3 33 "BaroRuns$Survey" "ends" "[I", Cond.methodLink RX3 126 yX3_lastVisit, Cond.instanceMethod yX3_lastVisit, Cond.selects RX3 yX3_lastVisit yX3_lastVisit, Cond.code yX3_lastVisit cX3_lastVisit 4 (some .int), Cond.methodLink RX3 74 yX3_shortestLoop, Cond.instanceMethod yX3_shortestLoop, Cond.selects RX3 yX3_shortestLoop yX3_shortestLoop, Cond.code yX3_shortestLoop cX3_shortestLoop 5 (some .int), Cond.methodLink RX3 89 yX3_begin, Cond.instanceMethod yX3_begin, Cond.selects RX3 yX3_begin yX3_begin, Cond.code yX3_begin cX3_begin 2 (some .int), Cond.methodLink RX3 86 yX3_end, Cond.instanceMethod yX3_end, Cond.selects RX3 yX3_end yX3_end, Cond.code yX3_end cX3_end 2 (some .int), Cond.methodLink RX3 129 yX3_minutes, Cond.instanceMethod yX3_minutes, Cond.selects RX3 yX3_minutes yX3_minutes, Cond.code yX3_minutes cX3_minutes 2 (some .int), Cond.methodLink RX3 78 yX3_withoutDrift]
def wsX6_point_r6 : List Cond := [Cond.instanceMethod yX3_withoutDrift, Cond.selects RX3 yX3_withoutDrift yX3_withoutDrift, Cond.code yX3_withoutDrift cX3_withoutDrift 5 (some .int), Cond.methodLink RX3 111 yX3_openLoopOf, Cond.instanceMethod yX3_openLoopOf, Cond.selects RX3 yX3_openLoopOf yX3_openLoopOf, Cond.code yX3_openLoopOf cX3_openLoopOf 2 (some .int), Cond.methodLink RX3 92 yX3_rawHeight, Cond.instanceMethod yX3_rawHeight, Cond.selects RX3 yX3_rawHeight yX3_rawHeight, Cond.code yX3_rawHeight cX3_rawHeight 2 (some .int), Cond.methodLink RX3 132 yX3_misclosure, Cond.instanceMethod yX3_misclosure, Cond.selects RX3 yX3_misclosure yX3_misclosure, Cond.code yX3_misclosure cX3_misclosure 2 (some .int), Cond.methodLink RX6 197 yX6_gather, Cond.instanceMethod yX6_gather, Cond.selects RX6 yX6_gather yX6_gather, Cond.code yX6_gather cX6_gather 3 none, Cond.methodLink RX6 261 yX1_clear, Cond.instanceMethod yX1_clear, Cond.selects RX1 yX1_clear yX1_clear, Cond.initialized RX1, Cond.code yX1_clear cX1_clear 1 none]
def wsX6_point_r7 : List Cond := [Cond.fieldLink RX1 7 "BaroRuns$PointSum" "sum" "J", Cond.fieldLink RX1 13 "BaroRuns$PointSum" "number" "I", Cond.methodLink RX6 112 yX6_surveyOf, Cond.instanceMethod yX6_surveyOf, Cond.selects RX6 yX6_surveyOf yX6_surveyOf, Cond.code yX6_surveyOf cX6_surveyOf 2 (some (.object "BaroRuns$Survey")), Cond.methodLink RX6 264 yX3_addTo, Cond.instanceMethod yX3_addTo, Cond.selects RX3 yX3_addTo yX3_addTo, Cond.code yX3_addTo cX3_addTo 4 none, Cond.methodLink RX3 99 yX3_endsOpenLoop, Cond.instanceMethod yX3_endsOpenLoop, Cond.selects RX3 yX3_endsOpenLoop yX3_endsOpenLoop, Cond.code yX3_endsOpenLoop cX3_endsOpenLoop 3 (some .boolean), Cond.methodLink RX3 102 yX3_correctedHeight, Cond.instanceMethod yX3_correctedHeight, Cond.selects RX3 yX3_correctedHeight yX3_correctedHeight, Cond.code yX3_correctedHeight cX3_correctedHeight 2 (some .int), Cond.methodLink RX3 105 yX1_add, Cond.instanceMethod yX1_add, Cond.selects RX1 yX1_add yX1_add, Cond.code yX1_add cX1_add 2 none, Cond.fieldLink RX1 17 "BaroRuns$PointSum" "least" "I", Cond.methodLink RX1 20 Lib.Math.min.name]
def wsX6_point_r8 : List Cond := [Cond.static Lib.Math.min.name, Cond.initialized "java/lang/Math", Cond.code Lib.Math.min.name Lib.Math.min.code 2 (some .int), Cond.fieldLink RX1 26 "BaroRuns$PointSum" "greatest" "I", Cond.methodLink RX1 29 Lib.Math.max.name, Cond.static Lib.Math.max.name, Cond.code Lib.Math.max.name Lib.Math.max.code 2 (some .int), Cond.methodLink RX6 203 yX1_height, Cond.instanceMethod yX1_height, Cond.selects RX1 yX1_height yX1_height, Cond.code yX1_height cX1_height 1 (some .int), Cond.methodLink RX6 206 yX1_spread, Cond.instanceMethod yX1_spread, Cond.selects RX1 yX1_spread yX1_spread, Cond.code yX1_spread cX1_spread 1 (some .int)]
def wsX6_point : List Cond := .code yX6_point cX6_point 3 (some .int) :: ((wsX6_point_r1 ++ (wsX6_point_r2 ++ (wsX6_point_r3 ++ (wsX6_point_r4 ++ (wsX6_point_r5 ++ (wsX6_point_r6 ++ (wsX6_point_r7 ++ wsX6_point_r8))))))) ++ wsX60 ++ wsX10 ++ wsX50 ++ wsX30 ++ wsX20)
def wsJ9_abs_0f7a4 : List Cond := .code yJ9_abs_0f7a4 cJ9_abs_0f7a4 1 (some .int) :: ([])
def wsJ9_max_7cf53 : List Cond := .code yJ9_max_7cf53 cJ9_max_7cf53 2 (some .int) :: ([])
def wsJ9_min_7cf53 : List Cond := .code yJ9_min_7cf53 cJ9_min_7cf53 2 (some .int) :: ([])
def wsL_cell : List Cond := .code yL_cell cL_cell 2 (some .int) :: ([.constant RL 7 (15485959), .constant RL 8 (2147483647)])
def wsL_holds_r1 : List Cond := [Cond.constant RL 35 (-2000000004), Cond.methodLink RL 9 yX6_count, Cond.instanceMethod yX6_count, Cond.selects RX6 yX6_count yX6_count, Cond.initialized RX6, Cond.code yX6_count cX6_count 2 (some .int), Cond.fieldLink RX6 10 "BaroRuns" "now" "LBaroRuns$State;", Cond.fieldLink RX6 29 "BaroRuns" "firstSurvey" "LBaroRuns$Survey;", Cond.fieldLink RX6 33 "BaroRuns" "secondSurvey" "LBaroRuns$Survey;", Cond.fieldLink RX6 36 "BaroRuns" "thirdSurvey" "LBaroRuns$Survey;", Cond.fieldLink RX6 22 "BaroRuns" "history" "LBaroRuns$History;", Cond.fieldLink RX6 49 "BaroRuns" "text" "LBaroRuns$Text;", Cond.constant RX6 61 (-2000000001), Cond.methodLink RX6 109 yX6_refresh, Cond.instanceMethod yX6_refresh, Cond.selects RX6 yX6_refresh yX6_refresh, Cond.code yX6_refresh cX6_refresh 1 none, Cond.fieldLink RX6 53 "BaroRuns" "stale" "Z", Cond.methodLink RX6 257 yX3_workOut, Cond.instanceMethod yX3_workOut, Cond.selects RX3 yX3_workOut yX3_workOut, Cond.initialized RX3, Cond.code yX3_workOut cX3_workOut 8 none, Cond.fieldLink RX3 48 "BaroRuns$Survey" "size" "I"]
def wsL_holds_r2 : List Cond := [Cond.fieldLink RX3 9 "BaroRuns$Survey" "times" "[I", Cond.fieldLink RX3 15 "BaroRuns$Survey" "points" "[I", Cond.fieldLink RX3 18 "BaroRuns$Survey" "heights" "[I", Cond.fieldLink RX3 21 "BaroRuns$Survey" "gusts" "[I", Cond.fieldLink RX3 24 "BaroRuns$Survey" "openLoops" "[I", Cond.fieldLink RX3 27 "BaroRuns$Survey" "correctedHeights" "[I", Cond.methodLink RX3 36 yX2_track, Cond.instanceMethod yX2_track, Cond.selects RX2 yX2_track yX2_track, Cond.initialized RX2, Cond.code yX2_track cX2_track 2 (some (.object "BaroRuns$Track")), Cond.fieldLink RX2 20 "BaroRuns$State" "firstTrack" "LBaroRuns$Track;", Cond.fieldLink RX2 23 "BaroRuns$State" "secondTrack" "LBaroRuns$Track;", Cond.fieldLink RX2 26 "BaroRuns$State" "thirdTrack" "LBaroRuns$Track;", Cond.fieldLink RX2 14 "BaroRuns$State" "baseTrack" "LBaroRuns$Track;", Cond.methodLink RX3 49 yX5_value, Cond.instanceMethod yX5_value, Cond.selects RX5 yX5_value yX5_value, Cond.initialized RX5, Cond.code yX5_value cX5_value 3 (some .int), Cond.fieldLink RX5 9 "BaroRuns$Track" "values" "[I", Cond.static yX6_at, Cond.code yX6_at cX6_at 2 (some .int), Cond.static yX6_put]
def wsL_holds_r3 : List Cond := [Cond.code yX6_put cX6_put 3 none, Cond.methodLink RX3 57 yX2_heightAt, Cond.instanceMethod yX2_heightAt, Cond.selects RX2 yX2_heightAt yX2_heightAt, Cond.code yX2_heightAt cX2_heightAt 12 (some .int), Cond.constant RX2 50 (-2000000004), Cond.constantLong RX2 63 (2930), Cond.fieldLink RX2 29 "BaroRuns$State" "baseHeight" "I", Cond.methodLink RX2 55 yX2_baseValue, Cond.instanceMethod yX2_baseValue, Cond.selects RX2 yX2_baseValue yX2_baseValue, Cond.code yX2_baseValue cX2_baseValue 10 (some .int), Cond.methodLink RX2 46 yX5_value, Cond.static yX6_divideDown, Cond.code yX6_divideDown cX6_divideDown 4 (some .long), Cond.methodLink RX6 236 yJ9_floorDiv_f86c9, Cond.static yJ9_floorDiv_f86c9, Cond.initialized RJ9, Cond.code yJ9_floorDiv_f86c9 cJ9_floorDiv_f86c9 6 (some .long), Cond.methodLink RX2 58 yJ9_floorDiv_7cf53, Cond.static yJ9_floorDiv_7cf53, Cond.code yJ9_floorDiv_7cf53 cJ9_floorDiv_7cf53 3 (some .int), Cond.methodLink RX3 64 yX5_standsOut, Cond.instanceMethod yX5_standsOut]
def wsL_holds_r4 : List Cond := [Cond.selects RX5 yX5_standsOut yX5_standsOut, Cond.code yX5_standsOut cX5_standsOut 6 (some .boolean), Cond.fieldLink RX5 29 "BaroRuns$Track" "size" "I", Cond.methodLink RX5 32 yX5_value, Cond.methodLink RX3 68 yX3_countKinds, Cond.instanceMethod yX3_countKinds, Cond.selects RX3 yX3_countKinds yX3_countKinds, Cond.code yX3_countKinds cX3_countKinds 2 none, Cond.fieldLink RX3 114 "BaroRuns$Survey" "gustCount" "I", Cond.fieldLink RX3 117 "BaroRuns$Survey" "goodCount" "I", Cond.methodLink RX3 120 yX3_isGust, Cond.instanceMethod yX3_isGust, Cond.selects RX3 yX3_isGust yX3_isGust, Cond.code yX3_isGust cX3_isGust 2 (some .boolean), Cond.methodLink RX3 95 yX3_isGood, Cond.instanceMethod yX3_isGood, Cond.selects RX3 yX3_isGood yX3_isGood, Cond.code yX3_isGood cX3_isGood 2 (some .boolean), Cond.constant RX3 85 (-2000000004), Cond.methodLink RX3 71 yX3_findLoops, Cond.instanceMethod yX3_findLoops, Cond.selects RX3 yX3_findLoops yX3_findLoops, Cond.code yX3_findLoops cX3_findLoops 3 none, Cond.fieldLink RX3 123 "BaroRuns$Survey" "loopCount" "I"]
def wsL_holds_r5 : List Cond := [Cond.fieldLink RX3 30 "BaroRuns$Survey" "begins" "[I", Cond.fieldLink RX3 33 "BaroRuns$Survey" "ends" "[I", Cond.methodLink RX3 126 yX3_lastVisit, Cond.instanceMethod yX3_lastVisit, Cond.selects RX3 yX3_lastVisit yX3_lastVisit, Cond.code yX3_lastVisit cX3_lastVisit 4 (some .int), Cond.methodLink RX3 74 yX3_shortestLoop, Cond.instanceMethod yX3_shortestLoop, Cond.selects RX3 yX3_shortestLoop yX3_shortestLoop, Cond.code yX3_shortestLoop cX3_shortestLoop 5 (some .int), Cond.methodLink RX3 89 yX3_begin, Cond.instanceMethod yX3_begin, Cond.selects RX3 yX3_begin yX3_begin, Cond.code yX3_begin cX3_begin 2 (some .int), Cond.methodLink RX3 86 yX3_end, Cond.instanceMethod yX3_end, Cond.selects RX3 yX3_end yX3_end, Cond.code yX3_end cX3_end 2 (some .int), Cond.methodLink RX3 129 yX3_minutes, Cond.instanceMethod yX3_minutes, Cond.selects RX3 yX3_minutes yX3_minutes, Cond.code yX3_minutes cX3_minutes 2 (some .int), Cond.methodLink RX3 78 yX3_withoutDrift, Cond.instanceMethod yX3_withoutDrift]
def wsL_holds_r6 : List Cond := [Cond.selects RX3 yX3_withoutDrift yX3_withoutDrift, Cond.code yX3_withoutDrift cX3_withoutDrift 5 (some .int), Cond.methodLink RX3 111 yX3_openLoopOf, Cond.instanceMethod yX3_openLoopOf, Cond.selects RX3 yX3_openLoopOf yX3_openLoopOf, Cond.code yX3_openLoopOf cX3_openLoopOf 2 (some .int), Cond.methodLink RX3 92 yX3_rawHeight, Cond.instanceMethod yX3_rawHeight, Cond.selects RX3 yX3_rawHeight yX3_rawHeight, Cond.code yX3_rawHeight cX3_rawHeight 2 (some .int), Cond.methodLink RX3 132 yX3_misclosure, Cond.instanceMethod yX3_misclosure, Cond.selects RX3 yX3_misclosure yX3_misclosure, Cond.code yX3_misclosure cX3_misclosure 2 (some .int), Cond.methodLink RX6 91 yX2_track, Cond.methodLink RX6 132 yX2_steps, Cond.instanceMethod yX2_steps, Cond.selects RX2 yX2_steps yX2_steps, Cond.code yX2_steps cX2_steps 3 (some .int), Cond.methodLink RX2 69 yX2_isStepEnd, Cond.instanceMethod yX2_isStepEnd, Cond.selects RX2 yX2_isStepEnd yX2_isStepEnd, Cond.code yX2_isStepEnd cX2_isStepEnd 3 (some .boolean), Cond.methodLink RX2 65 Lib.Math.abs.name]
def wsL_holds_r7 : List Cond := [Cond.static Lib.Math.abs.name, Cond.initialized "java/lang/Math", Cond.code Lib.Math.abs.name Lib.Math.abs.code 1 (some .int), Cond.fieldLink RX2 36 "BaroRuns$State" "stepLimit" "I", Cond.methodLink RX6 136 yX6_pointsWithHeight, Cond.instanceMethod yX6_pointsWithHeight, Cond.selects RX6 yX6_pointsWithHeight yX6_pointsWithHeight, Cond.code yX6_pointsWithHeight cX6_pointsWithHeight 3 (some .int), Cond.fieldLink RX6 42 "BaroRuns" "pointSum" "LBaroRuns$PointSum;", Cond.methodLink RX6 197 yX6_gather, Cond.instanceMethod yX6_gather, Cond.selects RX6 yX6_gather yX6_gather, Cond.code yX6_gather cX6_gather 3 none, Cond.methodLink RX6 261 yX1_clear, Cond.instanceMethod yX1_clear, Cond.selects RX1 yX1_clear yX1_clear, Cond.initialized RX1, Cond.code yX1_clear cX1_clear 1 none, Cond.fieldLink RX1 7 "BaroRuns$PointSum" "sum" "J", Cond.fieldLink RX1 13 "BaroRuns$PointSum" "number" "I", Cond.methodLink RX6 112 yX6_surveyOf, Cond.instanceMethod yX6_surveyOf, Cond.selects RX6 yX6_surveyOf yX6_surveyOf, Cond.code yX6_surveyOf cX6_surveyOf 2 (some (.object "BaroRuns$Survey"))]
def wsL_holds_r8 : List Cond := [Cond.methodLink RX6 264 yX3_addTo, Cond.instanceMethod yX3_addTo, Cond.selects RX3 yX3_addTo yX3_addTo, Cond.code yX3_addTo cX3_addTo 4 none, Cond.methodLink RX3 99 yX3_endsOpenLoop, Cond.instanceMethod yX3_endsOpenLoop, Cond.selects RX3 yX3_endsOpenLoop yX3_endsOpenLoop, Cond.code yX3_endsOpenLoop cX3_endsOpenLoop 3 (some .boolean), Cond.methodLink RX3 102 yX3_correctedHeight, Cond.instanceMethod yX3_correctedHeight, Cond.selects RX3 yX3_correctedHeight yX3_correctedHeight, Cond.code yX3_correctedHeight cX3_correctedHeight 2 (some .int), Cond.methodLink RX3 105 yX1_add, Cond.instanceMethod yX1_add, Cond.selects RX1 yX1_add yX1_add, Cond.code yX1_add cX1_add 2 none, Cond.fieldLink RX1 17 "BaroRuns$PointSum" "least" "I", Cond.methodLink RX1 20 Lib.Math.min.name, Cond.static Lib.Math.min.name, Cond.code Lib.Math.min.name Lib.Math.min.code 2 (some .int), Cond.fieldLink RX1 26 "BaroRuns$PointSum" "greatest" "I", Cond.methodLink RX1 29 Lib.Math.max.name, Cond.static Lib.Math.max.name, Cond.code Lib.Math.max.name Lib.Math.max.code 2 (some .int)]
def wsL_holds_r9 : List Cond := [Cond.methodLink RX6 65 yX2_setting, Cond.instanceMethod yX2_setting, Cond.selects RX2 yX2_setting yX2_setting, Cond.code yX2_setting cX2_setting 2 (some .int), Cond.fieldLink RX2 33 "BaroRuns$State" "gustLimit" "I", Cond.methodLink RL 15 yX6_reading, Cond.instanceMethod yX6_reading, Cond.selects RX6 yX6_reading yX6_reading, Cond.code yX6_reading cX6_reading 4 (some .int), Cond.constant RX6 108 (-2000000004), Cond.methodLink RX6 88 yX6_isReadingOf, Cond.instanceMethod yX6_isReadingOf, Cond.selects RX6 yX6_isReadingOf yX6_isReadingOf, Cond.code yX6_isReadingOf cX6_isReadingOf 3 (some .boolean), Cond.methodLink RX6 81 yX6_isCell, Cond.static yX6_isCell, Cond.code yX6_isCell cX6_isCell 1 (some .boolean), Cond.methodLink RX6 105 yX6_within, Cond.static yX6_within, Cond.code yX6_within cX6_within 3 (some .boolean), Cond.methodLink RX6 116 yX3_isGust, Cond.methodLink RX6 119 yX3_isGood, Cond.methodLink RX6 122 yX5_value, Cond.methodLink RL 19 yX6_loops]
def wsL_holds_r10 : List Cond := [Cond.instanceMethod yX6_loops, Cond.selects RX6 yX6_loops yX6_loops, Cond.code yX6_loops cX6_loops 2 (some .int), Cond.methodLink RL 22 yX6_loop, Cond.instanceMethod yX6_loop, Cond.selects RX6 yX6_loop yX6_loop, Cond.code yX6_loop cX6_loop 5 (some .int), Cond.methodLink RX6 176 yX3_begin, Cond.methodLink RX6 179 yX3_end, Cond.methodLink RX6 182 yX3_misclosure, Cond.methodLink RX6 185 yX3_misclosureBySteps, Cond.instanceMethod yX3_misclosureBySteps, Cond.selects RX3 yX3_misclosureBySteps yX3_misclosureBySteps, Cond.code yX3_misclosureBySteps cX3_misclosureBySteps 5 (some .int), Cond.methodLink RX6 188 yX3_minutes, Cond.methodLink RL 25 yX6_openLoop, Cond.instanceMethod yX6_openLoop, Cond.selects RX6 yX6_openLoop yX6_openLoop, Cond.code yX6_openLoop cX6_openLoop 4 (some .int), Cond.methodLink RX6 191 yX3_openLoopOf, Cond.methodLink RL 29 yX6_corrected, Cond.instanceMethod yX6_corrected, Cond.selects RX6 yX6_corrected yX6_corrected, Cond.code yX6_corrected cX6_corrected 3 (some .int)]
def wsL_holds_r11 : List Cond := [Cond.methodLink RX6 194 yX3_correctedHeight, Cond.methodLink RL 32 yX6_raw, Cond.instanceMethod yX6_raw, Cond.selects RX6 yX6_raw yX6_raw, Cond.code yX6_raw cX6_raw 3 (some .int), Cond.methodLink RX6 160 yX3_rawHeight, Cond.methodLink RL 36 yX6_point, Cond.instanceMethod yX6_point, Cond.selects RX6 yX6_point yX6_point, Cond.code yX6_point cX6_point 3 (some .int), Cond.methodLink RX6 85 yX6_isPoint, Cond.static yX6_isPoint, Cond.code yX6_isPoint cX6_isPoint 1 (some .boolean), Cond.methodLink RX6 203 yX1_height, Cond.instanceMethod yX1_height, Cond.selects RX1 yX1_height yX1_height, Cond.code yX1_height cX1_height 1 (some .int), Cond.methodLink RX6 206 yX1_spread, Cond.instanceMethod yX1_spread, Cond.selects RX1 yX1_spread yX1_spread, Cond.code yX1_spread cX1_spread 1 (some .int)]
def wsL_holds : List Cond := .code yL_holds cL_holds 6 (some .boolean) :: ((wsL_holds_r1 ++ (wsL_holds_r2 ++ (wsL_holds_r3 ++ (wsL_holds_r4 ++ (wsL_holds_r5 ++ (wsL_holds_r6 ++ (wsL_holds_r7 ++ (wsL_holds_r8 ++ (wsL_holds_r9 ++ (wsL_holds_r10 ++ wsL_holds_r11)))))))))) ++ wsX60 ++ wsX50 ++ wsX30 ++ wsX00 ++ wsX40 ++ wsX20 ++ wsX10)
def wsL_level_r1 : List Cond := [Cond.methodLink RL 9 yX6_count, Cond.instanceMethod yX6_count, Cond.selects RX6 yX6_count yX6_count, Cond.initialized RX6, Cond.code yX6_count cX6_count 2 (some .int), Cond.fieldLink RX6 10 "BaroRuns" "now" "LBaroRuns$State;", Cond.fieldLink RX6 29 "BaroRuns" "firstSurvey" "LBaroRuns$Survey;", Cond.fieldLink RX6 33 "BaroRuns" "secondSurvey" "LBaroRuns$Survey;", Cond.fieldLink RX6 36 "BaroRuns" "thirdSurvey" "LBaroRuns$Survey;", Cond.fieldLink RX6 22 "BaroRuns" "history" "LBaroRuns$History;", Cond.fieldLink RX6 49 "BaroRuns" "text" "LBaroRuns$Text;", Cond.constant RX6 61 (-2000000001), Cond.methodLink RX6 109 yX6_refresh, Cond.instanceMethod yX6_refresh, Cond.selects RX6 yX6_refresh yX6_refresh, Cond.code yX6_refresh cX6_refresh 1 none, Cond.fieldLink RX6 53 "BaroRuns" "stale" "Z", Cond.methodLink RX6 257 yX3_workOut, Cond.instanceMethod yX3_workOut, Cond.selects RX3 yX3_workOut yX3_workOut, Cond.initialized RX3, Cond.code yX3_workOut cX3_workOut 8 none, Cond.fieldLink RX3 48 "BaroRuns$Survey" "size" "I", Cond.fieldLink RX3 9 "BaroRuns$Survey" "times" "[I"]
def wsL_level_r2 : List Cond := [Cond.fieldLink RX3 15 "BaroRuns$Survey" "points" "[I", Cond.fieldLink RX3 18 "BaroRuns$Survey" "heights" "[I", Cond.fieldLink RX3 21 "BaroRuns$Survey" "gusts" "[I", Cond.fieldLink RX3 24 "BaroRuns$Survey" "openLoops" "[I", Cond.fieldLink RX3 27 "BaroRuns$Survey" "correctedHeights" "[I", Cond.methodLink RX3 36 yX2_track, Cond.instanceMethod yX2_track, Cond.selects RX2 yX2_track yX2_track, Cond.initialized RX2, Cond.code yX2_track cX2_track 2 (some (.object "BaroRuns$Track")), Cond.fieldLink RX2 20 "BaroRuns$State" "firstTrack" "LBaroRuns$Track;", Cond.fieldLink RX2 23 "BaroRuns$State" "secondTrack" "LBaroRuns$Track;", Cond.fieldLink RX2 26 "BaroRuns$State" "thirdTrack" "LBaroRuns$Track;", Cond.fieldLink RX2 14 "BaroRuns$State" "baseTrack" "LBaroRuns$Track;", Cond.methodLink RX3 49 yX5_value, Cond.instanceMethod yX5_value, Cond.selects RX5 yX5_value yX5_value, Cond.initialized RX5, Cond.code yX5_value cX5_value 3 (some .int), Cond.fieldLink RX5 9 "BaroRuns$Track" "values" "[I", Cond.static yX6_at, Cond.code yX6_at cX6_at 2 (some .int), Cond.static yX6_put, Cond.code yX6_put cX6_put 3 none]
def wsL_level_r3 : List Cond := [Cond.methodLink RX3 57 yX2_heightAt, Cond.instanceMethod yX2_heightAt, Cond.selects RX2 yX2_heightAt yX2_heightAt, Cond.code yX2_heightAt cX2_heightAt 12 (some .int), Cond.constant RX2 50 (-2000000004), Cond.constantLong RX2 63 (2930), Cond.fieldLink RX2 29 "BaroRuns$State" "baseHeight" "I", Cond.methodLink RX2 55 yX2_baseValue, Cond.instanceMethod yX2_baseValue, Cond.selects RX2 yX2_baseValue yX2_baseValue, Cond.code yX2_baseValue cX2_baseValue 10 (some .int), Cond.methodLink RX2 46 yX5_value, Cond.static yX6_divideDown, Cond.code yX6_divideDown cX6_divideDown 4 (some .long), Cond.methodLink RX6 236 yJ9_floorDiv_f86c9, Cond.static yJ9_floorDiv_f86c9, Cond.initialized RJ9, Cond.code yJ9_floorDiv_f86c9 cJ9_floorDiv_f86c9 6 (some .long), Cond.methodLink RX2 58 yJ9_floorDiv_7cf53, Cond.static yJ9_floorDiv_7cf53, Cond.code yJ9_floorDiv_7cf53 cJ9_floorDiv_7cf53 3 (some .int), Cond.methodLink RX3 64 yX5_standsOut, Cond.instanceMethod yX5_standsOut, Cond.selects RX5 yX5_standsOut yX5_standsOut]
def wsL_level_r4 : List Cond := [Cond.code yX5_standsOut cX5_standsOut 6 (some .boolean), Cond.fieldLink RX5 29 "BaroRuns$Track" "size" "I", Cond.methodLink RX5 32 yX5_value, Cond.methodLink RX3 68 yX3_countKinds, Cond.instanceMethod yX3_countKinds, Cond.selects RX3 yX3_countKinds yX3_countKinds, Cond.code yX3_countKinds cX3_countKinds 2 none, Cond.fieldLink RX3 114 "BaroRuns$Survey" "gustCount" "I", Cond.fieldLink RX3 117 "BaroRuns$Survey" "goodCount" "I", Cond.methodLink RX3 120 yX3_isGust, Cond.instanceMethod yX3_isGust, Cond.selects RX3 yX3_isGust yX3_isGust, Cond.code yX3_isGust cX3_isGust 2 (some .boolean), Cond.methodLink RX3 95 yX3_isGood, Cond.instanceMethod yX3_isGood, Cond.selects RX3 yX3_isGood yX3_isGood, Cond.code yX3_isGood cX3_isGood 2 (some .boolean), Cond.constant RX3 85 (-2000000004), Cond.methodLink RX3 71 yX3_findLoops, Cond.instanceMethod yX3_findLoops, Cond.selects RX3 yX3_findLoops yX3_findLoops, Cond.code yX3_findLoops cX3_findLoops 3 none, Cond.fieldLink RX3 123 "BaroRuns$Survey" "loopCount" "I", Cond.fieldLink RX3 30 "BaroRuns$Survey" "begins" "[I"]
def wsL_level_r5 : List Cond := [Cond.fieldLink RX3 33 "BaroRuns$Survey" "ends" "[I", Cond.methodLink RX3 126 yX3_lastVisit, Cond.instanceMethod yX3_lastVisit, Cond.selects RX3 yX3_lastVisit yX3_lastVisit, Cond.code yX3_lastVisit cX3_lastVisit 4 (some .int), Cond.methodLink RX3 74 yX3_shortestLoop, Cond.instanceMethod yX3_shortestLoop, Cond.selects RX3 yX3_shortestLoop yX3_shortestLoop, Cond.code yX3_shortestLoop cX3_shortestLoop 5 (some .int), Cond.methodLink RX3 89 yX3_begin, Cond.instanceMethod yX3_begin, Cond.selects RX3 yX3_begin yX3_begin, Cond.code yX3_begin cX3_begin 2 (some .int), Cond.methodLink RX3 86 yX3_end, Cond.instanceMethod yX3_end, Cond.selects RX3 yX3_end yX3_end, Cond.code yX3_end cX3_end 2 (some .int), Cond.methodLink RX3 129 yX3_minutes, Cond.instanceMethod yX3_minutes, Cond.selects RX3 yX3_minutes yX3_minutes, Cond.code yX3_minutes cX3_minutes 2 (some .int), Cond.methodLink RX3 78 yX3_withoutDrift, Cond.instanceMethod yX3_withoutDrift, Cond.selects RX3 yX3_withoutDrift yX3_withoutDrift]
def wsL_level_r6 : List Cond := [Cond.code yX3_withoutDrift cX3_withoutDrift 5 (some .int), Cond.methodLink RX3 111 yX3_openLoopOf, Cond.instanceMethod yX3_openLoopOf, Cond.selects RX3 yX3_openLoopOf yX3_openLoopOf, Cond.code yX3_openLoopOf cX3_openLoopOf 2 (some .int), Cond.methodLink RX3 92 yX3_rawHeight, Cond.instanceMethod yX3_rawHeight, Cond.selects RX3 yX3_rawHeight yX3_rawHeight, Cond.code yX3_rawHeight cX3_rawHeight 2 (some .int), Cond.methodLink RX3 132 yX3_misclosure, Cond.instanceMethod yX3_misclosure, Cond.selects RX3 yX3_misclosure yX3_misclosure, Cond.code yX3_misclosure cX3_misclosure 2 (some .int), Cond.methodLink RX6 91 yX2_track, Cond.methodLink RX6 132 yX2_steps, Cond.instanceMethod yX2_steps, Cond.selects RX2 yX2_steps yX2_steps, Cond.code yX2_steps cX2_steps 3 (some .int), Cond.methodLink RX2 69 yX2_isStepEnd, Cond.instanceMethod yX2_isStepEnd, Cond.selects RX2 yX2_isStepEnd yX2_isStepEnd, Cond.code yX2_isStepEnd cX2_isStepEnd 3 (some .boolean), Cond.methodLink RX2 65 Lib.Math.abs.name, Cond.static Lib.Math.abs.name]
def wsL_level_r7 : List Cond := [Cond.initialized "java/lang/Math", Cond.code Lib.Math.abs.name Lib.Math.abs.code 1 (some .int), Cond.fieldLink RX2 36 "BaroRuns$State" "stepLimit" "I", Cond.methodLink RX6 136 yX6_pointsWithHeight, Cond.instanceMethod yX6_pointsWithHeight, Cond.selects RX6 yX6_pointsWithHeight yX6_pointsWithHeight, Cond.code yX6_pointsWithHeight cX6_pointsWithHeight 3 (some .int), Cond.fieldLink RX6 42 "BaroRuns" "pointSum" "LBaroRuns$PointSum;", Cond.methodLink RX6 197 yX6_gather, Cond.instanceMethod yX6_gather, Cond.selects RX6 yX6_gather yX6_gather, Cond.code yX6_gather cX6_gather 3 none, Cond.methodLink RX6 261 yX1_clear, Cond.instanceMethod yX1_clear, Cond.selects RX1 yX1_clear yX1_clear, Cond.initialized RX1, Cond.code yX1_clear cX1_clear 1 none, Cond.fieldLink RX1 7 "BaroRuns$PointSum" "sum" "J", Cond.fieldLink RX1 13 "BaroRuns$PointSum" "number" "I", Cond.methodLink RX6 112 yX6_surveyOf, Cond.instanceMethod yX6_surveyOf, Cond.selects RX6 yX6_surveyOf yX6_surveyOf, Cond.code yX6_surveyOf cX6_surveyOf 2 (some (.object "BaroRuns$Survey")), Cond.methodLink RX6 264 yX3_addTo]
def wsL_level_r8 : List Cond := [Cond.instanceMethod yX3_addTo, Cond.selects RX3 yX3_addTo yX3_addTo, Cond.code yX3_addTo cX3_addTo 4 none, Cond.methodLink RX3 99 yX3_endsOpenLoop, Cond.instanceMethod yX3_endsOpenLoop, Cond.selects RX3 yX3_endsOpenLoop yX3_endsOpenLoop, Cond.code yX3_endsOpenLoop cX3_endsOpenLoop 3 (some .boolean), Cond.methodLink RX3 102 yX3_correctedHeight, Cond.instanceMethod yX3_correctedHeight, Cond.selects RX3 yX3_correctedHeight yX3_correctedHeight, Cond.code yX3_correctedHeight cX3_correctedHeight 2 (some .int), Cond.methodLink RX3 105 yX1_add, Cond.instanceMethod yX1_add, Cond.selects RX1 yX1_add yX1_add, Cond.code yX1_add cX1_add 2 none, Cond.fieldLink RX1 17 "BaroRuns$PointSum" "least" "I", Cond.methodLink RX1 20 Lib.Math.min.name, Cond.static Lib.Math.min.name, Cond.code Lib.Math.min.name Lib.Math.min.code 2 (some .int), Cond.fieldLink RX1 26 "BaroRuns$PointSum" "greatest" "I", Cond.methodLink RX1 29 Lib.Math.max.name, Cond.static Lib.Math.max.name, Cond.code Lib.Math.max.name Lib.Math.max.code 2 (some .int), Cond.methodLink RX6 65 yX2_setting]
def wsL_level_r9 : List Cond := [Cond.instanceMethod yX2_setting, Cond.selects RX2 yX2_setting yX2_setting, Cond.code yX2_setting cX2_setting 2 (some .int), Cond.fieldLink RX2 33 "BaroRuns$State" "gustLimit" "I", Cond.methodLink RL 15 yX6_reading, Cond.instanceMethod yX6_reading, Cond.selects RX6 yX6_reading yX6_reading, Cond.code yX6_reading cX6_reading 4 (some .int), Cond.constant RX6 108 (-2000000004), Cond.methodLink RX6 88 yX6_isReadingOf, Cond.instanceMethod yX6_isReadingOf, Cond.selects RX6 yX6_isReadingOf yX6_isReadingOf, Cond.code yX6_isReadingOf cX6_isReadingOf 3 (some .boolean), Cond.methodLink RX6 81 yX6_isCell, Cond.static yX6_isCell, Cond.code yX6_isCell cX6_isCell 1 (some .boolean), Cond.methodLink RX6 105 yX6_within, Cond.static yX6_within, Cond.code yX6_within cX6_within 3 (some .boolean), Cond.methodLink RX6 116 yX3_isGust, Cond.methodLink RX6 119 yX3_isGood, Cond.methodLink RX6 122 yX5_value, Cond.methodLink RL 39 yX6_baseAt, Cond.instanceMethod yX6_baseAt]
def wsL_level_r10 : List Cond := [Cond.selects RX6 yX6_baseAt yX6_baseAt, Cond.code yX6_baseAt cX6_baseAt 3 (some .int), Cond.methodLink RX6 151 yX6_isTime, Cond.static yX6_isTime, Cond.code yX6_isTime cX6_isTime 1 (some .boolean), Cond.methodLink RX6 154 yX2_baseValue, Cond.methodLink RL 42 yX6_would, Cond.instanceMethod yX6_would, Cond.selects RX6 yX6_would yX6_would, Cond.code yX6_would cX6_would 4 (some .int), Cond.methodLink RX6 73 yX6_isReading, Cond.static yX6_isReading, Cond.code yX6_isReading cX6_isReading 3 (some .boolean), Cond.constant RX6 172 (50000), Cond.constant RX6 235 (110000), Cond.methodLink RX6 167 yX6_isTemperature, Cond.static yX6_isTemperature, Cond.code yX6_isTemperature cX6_isTemperature 1 (some .boolean), Cond.methodLink RX6 163 yX2_heightAt]
def wsL_level : List Cond := .code yL_level cL_level 4 (some .boolean) :: ((wsL_level_r1 ++ (wsL_level_r2 ++ (wsL_level_r3 ++ (wsL_level_r4 ++ (wsL_level_r5 ++ (wsL_level_r6 ++ (wsL_level_r7 ++ (wsL_level_r8 ++ (wsL_level_r9 ++ wsL_level_r10))))))))) ++ wsX60 ++ wsX50 ++ wsX30 ++ wsX00 ++ wsX40 ++ wsX20 ++ wsX10)
abbrev vwCl : List vw_C := [(RX0, TX0, 3), (RX1, TX1, 4), (RX2, TX2, 7), (RX3, TX3, 12), (RX4, TX4, 11), (RX5, TX5, 3), (RX6, TX6, 9)]
end
section
set_option maxRecDepth 20000 in
theorem ggX0_init_X2_init : GoodIn wsX0_init wsX2_init := goodIn_r _ [10, 11, 2, 3, 12, 13, 14, 15, 16, 17, 18, 19, 20, 21, 22, 23, 24, 25, 26, 27, 28, 29, 30, 31, 32, 43, 44, 45, 36, 37, 38, 39, 40, 41, 42] (by decide +kernel) (by decide +kernel)
set_option maxRecDepth 20000 in
theorem gX0_init_X2_init : GoodIn wsX0_init (wsX2_init) := ggX0_init_X2_init
theorem dX0_init_0 : decode cX0_init 0 = .ok (.aload_n 0, 1) := by decide +kernel
theorem dX0_init_1 : decode cX0_init 1 = .ok (.invokespecial 3, 3) := by decide +kernel
theorem dX0_init_4 : decode cX0_init 4 = .ok (.aload_n 0, 1) := by decide +kernel
theorem dX0_init_5 : decode cX0_init 5 = .ok (.iconst 5, 1) := by decide +kernel
theorem dX0_init_6 : decode cX0_init 6 = .ok (.anewarray 9, 3) := by decide +kernel
theorem dX0_init_9 : decode cX0_init 9 = .ok (.putfield 11, 3) := by decide +kernel
theorem dX0_init_12 : decode cX0_init 12 = .ok (.iconst 0, 1) := by decide +kernel
theorem dX0_init_13 : decode cX0_init 13 = .ok (.istore_n 1, 1) := by decide +kernel
theorem dX0_init_14 : decode cX0_init 14 = .ok (.iload_n 1, 1) := by decide +kernel
theorem dX0_init_15 : decode cX0_init 15 = .ok (.aload_n 0, 1) := by decide +kernel
theorem dX0_init_16 : decode cX0_init 16 = .ok (.getfield 11, 3) := by decide +kernel
theorem dX0_init_19 : decode cX0_init 19 = .ok (.arraylength, 1) := by decide +kernel
theorem dX0_init_20 : decode cX0_init 20 = .ok (.if_icmp .ge 22, 3) := by decide +kernel
theorem dX0_init_23 : decode cX0_init 23 = .ok (.aload_n 0, 1) := by decide +kernel
theorem dX0_init_24 : decode cX0_init 24 = .ok (.getfield 11, 3) := by decide +kernel
theorem dX0_init_27 : decode cX0_init 27 = .ok (.iload_n 1, 1) := by decide +kernel
theorem dX0_init_28 : decode cX0_init 28 = .ok (.new 9, 3) := by decide +kernel
theorem dX0_init_31 : decode cX0_init 31 = .ok (.dup, 1) := by decide +kernel
theorem dX0_init_32 : decode cX0_init 32 = .ok (.invokespecial 17, 3) := by decide +kernel
theorem dX0_init_35 : decode cX0_init 35 = .ok (.aastore, 1) := by decide +kernel
theorem dX0_init_36 : decode cX0_init 36 = .ok (.iinc 1 1, 3) := by decide +kernel
theorem dX0_init_39 : decode cX0_init 39 = .ok (.goto (-25), 3) := by decide +kernel
theorem dX0_init_42 : decode cX0_init 42 = .ok (.return_, 1) := by decide +kernel
set_option maxRecDepth 20000 in
theorem ggX0_keep_X0_place : GoodIn wsX0_keep wsX0_place := goodIn_r _ [7, 2, 8, 36, 37, 38] (by decide +kernel) (by decide +kernel)
set_option maxRecDepth 20000 in
theorem gX0_keep_X0_place : GoodIn wsX0_keep (wsV RX0 25 RX0 yX0_place wsX0_place) := goodIn_app (goodIn_of _ (by decide +kernel)) ggX0_keep_X0_place
set_option maxRecDepth 20000 in
theorem ggX0_keep_X2_copyFrom : GoodIn wsX0_keep wsX2_copyFrom := goodIn_r _ [13, 14, 15, 16, 17, 18, 19, 20, 21, 22, 23, 24, 25, 26, 27, 28, 29, 30, 31, 32, 33, 34, 35, 39, 40, 41, 42, 43, 44, 45, 46, 47, 48] (by decide +kernel) (by decide +kernel)
set_option maxRecDepth 20000 in
theorem gX0_keep_X2_copyFrom : GoodIn wsX0_keep (wsV RX0 29 RX2 yX2_copyFrom wsX2_copyFrom) := goodIn_app (goodIn_of _ (by decide +kernel)) ggX0_keep_X2_copyFrom
theorem dX0_keep_0 : decode cX0_keep 0 = .ok (.aload_n 0, 1) := by decide +kernel
theorem dX0_keep_1 : decode cX0_keep 1 = .ok (.getfield 18, 3) := by decide +kernel
theorem dX0_keep_4 : decode cX0_keep 4 = .ok (.iconst 5, 1) := by decide +kernel
theorem dX0_keep_5 : decode cX0_keep 5 = .ok (.if_icmp .lt 25, 3) := by decide +kernel
theorem dX0_keep_8 : decode cX0_keep 8 = .ok (.aload_n 0, 1) := by decide +kernel
theorem dX0_keep_9 : decode cX0_keep 9 = .ok (.aload_n 0, 1) := by decide +kernel
theorem dX0_keep_10 : decode cX0_keep 10 = .ok (.getfield 22, 3) := by decide +kernel
theorem dX0_keep_13 : decode cX0_keep 13 = .ok (.iconst 1, 1) := by decide +kernel
theorem dX0_keep_14 : decode cX0_keep 14 = .ok (.iadd, 1) := by decide +kernel
theorem dX0_keep_15 : decode cX0_keep 15 = .ok (.iconst 5, 1) := by decide +kernel
theorem dX0_keep_16 : decode cX0_keep 16 = .ok (.irem, 1) := by decide +kernel
theorem dX0_keep_17 : decode cX0_keep 17 = .ok (.putfield 22, 3) := by decide +kernel
theorem dX0_keep_20 : decode cX0_keep 20 = .ok (.aload_n 0, 1) := by decide +kernel
theorem dX0_keep_21 : decode cX0_keep 21 = .ok (.dup, 1) := by decide +kernel
theorem dX0_keep_22 : decode cX0_keep 22 = .ok (.getfield 18, 3) := by decide +kernel
theorem dX0_keep_25 : decode cX0_keep 25 = .ok (.iconst 1, 1) := by decide +kernel
theorem dX0_keep_26 : decode cX0_keep 26 = .ok (.isub, 1) := by decide +kernel
theorem dX0_keep_27 : decode cX0_keep 27 = .ok (.putfield 18, 3) := by decide +kernel
theorem dX0_keep_30 : decode cX0_keep 30 = .ok (.aload_n 0, 1) := by decide +kernel
theorem dX0_keep_31 : decode cX0_keep 31 = .ok (.aload_n 0, 1) := by decide +kernel
theorem dX0_keep_32 : decode cX0_keep 32 = .ok (.getfield 18, 3) := by decide +kernel
theorem dX0_keep_35 : decode cX0_keep 35 = .ok (.invokevirtual 25, 3) := by decide +kernel
theorem dX0_keep_38 : decode cX0_keep 38 = .ok (.astore_n 2, 1) := by decide +kernel
theorem dX0_keep_39 : decode cX0_keep 39 = .ok (.aload_n 2, 1) := by decide +kernel
theorem dX0_keep_40 : decode cX0_keep 40 = .ok (.ifnull 18, 3) := by decide +kernel
theorem dX0_keep_43 : decode cX0_keep 43 = .ok (.aload_n 2, 1) := by decide +kernel
theorem dX0_keep_44 : decode cX0_keep 44 = .ok (.aload_n 1, 1) := by decide +kernel
theorem dX0_keep_45 : decode cX0_keep 45 = .ok (.invokevirtual 29, 3) := by decide +kernel
theorem dX0_keep_48 : decode cX0_keep 48 = .ok (.aload_n 0, 1) := by decide +kernel
theorem dX0_keep_49 : decode cX0_keep 49 = .ok (.dup, 1) := by decide +kernel
theorem dX0_keep_50 : decode cX0_keep 50 = .ok (.getfield 18, 3) := by decide +kernel
theorem dX0_keep_53 : decode cX0_keep 53 = .ok (.iconst 1, 1) := by decide +kernel
theorem dX0_keep_54 : decode cX0_keep 54 = .ok (.iadd, 1) := by decide +kernel
theorem dX0_keep_55 : decode cX0_keep 55 = .ok (.putfield 18, 3) := by decide +kernel
theorem dX0_keep_58 : decode cX0_keep 58 = .ok (.return_, 1) := by decide +kernel
set_option maxRecDepth 20000 in
theorem ggX0_giveBack_X0_place : GoodIn wsX0_giveBack wsX0_place := goodIn_r _ [6, 7, 8, 36, 37, 38] (by decide +kernel) (by decide +kernel)
set_option maxRecDepth 20000 in
theorem gX0_giveBack_X0_place : GoodIn wsX0_giveBack (wsV RX0 25 RX0 yX0_place wsX0_place) := goodIn_app (goodIn_of _ (by decide +kernel)) ggX0_giveBack_X0_place
set_option maxRecDepth 20000 in
theorem ggX0_giveBack_X2_copyFrom : GoodIn wsX0_giveBack wsX2_copyFrom := goodIn_r _ [13, 14, 15, 16, 17, 18, 19, 20, 21, 22, 23, 24, 25, 26, 27, 28, 29, 30, 31, 32, 33, 34, 35, 39, 40, 41, 42, 43, 44, 45, 46, 47, 48] (by decide +kernel) (by decide +kernel)
set_option maxRecDepth 20000 in
theorem gX0_giveBack_X2_copyFrom : GoodIn wsX0_giveBack (wsV RX0 29 RX2 yX2_copyFrom wsX2_copyFrom) := goodIn_app (goodIn_of _ (by decide +kernel)) ggX0_giveBack_X2_copyFrom
theorem dX0_giveBack_0 : decode cX0_giveBack 0 = .ok (.aload_n 0, 1) := by decide +kernel
theorem dX0_giveBack_1 : decode cX0_giveBack 1 = .ok (.aload_n 0, 1) := by decide +kernel
theorem dX0_giveBack_2 : decode cX0_giveBack 2 = .ok (.getfield 18, 3) := by decide +kernel
theorem dX0_giveBack_5 : decode cX0_giveBack 5 = .ok (.iconst 1, 1) := by decide +kernel
theorem dX0_giveBack_6 : decode cX0_giveBack 6 = .ok (.isub, 1) := by decide +kernel
theorem dX0_giveBack_7 : decode cX0_giveBack 7 = .ok (.invokevirtual 25, 3) := by decide +kernel
theorem dX0_giveBack_10 : decode cX0_giveBack 10 = .ok (.astore_n 2, 1) := by decide +kernel
theorem dX0_giveBack_11 : decode cX0_giveBack 11 = .ok (.aload_n 2, 1) := by decide +kernel
theorem dX0_giveBack_12 : decode cX0_giveBack 12 = .ok (.ifnull 18, 3) := by decide +kernel
theorem dX0_giveBack_15 : decode cX0_giveBack 15 = .ok (.aload_n 1, 1) := by decide +kernel
theorem dX0_giveBack_16 : decode cX0_giveBack 16 = .ok (.aload_n 2, 1) := by decide +kernel
theorem dX0_giveBack_17 : decode cX0_giveBack 17 = .ok (.invokevirtual 29, 3) := by decide +kernel
theorem dX0_giveBack_20 : decode cX0_giveBack 20 = .ok (.aload_n 0, 1) := by decide +kernel
theorem dX0_giveBack_21 : decode cX0_giveBack 21 = .ok (.dup, 1) := by decide +kernel
theorem dX0_giveBack_22 : decode cX0_giveBack 22 = .ok (.getfield 18, 3) := by decide +kernel
theorem dX0_giveBack_25 : decode cX0_giveBack 25 = .ok (.iconst 1, 1) := by decide +kernel
theorem dX0_giveBack_26 : decode cX0_giveBack 26 = .ok (.isub, 1) := by decide +kernel
theorem dX0_giveBack_27 : decode cX0_giveBack 27 = .ok (.putfield 18, 3) := by decide +kernel
theorem dX0_giveBack_30 : decode cX0_giveBack 30 = .ok (.return_, 1) := by decide +kernel
theorem dX0_place_0 : decode cX0_place 0 = .ok (.aload_n 0, 1) := by decide +kernel
theorem dX0_place_1 : decode cX0_place 1 = .ok (.getfield 22, 3) := by decide +kernel
theorem dX0_place_4 : decode cX0_place 4 = .ok (.iload_n 1, 1) := by decide +kernel
theorem dX0_place_5 : decode cX0_place 5 = .ok (.iadd, 1) := by decide +kernel
theorem dX0_place_6 : decode cX0_place 6 = .ok (.iconst 5, 1) := by decide +kernel
theorem dX0_place_7 : decode cX0_place 7 = .ok (.irem, 1) := by decide +kernel
theorem dX0_place_8 : decode cX0_place 8 = .ok (.istore_n 2, 1) := by decide +kernel
theorem dX0_place_9 : decode cX0_place 9 = .ok (.iload_n 2, 1) := by decide +kernel
theorem dX0_place_10 : decode cX0_place 10 = .ok (.ifCond .lt 21, 3) := by decide +kernel
theorem dX0_place_13 : decode cX0_place 13 = .ok (.iload_n 2, 1) := by decide +kernel
theorem dX0_place_14 : decode cX0_place 14 = .ok (.aload_n 0, 1) := by decide +kernel
theorem dX0_place_15 : decode cX0_place 15 = .ok (.getfield 11, 3) := by decide +kernel
theorem dX0_place_18 : decode cX0_place 18 = .ok (.arraylength, 1) := by decide +kernel
theorem dX0_place_19 : decode cX0_place 19 = .ok (.if_icmp .ge 12, 3) := by decide +kernel
theorem dX0_place_22 : decode cX0_place 22 = .ok (.aload_n 0, 1) := by decide +kernel
theorem dX0_place_23 : decode cX0_place 23 = .ok (.getfield 11, 3) := by decide +kernel
theorem dX0_place_26 : decode cX0_place 26 = .ok (.iload_n 2, 1) := by decide +kernel
theorem dX0_place_27 : decode cX0_place 27 = .ok (.aaload, 1) := by decide +kernel
theorem dX0_place_28 : decode cX0_place 28 = .ok (.goto 4, 3) := by decide +kernel
theorem dX0_place_31 : decode cX0_place 31 = .ok (.aconst_null, 1) := by decide +kernel
theorem dX0_place_32 : decode cX0_place 32 = .ok (.areturn, 1) := by decide +kernel
theorem dX1_init_0 : decode cX1_init 0 = .ok (.aload_n 0, 1) := by decide +kernel
theorem dX1_init_1 : decode cX1_init 1 = .ok (.invokespecial 1, 3) := by decide +kernel
theorem dX1_init_4 : decode cX1_init 4 = .ok (.return_, 1) := by decide +kernel
theorem dX1_clear_0 : decode cX1_clear 0 = .ok (.aload_n 0, 1) := by decide +kernel
theorem dX1_clear_1 : decode cX1_clear 1 = .ok (.lconst 0, 1) := by decide +kernel
theorem dX1_clear_2 : decode cX1_clear 2 = .ok (.putfield 7, 3) := by decide +kernel
theorem dX1_clear_5 : decode cX1_clear 5 = .ok (.aload_n 0, 1) := by decide +kernel
theorem dX1_clear_6 : decode cX1_clear 6 = .ok (.iconst 0, 1) := by decide +kernel
theorem dX1_clear_7 : decode cX1_clear 7 = .ok (.putfield 13, 3) := by decide +kernel
theorem dX1_clear_10 : decode cX1_clear 10 = .ok (.return_, 1) := by decide +kernel
theorem dX1_add_0 : decode cX1_add 0 = .ok (.aload_n 0, 1) := by decide +kernel
theorem dX1_add_1 : decode cX1_add 1 = .ok (.aload_n 0, 1) := by decide +kernel
theorem dX1_add_2 : decode cX1_add 2 = .ok (.getfield 13, 3) := by decide +kernel
theorem dX1_add_5 : decode cX1_add 5 = .ok (.ifCond .ne 7, 3) := by decide +kernel
theorem dX1_add_8 : decode cX1_add 8 = .ok (.iload_n 1, 1) := by decide +kernel
theorem dX1_add_9 : decode cX1_add 9 = .ok (.goto 11, 3) := by decide +kernel
theorem dX1_add_12 : decode cX1_add 12 = .ok (.aload_n 0, 1) := by decide +kernel
theorem dX1_add_13 : decode cX1_add 13 = .ok (.getfield 17, 3) := by decide +kernel
theorem dX1_add_16 : decode cX1_add 16 = .ok (.iload_n 1, 1) := by decide +kernel
theorem dX1_add_17 : decode cX1_add 17 = .ok (.invokestatic 20, 3) := by decide +kernel
theorem dX1_add_20 : decode cX1_add 20 = .ok (.putfield 17, 3) := by decide +kernel
theorem dX1_add_23 : decode cX1_add 23 = .ok (.aload_n 0, 1) := by decide +kernel
theorem dX1_add_24 : decode cX1_add 24 = .ok (.aload_n 0, 1) := by decide +kernel
theorem dX1_add_25 : decode cX1_add 25 = .ok (.getfield 13, 3) := by decide +kernel
theorem dX1_add_28 : decode cX1_add 28 = .ok (.ifCond .ne 7, 3) := by decide +kernel
theorem dX1_add_31 : decode cX1_add 31 = .ok (.iload_n 1, 1) := by decide +kernel
theorem dX1_add_32 : decode cX1_add 32 = .ok (.goto 11, 3) := by decide +kernel
theorem dX1_add_35 : decode cX1_add 35 = .ok (.aload_n 0, 1) := by decide +kernel
theorem dX1_add_36 : decode cX1_add 36 = .ok (.getfield 26, 3) := by decide +kernel
theorem dX1_add_39 : decode cX1_add 39 = .ok (.iload_n 1, 1) := by decide +kernel
theorem dX1_add_40 : decode cX1_add 40 = .ok (.invokestatic 29, 3) := by decide +kernel
theorem dX1_add_43 : decode cX1_add 43 = .ok (.putfield 26, 3) := by decide +kernel
theorem dX1_add_46 : decode cX1_add 46 = .ok (.aload_n 0, 1) := by decide +kernel
theorem dX1_add_47 : decode cX1_add 47 = .ok (.dup, 1) := by decide +kernel
theorem dX1_add_48 : decode cX1_add 48 = .ok (.getfield 7, 3) := by decide +kernel
theorem dX1_add_51 : decode cX1_add 51 = .ok (.iload_n 1, 1) := by decide +kernel
theorem dX1_add_52 : decode cX1_add 52 = .ok (.i2l, 1) := by decide +kernel
theorem dX1_add_53 : decode cX1_add 53 = .ok (.ladd, 1) := by decide +kernel
theorem dX1_add_54 : decode cX1_add 54 = .ok (.putfield 7, 3) := by decide +kernel
theorem dX1_add_57 : decode cX1_add 57 = .ok (.aload_n 0, 1) := by decide +kernel
theorem dX1_add_58 : decode cX1_add 58 = .ok (.dup, 1) := by decide +kernel
theorem dX1_add_59 : decode cX1_add 59 = .ok (.getfield 13, 3) := by decide +kernel
theorem dX1_add_62 : decode cX1_add 62 = .ok (.iconst 1, 1) := by decide +kernel
theorem dX1_add_63 : decode cX1_add 63 = .ok (.iadd, 1) := by decide +kernel
theorem dX1_add_64 : decode cX1_add 64 = .ok (.putfield 13, 3) := by decide +kernel
theorem dX1_add_67 : decode cX1_add 67 = .ok (.return_, 1) := by decide +kernel
set_option maxRecDepth 20000 in
theorem ggX1_height_X6_divideDown : GoodIn wsX1_height wsX6_divideDown := goodIn_r _ [5, 6, 7, 8, 9] (by decide +kernel) (by decide +kernel)
set_option maxRecDepth 20000 in
theorem gX1_height_X6_divideDown_n32 : GoodIn wsX1_height (wsX6_divideDown) := ggX1_height_X6_divideDown
theorem dX1_height_0 : decode cX1_height 0 = .ok (.aload_n 0, 1) := by decide +kernel
theorem dX1_height_1 : decode cX1_height 1 = .ok (.getfield 7, 3) := by decide +kernel
theorem dX1_height_4 : decode cX1_height 4 = .ok (.aload_n 0, 1) := by decide +kernel
theorem dX1_height_5 : decode cX1_height 5 = .ok (.getfield 13, 3) := by decide +kernel
theorem dX1_height_8 : decode cX1_height 8 = .ok (.i2l, 1) := by decide +kernel
theorem dX1_height_9 : decode cX1_height 9 = .ok (.invokestatic 32, 3) := by decide +kernel
theorem dX1_height_12 : decode cX1_height 12 = .ok (.l2i, 1) := by decide +kernel
theorem dX1_height_13 : decode cX1_height 13 = .ok (.ireturn, 1) := by decide +kernel
theorem dX1_spread_0 : decode cX1_spread 0 = .ok (.aload_n 0, 1) := by decide +kernel
theorem dX1_spread_1 : decode cX1_spread 1 = .ok (.getfield 26, 3) := by decide +kernel
theorem dX1_spread_4 : decode cX1_spread 4 = .ok (.aload_n 0, 1) := by decide +kernel
theorem dX1_spread_5 : decode cX1_spread 5 = .ok (.getfield 17, 3) := by decide +kernel
theorem dX1_spread_8 : decode cX1_spread 8 = .ok (.isub, 1) := by decide +kernel
theorem dX1_spread_9 : decode cX1_spread 9 = .ok (.ireturn, 1) := by decide +kernel
set_option maxRecDepth 20000 in
theorem ggX2_init_X5_init : GoodIn wsX2_init wsX5_init := goodIn_r _ [16, 17, 2, 3, 18, 19, 20, 21, 22, 23, 24, 25, 26, 27] (by decide +kernel) (by decide +kernel)
set_option maxRecDepth 20000 in
theorem gX2_init_X5_init : GoodIn wsX2_init (wsX5_init) := ggX2_init_X5_init
theorem dX2_init_0 : decode cX2_init 0 = .ok (.aload_n 0, 1) := by decide +kernel
theorem dX2_init_1 : decode cX2_init 1 = .ok (.invokespecial 3, 3) := by decide +kernel
theorem dX2_init_4 : decode cX2_init 4 = .ok (.aload_n 0, 1) := by decide +kernel
theorem dX2_init_5 : decode cX2_init 5 = .ok (.new 9, 3) := by decide +kernel
theorem dX2_init_8 : decode cX2_init 8 = .ok (.dup, 1) := by decide +kernel
theorem dX2_init_9 : decode cX2_init 9 = .ok (.bipush 12, 2) := by decide +kernel
theorem dX2_init_11 : decode cX2_init 11 = .ok (.invokespecial 11, 3) := by decide +kernel
theorem dX2_init_14 : decode cX2_init 14 = .ok (.putfield 14, 3) := by decide +kernel
theorem dX2_init_17 : decode cX2_init 17 = .ok (.aload_n 0, 1) := by decide +kernel
theorem dX2_init_18 : decode cX2_init 18 = .ok (.new 9, 3) := by decide +kernel
theorem dX2_init_21 : decode cX2_init 21 = .ok (.dup, 1) := by decide +kernel
theorem dX2_init_22 : decode cX2_init 22 = .ok (.bipush 20, 2) := by decide +kernel
theorem dX2_init_24 : decode cX2_init 24 = .ok (.invokespecial 11, 3) := by decide +kernel
theorem dX2_init_27 : decode cX2_init 27 = .ok (.putfield 20, 3) := by decide +kernel
theorem dX2_init_30 : decode cX2_init 30 = .ok (.aload_n 0, 1) := by decide +kernel
theorem dX2_init_31 : decode cX2_init 31 = .ok (.new 9, 3) := by decide +kernel
theorem dX2_init_34 : decode cX2_init 34 = .ok (.dup, 1) := by decide +kernel
theorem dX2_init_35 : decode cX2_init 35 = .ok (.bipush 20, 2) := by decide +kernel
theorem dX2_init_37 : decode cX2_init 37 = .ok (.invokespecial 11, 3) := by decide +kernel
theorem dX2_init_40 : decode cX2_init 40 = .ok (.putfield 23, 3) := by decide +kernel
theorem dX2_init_43 : decode cX2_init 43 = .ok (.aload_n 0, 1) := by decide +kernel
theorem dX2_init_44 : decode cX2_init 44 = .ok (.new 9, 3) := by decide +kernel
theorem dX2_init_47 : decode cX2_init 47 = .ok (.dup, 1) := by decide +kernel
theorem dX2_init_48 : decode cX2_init 48 = .ok (.bipush 20, 2) := by decide +kernel
theorem dX2_init_50 : decode cX2_init 50 = .ok (.invokespecial 11, 3) := by decide +kernel
theorem dX2_init_53 : decode cX2_init 53 = .ok (.putfield 26, 3) := by decide +kernel
theorem dX2_init_56 : decode cX2_init 56 = .ok (.aload_n 0, 1) := by decide +kernel
theorem dX2_init_57 : decode cX2_init 57 = .ok (.iconst 0, 1) := by decide +kernel
theorem dX2_init_58 : decode cX2_init 58 = .ok (.putfield 29, 3) := by decide +kernel
theorem dX2_init_61 : decode cX2_init 61 = .ok (.aload_n 0, 1) := by decide +kernel
theorem dX2_init_62 : decode cX2_init 62 = .ok (.bipush 60, 2) := by decide +kernel
theorem dX2_init_64 : decode cX2_init 64 = .ok (.putfield 33, 3) := by decide +kernel
theorem dX2_init_67 : decode cX2_init 67 = .ok (.aload_n 0, 1) := by decide +kernel
theorem dX2_init_68 : decode cX2_init 68 = .ok (.bipush 50, 2) := by decide +kernel
theorem dX2_init_70 : decode cX2_init 70 = .ok (.putfield 36, 3) := by decide +kernel
theorem dX2_init_73 : decode cX2_init 73 = .ok (.return_, 1) := by decide +kernel
theorem dX2_track_0 : decode cX2_track 0 = .ok (.iload_n 1, 1) := by decide +kernel
theorem dX2_track_1 : decode cX2_track 1 = .ok (.tableswitch 42 0 2 #[27, 32, 37], 27) := by decide +kernel
theorem dX2_track_28 : decode cX2_track 28 = .ok (.aload_n 0, 1) := by decide +kernel
theorem dX2_track_29 : decode cX2_track 29 = .ok (.getfield 20, 3) := by decide +kernel
theorem dX2_track_32 : decode cX2_track 32 = .ok (.areturn, 1) := by decide +kernel
theorem dX2_track_33 : decode cX2_track 33 = .ok (.aload_n 0, 1) := by decide +kernel
theorem dX2_track_34 : decode cX2_track 34 = .ok (.getfield 23, 3) := by decide +kernel
theorem dX2_track_37 : decode cX2_track 37 = .ok (.areturn, 1) := by decide +kernel
theorem dX2_track_38 : decode cX2_track 38 = .ok (.aload_n 0, 1) := by decide +kernel
theorem dX2_track_39 : decode cX2_track 39 = .ok (.getfield 26, 3) := by decide +kernel
theorem dX2_track_42 : decode cX2_track 42 = .ok (.areturn, 1) := by decide +kernel
theorem dX2_track_43 : decode cX2_track 43 = .ok (.aload_n 0, 1) := by decide +kernel
theorem dX2_track_44 : decode cX2_track 44 = .ok (.getfield 14, 3) := by decide +kernel
theorem dX2_track_47 : decode cX2_track 47 = .ok (.areturn, 1) := by decide +kernel
theorem dX2_setting_0 : decode cX2_setting 0 = .ok (.iload_n 1, 1) := by decide +kernel
theorem dX2_setting_1 : decode cX2_setting 1 = .ok (.lookupswitch 37 #[(0, 27), (1, 32)], 27) := by decide +kernel
theorem dX2_setting_28 : decode cX2_setting 28 = .ok (.aload_n 0, 1) := by decide +kernel
theorem dX2_setting_29 : decode cX2_setting 29 = .ok (.getfield 29, 3) := by decide +kernel
theorem dX2_setting_32 : decode cX2_setting 32 = .ok (.ireturn, 1) := by decide +kernel
theorem dX2_setting_33 : decode cX2_setting 33 = .ok (.aload_n 0, 1) := by decide +kernel
theorem dX2_setting_34 : decode cX2_setting 34 = .ok (.getfield 33, 3) := by decide +kernel
theorem dX2_setting_37 : decode cX2_setting 37 = .ok (.ireturn, 1) := by decide +kernel
theorem dX2_setting_38 : decode cX2_setting 38 = .ok (.aload_n 0, 1) := by decide +kernel
theorem dX2_setting_39 : decode cX2_setting 39 = .ok (.getfield 36, 3) := by decide +kernel
theorem dX2_setting_42 : decode cX2_setting 42 = .ok (.ireturn, 1) := by decide +kernel
theorem dX2_putSetting_0 : decode cX2_putSetting 0 = .ok (.iload_n 1, 1) := by decide +kernel
theorem dX2_putSetting_1 : decode cX2_putSetting 1 = .ok (.lookupswitch 43 #[(0, 27), (1, 35)], 27) := by decide +kernel
theorem dX2_putSetting_28 : decode cX2_putSetting 28 = .ok (.aload_n 0, 1) := by decide +kernel
theorem dX2_putSetting_29 : decode cX2_putSetting 29 = .ok (.iload_n 2, 1) := by decide +kernel
theorem dX2_putSetting_30 : decode cX2_putSetting 30 = .ok (.putfield 29, 3) := by decide +kernel
theorem dX2_putSetting_33 : decode cX2_putSetting 33 = .ok (.goto 16, 3) := by decide +kernel
theorem dX2_putSetting_36 : decode cX2_putSetting 36 = .ok (.aload_n 0, 1) := by decide +kernel
theorem dX2_putSetting_37 : decode cX2_putSetting 37 = .ok (.iload_n 2, 1) := by decide +kernel
theorem dX2_putSetting_38 : decode cX2_putSetting 38 = .ok (.putfield 33, 3) := by decide +kernel
theorem dX2_putSetting_41 : decode cX2_putSetting 41 = .ok (.goto 8, 3) := by decide +kernel
theorem dX2_putSetting_44 : decode cX2_putSetting 44 = .ok (.aload_n 0, 1) := by decide +kernel
theorem dX2_putSetting_45 : decode cX2_putSetting 45 = .ok (.iload_n 2, 1) := by decide +kernel
theorem dX2_putSetting_46 : decode cX2_putSetting 46 = .ok (.putfield 36, 3) := by decide +kernel
theorem dX2_putSetting_49 : decode cX2_putSetting 49 = .ok (.return_, 1) := by decide +kernel
set_option maxRecDepth 20000 in
theorem ggX2_copyFrom_X5_copyFrom : GoodIn wsX2_copyFrom wsX5_copyFrom := goodIn_r _ [12, 13, 14, 15, 16, 17, 18, 19, 20, 21, 22, 30, 31, 32] (by decide +kernel) (by decide +kernel)
set_option maxRecDepth 20000 in
theorem gX2_copyFrom_X5_copyFrom : GoodIn wsX2_copyFrom (wsV RX2 39 RX5 yX5_copyFrom wsX5_copyFrom) := goodIn_app (goodIn_of _ (by decide +kernel)) ggX2_copyFrom_X5_copyFrom
theorem dX2_copyFrom_0 : decode cX2_copyFrom 0 = .ok (.aload_n 0, 1) := by decide +kernel
theorem dX2_copyFrom_1 : decode cX2_copyFrom 1 = .ok (.getfield 14, 3) := by decide +kernel
theorem dX2_copyFrom_4 : decode cX2_copyFrom 4 = .ok (.aload_n 1, 1) := by decide +kernel
theorem dX2_copyFrom_5 : decode cX2_copyFrom 5 = .ok (.getfield 14, 3) := by decide +kernel
theorem dX2_copyFrom_8 : decode cX2_copyFrom 8 = .ok (.invokevirtual 39, 3) := by decide +kernel
theorem dX2_copyFrom_11 : decode cX2_copyFrom 11 = .ok (.aload_n 0, 1) := by decide +kernel
theorem dX2_copyFrom_12 : decode cX2_copyFrom 12 = .ok (.getfield 20, 3) := by decide +kernel
theorem dX2_copyFrom_15 : decode cX2_copyFrom 15 = .ok (.aload_n 1, 1) := by decide +kernel
theorem dX2_copyFrom_16 : decode cX2_copyFrom 16 = .ok (.getfield 20, 3) := by decide +kernel
theorem dX2_copyFrom_19 : decode cX2_copyFrom 19 = .ok (.invokevirtual 39, 3) := by decide +kernel
theorem dX2_copyFrom_22 : decode cX2_copyFrom 22 = .ok (.aload_n 0, 1) := by decide +kernel
theorem dX2_copyFrom_23 : decode cX2_copyFrom 23 = .ok (.getfield 23, 3) := by decide +kernel
theorem dX2_copyFrom_26 : decode cX2_copyFrom 26 = .ok (.aload_n 1, 1) := by decide +kernel
theorem dX2_copyFrom_27 : decode cX2_copyFrom 27 = .ok (.getfield 23, 3) := by decide +kernel
theorem dX2_copyFrom_30 : decode cX2_copyFrom 30 = .ok (.invokevirtual 39, 3) := by decide +kernel
theorem dX2_copyFrom_33 : decode cX2_copyFrom 33 = .ok (.aload_n 0, 1) := by decide +kernel
theorem dX2_copyFrom_34 : decode cX2_copyFrom 34 = .ok (.getfield 26, 3) := by decide +kernel
theorem dX2_copyFrom_37 : decode cX2_copyFrom 37 = .ok (.aload_n 1, 1) := by decide +kernel
theorem dX2_copyFrom_38 : decode cX2_copyFrom 38 = .ok (.getfield 26, 3) := by decide +kernel
theorem dX2_copyFrom_41 : decode cX2_copyFrom 41 = .ok (.invokevirtual 39, 3) := by decide +kernel
theorem dX2_copyFrom_44 : decode cX2_copyFrom 44 = .ok (.aload_n 0, 1) := by decide +kernel
theorem dX2_copyFrom_45 : decode cX2_copyFrom 45 = .ok (.aload_n 1, 1) := by decide +kernel
theorem dX2_copyFrom_46 : decode cX2_copyFrom 46 = .ok (.getfield 29, 3) := by decide +kernel
theorem dX2_copyFrom_49 : decode cX2_copyFrom 49 = .ok (.putfield 29, 3) := by decide +kernel
theorem dX2_copyFrom_52 : decode cX2_copyFrom 52 = .ok (.aload_n 0, 1) := by decide +kernel
theorem dX2_copyFrom_53 : decode cX2_copyFrom 53 = .ok (.aload_n 1, 1) := by decide +kernel
theorem dX2_copyFrom_54 : decode cX2_copyFrom 54 = .ok (.getfield 33, 3) := by decide +kernel
theorem dX2_copyFrom_57 : decode cX2_copyFrom 57 = .ok (.putfield 33, 3) := by decide +kernel
theorem dX2_copyFrom_60 : decode cX2_copyFrom 60 = .ok (.aload_n 0, 1) := by decide +kernel
theorem dX2_copyFrom_61 : decode cX2_copyFrom 61 = .ok (.aload_n 1, 1) := by decide +kernel
theorem dX2_copyFrom_62 : decode cX2_copyFrom 62 = .ok (.getfield 36, 3) := by decide +kernel
theorem dX2_copyFrom_65 : decode cX2_copyFrom 65 = .ok (.putfield 36, 3) := by decide +kernel
theorem dX2_copyFrom_68 : decode cX2_copyFrom 68 = .ok (.return_, 1) := by decide +kernel
set_option maxRecDepth 20000 in
theorem ggX2_baseValue_X5_value : GoodIn wsX2_baseValue wsX5_value := goodIn_r _ [7, 8, 9, 10, 11, 25, 26, 27] (by decide +kernel) (by decide +kernel)
set_option maxRecDepth 20000 in
theorem gX2_baseValue_X5_value : GoodIn wsX2_baseValue (wsV RX2 46 RX5 yX5_value wsX5_value) := goodIn_app (goodIn_of _ (by decide +kernel)) ggX2_baseValue_X5_value
set_option maxRecDepth 20000 in
theorem ggX2_baseValue_X6_divideDown : GoodIn wsX2_baseValue wsX6_divideDown := goodIn_r _ [13, 14, 15, 16, 17] (by decide +kernel) (by decide +kernel)
set_option maxRecDepth 20000 in
theorem gX2_baseValue_X6_divideDown_n51 : GoodIn wsX2_baseValue (wsX6_divideDown) := ggX2_baseValue_X6_divideDown
theorem dX2_baseValue_0 : decode cX2_baseValue 0 = .ok (.iconst 0, 1) := by decide +kernel
theorem dX2_baseValue_1 : decode cX2_baseValue 1 = .ok (.istore_n 3, 1) := by decide +kernel
theorem dX2_baseValue_2 : decode cX2_baseValue 2 = .ok (.iload_n 3, 1) := by decide +kernel
theorem dX2_baseValue_3 : decode cX2_baseValue 3 = .ok (.aload_n 0, 1) := by decide +kernel
theorem dX2_baseValue_4 : decode cX2_baseValue 4 = .ok (.getfield 14, 3) := by decide +kernel
theorem dX2_baseValue_7 : decode cX2_baseValue 7 = .ok (.getfield 43, 3) := by decide +kernel
theorem dX2_baseValue_10 : decode cX2_baseValue 10 = .ok (.if_icmp .ge 22, 3) := by decide +kernel
theorem dX2_baseValue_13 : decode cX2_baseValue 13 = .ok (.aload_n 0, 1) := by decide +kernel
theorem dX2_baseValue_14 : decode cX2_baseValue 14 = .ok (.getfield 14, 3) := by decide +kernel
theorem dX2_baseValue_17 : decode cX2_baseValue 17 = .ok (.iload_n 3, 1) := by decide +kernel
theorem dX2_baseValue_18 : decode cX2_baseValue 18 = .ok (.iconst 0, 1) := by decide +kernel
theorem dX2_baseValue_19 : decode cX2_baseValue 19 = .ok (.invokevirtual 46, 3) := by decide +kernel
theorem dX2_baseValue_22 : decode cX2_baseValue 22 = .ok (.iload_n 1, 1) := by decide +kernel
theorem dX2_baseValue_23 : decode cX2_baseValue 23 = .ok (.if_icmp .ge 9, 3) := by decide +kernel
theorem dX2_baseValue_26 : decode cX2_baseValue 26 = .ok (.iinc 3 1, 3) := by decide +kernel
theorem dX2_baseValue_29 : decode cX2_baseValue 29 = .ok (.goto (-27), 3) := by decide +kernel
theorem dX2_baseValue_32 : decode cX2_baseValue 32 = .ok (.iload_n 3, 1) := by decide +kernel
theorem dX2_baseValue_33 : decode cX2_baseValue 33 = .ok (.aload_n 0, 1) := by decide +kernel
theorem dX2_baseValue_34 : decode cX2_baseValue 34 = .ok (.getfield 14, 3) := by decide +kernel
theorem dX2_baseValue_37 : decode cX2_baseValue 37 = .ok (.getfield 43, 3) := by decide +kernel
theorem dX2_baseValue_40 : decode cX2_baseValue 40 = .ok (.if_icmp .lt 6, 3) := by decide +kernel
theorem dX2_baseValue_43 : decode cX2_baseValue 43 = .ok (.ldc 50, 2) := by decide +kernel
theorem dX2_baseValue_45 : decode cX2_baseValue 45 = .ok (.ireturn, 1) := by decide +kernel
theorem dX2_baseValue_46 : decode cX2_baseValue 46 = .ok (.aload_n 0, 1) := by decide +kernel
theorem dX2_baseValue_47 : decode cX2_baseValue 47 = .ok (.getfield 14, 3) := by decide +kernel
theorem dX2_baseValue_50 : decode cX2_baseValue 50 = .ok (.iload_n 3, 1) := by decide +kernel
theorem dX2_baseValue_51 : decode cX2_baseValue 51 = .ok (.iconst 0, 1) := by decide +kernel
theorem dX2_baseValue_52 : decode cX2_baseValue 52 = .ok (.invokevirtual 46, 3) := by decide +kernel
theorem dX2_baseValue_55 : decode cX2_baseValue 55 = .ok (.istore 4, 2) := by decide +kernel
theorem dX2_baseValue_57 : decode cX2_baseValue 57 = .ok (.aload_n 0, 1) := by decide +kernel
theorem dX2_baseValue_58 : decode cX2_baseValue 58 = .ok (.getfield 14, 3) := by decide +kernel
theorem dX2_baseValue_61 : decode cX2_baseValue 61 = .ok (.iload_n 3, 1) := by decide +kernel
theorem dX2_baseValue_62 : decode cX2_baseValue 62 = .ok (.iload_n 2, 1) := by decide +kernel
theorem dX2_baseValue_63 : decode cX2_baseValue 63 = .ok (.invokevirtual 46, 3) := by decide +kernel
theorem dX2_baseValue_66 : decode cX2_baseValue 66 = .ok (.istore 5, 2) := by decide +kernel
theorem dX2_baseValue_68 : decode cX2_baseValue 68 = .ok (.iload 4, 2) := by decide +kernel
theorem dX2_baseValue_70 : decode cX2_baseValue 70 = .ok (.iload_n 1, 1) := by decide +kernel
theorem dX2_baseValue_71 : decode cX2_baseValue 71 = .ok (.if_icmp .ne 6, 3) := by decide +kernel
theorem dX2_baseValue_74 : decode cX2_baseValue 74 = .ok (.iload 5, 2) := by decide +kernel
theorem dX2_baseValue_76 : decode cX2_baseValue 76 = .ok (.ireturn, 1) := by decide +kernel
theorem dX2_baseValue_77 : decode cX2_baseValue 77 = .ok (.iload_n 3, 1) := by decide +kernel
theorem dX2_baseValue_78 : decode cX2_baseValue 78 = .ok (.ifCond .ne 6, 3) := by decide +kernel
theorem dX2_baseValue_81 : decode cX2_baseValue 81 = .ok (.ldc 50, 2) := by decide +kernel
theorem dX2_baseValue_83 : decode cX2_baseValue 83 = .ok (.ireturn, 1) := by decide +kernel
theorem dX2_baseValue_84 : decode cX2_baseValue 84 = .ok (.aload_n 0, 1) := by decide +kernel
theorem dX2_baseValue_85 : decode cX2_baseValue 85 = .ok (.getfield 14, 3) := by decide +kernel
theorem dX2_baseValue_88 : decode cX2_baseValue 88 = .ok (.iload_n 3, 1) := by decide +kernel
theorem dX2_baseValue_89 : decode cX2_baseValue 89 = .ok (.iconst 1, 1) := by decide +kernel
theorem dX2_baseValue_90 : decode cX2_baseValue 90 = .ok (.isub, 1) := by decide +kernel
theorem dX2_baseValue_91 : decode cX2_baseValue 91 = .ok (.iconst 0, 1) := by decide +kernel
theorem dX2_baseValue_92 : decode cX2_baseValue 92 = .ok (.invokevirtual 46, 3) := by decide +kernel
theorem dX2_baseValue_95 : decode cX2_baseValue 95 = .ok (.istore 6, 2) := by decide +kernel
theorem dX2_baseValue_97 : decode cX2_baseValue 97 = .ok (.aload_n 0, 1) := by decide +kernel
theorem dX2_baseValue_98 : decode cX2_baseValue 98 = .ok (.getfield 14, 3) := by decide +kernel
theorem dX2_baseValue_101 : decode cX2_baseValue 101 = .ok (.iload_n 3, 1) := by decide +kernel
theorem dX2_baseValue_102 : decode cX2_baseValue 102 = .ok (.iconst 1, 1) := by decide +kernel
theorem dX2_baseValue_103 : decode cX2_baseValue 103 = .ok (.isub, 1) := by decide +kernel
theorem dX2_baseValue_104 : decode cX2_baseValue 104 = .ok (.iload_n 2, 1) := by decide +kernel
theorem dX2_baseValue_105 : decode cX2_baseValue 105 = .ok (.invokevirtual 46, 3) := by decide +kernel
theorem dX2_baseValue_108 : decode cX2_baseValue 108 = .ok (.istore 7, 2) := by decide +kernel
theorem dX2_baseValue_110 : decode cX2_baseValue 110 = .ok (.iload 5, 2) := by decide +kernel
theorem dX2_baseValue_112 : decode cX2_baseValue 112 = .ok (.iload 7, 2) := by decide +kernel
theorem dX2_baseValue_114 : decode cX2_baseValue 114 = .ok (.isub, 1) := by decide +kernel
theorem dX2_baseValue_115 : decode cX2_baseValue 115 = .ok (.i2l, 1) := by decide +kernel
theorem dX2_baseValue_116 : decode cX2_baseValue 116 = .ok (.iload_n 1, 1) := by decide +kernel
theorem dX2_baseValue_117 : decode cX2_baseValue 117 = .ok (.iload 6, 2) := by decide +kernel
theorem dX2_baseValue_119 : decode cX2_baseValue 119 = .ok (.isub, 1) := by decide +kernel
theorem dX2_baseValue_120 : decode cX2_baseValue 120 = .ok (.i2l, 1) := by decide +kernel
theorem dX2_baseValue_121 : decode cX2_baseValue 121 = .ok (.lmul, 1) := by decide +kernel
theorem dX2_baseValue_122 : decode cX2_baseValue 122 = .ok (.lstore 8, 2) := by decide +kernel
theorem dX2_baseValue_124 : decode cX2_baseValue 124 = .ok (.iload 7, 2) := by decide +kernel
theorem dX2_baseValue_126 : decode cX2_baseValue 126 = .ok (.i2l, 1) := by decide +kernel
theorem dX2_baseValue_127 : decode cX2_baseValue 127 = .ok (.lload 8, 2) := by decide +kernel
theorem dX2_baseValue_129 : decode cX2_baseValue 129 = .ok (.iload 4, 2) := by decide +kernel
theorem dX2_baseValue_131 : decode cX2_baseValue 131 = .ok (.iload 6, 2) := by decide +kernel
theorem dX2_baseValue_133 : decode cX2_baseValue 133 = .ok (.isub, 1) := by decide +kernel
theorem dX2_baseValue_134 : decode cX2_baseValue 134 = .ok (.i2l, 1) := by decide +kernel
theorem dX2_baseValue_135 : decode cX2_baseValue 135 = .ok (.invokestatic 51, 3) := by decide +kernel
theorem dX2_baseValue_138 : decode cX2_baseValue 138 = .ok (.ladd, 1) := by decide +kernel
theorem dX2_baseValue_139 : decode cX2_baseValue 139 = .ok (.l2i, 1) := by decide +kernel
theorem dX2_baseValue_140 : decode cX2_baseValue 140 = .ok (.ireturn, 1) := by decide +kernel
set_option maxRecDepth 20000 in
theorem ggX2_heightAt_X2_baseValue : GoodIn wsX2_heightAt wsX2_baseValue := goodIn_r _ [8, 9, 1, 10, 11, 12, 13, 14, 15, 16, 17, 18, 19, 20, 21, 22, 23, 24, 28, 29, 30, 31, 32, 33, 34, 35, 36, 37] (by decide +kernel) (by decide +kernel)
set_option maxRecDepth 20000 in
theorem gX2_heightAt_X2_baseValue : GoodIn wsX2_heightAt (wsV RX2 55 RX2 yX2_baseValue wsX2_baseValue) := goodIn_app (goodIn_of _ (by decide +kernel)) ggX2_heightAt_X2_baseValue
set_option maxRecDepth 20000 in
theorem ggX2_heightAt_J9_floorDiv_7cf53 : GoodIn wsX2_heightAt wsJ9_floorDiv_7cf53 := goodIn_r _ [27] (by decide +kernel) (by decide +kernel)
set_option maxRecDepth 20000 in
theorem gX2_heightAt_J9_floorDiv_7cf53 : GoodIn wsX2_heightAt (va_wsS RX2 58 yJ9_floorDiv_7cf53 wsJ9_floorDiv_7cf53) := goodIn_app (goodIn_of _ (by decide +kernel)) ggX2_heightAt_J9_floorDiv_7cf53
set_option maxRecDepth 20000 in
theorem ggX2_heightAt_X6_divideDown : GoodIn wsX2_heightAt wsX6_divideDown := goodIn_r _ [20, 21, 22, 23, 24] (by decide +kernel) (by decide +kernel)
set_option maxRecDepth 20000 in
theorem gX2_heightAt_X6_divideDown_n51 : GoodIn wsX2_heightAt (wsX6_divideDown) := ggX2_heightAt_X6_divideDown
theorem dX2_heightAt_0 : decode cX2_heightAt 0 = .ok (.aload_n 0, 1) := by decide +kernel
theorem dX2_heightAt_1 : decode cX2_heightAt 1 = .ok (.iload_n 1, 1) := by decide +kernel
theorem dX2_heightAt_2 : decode cX2_heightAt 2 = .ok (.iconst 1, 1) := by decide +kernel
theorem dX2_heightAt_3 : decode cX2_heightAt 3 = .ok (.invokevirtual 55, 3) := by decide +kernel
theorem dX2_heightAt_6 : decode cX2_heightAt 6 = .ok (.istore 4, 2) := by decide +kernel
theorem dX2_heightAt_8 : decode cX2_heightAt 8 = .ok (.iload 4, 2) := by decide +kernel
theorem dX2_heightAt_10 : decode cX2_heightAt 10 = .ok (.ldc 50, 2) := by decide +kernel
theorem dX2_heightAt_12 : decode cX2_heightAt 12 = .ok (.if_icmp .ne 6, 3) := by decide +kernel
theorem dX2_heightAt_15 : decode cX2_heightAt 15 = .ok (.ldc 50, 2) := by decide +kernel
theorem dX2_heightAt_17 : decode cX2_heightAt 17 = .ok (.ireturn, 1) := by decide +kernel
theorem dX2_heightAt_18 : decode cX2_heightAt 18 = .ok (.aload_n 0, 1) := by decide +kernel
theorem dX2_heightAt_19 : decode cX2_heightAt 19 = .ok (.iload_n 1, 1) := by decide +kernel
theorem dX2_heightAt_20 : decode cX2_heightAt 20 = .ok (.iconst 2, 1) := by decide +kernel
theorem dX2_heightAt_21 : decode cX2_heightAt 21 = .ok (.invokevirtual 55, 3) := by decide +kernel
theorem dX2_heightAt_24 : decode cX2_heightAt 24 = .ok (.istore 5, 2) := by decide +kernel
theorem dX2_heightAt_26 : decode cX2_heightAt 26 = .ok (.sipush 2732, 3) := by decide +kernel
theorem dX2_heightAt_29 : decode cX2_heightAt 29 = .ok (.iload 5, 2) := by decide +kernel
theorem dX2_heightAt_31 : decode cX2_heightAt 31 = .ok (.iload_n 3, 1) := by decide +kernel
theorem dX2_heightAt_32 : decode cX2_heightAt 32 = .ok (.iadd, 1) := by decide +kernel
theorem dX2_heightAt_33 : decode cX2_heightAt 33 = .ok (.iconst 2, 1) := by decide +kernel
theorem dX2_heightAt_34 : decode cX2_heightAt 34 = .ok (.invokestatic 58, 3) := by decide +kernel
theorem dX2_heightAt_37 : decode cX2_heightAt 37 = .ok (.iadd, 1) := by decide +kernel
theorem dX2_heightAt_38 : decode cX2_heightAt 38 = .ok (.i2l, 1) := by decide +kernel
theorem dX2_heightAt_39 : decode cX2_heightAt 39 = .ok (.lstore 6, 2) := by decide +kernel
theorem dX2_heightAt_41 : decode cX2_heightAt 41 = .ok (.iload 4, 2) := by decide +kernel
theorem dX2_heightAt_43 : decode cX2_heightAt 43 = .ok (.iload_n 2, 1) := by decide +kernel
theorem dX2_heightAt_44 : decode cX2_heightAt 44 = .ok (.iadd, 1) := by decide +kernel
theorem dX2_heightAt_45 : decode cX2_heightAt 45 = .ok (.iconst 2, 1) := by decide +kernel
theorem dX2_heightAt_46 : decode cX2_heightAt 46 = .ok (.invokestatic 58, 3) := by decide +kernel
theorem dX2_heightAt_49 : decode cX2_heightAt 49 = .ok (.i2l, 1) := by decide +kernel
theorem dX2_heightAt_50 : decode cX2_heightAt 50 = .ok (.lstore 8, 2) := by decide +kernel
theorem dX2_heightAt_52 : decode cX2_heightAt 52 = .ok (.ldc2_w 63, 3) := by decide +kernel
theorem dX2_heightAt_55 : decode cX2_heightAt 55 = .ok (.lload 6, 2) := by decide +kernel
theorem dX2_heightAt_57 : decode cX2_heightAt 57 = .ok (.lmul, 1) := by decide +kernel
theorem dX2_heightAt_58 : decode cX2_heightAt 58 = .ok (.iload 4, 2) := by decide +kernel
theorem dX2_heightAt_60 : decode cX2_heightAt 60 = .ok (.iload_n 2, 1) := by decide +kernel
theorem dX2_heightAt_61 : decode cX2_heightAt 61 = .ok (.isub, 1) := by decide +kernel
theorem dX2_heightAt_62 : decode cX2_heightAt 62 = .ok (.i2l, 1) := by decide +kernel
theorem dX2_heightAt_63 : decode cX2_heightAt 63 = .ok (.lmul, 1) := by decide +kernel
theorem dX2_heightAt_64 : decode cX2_heightAt 64 = .ok (.lstore 10, 2) := by decide +kernel
theorem dX2_heightAt_66 : decode cX2_heightAt 66 = .ok (.aload_n 0, 1) := by decide +kernel
theorem dX2_heightAt_67 : decode cX2_heightAt 67 = .ok (.getfield 29, 3) := by decide +kernel
theorem dX2_heightAt_70 : decode cX2_heightAt 70 = .ok (.i2l, 1) := by decide +kernel
theorem dX2_heightAt_71 : decode cX2_heightAt 71 = .ok (.lload 10, 2) := by decide +kernel
theorem dX2_heightAt_73 : decode cX2_heightAt 73 = .ok (.lload 8, 2) := by decide +kernel
theorem dX2_heightAt_75 : decode cX2_heightAt 75 = .ok (.invokestatic 51, 3) := by decide +kernel
theorem dX2_heightAt_78 : decode cX2_heightAt 78 = .ok (.ladd, 1) := by decide +kernel
theorem dX2_heightAt_79 : decode cX2_heightAt 79 = .ok (.l2i, 1) := by decide +kernel
theorem dX2_heightAt_80 : decode cX2_heightAt 80 = .ok (.ireturn, 1) := by decide +kernel
set_option maxRecDepth 20000 in
theorem ggX2_isStepEnd_X5_value : GoodIn wsX2_isStepEnd wsX5_value := goodIn_r _ [11, 12, 13, 14, 15, 23, 24, 25] (by decide +kernel) (by decide +kernel)
set_option maxRecDepth 20000 in
theorem gX2_isStepEnd_X5_value : GoodIn wsX2_isStepEnd (wsV RX2 46 RX5 yX5_value wsX5_value) := goodIn_app (goodIn_of _ (by decide +kernel)) ggX2_isStepEnd_X5_value
theorem dX2_isStepEnd_0 : decode cX2_isStepEnd 0 = .ok (.aload_n 0, 1) := by decide +kernel
theorem dX2_isStepEnd_1 : decode cX2_isStepEnd 1 = .ok (.getfield 14, 3) := by decide +kernel
theorem dX2_isStepEnd_4 : decode cX2_isStepEnd 4 = .ok (.iload_n 1, 1) := by decide +kernel
theorem dX2_isStepEnd_5 : decode cX2_isStepEnd 5 = .ok (.iconst 2, 1) := by decide +kernel
theorem dX2_isStepEnd_6 : decode cX2_isStepEnd 6 = .ok (.invokevirtual 46, 3) := by decide +kernel
theorem dX2_isStepEnd_9 : decode cX2_isStepEnd 9 = .ok (.aload_n 0, 1) := by decide +kernel
theorem dX2_isStepEnd_10 : decode cX2_isStepEnd 10 = .ok (.getfield 14, 3) := by decide +kernel
theorem dX2_isStepEnd_13 : decode cX2_isStepEnd 13 = .ok (.iload_n 1, 1) := by decide +kernel
theorem dX2_isStepEnd_14 : decode cX2_isStepEnd 14 = .ok (.iconst 1, 1) := by decide +kernel
theorem dX2_isStepEnd_15 : decode cX2_isStepEnd 15 = .ok (.isub, 1) := by decide +kernel
theorem dX2_isStepEnd_16 : decode cX2_isStepEnd 16 = .ok (.iconst 2, 1) := by decide +kernel
theorem dX2_isStepEnd_17 : decode cX2_isStepEnd 17 = .ok (.invokevirtual 46, 3) := by decide +kernel
theorem dX2_isStepEnd_20 : decode cX2_isStepEnd 20 = .ok (.isub, 1) := by decide +kernel
theorem dX2_isStepEnd_21 : decode cX2_isStepEnd 21 = .ok (.istore_n 2, 1) := by decide +kernel
theorem dX2_isStepEnd_22 : decode cX2_isStepEnd 22 = .ok (.iload_n 2, 1) := by decide +kernel
theorem dX2_isStepEnd_23 : decode cX2_isStepEnd 23 = .ok (.invokestatic 65, 3) := by decide +kernel
theorem dX2_isStepEnd_26 : decode cX2_isStepEnd 26 = .ok (.aload_n 0, 1) := by decide +kernel
theorem dX2_isStepEnd_27 : decode cX2_isStepEnd 27 = .ok (.getfield 36, 3) := by decide +kernel
theorem dX2_isStepEnd_30 : decode cX2_isStepEnd 30 = .ok (.if_icmp .lt 7, 3) := by decide +kernel
theorem dX2_isStepEnd_33 : decode cX2_isStepEnd 33 = .ok (.iconst 1, 1) := by decide +kernel
theorem dX2_isStepEnd_34 : decode cX2_isStepEnd 34 = .ok (.goto 4, 3) := by decide +kernel
theorem dX2_isStepEnd_37 : decode cX2_isStepEnd 37 = .ok (.iconst 0, 1) := by decide +kernel
theorem dX2_isStepEnd_38 : decode cX2_isStepEnd 38 = .ok (.ireturn, 1) := by decide +kernel
set_option maxRecDepth 20000 in
theorem ggX2_steps_X2_isStepEnd : GoodIn wsX2_steps wsX2_isStepEnd := goodIn_r _ [6, 1, 7, 8, 9, 10, 11, 12, 13, 14, 15, 16, 17, 18, 19, 20, 21, 22, 23, 24, 25, 26, 27, 28, 29, 30] (by decide +kernel) (by decide +kernel)
set_option maxRecDepth 20000 in
theorem gX2_steps_X2_isStepEnd : GoodIn wsX2_steps (wsV RX2 69 RX2 yX2_isStepEnd wsX2_isStepEnd) := goodIn_app (goodIn_of _ (by decide +kernel)) ggX2_steps_X2_isStepEnd
theorem dX2_steps_0 : decode cX2_steps 0 = .ok (.iconst 0, 1) := by decide +kernel
theorem dX2_steps_1 : decode cX2_steps 1 = .ok (.istore_n 1, 1) := by decide +kernel
theorem dX2_steps_2 : decode cX2_steps 2 = .ok (.iconst 1, 1) := by decide +kernel
theorem dX2_steps_3 : decode cX2_steps 3 = .ok (.istore_n 2, 1) := by decide +kernel
theorem dX2_steps_4 : decode cX2_steps 4 = .ok (.iload_n 2, 1) := by decide +kernel
theorem dX2_steps_5 : decode cX2_steps 5 = .ok (.aload_n 0, 1) := by decide +kernel
theorem dX2_steps_6 : decode cX2_steps 6 = .ok (.getfield 14, 3) := by decide +kernel
theorem dX2_steps_9 : decode cX2_steps 9 = .ok (.getfield 43, 3) := by decide +kernel
theorem dX2_steps_12 : decode cX2_steps 12 = .ok (.if_icmp .ge 25, 3) := by decide +kernel
theorem dX2_steps_15 : decode cX2_steps 15 = .ok (.iload_n 1, 1) := by decide +kernel
theorem dX2_steps_16 : decode cX2_steps 16 = .ok (.aload_n 0, 1) := by decide +kernel
theorem dX2_steps_17 : decode cX2_steps 17 = .ok (.iload_n 2, 1) := by decide +kernel
theorem dX2_steps_18 : decode cX2_steps 18 = .ok (.invokevirtual 69, 3) := by decide +kernel
theorem dX2_steps_21 : decode cX2_steps 21 = .ok (.ifCond .eq 7, 3) := by decide +kernel
theorem dX2_steps_24 : decode cX2_steps 24 = .ok (.iconst 1, 1) := by decide +kernel
theorem dX2_steps_25 : decode cX2_steps 25 = .ok (.goto 4, 3) := by decide +kernel
theorem dX2_steps_28 : decode cX2_steps 28 = .ok (.iconst 0, 1) := by decide +kernel
theorem dX2_steps_29 : decode cX2_steps 29 = .ok (.iadd, 1) := by decide +kernel
theorem dX2_steps_30 : decode cX2_steps 30 = .ok (.istore_n 1, 1) := by decide +kernel
theorem dX2_steps_31 : decode cX2_steps 31 = .ok (.iinc 2 1, 3) := by decide +kernel
theorem dX2_steps_34 : decode cX2_steps 34 = .ok (.goto (-30), 3) := by decide +kernel
theorem dX2_steps_37 : decode cX2_steps 37 = .ok (.iload_n 1, 1) := by decide +kernel
theorem dX2_steps_38 : decode cX2_steps 38 = .ok (.ireturn, 1) := by decide +kernel
theorem dX5_init_0 : decode cX5_init 0 = .ok (.aload_n 0, 1) := by decide +kernel
theorem dX5_init_1 : decode cX5_init 1 = .ok (.invokespecial 3, 3) := by decide +kernel
theorem dX5_init_4 : decode cX5_init 4 = .ok (.aload_n 0, 1) := by decide +kernel
theorem dX5_init_5 : decode cX5_init 5 = .ok (.bipush 80, 2) := by decide +kernel
theorem dX5_init_7 : decode cX5_init 7 = .ok (.newarray .int, 2) := by decide +kernel
theorem dX5_init_9 : decode cX5_init 9 = .ok (.putfield 9, 3) := by decide +kernel
theorem dX5_init_12 : decode cX5_init 12 = .ok (.aload_n 0, 1) := by decide +kernel
theorem dX5_init_13 : decode cX5_init 13 = .ok (.iload_n 1, 1) := by decide +kernel
theorem dX5_init_14 : decode cX5_init 14 = .ok (.bipush 20, 2) := by decide +kernel
theorem dX5_init_16 : decode cX5_init 16 = .ok (.invokestatic 15, 3) := by decide +kernel
theorem dX5_init_19 : decode cX5_init 19 = .ok (.putfield 21, 3) := by decide +kernel
theorem dX5_init_22 : decode cX5_init 22 = .ok (.return_, 1) := by decide +kernel
set_option maxRecDepth 20000 in
theorem ggX5_value_X6_at : GoodIn wsX5_value wsX6_at := goodIn_r _ [4] (by decide +kernel) (by decide +kernel)
set_option maxRecDepth 20000 in
theorem gX5_value_X6_at_n25 : GoodIn wsX5_value (wsX6_at) := ggX5_value_X6_at
theorem dX5_value_0 : decode cX5_value 0 = .ok (.aload_n 0, 1) := by decide +kernel
theorem dX5_value_1 : decode cX5_value 1 = .ok (.getfield 9, 3) := by decide +kernel
theorem dX5_value_4 : decode cX5_value 4 = .ok (.iload_n 1, 1) := by decide +kernel
theorem dX5_value_5 : decode cX5_value 5 = .ok (.iconst 4, 1) := by decide +kernel
theorem dX5_value_6 : decode cX5_value 6 = .ok (.imul, 1) := by decide +kernel
theorem dX5_value_7 : decode cX5_value 7 = .ok (.iload_n 2, 1) := by decide +kernel
theorem dX5_value_8 : decode cX5_value 8 = .ok (.iadd, 1) := by decide +kernel
theorem dX5_value_9 : decode cX5_value 9 = .ok (.invokestatic 25, 3) := by decide +kernel
theorem dX5_value_12 : decode cX5_value 12 = .ok (.ireturn, 1) := by decide +kernel
theorem dX5_isFull_0 : decode cX5_isFull 0 = .ok (.aload_n 0, 1) := by decide +kernel
theorem dX5_isFull_1 : decode cX5_isFull 1 = .ok (.getfield 29, 3) := by decide +kernel
theorem dX5_isFull_4 : decode cX5_isFull 4 = .ok (.aload_n 0, 1) := by decide +kernel
theorem dX5_isFull_5 : decode cX5_isFull 5 = .ok (.getfield 21, 3) := by decide +kernel
theorem dX5_isFull_8 : decode cX5_isFull 8 = .ok (.if_icmp .lt 7, 3) := by decide +kernel
theorem dX5_isFull_11 : decode cX5_isFull 11 = .ok (.iconst 1, 1) := by decide +kernel
theorem dX5_isFull_12 : decode cX5_isFull 12 = .ok (.goto 4, 3) := by decide +kernel
theorem dX5_isFull_15 : decode cX5_isFull 15 = .ok (.iconst 0, 1) := by decide +kernel
theorem dX5_isFull_16 : decode cX5_isFull 16 = .ok (.ireturn, 1) := by decide +kernel
set_option maxRecDepth 20000 in
theorem ggX5_hasTime_X5_value : GoodIn wsX5_hasTime wsX5_value := goodIn_r _ [6, 7, 8, 9, 10, 11, 12, 13] (by decide +kernel) (by decide +kernel)
set_option maxRecDepth 20000 in
theorem gX5_hasTime_X5_value : GoodIn wsX5_hasTime (wsV RX5 32 RX5 yX5_value wsX5_value) := goodIn_app (goodIn_of _ (by decide +kernel)) ggX5_hasTime_X5_value
theorem dX5_hasTime_0 : decode cX5_hasTime 0 = .ok (.iconst 0, 1) := by decide +kernel
theorem dX5_hasTime_1 : decode cX5_hasTime 1 = .ok (.istore_n 2, 1) := by decide +kernel
theorem dX5_hasTime_2 : decode cX5_hasTime 2 = .ok (.iload_n 2, 1) := by decide +kernel
theorem dX5_hasTime_3 : decode cX5_hasTime 3 = .ok (.aload_n 0, 1) := by decide +kernel
theorem dX5_hasTime_4 : decode cX5_hasTime 4 = .ok (.getfield 29, 3) := by decide +kernel
theorem dX5_hasTime_7 : decode cX5_hasTime 7 = .ok (.if_icmp .ge 21, 3) := by decide +kernel
theorem dX5_hasTime_10 : decode cX5_hasTime 10 = .ok (.aload_n 0, 1) := by decide +kernel
theorem dX5_hasTime_11 : decode cX5_hasTime 11 = .ok (.iload_n 2, 1) := by decide +kernel
theorem dX5_hasTime_12 : decode cX5_hasTime 12 = .ok (.iconst 0, 1) := by decide +kernel
theorem dX5_hasTime_13 : decode cX5_hasTime 13 = .ok (.invokevirtual 32, 3) := by decide +kernel
theorem dX5_hasTime_16 : decode cX5_hasTime 16 = .ok (.iload_n 1, 1) := by decide +kernel
theorem dX5_hasTime_17 : decode cX5_hasTime 17 = .ok (.if_icmp .ne 5, 3) := by decide +kernel
theorem dX5_hasTime_20 : decode cX5_hasTime 20 = .ok (.iconst 1, 1) := by decide +kernel
theorem dX5_hasTime_21 : decode cX5_hasTime 21 = .ok (.ireturn, 1) := by decide +kernel
theorem dX5_hasTime_22 : decode cX5_hasTime 22 = .ok (.iinc 2 1, 3) := by decide +kernel
theorem dX5_hasTime_25 : decode cX5_hasTime 25 = .ok (.goto (-23), 3) := by decide +kernel
theorem dX5_hasTime_28 : decode cX5_hasTime 28 = .ok (.iconst 0, 1) := by decide +kernel
theorem dX5_hasTime_29 : decode cX5_hasTime 29 = .ok (.ireturn, 1) := by decide +kernel
set_option maxRecDepth 20000 in
theorem ggX5_standsOut_X5_value : GoodIn wsX5_standsOut wsX5_value := goodIn_r _ [6, 7, 8, 9, 10, 11, 12, 13] (by decide +kernel) (by decide +kernel)
set_option maxRecDepth 20000 in
theorem gX5_standsOut_X5_value : GoodIn wsX5_standsOut (wsV RX5 32 RX5 yX5_value wsX5_value) := goodIn_app (goodIn_of _ (by decide +kernel)) ggX5_standsOut_X5_value
theorem dX5_standsOut_0 : decode cX5_standsOut 0 = .ok (.iload_n 1, 1) := by decide +kernel
theorem dX5_standsOut_1 : decode cX5_standsOut 1 = .ok (.ifCond .le 13, 3) := by decide +kernel
theorem dX5_standsOut_4 : decode cX5_standsOut 4 = .ok (.iload_n 1, 1) := by decide +kernel
theorem dX5_standsOut_5 : decode cX5_standsOut 5 = .ok (.aload_n 0, 1) := by decide +kernel
theorem dX5_standsOut_6 : decode cX5_standsOut 6 = .ok (.getfield 29, 3) := by decide +kernel
theorem dX5_standsOut_9 : decode cX5_standsOut 9 = .ok (.iconst 1, 1) := by decide +kernel
theorem dX5_standsOut_10 : decode cX5_standsOut 10 = .ok (.isub, 1) := by decide +kernel
theorem dX5_standsOut_11 : decode cX5_standsOut 11 = .ok (.if_icmp .lt 5, 3) := by decide +kernel
theorem dX5_standsOut_14 : decode cX5_standsOut 14 = .ok (.iconst 0, 1) := by decide +kernel
theorem dX5_standsOut_15 : decode cX5_standsOut 15 = .ok (.ireturn, 1) := by decide +kernel
theorem dX5_standsOut_16 : decode cX5_standsOut 16 = .ok (.aload_n 0, 1) := by decide +kernel
theorem dX5_standsOut_17 : decode cX5_standsOut 17 = .ok (.iload_n 1, 1) := by decide +kernel
theorem dX5_standsOut_18 : decode cX5_standsOut 18 = .ok (.iconst 1, 1) := by decide +kernel
theorem dX5_standsOut_19 : decode cX5_standsOut 19 = .ok (.invokevirtual 32, 3) := by decide +kernel
theorem dX5_standsOut_22 : decode cX5_standsOut 22 = .ok (.istore_n 3, 1) := by decide +kernel
theorem dX5_standsOut_23 : decode cX5_standsOut 23 = .ok (.iload_n 3, 1) := by decide +kernel
theorem dX5_standsOut_24 : decode cX5_standsOut 24 = .ok (.aload_n 0, 1) := by decide +kernel
theorem dX5_standsOut_25 : decode cX5_standsOut 25 = .ok (.iload_n 1, 1) := by decide +kernel
theorem dX5_standsOut_26 : decode cX5_standsOut 26 = .ok (.iconst 1, 1) := by decide +kernel
theorem dX5_standsOut_27 : decode cX5_standsOut 27 = .ok (.isub, 1) := by decide +kernel
theorem dX5_standsOut_28 : decode cX5_standsOut 28 = .ok (.iconst 1, 1) := by decide +kernel
theorem dX5_standsOut_29 : decode cX5_standsOut 29 = .ok (.invokevirtual 32, 3) := by decide +kernel
theorem dX5_standsOut_32 : decode cX5_standsOut 32 = .ok (.isub, 1) := by decide +kernel
theorem dX5_standsOut_33 : decode cX5_standsOut 33 = .ok (.istore 4, 2) := by decide +kernel
theorem dX5_standsOut_35 : decode cX5_standsOut 35 = .ok (.iload_n 3, 1) := by decide +kernel
theorem dX5_standsOut_36 : decode cX5_standsOut 36 = .ok (.aload_n 0, 1) := by decide +kernel
theorem dX5_standsOut_37 : decode cX5_standsOut 37 = .ok (.iload_n 1, 1) := by decide +kernel
theorem dX5_standsOut_38 : decode cX5_standsOut 38 = .ok (.iconst 1, 1) := by decide +kernel
theorem dX5_standsOut_39 : decode cX5_standsOut 39 = .ok (.iadd, 1) := by decide +kernel
theorem dX5_standsOut_40 : decode cX5_standsOut 40 = .ok (.iconst 1, 1) := by decide +kernel
theorem dX5_standsOut_41 : decode cX5_standsOut 41 = .ok (.invokevirtual 32, 3) := by decide +kernel
theorem dX5_standsOut_44 : decode cX5_standsOut 44 = .ok (.isub, 1) := by decide +kernel
theorem dX5_standsOut_45 : decode cX5_standsOut 45 = .ok (.istore 5, 2) := by decide +kernel
theorem dX5_standsOut_47 : decode cX5_standsOut 47 = .ok (.iload 4, 2) := by decide +kernel
theorem dX5_standsOut_49 : decode cX5_standsOut 49 = .ok (.iload_n 2, 1) := by decide +kernel
theorem dX5_standsOut_50 : decode cX5_standsOut 50 = .ok (.if_icmp .le 9, 3) := by decide +kernel
theorem dX5_standsOut_53 : decode cX5_standsOut 53 = .ok (.iload 5, 2) := by decide +kernel
theorem dX5_standsOut_55 : decode cX5_standsOut 55 = .ok (.iload_n 2, 1) := by decide +kernel
theorem dX5_standsOut_56 : decode cX5_standsOut 56 = .ok (.if_icmp .gt 17, 3) := by decide +kernel
theorem dX5_standsOut_59 : decode cX5_standsOut 59 = .ok (.iload 4, 2) := by decide +kernel
theorem dX5_standsOut_61 : decode cX5_standsOut 61 = .ok (.iload_n 2, 1) := by decide +kernel
theorem dX5_standsOut_62 : decode cX5_standsOut 62 = .ok (.ineg, 1) := by decide +kernel
theorem dX5_standsOut_63 : decode cX5_standsOut 63 = .ok (.if_icmp .ge 14, 3) := by decide +kernel
theorem dX5_standsOut_66 : decode cX5_standsOut 66 = .ok (.iload 5, 2) := by decide +kernel
theorem dX5_standsOut_68 : decode cX5_standsOut 68 = .ok (.iload_n 2, 1) := by decide +kernel
theorem dX5_standsOut_69 : decode cX5_standsOut 69 = .ok (.ineg, 1) := by decide +kernel
theorem dX5_standsOut_70 : decode cX5_standsOut 70 = .ok (.if_icmp .ge 7, 3) := by decide +kernel
theorem dX5_standsOut_73 : decode cX5_standsOut 73 = .ok (.iconst 1, 1) := by decide +kernel
theorem dX5_standsOut_74 : decode cX5_standsOut 74 = .ok (.goto 4, 3) := by decide +kernel
theorem dX5_standsOut_77 : decode cX5_standsOut 77 = .ok (.iconst 0, 1) := by decide +kernel
theorem dX5_standsOut_78 : decode cX5_standsOut 78 = .ok (.ireturn, 1) := by decide +kernel
set_option maxRecDepth 20000 in
theorem ggX5_insert_X5_value : GoodIn wsX5_insert wsX5_value := goodIn_r _ [7, 2, 8, 9, 10, 17, 18, 19] (by decide +kernel) (by decide +kernel)
set_option maxRecDepth 20000 in
theorem gX5_insert_X5_value : GoodIn wsX5_insert (wsV RX5 32 RX5 yX5_value wsX5_value) := goodIn_app (goodIn_of _ (by decide +kernel)) ggX5_insert_X5_value
set_option maxRecDepth 20000 in
theorem ggX5_insert_X5_move : GoodIn wsX5_insert wsX5_move := goodIn_r _ [14, 2, 3, 4, 5, 6, 7, 8, 9, 10, 15, 16, 17, 18, 19] (by decide +kernel) (by decide +kernel)
set_option maxRecDepth 20000 in
theorem gX5_insert_X5_move : GoodIn wsX5_insert (wsV RX5 35 RX5 yX5_move wsX5_move) := goodIn_app (goodIn_of _ (by decide +kernel)) ggX5_insert_X5_move
set_option maxRecDepth 20000 in
theorem ggX5_insert_X6_put : GoodIn wsX5_insert wsX6_put := goodIn_r _ [16] (by decide +kernel) (by decide +kernel)
set_option maxRecDepth 20000 in
theorem gX5_insert_X6_put_n39 : GoodIn wsX5_insert (wsX6_put) := ggX5_insert_X6_put
theorem dX5_insert_0 : decode cX5_insert 0 = .ok (.aload_n 0, 1) := by decide +kernel
theorem dX5_insert_1 : decode cX5_insert 1 = .ok (.getfield 29, 3) := by decide +kernel
theorem dX5_insert_4 : decode cX5_insert 4 = .ok (.istore 5, 2) := by decide +kernel
theorem dX5_insert_6 : decode cX5_insert 6 = .ok (.iload 5, 2) := by decide +kernel
theorem dX5_insert_8 : decode cX5_insert 8 = .ok (.ifCond .le 32, 3) := by decide +kernel
theorem dX5_insert_11 : decode cX5_insert 11 = .ok (.aload_n 0, 1) := by decide +kernel
theorem dX5_insert_12 : decode cX5_insert 12 = .ok (.iload 5, 2) := by decide +kernel
theorem dX5_insert_14 : decode cX5_insert 14 = .ok (.iconst 1, 1) := by decide +kernel
theorem dX5_insert_15 : decode cX5_insert 15 = .ok (.isub, 1) := by decide +kernel
theorem dX5_insert_16 : decode cX5_insert 16 = .ok (.iconst 0, 1) := by decide +kernel
theorem dX5_insert_17 : decode cX5_insert 17 = .ok (.invokevirtual 32, 3) := by decide +kernel
theorem dX5_insert_20 : decode cX5_insert 20 = .ok (.iload_n 2, 1) := by decide +kernel
theorem dX5_insert_21 : decode cX5_insert 21 = .ok (.if_icmp .le 19, 3) := by decide +kernel
theorem dX5_insert_24 : decode cX5_insert 24 = .ok (.aload_n 0, 1) := by decide +kernel
theorem dX5_insert_25 : decode cX5_insert 25 = .ok (.iload 5, 2) := by decide +kernel
theorem dX5_insert_27 : decode cX5_insert 27 = .ok (.iconst 1, 1) := by decide +kernel
theorem dX5_insert_28 : decode cX5_insert 28 = .ok (.isub, 1) := by decide +kernel
theorem dX5_insert_29 : decode cX5_insert 29 = .ok (.iload 5, 2) := by decide +kernel
theorem dX5_insert_31 : decode cX5_insert 31 = .ok (.invokevirtual 35, 3) := by decide +kernel
theorem dX5_insert_34 : decode cX5_insert 34 = .ok (.iinc 5 (-1), 3) := by decide +kernel
theorem dX5_insert_37 : decode cX5_insert 37 = .ok (.goto (-31), 3) := by decide +kernel
theorem dX5_insert_40 : decode cX5_insert 40 = .ok (.iload 5, 2) := by decide +kernel
theorem dX5_insert_42 : decode cX5_insert 42 = .ok (.iconst 4, 1) := by decide +kernel
theorem dX5_insert_43 : decode cX5_insert 43 = .ok (.imul, 1) := by decide +kernel
theorem dX5_insert_44 : decode cX5_insert 44 = .ok (.istore 6, 2) := by decide +kernel
theorem dX5_insert_46 : decode cX5_insert 46 = .ok (.aload_n 0, 1) := by decide +kernel
theorem dX5_insert_47 : decode cX5_insert 47 = .ok (.getfield 9, 3) := by decide +kernel
theorem dX5_insert_50 : decode cX5_insert 50 = .ok (.iload 6, 2) := by decide +kernel
theorem dX5_insert_52 : decode cX5_insert 52 = .ok (.iconst 0, 1) := by decide +kernel
theorem dX5_insert_53 : decode cX5_insert 53 = .ok (.iadd, 1) := by decide +kernel
theorem dX5_insert_54 : decode cX5_insert 54 = .ok (.iload_n 2, 1) := by decide +kernel
theorem dX5_insert_55 : decode cX5_insert 55 = .ok (.invokestatic 39, 3) := by decide +kernel
theorem dX5_insert_58 : decode cX5_insert 58 = .ok (.aload_n 0, 1) := by decide +kernel
theorem dX5_insert_59 : decode cX5_insert 59 = .ok (.getfield 9, 3) := by decide +kernel
theorem dX5_insert_62 : decode cX5_insert 62 = .ok (.iload 6, 2) := by decide +kernel
theorem dX5_insert_64 : decode cX5_insert 64 = .ok (.iconst 1, 1) := by decide +kernel
theorem dX5_insert_65 : decode cX5_insert 65 = .ok (.iadd, 1) := by decide +kernel
theorem dX5_insert_66 : decode cX5_insert 66 = .ok (.iload_n 3, 1) := by decide +kernel
theorem dX5_insert_67 : decode cX5_insert 67 = .ok (.invokestatic 39, 3) := by decide +kernel
theorem dX5_insert_70 : decode cX5_insert 70 = .ok (.aload_n 0, 1) := by decide +kernel
theorem dX5_insert_71 : decode cX5_insert 71 = .ok (.getfield 9, 3) := by decide +kernel
theorem dX5_insert_74 : decode cX5_insert 74 = .ok (.iload 6, 2) := by decide +kernel
theorem dX5_insert_76 : decode cX5_insert 76 = .ok (.iconst 2, 1) := by decide +kernel
theorem dX5_insert_77 : decode cX5_insert 77 = .ok (.iadd, 1) := by decide +kernel
theorem dX5_insert_78 : decode cX5_insert 78 = .ok (.iload 4, 2) := by decide +kernel
theorem dX5_insert_80 : decode cX5_insert 80 = .ok (.invokestatic 39, 3) := by decide +kernel
theorem dX5_insert_83 : decode cX5_insert 83 = .ok (.aload_n 0, 1) := by decide +kernel
theorem dX5_insert_84 : decode cX5_insert 84 = .ok (.getfield 9, 3) := by decide +kernel
theorem dX5_insert_87 : decode cX5_insert 87 = .ok (.iload 6, 2) := by decide +kernel
theorem dX5_insert_89 : decode cX5_insert 89 = .ok (.iconst 3, 1) := by decide +kernel
theorem dX5_insert_90 : decode cX5_insert 90 = .ok (.iadd, 1) := by decide +kernel
theorem dX5_insert_91 : decode cX5_insert 91 = .ok (.iload_n 1, 1) := by decide +kernel
theorem dX5_insert_92 : decode cX5_insert 92 = .ok (.invokestatic 39, 3) := by decide +kernel
theorem dX5_insert_95 : decode cX5_insert 95 = .ok (.aload_n 0, 1) := by decide +kernel
theorem dX5_insert_96 : decode cX5_insert 96 = .ok (.dup, 1) := by decide +kernel
theorem dX5_insert_97 : decode cX5_insert 97 = .ok (.getfield 29, 3) := by decide +kernel
theorem dX5_insert_100 : decode cX5_insert 100 = .ok (.iconst 1, 1) := by decide +kernel
theorem dX5_insert_101 : decode cX5_insert 101 = .ok (.iadd, 1) := by decide +kernel
theorem dX5_insert_102 : decode cX5_insert 102 = .ok (.putfield 29, 3) := by decide +kernel
theorem dX5_insert_105 : decode cX5_insert 105 = .ok (.iload 5, 2) := by decide +kernel
theorem dX5_insert_107 : decode cX5_insert 107 = .ok (.ireturn, 1) := by decide +kernel
set_option maxRecDepth 20000 in
theorem ggX5_remove_X5_move : GoodIn wsX5_remove wsX5_move := goodIn_r _ [6, 7, 8, 9, 10, 5, 11, 12, 13, 14, 15, 16, 17, 18, 19] (by decide +kernel) (by decide +kernel)
set_option maxRecDepth 20000 in
theorem gX5_remove_X5_move : GoodIn wsX5_remove (wsV RX5 35 RX5 yX5_move wsX5_move) := goodIn_app (goodIn_of _ (by decide +kernel)) ggX5_remove_X5_move
theorem dX5_remove_0 : decode cX5_remove 0 = .ok (.iload_n 1, 1) := by decide +kernel
theorem dX5_remove_1 : decode cX5_remove 1 = .ok (.iconst 1, 1) := by decide +kernel
theorem dX5_remove_2 : decode cX5_remove 2 = .ok (.iadd, 1) := by decide +kernel
theorem dX5_remove_3 : decode cX5_remove 3 = .ok (.istore_n 2, 1) := by decide +kernel
theorem dX5_remove_4 : decode cX5_remove 4 = .ok (.iload_n 2, 1) := by decide +kernel
theorem dX5_remove_5 : decode cX5_remove 5 = .ok (.aload_n 0, 1) := by decide +kernel
theorem dX5_remove_6 : decode cX5_remove 6 = .ok (.getfield 29, 3) := by decide +kernel
theorem dX5_remove_9 : decode cX5_remove 9 = .ok (.if_icmp .ge 17, 3) := by decide +kernel
theorem dX5_remove_12 : decode cX5_remove 12 = .ok (.aload_n 0, 1) := by decide +kernel
theorem dX5_remove_13 : decode cX5_remove 13 = .ok (.iload_n 2, 1) := by decide +kernel
theorem dX5_remove_14 : decode cX5_remove 14 = .ok (.iload_n 2, 1) := by decide +kernel
theorem dX5_remove_15 : decode cX5_remove 15 = .ok (.iconst 1, 1) := by decide +kernel
theorem dX5_remove_16 : decode cX5_remove 16 = .ok (.isub, 1) := by decide +kernel
theorem dX5_remove_17 : decode cX5_remove 17 = .ok (.invokevirtual 35, 3) := by decide +kernel
theorem dX5_remove_20 : decode cX5_remove 20 = .ok (.iinc 2 1, 3) := by decide +kernel
theorem dX5_remove_23 : decode cX5_remove 23 = .ok (.goto (-19), 3) := by decide +kernel
theorem dX5_remove_26 : decode cX5_remove 26 = .ok (.aload_n 0, 1) := by decide +kernel
theorem dX5_remove_27 : decode cX5_remove 27 = .ok (.dup, 1) := by decide +kernel
theorem dX5_remove_28 : decode cX5_remove 28 = .ok (.getfield 29, 3) := by decide +kernel
theorem dX5_remove_31 : decode cX5_remove 31 = .ok (.iconst 1, 1) := by decide +kernel
theorem dX5_remove_32 : decode cX5_remove 32 = .ok (.isub, 1) := by decide +kernel
theorem dX5_remove_33 : decode cX5_remove 33 = .ok (.putfield 29, 3) := by decide +kernel
theorem dX5_remove_36 : decode cX5_remove 36 = .ok (.return_, 1) := by decide +kernel
theorem dX5_copyFrom_0 : decode cX5_copyFrom 0 = .ok (.aload_n 1, 1) := by decide +kernel
theorem dX5_copyFrom_1 : decode cX5_copyFrom 1 = .ok (.getfield 9, 3) := by decide +kernel
theorem dX5_copyFrom_4 : decode cX5_copyFrom 4 = .ok (.iconst 0, 1) := by decide +kernel
theorem dX5_copyFrom_5 : decode cX5_copyFrom 5 = .ok (.aload_n 0, 1) := by decide +kernel
theorem dX5_copyFrom_6 : decode cX5_copyFrom 6 = .ok (.getfield 9, 3) := by decide +kernel
theorem dX5_copyFrom_9 : decode cX5_copyFrom 9 = .ok (.iconst 0, 1) := by decide +kernel
theorem dX5_copyFrom_10 : decode cX5_copyFrom 10 = .ok (.aload_n 1, 1) := by decide +kernel
theorem dX5_copyFrom_11 : decode cX5_copyFrom 11 = .ok (.getfield 9, 3) := by decide +kernel
theorem dX5_copyFrom_14 : decode cX5_copyFrom 14 = .ok (.arraylength, 1) := by decide +kernel
theorem dX5_copyFrom_15 : decode cX5_copyFrom 15 = .ok (.aload_n 0, 1) := by decide +kernel
theorem dX5_copyFrom_16 : decode cX5_copyFrom 16 = .ok (.getfield 9, 3) := by decide +kernel
theorem dX5_copyFrom_19 : decode cX5_copyFrom 19 = .ok (.arraylength, 1) := by decide +kernel
theorem dX5_copyFrom_20 : decode cX5_copyFrom 20 = .ok (.invokestatic 15, 3) := by decide +kernel
theorem dX5_copyFrom_23 : decode cX5_copyFrom 23 = .ok (.invokestatic 43, 3) := by decide +kernel
theorem dX5_copyFrom_26 : decode cX5_copyFrom 26 = .ok (.aload_n 0, 1) := by decide +kernel
theorem dX5_copyFrom_27 : decode cX5_copyFrom 27 = .ok (.aload_n 1, 1) := by decide +kernel
theorem dX5_copyFrom_28 : decode cX5_copyFrom 28 = .ok (.getfield 29, 3) := by decide +kernel
theorem dX5_copyFrom_31 : decode cX5_copyFrom 31 = .ok (.putfield 29, 3) := by decide +kernel
theorem dX5_copyFrom_34 : decode cX5_copyFrom 34 = .ok (.return_, 1) := by decide +kernel
set_option maxRecDepth 20000 in
theorem ggX5_move_X5_value : GoodIn wsX5_move wsX5_value := goodIn_r _ [6, 1, 7, 8, 9, 12, 13, 14] (by decide +kernel) (by decide +kernel)
set_option maxRecDepth 20000 in
theorem gX5_move_X5_value : GoodIn wsX5_move (wsV RX5 32 RX5 yX5_value wsX5_value) := goodIn_app (goodIn_of _ (by decide +kernel)) ggX5_move_X5_value
set_option maxRecDepth 20000 in
theorem ggX5_move_X6_put : GoodIn wsX5_move wsX6_put := goodIn_r _ [11] (by decide +kernel) (by decide +kernel)
set_option maxRecDepth 20000 in
theorem gX5_move_X6_put_n39 : GoodIn wsX5_move (wsX6_put) := ggX5_move_X6_put
theorem dX5_move_0 : decode cX5_move 0 = .ok (.iconst 0, 1) := by decide +kernel
theorem dX5_move_1 : decode cX5_move 1 = .ok (.istore_n 3, 1) := by decide +kernel
theorem dX5_move_2 : decode cX5_move 2 = .ok (.iload_n 3, 1) := by decide +kernel
theorem dX5_move_3 : decode cX5_move 3 = .ok (.iconst 4, 1) := by decide +kernel
theorem dX5_move_4 : decode cX5_move 4 = .ok (.if_icmp .ge 27, 3) := by decide +kernel
theorem dX5_move_7 : decode cX5_move 7 = .ok (.aload_n 0, 1) := by decide +kernel
theorem dX5_move_8 : decode cX5_move 8 = .ok (.getfield 9, 3) := by decide +kernel
theorem dX5_move_11 : decode cX5_move 11 = .ok (.iload_n 2, 1) := by decide +kernel
theorem dX5_move_12 : decode cX5_move 12 = .ok (.iconst 4, 1) := by decide +kernel
theorem dX5_move_13 : decode cX5_move 13 = .ok (.imul, 1) := by decide +kernel
theorem dX5_move_14 : decode cX5_move 14 = .ok (.iload_n 3, 1) := by decide +kernel
theorem dX5_move_15 : decode cX5_move 15 = .ok (.iadd, 1) := by decide +kernel
theorem dX5_move_16 : decode cX5_move 16 = .ok (.aload_n 0, 1) := by decide +kernel
theorem dX5_move_17 : decode cX5_move 17 = .ok (.iload_n 1, 1) := by decide +kernel
theorem dX5_move_18 : decode cX5_move 18 = .ok (.iload_n 3, 1) := by decide +kernel
theorem dX5_move_19 : decode cX5_move 19 = .ok (.invokevirtual 32, 3) := by decide +kernel
theorem dX5_move_22 : decode cX5_move 22 = .ok (.invokestatic 39, 3) := by decide +kernel
theorem dX5_move_25 : decode cX5_move 25 = .ok (.iinc 3 1, 3) := by decide +kernel
theorem dX5_move_28 : decode cX5_move 28 = .ok (.goto (-26), 3) := by decide +kernel
theorem dX5_move_31 : decode cX5_move 31 = .ok (.return_, 1) := by decide +kernel
theorem dJ9_floorDiv_7cf53_0 : decode cJ9_floorDiv_7cf53 0 = .ok (.iload_n 0, 1) := by decide +kernel
theorem dJ9_floorDiv_7cf53_1 : decode cJ9_floorDiv_7cf53 1 = .ok (.iload_n 1, 1) := by decide +kernel
theorem dJ9_floorDiv_7cf53_2 : decode cJ9_floorDiv_7cf53 2 = .ok (.idiv, 1) := by decide +kernel
theorem dJ9_floorDiv_7cf53_3 : decode cJ9_floorDiv_7cf53 3 = .ok (.istore_n 2, 1) := by decide +kernel
theorem dJ9_floorDiv_7cf53_4 : decode cJ9_floorDiv_7cf53 4 = .ok (.iload_n 0, 1) := by decide +kernel
theorem dJ9_floorDiv_7cf53_5 : decode cJ9_floorDiv_7cf53 5 = .ok (.iload_n 1, 1) := by decide +kernel
theorem dJ9_floorDiv_7cf53_6 : decode cJ9_floorDiv_7cf53 6 = .ok (.ixor, 1) := by decide +kernel
theorem dJ9_floorDiv_7cf53_7 : decode cJ9_floorDiv_7cf53 7 = .ok (.ifCond .ge 14, 3) := by decide +kernel
theorem dJ9_floorDiv_7cf53_10 : decode cJ9_floorDiv_7cf53 10 = .ok (.iload_n 2, 1) := by decide +kernel
theorem dJ9_floorDiv_7cf53_11 : decode cJ9_floorDiv_7cf53 11 = .ok (.iload_n 1, 1) := by decide +kernel
theorem dJ9_floorDiv_7cf53_12 : decode cJ9_floorDiv_7cf53 12 = .ok (.imul, 1) := by decide +kernel
theorem dJ9_floorDiv_7cf53_13 : decode cJ9_floorDiv_7cf53 13 = .ok (.iload_n 0, 1) := by decide +kernel
theorem dJ9_floorDiv_7cf53_14 : decode cJ9_floorDiv_7cf53 14 = .ok (.if_icmp .eq 7, 3) := by decide +kernel
theorem dJ9_floorDiv_7cf53_17 : decode cJ9_floorDiv_7cf53 17 = .ok (.iload_n 2, 1) := by decide +kernel
theorem dJ9_floorDiv_7cf53_18 : decode cJ9_floorDiv_7cf53 18 = .ok (.iconst 1, 1) := by decide +kernel
theorem dJ9_floorDiv_7cf53_19 : decode cJ9_floorDiv_7cf53 19 = .ok (.isub, 1) := by decide +kernel
theorem dJ9_floorDiv_7cf53_20 : decode cJ9_floorDiv_7cf53 20 = .ok (.ireturn, 1) := by decide +kernel
theorem dJ9_floorDiv_7cf53_21 : decode cJ9_floorDiv_7cf53 21 = .ok (.iload_n 2, 1) := by decide +kernel
theorem dJ9_floorDiv_7cf53_22 : decode cJ9_floorDiv_7cf53 22 = .ok (.ireturn, 1) := by decide +kernel
theorem dJ9_floorDiv_f86c9_0 : decode cJ9_floorDiv_f86c9 0 = .ok (.lload_n 0, 1) := by decide +kernel
theorem dJ9_floorDiv_f86c9_1 : decode cJ9_floorDiv_f86c9 1 = .ok (.lload_n 2, 1) := by decide +kernel
theorem dJ9_floorDiv_f86c9_2 : decode cJ9_floorDiv_f86c9 2 = .ok (.ldiv, 1) := by decide +kernel
theorem dJ9_floorDiv_f86c9_3 : decode cJ9_floorDiv_f86c9 3 = .ok (.lstore 4, 2) := by decide +kernel
theorem dJ9_floorDiv_f86c9_5 : decode cJ9_floorDiv_f86c9 5 = .ok (.lload_n 0, 1) := by decide +kernel
theorem dJ9_floorDiv_f86c9_6 : decode cJ9_floorDiv_f86c9 6 = .ok (.lload_n 2, 1) := by decide +kernel
theorem dJ9_floorDiv_f86c9_7 : decode cJ9_floorDiv_f86c9 7 = .ok (.lxor, 1) := by decide +kernel
theorem dJ9_floorDiv_f86c9_8 : decode cJ9_floorDiv_f86c9 8 = .ok (.lconst 0, 1) := by decide +kernel
theorem dJ9_floorDiv_f86c9_9 : decode cJ9_floorDiv_f86c9 9 = .ok (.lcmp, 1) := by decide +kernel
theorem dJ9_floorDiv_f86c9_10 : decode cJ9_floorDiv_f86c9 10 = .ok (.ifCond .ge 17, 3) := by decide +kernel
theorem dJ9_floorDiv_f86c9_13 : decode cJ9_floorDiv_f86c9 13 = .ok (.lload 4, 2) := by decide +kernel
theorem dJ9_floorDiv_f86c9_15 : decode cJ9_floorDiv_f86c9 15 = .ok (.lload_n 2, 1) := by decide +kernel
theorem dJ9_floorDiv_f86c9_16 : decode cJ9_floorDiv_f86c9 16 = .ok (.lmul, 1) := by decide +kernel
theorem dJ9_floorDiv_f86c9_17 : decode cJ9_floorDiv_f86c9 17 = .ok (.lload_n 0, 1) := by decide +kernel
theorem dJ9_floorDiv_f86c9_18 : decode cJ9_floorDiv_f86c9 18 = .ok (.lcmp, 1) := by decide +kernel
theorem dJ9_floorDiv_f86c9_19 : decode cJ9_floorDiv_f86c9 19 = .ok (.ifCond .eq 8, 3) := by decide +kernel
theorem dJ9_floorDiv_f86c9_22 : decode cJ9_floorDiv_f86c9 22 = .ok (.lload 4, 2) := by decide +kernel
theorem dJ9_floorDiv_f86c9_24 : decode cJ9_floorDiv_f86c9 24 = .ok (.lconst 1, 1) := by decide +kernel
theorem dJ9_floorDiv_f86c9_25 : decode cJ9_floorDiv_f86c9 25 = .ok (.lsub, 1) := by decide +kernel
theorem dJ9_floorDiv_f86c9_26 : decode cJ9_floorDiv_f86c9 26 = .ok (.lreturn, 1) := by decide +kernel
theorem dJ9_floorDiv_f86c9_27 : decode cJ9_floorDiv_f86c9 27 = .ok (.lload 4, 2) := by decide +kernel
theorem dJ9_floorDiv_f86c9_29 : decode cJ9_floorDiv_f86c9 29 = .ok (.lreturn, 1) := by decide +kernel
theorem dJ9_abs_0f7a4_0 : decode cJ9_abs_0f7a4 0 = .ok (.iload_n 0, 1) := by decide +kernel
theorem dJ9_abs_0f7a4_1 : decode cJ9_abs_0f7a4 1 = .ok (.ifCond .ge 8, 3) := by decide +kernel
theorem dJ9_abs_0f7a4_4 : decode cJ9_abs_0f7a4 4 = .ok (.iload_n 0, 1) := by decide +kernel
theorem dJ9_abs_0f7a4_5 : decode cJ9_abs_0f7a4 5 = .ok (.ineg, 1) := by decide +kernel
theorem dJ9_abs_0f7a4_6 : decode cJ9_abs_0f7a4 6 = .ok (.goto 4, 3) := by decide +kernel
theorem dJ9_abs_0f7a4_9 : decode cJ9_abs_0f7a4 9 = .ok (.iload_n 0, 1) := by decide +kernel
theorem dJ9_abs_0f7a4_10 : decode cJ9_abs_0f7a4 10 = .ok (.ireturn, 1) := by decide +kernel
theorem dJ9_max_7cf53_0 : decode cJ9_max_7cf53 0 = .ok (.iload_n 0, 1) := by decide +kernel
theorem dJ9_max_7cf53_1 : decode cJ9_max_7cf53 1 = .ok (.iload_n 1, 1) := by decide +kernel
theorem dJ9_max_7cf53_2 : decode cJ9_max_7cf53 2 = .ok (.if_icmp .lt 7, 3) := by decide +kernel
theorem dJ9_max_7cf53_5 : decode cJ9_max_7cf53 5 = .ok (.iload_n 0, 1) := by decide +kernel
theorem dJ9_max_7cf53_6 : decode cJ9_max_7cf53 6 = .ok (.goto 4, 3) := by decide +kernel
theorem dJ9_max_7cf53_9 : decode cJ9_max_7cf53 9 = .ok (.iload_n 1, 1) := by decide +kernel
theorem dJ9_max_7cf53_10 : decode cJ9_max_7cf53 10 = .ok (.ireturn, 1) := by decide +kernel
theorem dJ9_min_7cf53_0 : decode cJ9_min_7cf53 0 = .ok (.iload_n 0, 1) := by decide +kernel
theorem dJ9_min_7cf53_1 : decode cJ9_min_7cf53 1 = .ok (.iload_n 1, 1) := by decide +kernel
theorem dJ9_min_7cf53_2 : decode cJ9_min_7cf53 2 = .ok (.if_icmp .gt 7, 3) := by decide +kernel
theorem dJ9_min_7cf53_5 : decode cJ9_min_7cf53 5 = .ok (.iload_n 0, 1) := by decide +kernel
theorem dJ9_min_7cf53_6 : decode cJ9_min_7cf53 6 = .ok (.goto 4, 3) := by decide +kernel
theorem dJ9_min_7cf53_9 : decode cJ9_min_7cf53 9 = .ok (.iload_n 1, 1) := by decide +kernel
theorem dJ9_min_7cf53_10 : decode cJ9_min_7cf53 10 = .ok (.ireturn, 1) := by decide +kernel
end
section
theorem dX3_init_0 : decode cX3_init 0 = .ok (.aload_n 0, 1) := by decide +kernel
theorem dX3_init_1 : decode cX3_init 1 = .ok (.invokespecial 3, 3) := by decide +kernel
theorem dX3_init_4 : decode cX3_init 4 = .ok (.aload_n 0, 1) := by decide +kernel
theorem dX3_init_5 : decode cX3_init 5 = .ok (.bipush 20, 2) := by decide +kernel
theorem dX3_init_7 : decode cX3_init 7 = .ok (.newarray .int, 2) := by decide +kernel
theorem dX3_init_9 : decode cX3_init 9 = .ok (.putfield 9, 3) := by decide +kernel
theorem dX3_init_12 : decode cX3_init 12 = .ok (.aload_n 0, 1) := by decide +kernel
theorem dX3_init_13 : decode cX3_init 13 = .ok (.bipush 20, 2) := by decide +kernel
theorem dX3_init_15 : decode cX3_init 15 = .ok (.newarray .int, 2) := by decide +kernel
theorem dX3_init_17 : decode cX3_init 17 = .ok (.putfield 15, 3) := by decide +kernel
theorem dX3_init_20 : decode cX3_init 20 = .ok (.aload_n 0, 1) := by decide +kernel
theorem dX3_init_21 : decode cX3_init 21 = .ok (.bipush 20, 2) := by decide +kernel
theorem dX3_init_23 : decode cX3_init 23 = .ok (.newarray .int, 2) := by decide +kernel
theorem dX3_init_25 : decode cX3_init 25 = .ok (.putfield 18, 3) := by decide +kernel
theorem dX3_init_28 : decode cX3_init 28 = .ok (.aload_n 0, 1) := by decide +kernel
theorem dX3_init_29 : decode cX3_init 29 = .ok (.bipush 20, 2) := by decide +kernel
theorem dX3_init_31 : decode cX3_init 31 = .ok (.newarray .int, 2) := by decide +kernel
theorem dX3_init_33 : decode cX3_init 33 = .ok (.putfield 21, 3) := by decide +kernel
theorem dX3_init_36 : decode cX3_init 36 = .ok (.aload_n 0, 1) := by decide +kernel
theorem dX3_init_37 : decode cX3_init 37 = .ok (.bipush 20, 2) := by decide +kernel
theorem dX3_init_39 : decode cX3_init 39 = .ok (.newarray .int, 2) := by decide +kernel
theorem dX3_init_41 : decode cX3_init 41 = .ok (.putfield 24, 3) := by decide +kernel
theorem dX3_init_44 : decode cX3_init 44 = .ok (.aload_n 0, 1) := by decide +kernel
theorem dX3_init_45 : decode cX3_init 45 = .ok (.bipush 20, 2) := by decide +kernel
theorem dX3_init_47 : decode cX3_init 47 = .ok (.newarray .int, 2) := by decide +kernel
theorem dX3_init_49 : decode cX3_init 49 = .ok (.putfield 27, 3) := by decide +kernel
theorem dX3_init_52 : decode cX3_init 52 = .ok (.aload_n 0, 1) := by decide +kernel
theorem dX3_init_53 : decode cX3_init 53 = .ok (.bipush 20, 2) := by decide +kernel
theorem dX3_init_55 : decode cX3_init 55 = .ok (.newarray .int, 2) := by decide +kernel
theorem dX3_init_57 : decode cX3_init 57 = .ok (.putfield 30, 3) := by decide +kernel
theorem dX3_init_60 : decode cX3_init 60 = .ok (.aload_n 0, 1) := by decide +kernel
theorem dX3_init_61 : decode cX3_init 61 = .ok (.bipush 20, 2) := by decide +kernel
theorem dX3_init_63 : decode cX3_init 63 = .ok (.newarray .int, 2) := by decide +kernel
theorem dX3_init_65 : decode cX3_init 65 = .ok (.putfield 33, 3) := by decide +kernel
theorem dX3_init_68 : decode cX3_init 68 = .ok (.return_, 1) := by decide +kernel
set_option maxRecDepth 20000 in
theorem ggX3_workOut_X2_track : GoodIn wsX3_workOut wsX2_track := goodIn_r _ [12, 13, 14, 15, 16, 129, 130, 131, 132, 133, 134, 135] (by decide +kernel) (by decide +kernel)
set_option maxRecDepth 20000 in
theorem gX3_workOut_X2_track : GoodIn wsX3_workOut (wsV RX3 36 RX2 yX2_track wsX2_track) := goodIn_app (goodIn_of _ (by decide +kernel)) ggX3_workOut_X2_track
set_option maxRecDepth 20000 in
theorem ggX3_workOut_X5_value : GoodIn wsX3_workOut wsX5_value := goodIn_r _ [21, 22, 23, 24, 25, 114, 115, 116] (by decide +kernel) (by decide +kernel)
set_option maxRecDepth 20000 in
theorem gX3_workOut_X5_value : GoodIn wsX3_workOut (wsV RX3 49 RX5 yX5_value wsX5_value) := goodIn_app (goodIn_of _ (by decide +kernel)) ggX3_workOut_X5_value
set_option maxRecDepth 20000 in
theorem ggX3_workOut_X6_put : GoodIn wsX3_workOut wsX6_put := goodIn_r _ [27] (by decide +kernel) (by decide +kernel)
set_option maxRecDepth 20000 in
theorem gX3_workOut_X6_put_n53 : GoodIn wsX3_workOut (wsX6_put) := ggX3_workOut_X6_put
set_option maxRecDepth 20000 in
theorem ggX3_workOut_X2_heightAt : GoodIn wsX3_workOut wsX2_heightAt := goodIn_r _ [31, 32, 33, 34, 35, 36, 37, 11, 38, 16, 39, 18, 19, 20, 21, 22, 23, 24, 25, 40, 41, 42, 43, 44, 45, 46, 47, 48, 129, 130, 131, 132, 133, 134, 135, 114, 115, 116] (by decide +kernel) (by decide +kernel)
set_option maxRecDepth 20000 in
theorem gX3_workOut_X2_heightAt : GoodIn wsX3_workOut (wsV RX3 57 RX2 yX2_heightAt wsX2_heightAt) := goodIn_app (goodIn_of _ (by decide +kernel)) ggX3_workOut_X2_heightAt
set_option maxRecDepth 20000 in
theorem ggX3_workOut_X5_standsOut : GoodIn wsX3_workOut wsX5_standsOut := goodIn_r _ [52, 53, 54, 18, 19, 20, 21, 22, 23, 24, 25, 114, 115, 116] (by decide +kernel) (by decide +kernel)
set_option maxRecDepth 20000 in
theorem gX3_workOut_X5_standsOut : GoodIn wsX3_workOut (wsV RX3 64 RX5 yX5_standsOut wsX5_standsOut) := goodIn_app (goodIn_of _ (by decide +kernel)) ggX3_workOut_X5_standsOut
set_option maxRecDepth 20000 in
theorem ggX3_workOut_X3_countKinds : GoodIn wsX3_workOut wsX3_countKinds := goodIn_r _ [59, 60, 61, 1, 62, 63, 64, 58, 65, 5, 23, 24, 25, 66, 67, 68, 69, 4, 70, 117, 118, 119, 120, 121, 122, 123, 124, 125, 126, 127, 128] (by decide +kernel) (by decide +kernel)
set_option maxRecDepth 20000 in
theorem gX3_workOut_X3_countKinds : GoodIn wsX3_workOut (wsV RX3 68 RX3 yX3_countKinds wsX3_countKinds) := goodIn_app (goodIn_of _ (by decide +kernel)) ggX3_workOut_X3_countKinds
set_option maxRecDepth 20000 in
theorem ggX3_workOut_X3_findLoops : GoodIn wsX3_workOut wsX3_findLoops := goodIn_r _ [74, 75, 1, 76, 77, 66, 67, 68, 58, 69, 4, 70, 5, 23, 24, 25, 78, 79, 80, 81, 3, 26, 27, 117, 118, 119, 120, 121, 122, 123, 124, 125, 126, 127, 128] (by decide +kernel) (by decide +kernel)
set_option maxRecDepth 20000 in
theorem gX3_workOut_X3_findLoops : GoodIn wsX3_workOut (wsV RX3 71 RX3 yX3_findLoops wsX3_findLoops) := goodIn_app (goodIn_of _ (by decide +kernel)) ggX3_workOut_X3_findLoops
set_option maxRecDepth 20000 in
theorem ggX3_workOut_X3_shortestLoop : GoodIn wsX3_workOut wsX3_shortestLoop := goodIn_r _ [85, 75, 66, 67, 68, 58, 69, 4, 70, 5, 23, 24, 25, 86, 87, 88, 89, 76, 90, 91, 92, 93, 77, 94, 95, 96, 97, 2, 117, 118, 119, 120, 121, 122, 123, 124, 125, 126, 127, 128] (by decide +kernel) (by decide +kernel)
set_option maxRecDepth 20000 in
theorem gX3_workOut_X3_shortestLoop : GoodIn wsX3_workOut (wsV RX3 74 RX3 yX3_shortestLoop wsX3_shortestLoop) := goodIn_app (goodIn_of _ (by decide +kernel)) ggX3_workOut_X3_shortestLoop
set_option maxRecDepth 20000 in
theorem ggX3_workOut_X3_withoutDrift : GoodIn wsX3_workOut wsX3_withoutDrift := goodIn_r _ [101, 70, 2, 66, 67, 68, 58, 69, 4, 5, 23, 24, 25, 102, 103, 104, 105, 6, 106, 107, 108, 109, 86, 87, 88, 89, 76, 110, 111, 112, 113, 90, 91, 92, 93, 77, 94, 95, 96, 97, 40, 41, 42, 43, 44, 45, 117, 118, 119, 120, 121, 122, 123, 124, 125, 126, 127, 128] (by decide +kernel) (by decide +kernel)
set_option maxRecDepth 20000 in
theorem gX3_workOut_X3_withoutDrift : GoodIn wsX3_workOut (wsV RX3 78 RX3 yX3_withoutDrift wsX3_withoutDrift) := goodIn_app (goodIn_of _ (by decide +kernel)) ggX3_workOut_X3_withoutDrift
theorem dX3_workOut_0 : decode cX3_workOut 0 = .ok (.aload_n 1, 1) := by decide +kernel
theorem dX3_workOut_1 : decode cX3_workOut 1 = .ok (.iload_n 2, 1) := by decide +kernel
theorem dX3_workOut_2 : decode cX3_workOut 2 = .ok (.invokevirtual 36, 3) := by decide +kernel
theorem dX3_workOut_5 : decode cX3_workOut 5 = .ok (.astore_n 3, 1) := by decide +kernel
theorem dX3_workOut_6 : decode cX3_workOut 6 = .ok (.aload_n 0, 1) := by decide +kernel
theorem dX3_workOut_7 : decode cX3_workOut 7 = .ok (.aload_n 3, 1) := by decide +kernel
theorem dX3_workOut_8 : decode cX3_workOut 8 = .ok (.getfield 42, 3) := by decide +kernel
theorem dX3_workOut_11 : decode cX3_workOut 11 = .ok (.putfield 48, 3) := by decide +kernel
theorem dX3_workOut_14 : decode cX3_workOut 14 = .ok (.iconst 0, 1) := by decide +kernel
theorem dX3_workOut_15 : decode cX3_workOut 15 = .ok (.istore 4, 2) := by decide +kernel
theorem dX3_workOut_17 : decode cX3_workOut 17 = .ok (.iload 4, 2) := by decide +kernel
theorem dX3_workOut_19 : decode cX3_workOut 19 = .ok (.aload_n 0, 1) := by decide +kernel
theorem dX3_workOut_20 : decode cX3_workOut 20 = .ok (.getfield 48, 3) := by decide +kernel
theorem dX3_workOut_23 : decode cX3_workOut 23 = .ok (.if_icmp .ge 109, 3) := by decide +kernel
theorem dX3_workOut_26 : decode cX3_workOut 26 = .ok (.aload_n 3, 1) := by decide +kernel
theorem dX3_workOut_27 : decode cX3_workOut 27 = .ok (.iload 4, 2) := by decide +kernel
theorem dX3_workOut_29 : decode cX3_workOut 29 = .ok (.iconst 0, 1) := by decide +kernel
theorem dX3_workOut_30 : decode cX3_workOut 30 = .ok (.invokevirtual 49, 3) := by decide +kernel
theorem dX3_workOut_33 : decode cX3_workOut 33 = .ok (.istore 5, 2) := by decide +kernel
theorem dX3_workOut_35 : decode cX3_workOut 35 = .ok (.aload_n 3, 1) := by decide +kernel
theorem dX3_workOut_36 : decode cX3_workOut 36 = .ok (.iload 4, 2) := by decide +kernel
theorem dX3_workOut_38 : decode cX3_workOut 38 = .ok (.iconst 1, 1) := by decide +kernel
theorem dX3_workOut_39 : decode cX3_workOut 39 = .ok (.invokevirtual 49, 3) := by decide +kernel
theorem dX3_workOut_42 : decode cX3_workOut 42 = .ok (.istore 6, 2) := by decide +kernel
theorem dX3_workOut_44 : decode cX3_workOut 44 = .ok (.aload_n 3, 1) := by decide +kernel
theorem dX3_workOut_45 : decode cX3_workOut 45 = .ok (.iload 4, 2) := by decide +kernel
theorem dX3_workOut_47 : decode cX3_workOut 47 = .ok (.iconst 2, 1) := by decide +kernel
theorem dX3_workOut_48 : decode cX3_workOut 48 = .ok (.invokevirtual 49, 3) := by decide +kernel
theorem dX3_workOut_51 : decode cX3_workOut 51 = .ok (.istore 7, 2) := by decide +kernel
theorem dX3_workOut_53 : decode cX3_workOut 53 = .ok (.aload_n 0, 1) := by decide +kernel
theorem dX3_workOut_54 : decode cX3_workOut 54 = .ok (.getfield 9, 3) := by decide +kernel
theorem dX3_workOut_57 : decode cX3_workOut 57 = .ok (.iload 4, 2) := by decide +kernel
theorem dX3_workOut_59 : decode cX3_workOut 59 = .ok (.iload 5, 2) := by decide +kernel
theorem dX3_workOut_61 : decode cX3_workOut 61 = .ok (.invokestatic 53, 3) := by decide +kernel
theorem dX3_workOut_64 : decode cX3_workOut 64 = .ok (.aload_n 0, 1) := by decide +kernel
theorem dX3_workOut_65 : decode cX3_workOut 65 = .ok (.getfield 15, 3) := by decide +kernel
theorem dX3_workOut_68 : decode cX3_workOut 68 = .ok (.iload 4, 2) := by decide +kernel
theorem dX3_workOut_70 : decode cX3_workOut 70 = .ok (.aload_n 3, 1) := by decide +kernel
theorem dX3_workOut_71 : decode cX3_workOut 71 = .ok (.iload 4, 2) := by decide +kernel
theorem dX3_workOut_73 : decode cX3_workOut 73 = .ok (.iconst 3, 1) := by decide +kernel
theorem dX3_workOut_74 : decode cX3_workOut 74 = .ok (.invokevirtual 49, 3) := by decide +kernel
theorem dX3_workOut_77 : decode cX3_workOut 77 = .ok (.invokestatic 53, 3) := by decide +kernel
theorem dX3_workOut_80 : decode cX3_workOut 80 = .ok (.aload_n 0, 1) := by decide +kernel
theorem dX3_workOut_81 : decode cX3_workOut 81 = .ok (.getfield 18, 3) := by decide +kernel
theorem dX3_workOut_84 : decode cX3_workOut 84 = .ok (.iload 4, 2) := by decide +kernel
theorem dX3_workOut_86 : decode cX3_workOut 86 = .ok (.aload_n 1, 1) := by decide +kernel
theorem dX3_workOut_87 : decode cX3_workOut 87 = .ok (.iload 5, 2) := by decide +kernel
theorem dX3_workOut_89 : decode cX3_workOut 89 = .ok (.iload 6, 2) := by decide +kernel
theorem dX3_workOut_91 : decode cX3_workOut 91 = .ok (.iload 7, 2) := by decide +kernel
theorem dX3_workOut_93 : decode cX3_workOut 93 = .ok (.invokevirtual 57, 3) := by decide +kernel
theorem dX3_workOut_96 : decode cX3_workOut 96 = .ok (.invokestatic 53, 3) := by decide +kernel
theorem dX3_workOut_99 : decode cX3_workOut 99 = .ok (.aload_n 0, 1) := by decide +kernel
theorem dX3_workOut_100 : decode cX3_workOut 100 = .ok (.getfield 21, 3) := by decide +kernel
theorem dX3_workOut_103 : decode cX3_workOut 103 = .ok (.iload 4, 2) := by decide +kernel
theorem dX3_workOut_105 : decode cX3_workOut 105 = .ok (.aload_n 3, 1) := by decide +kernel
theorem dX3_workOut_106 : decode cX3_workOut 106 = .ok (.iload 4, 2) := by decide +kernel
theorem dX3_workOut_108 : decode cX3_workOut 108 = .ok (.aload_n 1, 1) := by decide +kernel
theorem dX3_workOut_109 : decode cX3_workOut 109 = .ok (.getfield 61, 3) := by decide +kernel
theorem dX3_workOut_112 : decode cX3_workOut 112 = .ok (.invokevirtual 64, 3) := by decide +kernel
theorem dX3_workOut_115 : decode cX3_workOut 115 = .ok (.ifCond .eq 7, 3) := by decide +kernel
theorem dX3_workOut_118 : decode cX3_workOut 118 = .ok (.iconst 1, 1) := by decide +kernel
theorem dX3_workOut_119 : decode cX3_workOut 119 = .ok (.goto 4, 3) := by decide +kernel
theorem dX3_workOut_122 : decode cX3_workOut 122 = .ok (.iconst 0, 1) := by decide +kernel
theorem dX3_workOut_123 : decode cX3_workOut 123 = .ok (.invokestatic 53, 3) := by decide +kernel
theorem dX3_workOut_126 : decode cX3_workOut 126 = .ok (.iinc 4 1, 3) := by decide +kernel
theorem dX3_workOut_129 : decode cX3_workOut 129 = .ok (.goto (-112), 3) := by decide +kernel
theorem dX3_workOut_132 : decode cX3_workOut 132 = .ok (.aload_n 0, 1) := by decide +kernel
theorem dX3_workOut_133 : decode cX3_workOut 133 = .ok (.invokevirtual 68, 3) := by decide +kernel
theorem dX3_workOut_136 : decode cX3_workOut 136 = .ok (.aload_n 0, 1) := by decide +kernel
theorem dX3_workOut_137 : decode cX3_workOut 137 = .ok (.invokevirtual 71, 3) := by decide +kernel
theorem dX3_workOut_140 : decode cX3_workOut 140 = .ok (.iconst 0, 1) := by decide +kernel
theorem dX3_workOut_141 : decode cX3_workOut 141 = .ok (.istore 4, 2) := by decide +kernel
theorem dX3_workOut_143 : decode cX3_workOut 143 = .ok (.iload 4, 2) := by decide +kernel
theorem dX3_workOut_145 : decode cX3_workOut 145 = .ok (.aload_n 0, 1) := by decide +kernel
theorem dX3_workOut_146 : decode cX3_workOut 146 = .ok (.getfield 48, 3) := by decide +kernel
theorem dX3_workOut_149 : decode cX3_workOut 149 = .ok (.if_icmp .ge 39, 3) := by decide +kernel
theorem dX3_workOut_152 : decode cX3_workOut 152 = .ok (.aload_n 0, 1) := by decide +kernel
theorem dX3_workOut_153 : decode cX3_workOut 153 = .ok (.getfield 24, 3) := by decide +kernel
theorem dX3_workOut_156 : decode cX3_workOut 156 = .ok (.iload 4, 2) := by decide +kernel
theorem dX3_workOut_158 : decode cX3_workOut 158 = .ok (.aload_n 0, 1) := by decide +kernel
theorem dX3_workOut_159 : decode cX3_workOut 159 = .ok (.iload 4, 2) := by decide +kernel
theorem dX3_workOut_161 : decode cX3_workOut 161 = .ok (.invokevirtual 74, 3) := by decide +kernel
theorem dX3_workOut_164 : decode cX3_workOut 164 = .ok (.invokestatic 53, 3) := by decide +kernel
theorem dX3_workOut_167 : decode cX3_workOut 167 = .ok (.aload_n 0, 1) := by decide +kernel
theorem dX3_workOut_168 : decode cX3_workOut 168 = .ok (.getfield 27, 3) := by decide +kernel
theorem dX3_workOut_171 : decode cX3_workOut 171 = .ok (.iload 4, 2) := by decide +kernel
theorem dX3_workOut_173 : decode cX3_workOut 173 = .ok (.aload_n 0, 1) := by decide +kernel
theorem dX3_workOut_174 : decode cX3_workOut 174 = .ok (.iload 4, 2) := by decide +kernel
theorem dX3_workOut_176 : decode cX3_workOut 176 = .ok (.invokevirtual 78, 3) := by decide +kernel
theorem dX3_workOut_179 : decode cX3_workOut 179 = .ok (.invokestatic 53, 3) := by decide +kernel
theorem dX3_workOut_182 : decode cX3_workOut 182 = .ok (.iinc 4 1, 3) := by decide +kernel
theorem dX3_workOut_185 : decode cX3_workOut 185 = .ok (.goto (-42), 3) := by decide +kernel
theorem dX3_workOut_188 : decode cX3_workOut 188 = .ok (.return_, 1) := by decide +kernel
set_option maxRecDepth 20000 in
theorem ggX3_isGust_X6_at : GoodIn wsX3_isGust wsX6_at := goodIn_r _ [4] (by decide +kernel) (by decide +kernel)
set_option maxRecDepth 20000 in
theorem gX3_isGust_X6_at_n81 : GoodIn wsX3_isGust (wsX6_at) := ggX3_isGust_X6_at
theorem dX3_isGust_0 : decode cX3_isGust 0 = .ok (.aload_n 0, 1) := by decide +kernel
theorem dX3_isGust_1 : decode cX3_isGust 1 = .ok (.getfield 21, 3) := by decide +kernel
theorem dX3_isGust_4 : decode cX3_isGust 4 = .ok (.iload_n 1, 1) := by decide +kernel
theorem dX3_isGust_5 : decode cX3_isGust 5 = .ok (.invokestatic 81, 3) := by decide +kernel
theorem dX3_isGust_8 : decode cX3_isGust 8 = .ok (.iconst 1, 1) := by decide +kernel
theorem dX3_isGust_9 : decode cX3_isGust 9 = .ok (.if_icmp .ne 7, 3) := by decide +kernel
theorem dX3_isGust_12 : decode cX3_isGust 12 = .ok (.iconst 1, 1) := by decide +kernel
theorem dX3_isGust_13 : decode cX3_isGust 13 = .ok (.goto 4, 3) := by decide +kernel
theorem dX3_isGust_16 : decode cX3_isGust 16 = .ok (.iconst 0, 1) := by decide +kernel
theorem dX3_isGust_17 : decode cX3_isGust 17 = .ok (.ireturn, 1) := by decide +kernel
set_option maxRecDepth 20000 in
theorem ggX3_rawHeight_X6_at : GoodIn wsX3_rawHeight wsX6_at := goodIn_r _ [4] (by decide +kernel) (by decide +kernel)
set_option maxRecDepth 20000 in
theorem gX3_rawHeight_X6_at_n81 : GoodIn wsX3_rawHeight (wsX6_at) := ggX3_rawHeight_X6_at
theorem dX3_rawHeight_0 : decode cX3_rawHeight 0 = .ok (.aload_n 0, 1) := by decide +kernel
theorem dX3_rawHeight_1 : decode cX3_rawHeight 1 = .ok (.getfield 18, 3) := by decide +kernel
theorem dX3_rawHeight_4 : decode cX3_rawHeight 4 = .ok (.iload_n 1, 1) := by decide +kernel
theorem dX3_rawHeight_5 : decode cX3_rawHeight 5 = .ok (.invokestatic 81, 3) := by decide +kernel
theorem dX3_rawHeight_8 : decode cX3_rawHeight 8 = .ok (.ireturn, 1) := by decide +kernel
set_option maxRecDepth 20000 in
theorem ggX3_isGood_X6_at : GoodIn wsX3_isGood wsX6_at := goodIn_r _ [6] (by decide +kernel) (by decide +kernel)
set_option maxRecDepth 20000 in
theorem gX3_isGood_X6_at_n81 : GoodIn wsX3_isGood (wsX6_at) := ggX3_isGood_X6_at
theorem dX3_isGood_0 : decode cX3_isGood 0 = .ok (.aload_n 0, 1) := by decide +kernel
theorem dX3_isGood_1 : decode cX3_isGood 1 = .ok (.getfield 18, 3) := by decide +kernel
theorem dX3_isGood_4 : decode cX3_isGood 4 = .ok (.iload_n 1, 1) := by decide +kernel
theorem dX3_isGood_5 : decode cX3_isGood 5 = .ok (.invokestatic 81, 3) := by decide +kernel
theorem dX3_isGood_8 : decode cX3_isGood 8 = .ok (.ldc 85, 2) := by decide +kernel
theorem dX3_isGood_10 : decode cX3_isGood 10 = .ok (.if_icmp .eq 18, 3) := by decide +kernel
theorem dX3_isGood_13 : decode cX3_isGood 13 = .ok (.aload_n 0, 1) := by decide +kernel
theorem dX3_isGood_14 : decode cX3_isGood 14 = .ok (.getfield 21, 3) := by decide +kernel
theorem dX3_isGood_17 : decode cX3_isGood 17 = .ok (.iload_n 1, 1) := by decide +kernel
theorem dX3_isGood_18 : decode cX3_isGood 18 = .ok (.invokestatic 81, 3) := by decide +kernel
theorem dX3_isGood_21 : decode cX3_isGood 21 = .ok (.ifCond .ne 7, 3) := by decide +kernel
theorem dX3_isGood_24 : decode cX3_isGood 24 = .ok (.iconst 1, 1) := by decide +kernel
theorem dX3_isGood_25 : decode cX3_isGood 25 = .ok (.goto 4, 3) := by decide +kernel
theorem dX3_isGood_28 : decode cX3_isGood 28 = .ok (.iconst 0, 1) := by decide +kernel
theorem dX3_isGood_29 : decode cX3_isGood 29 = .ok (.ireturn, 1) := by decide +kernel
set_option maxRecDepth 20000 in
theorem ggX3_openLoopOf_X6_at : GoodIn wsX3_openLoopOf wsX6_at := goodIn_r _ [4] (by decide +kernel) (by decide +kernel)
set_option maxRecDepth 20000 in
theorem gX3_openLoopOf_X6_at_n81 : GoodIn wsX3_openLoopOf (wsX6_at) := ggX3_openLoopOf_X6_at
theorem dX3_openLoopOf_0 : decode cX3_openLoopOf 0 = .ok (.aload_n 0, 1) := by decide +kernel
theorem dX3_openLoopOf_1 : decode cX3_openLoopOf 1 = .ok (.getfield 24, 3) := by decide +kernel
theorem dX3_openLoopOf_4 : decode cX3_openLoopOf 4 = .ok (.iload_n 1, 1) := by decide +kernel
theorem dX3_openLoopOf_5 : decode cX3_openLoopOf 5 = .ok (.invokestatic 81, 3) := by decide +kernel
theorem dX3_openLoopOf_8 : decode cX3_openLoopOf 8 = .ok (.ireturn, 1) := by decide +kernel
set_option maxRecDepth 20000 in
theorem ggX3_correctedHeight_X6_at : GoodIn wsX3_correctedHeight wsX6_at := goodIn_r _ [4] (by decide +kernel) (by decide +kernel)
set_option maxRecDepth 20000 in
theorem gX3_correctedHeight_X6_at_n81 : GoodIn wsX3_correctedHeight (wsX6_at) := ggX3_correctedHeight_X6_at
theorem dX3_correctedHeight_0 : decode cX3_correctedHeight 0 = .ok (.aload_n 0, 1) := by decide +kernel
theorem dX3_correctedHeight_1 : decode cX3_correctedHeight 1 = .ok (.getfield 27, 3) := by decide +kernel
theorem dX3_correctedHeight_4 : decode cX3_correctedHeight 4 = .ok (.iload_n 1, 1) := by decide +kernel
theorem dX3_correctedHeight_5 : decode cX3_correctedHeight 5 = .ok (.invokestatic 81, 3) := by decide +kernel
theorem dX3_correctedHeight_8 : decode cX3_correctedHeight 8 = .ok (.ireturn, 1) := by decide +kernel
set_option maxRecDepth 20000 in
theorem ggX3_begin_X6_at : GoodIn wsX3_begin wsX6_at := goodIn_r _ [4] (by decide +kernel) (by decide +kernel)
set_option maxRecDepth 20000 in
theorem gX3_begin_X6_at_n81 : GoodIn wsX3_begin (wsX6_at) := ggX3_begin_X6_at
theorem dX3_begin_0 : decode cX3_begin 0 = .ok (.aload_n 0, 1) := by decide +kernel
theorem dX3_begin_1 : decode cX3_begin 1 = .ok (.getfield 30, 3) := by decide +kernel
theorem dX3_begin_4 : decode cX3_begin 4 = .ok (.iload_n 1, 1) := by decide +kernel
theorem dX3_begin_5 : decode cX3_begin 5 = .ok (.invokestatic 81, 3) := by decide +kernel
theorem dX3_begin_8 : decode cX3_begin 8 = .ok (.ireturn, 1) := by decide +kernel
set_option maxRecDepth 20000 in
theorem ggX3_end_X6_at : GoodIn wsX3_end wsX6_at := goodIn_r _ [4] (by decide +kernel) (by decide +kernel)
set_option maxRecDepth 20000 in
theorem gX3_end_X6_at_n81 : GoodIn wsX3_end (wsX6_at) := ggX3_end_X6_at
theorem dX3_end_0 : decode cX3_end 0 = .ok (.aload_n 0, 1) := by decide +kernel
theorem dX3_end_1 : decode cX3_end 1 = .ok (.getfield 33, 3) := by decide +kernel
theorem dX3_end_4 : decode cX3_end 4 = .ok (.iload_n 1, 1) := by decide +kernel
theorem dX3_end_5 : decode cX3_end 5 = .ok (.invokestatic 81, 3) := by decide +kernel
theorem dX3_end_8 : decode cX3_end 8 = .ok (.ireturn, 1) := by decide +kernel
set_option maxRecDepth 20000 in
theorem ggX3_minutes_X3_end : GoodIn wsX3_minutes wsX3_end := goodIn_r _ [6, 7, 8, 9, 10, 16, 17, 18, 19, 20, 21, 22, 23, 24, 25, 26, 27] (by decide +kernel) (by decide +kernel)
set_option maxRecDepth 20000 in
theorem gX3_minutes_X3_end : GoodIn wsX3_minutes (wsV RX3 86 RX3 yX3_end wsX3_end) := goodIn_app (goodIn_of _ (by decide +kernel)) ggX3_minutes_X3_end
set_option maxRecDepth 20000 in
theorem ggX3_minutes_X6_at : GoodIn wsX3_minutes wsX6_at := goodIn_r _ [10] (by decide +kernel) (by decide +kernel)
set_option maxRecDepth 20000 in
theorem gX3_minutes_X6_at_n81 : GoodIn wsX3_minutes (wsX6_at) := ggX3_minutes_X6_at
set_option maxRecDepth 20000 in
theorem ggX3_minutes_X3_begin : GoodIn wsX3_minutes wsX3_begin := goodIn_r _ [14, 15, 8, 9, 10, 16, 17, 18, 19, 20, 21, 22, 23, 24, 25, 26, 27] (by decide +kernel) (by decide +kernel)
set_option maxRecDepth 20000 in
theorem gX3_minutes_X3_begin : GoodIn wsX3_minutes (wsV RX3 89 RX3 yX3_begin wsX3_begin) := goodIn_app (goodIn_of _ (by decide +kernel)) ggX3_minutes_X3_begin
theorem dX3_minutes_0 : decode cX3_minutes 0 = .ok (.aload_n 0, 1) := by decide +kernel
theorem dX3_minutes_1 : decode cX3_minutes 1 = .ok (.getfield 9, 3) := by decide +kernel
theorem dX3_minutes_4 : decode cX3_minutes 4 = .ok (.aload_n 0, 1) := by decide +kernel
theorem dX3_minutes_5 : decode cX3_minutes 5 = .ok (.iload_n 1, 1) := by decide +kernel
theorem dX3_minutes_6 : decode cX3_minutes 6 = .ok (.invokevirtual 86, 3) := by decide +kernel
theorem dX3_minutes_9 : decode cX3_minutes 9 = .ok (.invokestatic 81, 3) := by decide +kernel
theorem dX3_minutes_12 : decode cX3_minutes 12 = .ok (.aload_n 0, 1) := by decide +kernel
theorem dX3_minutes_13 : decode cX3_minutes 13 = .ok (.getfield 9, 3) := by decide +kernel
theorem dX3_minutes_16 : decode cX3_minutes 16 = .ok (.aload_n 0, 1) := by decide +kernel
theorem dX3_minutes_17 : decode cX3_minutes 17 = .ok (.iload_n 1, 1) := by decide +kernel
theorem dX3_minutes_18 : decode cX3_minutes 18 = .ok (.invokevirtual 89, 3) := by decide +kernel
theorem dX3_minutes_21 : decode cX3_minutes 21 = .ok (.invokestatic 81, 3) := by decide +kernel
theorem dX3_minutes_24 : decode cX3_minutes 24 = .ok (.isub, 1) := by decide +kernel
theorem dX3_minutes_25 : decode cX3_minutes 25 = .ok (.ireturn, 1) := by decide +kernel
set_option maxRecDepth 20000 in
theorem ggX3_misclosure_X3_end : GoodIn wsX3_misclosure wsX3_end := goodIn_r _ [5, 6, 7, 8, 9, 20, 21, 22, 23, 24, 25, 26, 27, 28, 29, 30, 31] (by decide +kernel) (by decide +kernel)
set_option maxRecDepth 20000 in
theorem gX3_misclosure_X3_end : GoodIn wsX3_misclosure (wsV RX3 86 RX3 yX3_end wsX3_end) := goodIn_app (goodIn_of _ (by decide +kernel)) ggX3_misclosure_X3_end
set_option maxRecDepth 20000 in
theorem ggX3_misclosure_X3_rawHeight : GoodIn wsX3_misclosure wsX3_rawHeight := goodIn_r _ [13, 14, 7, 8, 9, 20, 21, 22, 23, 24, 25, 26, 27, 28, 29, 30, 31] (by decide +kernel) (by decide +kernel)
set_option maxRecDepth 20000 in
theorem gX3_misclosure_X3_rawHeight : GoodIn wsX3_misclosure (wsV RX3 92 RX3 yX3_rawHeight wsX3_rawHeight) := goodIn_app (goodIn_of _ (by decide +kernel)) ggX3_misclosure_X3_rawHeight
set_option maxRecDepth 20000 in
theorem ggX3_misclosure_X3_begin : GoodIn wsX3_misclosure wsX3_begin := goodIn_r _ [18, 19, 7, 8, 9, 20, 21, 22, 23, 24, 25, 26, 27, 28, 29, 30, 31] (by decide +kernel) (by decide +kernel)
set_option maxRecDepth 20000 in
theorem gX3_misclosure_X3_begin : GoodIn wsX3_misclosure (wsV RX3 89 RX3 yX3_begin wsX3_begin) := goodIn_app (goodIn_of _ (by decide +kernel)) ggX3_misclosure_X3_begin
theorem dX3_misclosure_0 : decode cX3_misclosure 0 = .ok (.aload_n 0, 1) := by decide +kernel
theorem dX3_misclosure_1 : decode cX3_misclosure 1 = .ok (.aload_n 0, 1) := by decide +kernel
theorem dX3_misclosure_2 : decode cX3_misclosure 2 = .ok (.iload_n 1, 1) := by decide +kernel
theorem dX3_misclosure_3 : decode cX3_misclosure 3 = .ok (.invokevirtual 86, 3) := by decide +kernel
theorem dX3_misclosure_6 : decode cX3_misclosure 6 = .ok (.invokevirtual 92, 3) := by decide +kernel
theorem dX3_misclosure_9 : decode cX3_misclosure 9 = .ok (.aload_n 0, 1) := by decide +kernel
theorem dX3_misclosure_10 : decode cX3_misclosure 10 = .ok (.aload_n 0, 1) := by decide +kernel
theorem dX3_misclosure_11 : decode cX3_misclosure 11 = .ok (.iload_n 1, 1) := by decide +kernel
theorem dX3_misclosure_12 : decode cX3_misclosure 12 = .ok (.invokevirtual 89, 3) := by decide +kernel
theorem dX3_misclosure_15 : decode cX3_misclosure 15 = .ok (.invokevirtual 92, 3) := by decide +kernel
theorem dX3_misclosure_18 : decode cX3_misclosure 18 = .ok (.isub, 1) := by decide +kernel
theorem dX3_misclosure_19 : decode cX3_misclosure 19 = .ok (.ireturn, 1) := by decide +kernel
set_option maxRecDepth 20000 in
theorem ggX3_misclosureBySteps_X3_begin : GoodIn wsX3_misclosureBySteps wsX3_begin := goodIn_r _ [6, 7, 8, 9, 10, 27, 28, 29, 30, 31, 32, 33, 34, 35, 36, 37, 38] (by decide +kernel) (by decide +kernel)
set_option maxRecDepth 20000 in
theorem gX3_misclosureBySteps_X3_begin : GoodIn wsX3_misclosureBySteps (wsV RX3 89 RX3 yX3_begin wsX3_begin) := goodIn_app (goodIn_of _ (by decide +kernel)) ggX3_misclosureBySteps_X3_begin
set_option maxRecDepth 20000 in
theorem ggX3_misclosureBySteps_X3_rawHeight : GoodIn wsX3_misclosureBySteps wsX3_rawHeight := goodIn_r _ [14, 15, 8, 9, 10, 27, 28, 29, 30, 31, 32, 33, 34, 35, 36, 37, 38] (by decide +kernel) (by decide +kernel)
set_option maxRecDepth 20000 in
theorem gX3_misclosureBySteps_X3_rawHeight : GoodIn wsX3_misclosureBySteps (wsV RX3 92 RX3 yX3_rawHeight wsX3_rawHeight) := goodIn_app (goodIn_of _ (by decide +kernel)) ggX3_misclosureBySteps_X3_rawHeight
set_option maxRecDepth 20000 in
theorem ggX3_misclosureBySteps_X3_end : GoodIn wsX3_misclosureBySteps wsX3_end := goodIn_r _ [19, 20, 8, 9, 10, 27, 28, 29, 30, 31, 32, 33, 34, 35, 36, 37, 38] (by decide +kernel) (by decide +kernel)
set_option maxRecDepth 20000 in
theorem gX3_misclosureBySteps_X3_end : GoodIn wsX3_misclosureBySteps (wsV RX3 86 RX3 yX3_end wsX3_end) := goodIn_app (goodIn_of _ (by decide +kernel)) ggX3_misclosureBySteps_X3_end
set_option maxRecDepth 20000 in
theorem ggX3_misclosureBySteps_X3_isGood : GoodIn wsX3_misclosureBySteps wsX3_isGood := goodIn_r _ [24, 15, 25, 26, 8, 9, 10, 27, 28, 29, 30, 31, 32, 33, 34, 35, 36, 37, 38] (by decide +kernel) (by decide +kernel)
set_option maxRecDepth 20000 in
theorem gX3_misclosureBySteps_X3_isGood : GoodIn wsX3_misclosureBySteps (wsV RX3 95 RX3 yX3_isGood wsX3_isGood) := goodIn_app (goodIn_of _ (by decide +kernel)) ggX3_misclosureBySteps_X3_isGood
theorem dX3_misclosureBySteps_0 : decode cX3_misclosureBySteps 0 = .ok (.iconst 0, 1) := by decide +kernel
theorem dX3_misclosureBySteps_1 : decode cX3_misclosureBySteps 1 = .ok (.istore_n 2, 1) := by decide +kernel
theorem dX3_misclosureBySteps_2 : decode cX3_misclosureBySteps 2 = .ok (.aload_n 0, 1) := by decide +kernel
theorem dX3_misclosureBySteps_3 : decode cX3_misclosureBySteps 3 = .ok (.aload_n 0, 1) := by decide +kernel
theorem dX3_misclosureBySteps_4 : decode cX3_misclosureBySteps 4 = .ok (.iload_n 1, 1) := by decide +kernel
theorem dX3_misclosureBySteps_5 : decode cX3_misclosureBySteps 5 = .ok (.invokevirtual 89, 3) := by decide +kernel
theorem dX3_misclosureBySteps_8 : decode cX3_misclosureBySteps 8 = .ok (.invokevirtual 92, 3) := by decide +kernel
theorem dX3_misclosureBySteps_11 : decode cX3_misclosureBySteps 11 = .ok (.istore_n 3, 1) := by decide +kernel
theorem dX3_misclosureBySteps_12 : decode cX3_misclosureBySteps 12 = .ok (.aload_n 0, 1) := by decide +kernel
theorem dX3_misclosureBySteps_13 : decode cX3_misclosureBySteps 13 = .ok (.iload_n 1, 1) := by decide +kernel
theorem dX3_misclosureBySteps_14 : decode cX3_misclosureBySteps 14 = .ok (.invokevirtual 89, 3) := by decide +kernel
theorem dX3_misclosureBySteps_17 : decode cX3_misclosureBySteps 17 = .ok (.iconst 1, 1) := by decide +kernel
theorem dX3_misclosureBySteps_18 : decode cX3_misclosureBySteps 18 = .ok (.iadd, 1) := by decide +kernel
theorem dX3_misclosureBySteps_19 : decode cX3_misclosureBySteps 19 = .ok (.istore 4, 2) := by decide +kernel
theorem dX3_misclosureBySteps_21 : decode cX3_misclosureBySteps 21 = .ok (.iload 4, 2) := by decide +kernel
theorem dX3_misclosureBySteps_23 : decode cX3_misclosureBySteps 23 = .ok (.aload_n 0, 1) := by decide +kernel
theorem dX3_misclosureBySteps_24 : decode cX3_misclosureBySteps 24 = .ok (.iload_n 1, 1) := by decide +kernel
theorem dX3_misclosureBySteps_25 : decode cX3_misclosureBySteps 25 = .ok (.invokevirtual 86, 3) := by decide +kernel
theorem dX3_misclosureBySteps_28 : decode cX3_misclosureBySteps 28 = .ok (.if_icmp .gt 45, 3) := by decide +kernel
theorem dX3_misclosureBySteps_31 : decode cX3_misclosureBySteps 31 = .ok (.iload 4, 2) := by decide +kernel
theorem dX3_misclosureBySteps_33 : decode cX3_misclosureBySteps 33 = .ok (.aload_n 0, 1) := by decide +kernel
theorem dX3_misclosureBySteps_34 : decode cX3_misclosureBySteps 34 = .ok (.getfield 48, 3) := by decide +kernel
theorem dX3_misclosureBySteps_37 : decode cX3_misclosureBySteps 37 = .ok (.if_icmp .ge 36, 3) := by decide +kernel
theorem dX3_misclosureBySteps_40 : decode cX3_misclosureBySteps 40 = .ok (.aload_n 0, 1) := by decide +kernel
theorem dX3_misclosureBySteps_41 : decode cX3_misclosureBySteps 41 = .ok (.iload 4, 2) := by decide +kernel
theorem dX3_misclosureBySteps_43 : decode cX3_misclosureBySteps 43 = .ok (.invokevirtual 95, 3) := by decide +kernel
theorem dX3_misclosureBySteps_46 : decode cX3_misclosureBySteps 46 = .ok (.ifCond .eq 21, 3) := by decide +kernel
theorem dX3_misclosureBySteps_49 : decode cX3_misclosureBySteps 49 = .ok (.iload_n 2, 1) := by decide +kernel
theorem dX3_misclosureBySteps_50 : decode cX3_misclosureBySteps 50 = .ok (.aload_n 0, 1) := by decide +kernel
theorem dX3_misclosureBySteps_51 : decode cX3_misclosureBySteps 51 = .ok (.iload 4, 2) := by decide +kernel
theorem dX3_misclosureBySteps_53 : decode cX3_misclosureBySteps 53 = .ok (.invokevirtual 92, 3) := by decide +kernel
theorem dX3_misclosureBySteps_56 : decode cX3_misclosureBySteps 56 = .ok (.iload_n 3, 1) := by decide +kernel
theorem dX3_misclosureBySteps_57 : decode cX3_misclosureBySteps 57 = .ok (.isub, 1) := by decide +kernel
theorem dX3_misclosureBySteps_58 : decode cX3_misclosureBySteps 58 = .ok (.iadd, 1) := by decide +kernel
theorem dX3_misclosureBySteps_59 : decode cX3_misclosureBySteps 59 = .ok (.istore_n 2, 1) := by decide +kernel
theorem dX3_misclosureBySteps_60 : decode cX3_misclosureBySteps 60 = .ok (.aload_n 0, 1) := by decide +kernel
theorem dX3_misclosureBySteps_61 : decode cX3_misclosureBySteps 61 = .ok (.iload 4, 2) := by decide +kernel
theorem dX3_misclosureBySteps_63 : decode cX3_misclosureBySteps 63 = .ok (.invokevirtual 92, 3) := by decide +kernel
theorem dX3_misclosureBySteps_66 : decode cX3_misclosureBySteps 66 = .ok (.istore_n 3, 1) := by decide +kernel
theorem dX3_misclosureBySteps_67 : decode cX3_misclosureBySteps 67 = .ok (.iinc 4 1, 3) := by decide +kernel
theorem dX3_misclosureBySteps_70 : decode cX3_misclosureBySteps 70 = .ok (.goto (-49), 3) := by decide +kernel
theorem dX3_misclosureBySteps_73 : decode cX3_misclosureBySteps 73 = .ok (.iload_n 2, 1) := by decide +kernel
theorem dX3_misclosureBySteps_74 : decode cX3_misclosureBySteps 74 = .ok (.ireturn, 1) := by decide +kernel
set_option maxRecDepth 20000 in
theorem ggX3_addTo_X3_isGood : GoodIn wsX3_addTo wsX3_isGood := goodIn_r _ [7, 8, 9, 10, 11, 12, 13, 49, 50, 51, 52, 53, 54, 55, 56, 57, 58, 59, 60] (by decide +kernel) (by decide +kernel)
set_option maxRecDepth 20000 in
theorem gX3_addTo_X3_isGood : GoodIn wsX3_addTo (wsV RX3 95 RX3 yX3_isGood wsX3_isGood) := goodIn_app (goodIn_of _ (by decide +kernel)) ggX3_addTo_X3_isGood
set_option maxRecDepth 20000 in
theorem ggX3_addTo_X6_at : GoodIn wsX3_addTo wsX6_at := goodIn_r _ [13] (by decide +kernel) (by decide +kernel)
set_option maxRecDepth 20000 in
theorem gX3_addTo_X6_at_n81 : GoodIn wsX3_addTo (wsX6_at) := ggX3_addTo_X6_at
set_option maxRecDepth 20000 in
theorem ggX3_addTo_X3_endsOpenLoop : GoodIn wsX3_addTo wsX3_endsOpenLoop := goodIn_r _ [17, 18, 19, 20, 6, 21, 22, 11, 12, 13, 23, 24, 25, 26, 27, 49, 50, 51, 52, 53, 54, 55, 56, 57, 58, 59, 60] (by decide +kernel) (by decide +kernel)
set_option maxRecDepth 20000 in
theorem gX3_addTo_X3_endsOpenLoop : GoodIn wsX3_addTo (wsV RX3 99 RX3 yX3_endsOpenLoop wsX3_endsOpenLoop) := goodIn_app (goodIn_of _ (by decide +kernel)) ggX3_addTo_X3_endsOpenLoop
set_option maxRecDepth 20000 in
theorem ggX3_addTo_X3_correctedHeight : GoodIn wsX3_addTo wsX3_correctedHeight := goodIn_r _ [31, 32, 11, 12, 13, 49, 50, 51, 52, 53, 54, 55, 56, 57, 58, 59, 60] (by decide +kernel) (by decide +kernel)
set_option maxRecDepth 20000 in
theorem gX3_addTo_X3_correctedHeight : GoodIn wsX3_addTo (wsV RX3 102 RX3 yX3_correctedHeight wsX3_correctedHeight) := goodIn_app (goodIn_of _ (by decide +kernel)) ggX3_addTo_X3_correctedHeight
set_option maxRecDepth 20000 in
theorem ggX3_addTo_X1_add : GoodIn wsX3_addTo wsX1_add := goodIn_r _ [37, 38, 39, 40, 41, 42, 43, 44, 45, 46, 47, 48, 61, 62, 63, 64] (by decide +kernel) (by decide +kernel)
set_option maxRecDepth 20000 in
theorem gX3_addTo_X1_add : GoodIn wsX3_addTo (wsV RX3 105 RX1 yX1_add wsX1_add) := goodIn_app (goodIn_of _ (by decide +kernel)) ggX3_addTo_X1_add
theorem dX3_addTo_0 : decode cX3_addTo 0 = .ok (.iconst 0, 1) := by decide +kernel
theorem dX3_addTo_1 : decode cX3_addTo 1 = .ok (.istore_n 3, 1) := by decide +kernel
theorem dX3_addTo_2 : decode cX3_addTo 2 = .ok (.iload_n 3, 1) := by decide +kernel
theorem dX3_addTo_3 : decode cX3_addTo 3 = .ok (.aload_n 0, 1) := by decide +kernel
theorem dX3_addTo_4 : decode cX3_addTo 4 = .ok (.getfield 48, 3) := by decide +kernel
theorem dX3_addTo_7 : decode cX3_addTo 7 = .ok (.if_icmp .ge 46, 3) := by decide +kernel
theorem dX3_addTo_10 : decode cX3_addTo 10 = .ok (.aload_n 0, 1) := by decide +kernel
theorem dX3_addTo_11 : decode cX3_addTo 11 = .ok (.iload_n 3, 1) := by decide +kernel
theorem dX3_addTo_12 : decode cX3_addTo 12 = .ok (.invokevirtual 95, 3) := by decide +kernel
theorem dX3_addTo_15 : decode cX3_addTo 15 = .ok (.ifCond .eq 32, 3) := by decide +kernel
theorem dX3_addTo_18 : decode cX3_addTo 18 = .ok (.aload_n 0, 1) := by decide +kernel
theorem dX3_addTo_19 : decode cX3_addTo 19 = .ok (.getfield 15, 3) := by decide +kernel
theorem dX3_addTo_22 : decode cX3_addTo 22 = .ok (.iload_n 3, 1) := by decide +kernel
theorem dX3_addTo_23 : decode cX3_addTo 23 = .ok (.invokestatic 81, 3) := by decide +kernel
theorem dX3_addTo_26 : decode cX3_addTo 26 = .ok (.iload_n 2, 1) := by decide +kernel
theorem dX3_addTo_27 : decode cX3_addTo 27 = .ok (.if_icmp .ne 20, 3) := by decide +kernel
theorem dX3_addTo_30 : decode cX3_addTo 30 = .ok (.aload_n 0, 1) := by decide +kernel
theorem dX3_addTo_31 : decode cX3_addTo 31 = .ok (.iload_n 3, 1) := by decide +kernel
theorem dX3_addTo_32 : decode cX3_addTo 32 = .ok (.invokevirtual 99, 3) := by decide +kernel
theorem dX3_addTo_35 : decode cX3_addTo 35 = .ok (.ifCond .ne 12, 3) := by decide +kernel
theorem dX3_addTo_38 : decode cX3_addTo 38 = .ok (.aload_n 1, 1) := by decide +kernel
theorem dX3_addTo_39 : decode cX3_addTo 39 = .ok (.aload_n 0, 1) := by decide +kernel
theorem dX3_addTo_40 : decode cX3_addTo 40 = .ok (.iload_n 3, 1) := by decide +kernel
theorem dX3_addTo_41 : decode cX3_addTo 41 = .ok (.invokevirtual 102, 3) := by decide +kernel
theorem dX3_addTo_44 : decode cX3_addTo 44 = .ok (.invokevirtual 105, 3) := by decide +kernel
theorem dX3_addTo_47 : decode cX3_addTo 47 = .ok (.iinc 3 1, 3) := by decide +kernel
theorem dX3_addTo_50 : decode cX3_addTo 50 = .ok (.goto (-48), 3) := by decide +kernel
theorem dX3_addTo_53 : decode cX3_addTo 53 = .ok (.return_, 1) := by decide +kernel
set_option maxRecDepth 20000 in
theorem ggX3_endsOpenLoop_X3_openLoopOf : GoodIn wsX3_endsOpenLoop wsX3_openLoopOf := goodIn_r _ [5, 6, 7, 8, 9, 15, 16, 17, 18, 19, 20, 21, 22, 23, 24, 25, 26] (by decide +kernel) (by decide +kernel)
set_option maxRecDepth 20000 in
theorem gX3_endsOpenLoop_X3_openLoopOf : GoodIn wsX3_endsOpenLoop (wsV RX3 111 RX3 yX3_openLoopOf wsX3_openLoopOf) := goodIn_app (goodIn_of _ (by decide +kernel)) ggX3_endsOpenLoop_X3_openLoopOf
set_option maxRecDepth 20000 in
theorem ggX3_endsOpenLoop_X3_end : GoodIn wsX3_endsOpenLoop wsX3_end := goodIn_r _ [13, 14, 7, 8, 9, 15, 16, 17, 18, 19, 20, 21, 22, 23, 24, 25, 26] (by decide +kernel) (by decide +kernel)
set_option maxRecDepth 20000 in
theorem gX3_endsOpenLoop_X3_end : GoodIn wsX3_endsOpenLoop (wsV RX3 86 RX3 yX3_end wsX3_end) := goodIn_app (goodIn_of _ (by decide +kernel)) ggX3_endsOpenLoop_X3_end
theorem dX3_endsOpenLoop_0 : decode cX3_endsOpenLoop 0 = .ok (.aload_n 0, 1) := by decide +kernel
theorem dX3_endsOpenLoop_1 : decode cX3_endsOpenLoop 1 = .ok (.iload_n 1, 1) := by decide +kernel
theorem dX3_endsOpenLoop_2 : decode cX3_endsOpenLoop 2 = .ok (.invokevirtual 111, 3) := by decide +kernel
theorem dX3_endsOpenLoop_5 : decode cX3_endsOpenLoop 5 = .ok (.istore_n 2, 1) := by decide +kernel
theorem dX3_endsOpenLoop_6 : decode cX3_endsOpenLoop 6 = .ok (.iload_n 2, 1) := by decide +kernel
theorem dX3_endsOpenLoop_7 : decode cX3_endsOpenLoop 7 = .ok (.iconst (-1), 1) := by decide +kernel
theorem dX3_endsOpenLoop_8 : decode cX3_endsOpenLoop 8 = .ok (.if_icmp .eq 16, 3) := by decide +kernel
theorem dX3_endsOpenLoop_11 : decode cX3_endsOpenLoop 11 = .ok (.aload_n 0, 1) := by decide +kernel
theorem dX3_endsOpenLoop_12 : decode cX3_endsOpenLoop 12 = .ok (.iload_n 2, 1) := by decide +kernel
theorem dX3_endsOpenLoop_13 : decode cX3_endsOpenLoop 13 = .ok (.invokevirtual 86, 3) := by decide +kernel
theorem dX3_endsOpenLoop_16 : decode cX3_endsOpenLoop 16 = .ok (.iload_n 1, 1) := by decide +kernel
theorem dX3_endsOpenLoop_17 : decode cX3_endsOpenLoop 17 = .ok (.if_icmp .ne 7, 3) := by decide +kernel
theorem dX3_endsOpenLoop_20 : decode cX3_endsOpenLoop 20 = .ok (.iconst 1, 1) := by decide +kernel
theorem dX3_endsOpenLoop_21 : decode cX3_endsOpenLoop 21 = .ok (.goto 4, 3) := by decide +kernel
theorem dX3_endsOpenLoop_24 : decode cX3_endsOpenLoop 24 = .ok (.iconst 0, 1) := by decide +kernel
theorem dX3_endsOpenLoop_25 : decode cX3_endsOpenLoop 25 = .ok (.ireturn, 1) := by decide +kernel
set_option maxRecDepth 20000 in
theorem ggX3_countKinds_X3_isGust : GoodIn wsX3_countKinds wsX3_isGust := goodIn_r _ [8, 9, 10, 11, 12, 19, 20, 21, 22, 23, 24, 25, 26, 27, 28, 29, 30] (by decide +kernel) (by decide +kernel)
set_option maxRecDepth 20000 in
theorem gX3_countKinds_X3_isGust : GoodIn wsX3_countKinds (wsV RX3 120 RX3 yX3_isGust wsX3_isGust) := goodIn_app (goodIn_of _ (by decide +kernel)) ggX3_countKinds_X3_isGust
set_option maxRecDepth 20000 in
theorem ggX3_countKinds_X3_isGood : GoodIn wsX3_countKinds wsX3_isGood := goodIn_r _ [16, 17, 18, 9, 10, 11, 12, 19, 20, 21, 22, 23, 24, 25, 26, 27, 28, 29, 30] (by decide +kernel) (by decide +kernel)
set_option maxRecDepth 20000 in
theorem gX3_countKinds_X3_isGood : GoodIn wsX3_countKinds (wsV RX3 95 RX3 yX3_isGood wsX3_isGood) := goodIn_app (goodIn_of _ (by decide +kernel)) ggX3_countKinds_X3_isGood
theorem dX3_countKinds_0 : decode cX3_countKinds 0 = .ok (.aload_n 0, 1) := by decide +kernel
theorem dX3_countKinds_1 : decode cX3_countKinds 1 = .ok (.iconst 0, 1) := by decide +kernel
theorem dX3_countKinds_2 : decode cX3_countKinds 2 = .ok (.putfield 114, 3) := by decide +kernel
theorem dX3_countKinds_5 : decode cX3_countKinds 5 = .ok (.aload_n 0, 1) := by decide +kernel
theorem dX3_countKinds_6 : decode cX3_countKinds 6 = .ok (.iconst 0, 1) := by decide +kernel
theorem dX3_countKinds_7 : decode cX3_countKinds 7 = .ok (.putfield 117, 3) := by decide +kernel
theorem dX3_countKinds_10 : decode cX3_countKinds 10 = .ok (.iconst 0, 1) := by decide +kernel
theorem dX3_countKinds_11 : decode cX3_countKinds 11 = .ok (.istore_n 1, 1) := by decide +kernel
theorem dX3_countKinds_12 : decode cX3_countKinds 12 = .ok (.iload_n 1, 1) := by decide +kernel
theorem dX3_countKinds_13 : decode cX3_countKinds 13 = .ok (.aload_n 0, 1) := by decide +kernel
theorem dX3_countKinds_14 : decode cX3_countKinds 14 = .ok (.getfield 48, 3) := by decide +kernel
theorem dX3_countKinds_17 : decode cX3_countKinds 17 = .ok (.if_icmp .ge 53, 3) := by decide +kernel
theorem dX3_countKinds_20 : decode cX3_countKinds 20 = .ok (.aload_n 0, 1) := by decide +kernel
theorem dX3_countKinds_21 : decode cX3_countKinds 21 = .ok (.dup, 1) := by decide +kernel
theorem dX3_countKinds_22 : decode cX3_countKinds 22 = .ok (.getfield 114, 3) := by decide +kernel
theorem dX3_countKinds_25 : decode cX3_countKinds 25 = .ok (.aload_n 0, 1) := by decide +kernel
theorem dX3_countKinds_26 : decode cX3_countKinds 26 = .ok (.iload_n 1, 1) := by decide +kernel
theorem dX3_countKinds_27 : decode cX3_countKinds 27 = .ok (.invokevirtual 120, 3) := by decide +kernel
theorem dX3_countKinds_30 : decode cX3_countKinds 30 = .ok (.ifCond .eq 7, 3) := by decide +kernel
theorem dX3_countKinds_33 : decode cX3_countKinds 33 = .ok (.iconst 1, 1) := by decide +kernel
theorem dX3_countKinds_34 : decode cX3_countKinds 34 = .ok (.goto 4, 3) := by decide +kernel
theorem dX3_countKinds_37 : decode cX3_countKinds 37 = .ok (.iconst 0, 1) := by decide +kernel
theorem dX3_countKinds_38 : decode cX3_countKinds 38 = .ok (.iadd, 1) := by decide +kernel
theorem dX3_countKinds_39 : decode cX3_countKinds 39 = .ok (.putfield 114, 3) := by decide +kernel
theorem dX3_countKinds_42 : decode cX3_countKinds 42 = .ok (.aload_n 0, 1) := by decide +kernel
theorem dX3_countKinds_43 : decode cX3_countKinds 43 = .ok (.dup, 1) := by decide +kernel
theorem dX3_countKinds_44 : decode cX3_countKinds 44 = .ok (.getfield 117, 3) := by decide +kernel
theorem dX3_countKinds_47 : decode cX3_countKinds 47 = .ok (.aload_n 0, 1) := by decide +kernel
theorem dX3_countKinds_48 : decode cX3_countKinds 48 = .ok (.iload_n 1, 1) := by decide +kernel
theorem dX3_countKinds_49 : decode cX3_countKinds 49 = .ok (.invokevirtual 95, 3) := by decide +kernel
theorem dX3_countKinds_52 : decode cX3_countKinds 52 = .ok (.ifCond .eq 7, 3) := by decide +kernel
theorem dX3_countKinds_55 : decode cX3_countKinds 55 = .ok (.iconst 1, 1) := by decide +kernel
theorem dX3_countKinds_56 : decode cX3_countKinds 56 = .ok (.goto 4, 3) := by decide +kernel
theorem dX3_countKinds_59 : decode cX3_countKinds 59 = .ok (.iconst 0, 1) := by decide +kernel
theorem dX3_countKinds_60 : decode cX3_countKinds 60 = .ok (.iadd, 1) := by decide +kernel
theorem dX3_countKinds_61 : decode cX3_countKinds 61 = .ok (.putfield 117, 3) := by decide +kernel
theorem dX3_countKinds_64 : decode cX3_countKinds 64 = .ok (.iinc 1 1, 3) := by decide +kernel
theorem dX3_countKinds_67 : decode cX3_countKinds 67 = .ok (.goto (-55), 3) := by decide +kernel
theorem dX3_countKinds_70 : decode cX3_countKinds 70 = .ok (.return_, 1) := by decide +kernel
set_option maxRecDepth 20000 in
theorem ggX3_findLoops_X3_isGood : GoodIn wsX3_findLoops wsX3_isGood := goodIn_r _ [9, 10, 11, 12, 13, 14, 15, 23, 24, 25, 26, 27, 28, 29, 30, 31, 32, 33, 34] (by decide +kernel) (by decide +kernel)
set_option maxRecDepth 20000 in
theorem gX3_findLoops_X3_isGood : GoodIn wsX3_findLoops (wsV RX3 95 RX3 yX3_isGood wsX3_isGood) := goodIn_app (goodIn_of _ (by decide +kernel)) ggX3_findLoops_X3_isGood
set_option maxRecDepth 20000 in
theorem ggX3_findLoops_X3_lastVisit : GoodIn wsX3_findLoops wsX3_lastVisit := goodIn_r _ [19, 20, 13, 14, 15, 5, 6, 7, 8, 9, 10, 11, 12, 23, 24, 25, 26, 27, 28, 29, 30, 31, 32, 33, 34] (by decide +kernel) (by decide +kernel)
set_option maxRecDepth 20000 in
theorem gX3_findLoops_X3_lastVisit : GoodIn wsX3_findLoops (wsV RX3 126 RX3 yX3_lastVisit wsX3_lastVisit) := goodIn_app (goodIn_of _ (by decide +kernel)) ggX3_findLoops_X3_lastVisit
set_option maxRecDepth 20000 in
theorem ggX3_findLoops_X6_put : GoodIn wsX3_findLoops wsX6_put := goodIn_r _ [22] (by decide +kernel) (by decide +kernel)
set_option maxRecDepth 20000 in
theorem gX3_findLoops_X6_put_n53 : GoodIn wsX3_findLoops (wsX6_put) := ggX3_findLoops_X6_put
theorem dX3_findLoops_0 : decode cX3_findLoops 0 = .ok (.aload_n 0, 1) := by decide +kernel
theorem dX3_findLoops_1 : decode cX3_findLoops 1 = .ok (.iconst 0, 1) := by decide +kernel
theorem dX3_findLoops_2 : decode cX3_findLoops 2 = .ok (.putfield 123, 3) := by decide +kernel
theorem dX3_findLoops_5 : decode cX3_findLoops 5 = .ok (.iconst 0, 1) := by decide +kernel
theorem dX3_findLoops_6 : decode cX3_findLoops 6 = .ok (.istore_n 1, 1) := by decide +kernel
theorem dX3_findLoops_7 : decode cX3_findLoops 7 = .ok (.iload_n 1, 1) := by decide +kernel
theorem dX3_findLoops_8 : decode cX3_findLoops 8 = .ok (.aload_n 0, 1) := by decide +kernel
theorem dX3_findLoops_9 : decode cX3_findLoops 9 = .ok (.getfield 48, 3) := by decide +kernel
theorem dX3_findLoops_12 : decode cX3_findLoops 12 = .ok (.if_icmp .ge 66, 3) := by decide +kernel
theorem dX3_findLoops_15 : decode cX3_findLoops 15 = .ok (.aload_n 0, 1) := by decide +kernel
theorem dX3_findLoops_16 : decode cX3_findLoops 16 = .ok (.iload_n 1, 1) := by decide +kernel
theorem dX3_findLoops_17 : decode cX3_findLoops 17 = .ok (.invokevirtual 95, 3) := by decide +kernel
theorem dX3_findLoops_20 : decode cX3_findLoops 20 = .ok (.ifCond .eq 11, 3) := by decide +kernel
theorem dX3_findLoops_23 : decode cX3_findLoops 23 = .ok (.aload_n 0, 1) := by decide +kernel
theorem dX3_findLoops_24 : decode cX3_findLoops 24 = .ok (.iload_n 1, 1) := by decide +kernel
theorem dX3_findLoops_25 : decode cX3_findLoops 25 = .ok (.invokevirtual 126, 3) := by decide +kernel
theorem dX3_findLoops_28 : decode cX3_findLoops 28 = .ok (.goto 4, 3) := by decide +kernel
theorem dX3_findLoops_31 : decode cX3_findLoops 31 = .ok (.iconst (-1), 1) := by decide +kernel
theorem dX3_findLoops_32 : decode cX3_findLoops 32 = .ok (.istore_n 2, 1) := by decide +kernel
theorem dX3_findLoops_33 : decode cX3_findLoops 33 = .ok (.iload_n 2, 1) := by decide +kernel
theorem dX3_findLoops_34 : decode cX3_findLoops 34 = .ok (.iconst (-1), 1) := by decide +kernel
theorem dX3_findLoops_35 : decode cX3_findLoops 35 = .ok (.if_icmp .eq 37, 3) := by decide +kernel
theorem dX3_findLoops_38 : decode cX3_findLoops 38 = .ok (.aload_n 0, 1) := by decide +kernel
theorem dX3_findLoops_39 : decode cX3_findLoops 39 = .ok (.getfield 30, 3) := by decide +kernel
theorem dX3_findLoops_42 : decode cX3_findLoops 42 = .ok (.aload_n 0, 1) := by decide +kernel
theorem dX3_findLoops_43 : decode cX3_findLoops 43 = .ok (.getfield 123, 3) := by decide +kernel
theorem dX3_findLoops_46 : decode cX3_findLoops 46 = .ok (.iload_n 2, 1) := by decide +kernel
theorem dX3_findLoops_47 : decode cX3_findLoops 47 = .ok (.invokestatic 53, 3) := by decide +kernel
theorem dX3_findLoops_50 : decode cX3_findLoops 50 = .ok (.aload_n 0, 1) := by decide +kernel
theorem dX3_findLoops_51 : decode cX3_findLoops 51 = .ok (.getfield 33, 3) := by decide +kernel
theorem dX3_findLoops_54 : decode cX3_findLoops 54 = .ok (.aload_n 0, 1) := by decide +kernel
theorem dX3_findLoops_55 : decode cX3_findLoops 55 = .ok (.getfield 123, 3) := by decide +kernel
theorem dX3_findLoops_58 : decode cX3_findLoops 58 = .ok (.iload_n 1, 1) := by decide +kernel
theorem dX3_findLoops_59 : decode cX3_findLoops 59 = .ok (.invokestatic 53, 3) := by decide +kernel
theorem dX3_findLoops_62 : decode cX3_findLoops 62 = .ok (.aload_n 0, 1) := by decide +kernel
theorem dX3_findLoops_63 : decode cX3_findLoops 63 = .ok (.dup, 1) := by decide +kernel
theorem dX3_findLoops_64 : decode cX3_findLoops 64 = .ok (.getfield 123, 3) := by decide +kernel
theorem dX3_findLoops_67 : decode cX3_findLoops 67 = .ok (.iconst 1, 1) := by decide +kernel
theorem dX3_findLoops_68 : decode cX3_findLoops 68 = .ok (.iadd, 1) := by decide +kernel
theorem dX3_findLoops_69 : decode cX3_findLoops 69 = .ok (.putfield 123, 3) := by decide +kernel
theorem dX3_findLoops_72 : decode cX3_findLoops 72 = .ok (.iinc 1 1, 3) := by decide +kernel
theorem dX3_findLoops_75 : decode cX3_findLoops 75 = .ok (.goto (-68), 3) := by decide +kernel
theorem dX3_findLoops_78 : decode cX3_findLoops 78 = .ok (.return_, 1) := by decide +kernel
set_option maxRecDepth 20000 in
theorem ggX3_lastVisit_X6_at : GoodIn wsX3_lastVisit wsX6_at := goodIn_r _ [4] (by decide +kernel) (by decide +kernel)
set_option maxRecDepth 20000 in
theorem gX3_lastVisit_X6_at_n81 : GoodIn wsX3_lastVisit (wsX6_at) := ggX3_lastVisit_X6_at
set_option maxRecDepth 20000 in
theorem ggX3_lastVisit_X3_isGood : GoodIn wsX3_lastVisit wsX3_isGood := goodIn_r _ [9, 10, 11, 12, 2, 3, 4, 13, 14, 15, 16, 17, 18, 19, 20, 21, 22, 23, 24] (by decide +kernel) (by decide +kernel)
set_option maxRecDepth 20000 in
theorem gX3_lastVisit_X3_isGood : GoodIn wsX3_lastVisit (wsV RX3 95 RX3 yX3_isGood wsX3_isGood) := goodIn_app (goodIn_of _ (by decide +kernel)) ggX3_lastVisit_X3_isGood
theorem dX3_lastVisit_0 : decode cX3_lastVisit 0 = .ok (.aload_n 0, 1) := by decide +kernel
theorem dX3_lastVisit_1 : decode cX3_lastVisit 1 = .ok (.getfield 15, 3) := by decide +kernel
theorem dX3_lastVisit_4 : decode cX3_lastVisit 4 = .ok (.iload_n 1, 1) := by decide +kernel
theorem dX3_lastVisit_5 : decode cX3_lastVisit 5 = .ok (.invokestatic 81, 3) := by decide +kernel
theorem dX3_lastVisit_8 : decode cX3_lastVisit 8 = .ok (.istore_n 2, 1) := by decide +kernel
theorem dX3_lastVisit_9 : decode cX3_lastVisit 9 = .ok (.iload_n 1, 1) := by decide +kernel
theorem dX3_lastVisit_10 : decode cX3_lastVisit 10 = .ok (.iconst 1, 1) := by decide +kernel
theorem dX3_lastVisit_11 : decode cX3_lastVisit 11 = .ok (.isub, 1) := by decide +kernel
theorem dX3_lastVisit_12 : decode cX3_lastVisit 12 = .ok (.istore_n 3, 1) := by decide +kernel
theorem dX3_lastVisit_13 : decode cX3_lastVisit 13 = .ok (.iload_n 3, 1) := by decide +kernel
theorem dX3_lastVisit_14 : decode cX3_lastVisit 14 = .ok (.ifCond .lt 31, 3) := by decide +kernel
theorem dX3_lastVisit_17 : decode cX3_lastVisit 17 = .ok (.aload_n 0, 1) := by decide +kernel
theorem dX3_lastVisit_18 : decode cX3_lastVisit 18 = .ok (.iload_n 3, 1) := by decide +kernel
theorem dX3_lastVisit_19 : decode cX3_lastVisit 19 = .ok (.invokevirtual 95, 3) := by decide +kernel
theorem dX3_lastVisit_22 : decode cX3_lastVisit 22 = .ok (.ifCond .eq 17, 3) := by decide +kernel
theorem dX3_lastVisit_25 : decode cX3_lastVisit 25 = .ok (.aload_n 0, 1) := by decide +kernel
theorem dX3_lastVisit_26 : decode cX3_lastVisit 26 = .ok (.getfield 15, 3) := by decide +kernel
theorem dX3_lastVisit_29 : decode cX3_lastVisit 29 = .ok (.iload_n 3, 1) := by decide +kernel
theorem dX3_lastVisit_30 : decode cX3_lastVisit 30 = .ok (.invokestatic 81, 3) := by decide +kernel
theorem dX3_lastVisit_33 : decode cX3_lastVisit 33 = .ok (.iload_n 2, 1) := by decide +kernel
theorem dX3_lastVisit_34 : decode cX3_lastVisit 34 = .ok (.if_icmp .ne 5, 3) := by decide +kernel
theorem dX3_lastVisit_37 : decode cX3_lastVisit 37 = .ok (.iload_n 3, 1) := by decide +kernel
theorem dX3_lastVisit_38 : decode cX3_lastVisit 38 = .ok (.ireturn, 1) := by decide +kernel
theorem dX3_lastVisit_39 : decode cX3_lastVisit 39 = .ok (.iinc 3 (-1), 3) := by decide +kernel
theorem dX3_lastVisit_42 : decode cX3_lastVisit 42 = .ok (.goto (-29), 3) := by decide +kernel
theorem dX3_lastVisit_45 : decode cX3_lastVisit 45 = .ok (.iconst (-1), 1) := by decide +kernel
theorem dX3_lastVisit_46 : decode cX3_lastVisit 46 = .ok (.ireturn, 1) := by decide +kernel
set_option maxRecDepth 20000 in
theorem ggX3_shortestLoop_X3_isGood : GoodIn wsX3_shortestLoop wsX3_isGood := goodIn_r _ [6, 7, 8, 9, 10, 11, 12, 28, 29, 30, 31, 32, 33, 34, 35, 36, 37, 38, 39] (by decide +kernel) (by decide +kernel)
set_option maxRecDepth 20000 in
theorem gX3_shortestLoop_X3_isGood : GoodIn wsX3_shortestLoop (wsV RX3 95 RX3 yX3_isGood wsX3_isGood) := goodIn_app (goodIn_of _ (by decide +kernel)) ggX3_shortestLoop_X3_isGood
set_option maxRecDepth 20000 in
theorem ggX3_shortestLoop_X3_begin : GoodIn wsX3_shortestLoop wsX3_begin := goodIn_r _ [16, 17, 10, 11, 12, 28, 29, 30, 31, 32, 33, 34, 35, 36, 37, 38, 39] (by decide +kernel) (by decide +kernel)
set_option maxRecDepth 20000 in
theorem gX3_shortestLoop_X3_begin : GoodIn wsX3_shortestLoop (wsV RX3 89 RX3 yX3_begin wsX3_begin) := goodIn_app (goodIn_of _ (by decide +kernel)) ggX3_shortestLoop_X3_begin
set_option maxRecDepth 20000 in
theorem ggX3_shortestLoop_X3_end : GoodIn wsX3_shortestLoop wsX3_end := goodIn_r _ [21, 22, 10, 11, 12, 28, 29, 30, 31, 32, 33, 34, 35, 36, 37, 38, 39] (by decide +kernel) (by decide +kernel)
set_option maxRecDepth 20000 in
theorem gX3_shortestLoop_X3_end : GoodIn wsX3_shortestLoop (wsV RX3 86 RX3 yX3_end wsX3_end) := goodIn_app (goodIn_of _ (by decide +kernel)) ggX3_shortestLoop_X3_end
set_option maxRecDepth 20000 in
theorem ggX3_shortestLoop_X3_minutes : GoodIn wsX3_shortestLoop wsX3_minutes := goodIn_r _ [26, 27, 18, 19, 20, 5, 21, 22, 10, 11, 12, 13, 14, 15, 16, 17, 28, 29, 30, 31, 32, 33, 34, 35, 36, 37, 38, 39] (by decide +kernel) (by decide +kernel)
set_option maxRecDepth 20000 in
theorem gX3_shortestLoop_X3_minutes : GoodIn wsX3_shortestLoop (wsV RX3 129 RX3 yX3_minutes wsX3_minutes) := goodIn_app (goodIn_of _ (by decide +kernel)) ggX3_shortestLoop_X3_minutes
theorem dX3_shortestLoop_0 : decode cX3_shortestLoop 0 = .ok (.iconst (-1), 1) := by decide +kernel
theorem dX3_shortestLoop_1 : decode cX3_shortestLoop 1 = .ok (.istore_n 2, 1) := by decide +kernel
theorem dX3_shortestLoop_2 : decode cX3_shortestLoop 2 = .ok (.aload_n 0, 1) := by decide +kernel
theorem dX3_shortestLoop_3 : decode cX3_shortestLoop 3 = .ok (.iload_n 1, 1) := by decide +kernel
theorem dX3_shortestLoop_4 : decode cX3_shortestLoop 4 = .ok (.invokevirtual 95, 3) := by decide +kernel
theorem dX3_shortestLoop_7 : decode cX3_shortestLoop 7 = .ok (.ifCond .ne 5, 3) := by decide +kernel
theorem dX3_shortestLoop_10 : decode cX3_shortestLoop 10 = .ok (.iconst (-1), 1) := by decide +kernel
theorem dX3_shortestLoop_11 : decode cX3_shortestLoop 11 = .ok (.ireturn, 1) := by decide +kernel
theorem dX3_shortestLoop_12 : decode cX3_shortestLoop 12 = .ok (.iconst 0, 1) := by decide +kernel
theorem dX3_shortestLoop_13 : decode cX3_shortestLoop 13 = .ok (.istore_n 3, 1) := by decide +kernel
theorem dX3_shortestLoop_14 : decode cX3_shortestLoop 14 = .ok (.iload_n 3, 1) := by decide +kernel
theorem dX3_shortestLoop_15 : decode cX3_shortestLoop 15 = .ok (.aload_n 0, 1) := by decide +kernel
theorem dX3_shortestLoop_16 : decode cX3_shortestLoop 16 = .ok (.getfield 123, 3) := by decide +kernel
theorem dX3_shortestLoop_19 : decode cX3_shortestLoop 19 = .ok (.if_icmp .ge 59, 3) := by decide +kernel
theorem dX3_shortestLoop_22 : decode cX3_shortestLoop 22 = .ok (.aload_n 0, 1) := by decide +kernel
theorem dX3_shortestLoop_23 : decode cX3_shortestLoop 23 = .ok (.iload_n 3, 1) := by decide +kernel
theorem dX3_shortestLoop_24 : decode cX3_shortestLoop 24 = .ok (.invokevirtual 89, 3) := by decide +kernel
theorem dX3_shortestLoop_27 : decode cX3_shortestLoop 27 = .ok (.iload_n 1, 1) := by decide +kernel
theorem dX3_shortestLoop_28 : decode cX3_shortestLoop 28 = .ok (.if_icmp .gt 16, 3) := by decide +kernel
theorem dX3_shortestLoop_31 : decode cX3_shortestLoop 31 = .ok (.iload_n 1, 1) := by decide +kernel
theorem dX3_shortestLoop_32 : decode cX3_shortestLoop 32 = .ok (.aload_n 0, 1) := by decide +kernel
theorem dX3_shortestLoop_33 : decode cX3_shortestLoop 33 = .ok (.iload_n 3, 1) := by decide +kernel
theorem dX3_shortestLoop_34 : decode cX3_shortestLoop 34 = .ok (.invokevirtual 86, 3) := by decide +kernel
theorem dX3_shortestLoop_37 : decode cX3_shortestLoop 37 = .ok (.if_icmp .gt 7, 3) := by decide +kernel
theorem dX3_shortestLoop_40 : decode cX3_shortestLoop 40 = .ok (.iconst 1, 1) := by decide +kernel
theorem dX3_shortestLoop_41 : decode cX3_shortestLoop 41 = .ok (.goto 4, 3) := by decide +kernel
theorem dX3_shortestLoop_44 : decode cX3_shortestLoop 44 = .ok (.iconst 0, 1) := by decide +kernel
theorem dX3_shortestLoop_45 : decode cX3_shortestLoop 45 = .ok (.istore 4, 2) := by decide +kernel
theorem dX3_shortestLoop_47 : decode cX3_shortestLoop 47 = .ok (.iload 4, 2) := by decide +kernel
theorem dX3_shortestLoop_49 : decode cX3_shortestLoop 49 = .ok (.ifCond .eq 23, 3) := by decide +kernel
theorem dX3_shortestLoop_52 : decode cX3_shortestLoop 52 = .ok (.iload_n 2, 1) := by decide +kernel
theorem dX3_shortestLoop_53 : decode cX3_shortestLoop 53 = .ok (.iconst (-1), 1) := by decide +kernel
theorem dX3_shortestLoop_54 : decode cX3_shortestLoop 54 = .ok (.if_icmp .eq 16, 3) := by decide +kernel
theorem dX3_shortestLoop_57 : decode cX3_shortestLoop 57 = .ok (.aload_n 0, 1) := by decide +kernel
theorem dX3_shortestLoop_58 : decode cX3_shortestLoop 58 = .ok (.iload_n 3, 1) := by decide +kernel
theorem dX3_shortestLoop_59 : decode cX3_shortestLoop 59 = .ok (.invokevirtual 129, 3) := by decide +kernel
theorem dX3_shortestLoop_62 : decode cX3_shortestLoop 62 = .ok (.aload_n 0, 1) := by decide +kernel
theorem dX3_shortestLoop_63 : decode cX3_shortestLoop 63 = .ok (.iload_n 2, 1) := by decide +kernel
theorem dX3_shortestLoop_64 : decode cX3_shortestLoop 64 = .ok (.invokevirtual 129, 3) := by decide +kernel
theorem dX3_shortestLoop_67 : decode cX3_shortestLoop 67 = .ok (.if_icmp .ge 5, 3) := by decide +kernel
theorem dX3_shortestLoop_70 : decode cX3_shortestLoop 70 = .ok (.iload_n 3, 1) := by decide +kernel
theorem dX3_shortestLoop_71 : decode cX3_shortestLoop 71 = .ok (.istore_n 2, 1) := by decide +kernel
theorem dX3_shortestLoop_72 : decode cX3_shortestLoop 72 = .ok (.iinc 3 1, 3) := by decide +kernel
theorem dX3_shortestLoop_75 : decode cX3_shortestLoop 75 = .ok (.goto (-61), 3) := by decide +kernel
theorem dX3_shortestLoop_78 : decode cX3_shortestLoop 78 = .ok (.iload_n 2, 1) := by decide +kernel
theorem dX3_shortestLoop_79 : decode cX3_shortestLoop 79 = .ok (.ireturn, 1) := by decide +kernel
set_option maxRecDepth 20000 in
theorem ggX3_withoutDrift_X3_isGood : GoodIn wsX3_withoutDrift wsX3_isGood := goodIn_r _ [7, 8, 1, 9, 10, 11, 12, 46, 47, 48, 49, 50, 51, 52, 53, 54, 55, 56, 57] (by decide +kernel) (by decide +kernel)
set_option maxRecDepth 20000 in
theorem gX3_withoutDrift_X3_isGood : GoodIn wsX3_withoutDrift (wsV RX3 95 RX3 yX3_isGood wsX3_isGood) := goodIn_app (goodIn_of _ (by decide +kernel)) ggX3_withoutDrift_X3_isGood
set_option maxRecDepth 20000 in
theorem ggX3_withoutDrift_X3_openLoopOf : GoodIn wsX3_withoutDrift wsX3_openLoopOf := goodIn_r _ [16, 17, 10, 11, 12, 46, 47, 48, 49, 50, 51, 52, 53, 54, 55, 56, 57] (by decide +kernel) (by decide +kernel)
set_option maxRecDepth 20000 in
theorem gX3_withoutDrift_X3_openLoopOf : GoodIn wsX3_withoutDrift (wsV RX3 111 RX3 yX3_openLoopOf wsX3_openLoopOf) := goodIn_app (goodIn_of _ (by decide +kernel)) ggX3_withoutDrift_X3_openLoopOf
set_option maxRecDepth 20000 in
theorem ggX3_withoutDrift_X3_rawHeight : GoodIn wsX3_withoutDrift wsX3_rawHeight := goodIn_r _ [21, 8, 10, 11, 12, 46, 47, 48, 49, 50, 51, 52, 53, 54, 55, 56, 57] (by decide +kernel) (by decide +kernel)
set_option maxRecDepth 20000 in
theorem gX3_withoutDrift_X3_rawHeight : GoodIn wsX3_withoutDrift (wsV RX3 92 RX3 yX3_rawHeight wsX3_rawHeight) := goodIn_app (goodIn_of _ (by decide +kernel)) ggX3_withoutDrift_X3_rawHeight
set_option maxRecDepth 20000 in
theorem ggX3_withoutDrift_X6_at : GoodIn wsX3_withoutDrift wsX6_at := goodIn_r _ [12] (by decide +kernel) (by decide +kernel)
set_option maxRecDepth 20000 in
theorem gX3_withoutDrift_X6_at_n81 : GoodIn wsX3_withoutDrift (wsX6_at) := ggX3_withoutDrift_X6_at
set_option maxRecDepth 20000 in
theorem ggX3_withoutDrift_X3_begin : GoodIn wsX3_withoutDrift wsX3_begin := goodIn_r _ [25, 26, 10, 11, 12, 46, 47, 48, 49, 50, 51, 52, 53, 54, 55, 56, 57] (by decide +kernel) (by decide +kernel)
set_option maxRecDepth 20000 in
theorem gX3_withoutDrift_X3_begin : GoodIn wsX3_withoutDrift (wsV RX3 89 RX3 yX3_begin wsX3_begin) := goodIn_app (goodIn_of _ (by decide +kernel)) ggX3_withoutDrift_X3_begin
set_option maxRecDepth 20000 in
theorem ggX3_withoutDrift_X3_misclosure : GoodIn wsX3_withoutDrift wsX3_misclosure := goodIn_r _ [30, 31, 32, 33, 6, 34, 35, 10, 11, 12, 18, 19, 20, 21, 8, 22, 23, 24, 25, 26, 46, 47, 48, 49, 50, 51, 52, 53, 54, 55, 56, 57] (by decide +kernel) (by decide +kernel)
set_option maxRecDepth 20000 in
theorem gX3_withoutDrift_X3_misclosure : GoodIn wsX3_withoutDrift (wsV RX3 132 RX3 yX3_misclosure wsX3_misclosure) := goodIn_app (goodIn_of _ (by decide +kernel)) ggX3_withoutDrift_X3_misclosure
set_option maxRecDepth 20000 in
theorem ggX3_withoutDrift_X3_minutes : GoodIn wsX3_withoutDrift wsX3_minutes := goodIn_r _ [39, 2, 31, 32, 33, 6, 34, 35, 10, 11, 12, 22, 23, 24, 25, 26, 46, 47, 48, 49, 50, 51, 52, 53, 54, 55, 56, 57] (by decide +kernel) (by decide +kernel)
set_option maxRecDepth 20000 in
theorem gX3_withoutDrift_X3_minutes : GoodIn wsX3_withoutDrift (wsV RX3 129 RX3 yX3_minutes wsX3_minutes) := goodIn_app (goodIn_of _ (by decide +kernel)) ggX3_withoutDrift_X3_minutes
set_option maxRecDepth 20000 in
theorem ggX3_withoutDrift_X6_divideDown : GoodIn wsX3_withoutDrift wsX6_divideDown := goodIn_r _ [41, 42, 43, 44, 45] (by decide +kernel) (by decide +kernel)
set_option maxRecDepth 20000 in
theorem gX3_withoutDrift_X6_divideDown_n135 : GoodIn wsX3_withoutDrift (wsX6_divideDown) := ggX3_withoutDrift_X6_divideDown
theorem dX3_withoutDrift_0 : decode cX3_withoutDrift 0 = .ok (.aload_n 0, 1) := by decide +kernel
theorem dX3_withoutDrift_1 : decode cX3_withoutDrift 1 = .ok (.iload_n 1, 1) := by decide +kernel
theorem dX3_withoutDrift_2 : decode cX3_withoutDrift 2 = .ok (.invokevirtual 95, 3) := by decide +kernel
theorem dX3_withoutDrift_5 : decode cX3_withoutDrift 5 = .ok (.ifCond .ne 6, 3) := by decide +kernel
theorem dX3_withoutDrift_8 : decode cX3_withoutDrift 8 = .ok (.ldc 85, 2) := by decide +kernel
theorem dX3_withoutDrift_10 : decode cX3_withoutDrift 10 = .ok (.ireturn, 1) := by decide +kernel
theorem dX3_withoutDrift_11 : decode cX3_withoutDrift 11 = .ok (.aload_n 0, 1) := by decide +kernel
theorem dX3_withoutDrift_12 : decode cX3_withoutDrift 12 = .ok (.iload_n 1, 1) := by decide +kernel
theorem dX3_withoutDrift_13 : decode cX3_withoutDrift 13 = .ok (.invokevirtual 111, 3) := by decide +kernel
theorem dX3_withoutDrift_16 : decode cX3_withoutDrift 16 = .ok (.istore_n 2, 1) := by decide +kernel
theorem dX3_withoutDrift_17 : decode cX3_withoutDrift 17 = .ok (.iload_n 2, 1) := by decide +kernel
theorem dX3_withoutDrift_18 : decode cX3_withoutDrift 18 = .ok (.iconst (-1), 1) := by decide +kernel
theorem dX3_withoutDrift_19 : decode cX3_withoutDrift 19 = .ok (.if_icmp .ne 9, 3) := by decide +kernel
theorem dX3_withoutDrift_22 : decode cX3_withoutDrift 22 = .ok (.aload_n 0, 1) := by decide +kernel
theorem dX3_withoutDrift_23 : decode cX3_withoutDrift 23 = .ok (.iload_n 1, 1) := by decide +kernel
theorem dX3_withoutDrift_24 : decode cX3_withoutDrift 24 = .ok (.invokevirtual 92, 3) := by decide +kernel
theorem dX3_withoutDrift_27 : decode cX3_withoutDrift 27 = .ok (.ireturn, 1) := by decide +kernel
theorem dX3_withoutDrift_28 : decode cX3_withoutDrift 28 = .ok (.aload_n 0, 1) := by decide +kernel
theorem dX3_withoutDrift_29 : decode cX3_withoutDrift 29 = .ok (.getfield 9, 3) := by decide +kernel
theorem dX3_withoutDrift_32 : decode cX3_withoutDrift 32 = .ok (.iload_n 1, 1) := by decide +kernel
theorem dX3_withoutDrift_33 : decode cX3_withoutDrift 33 = .ok (.invokestatic 81, 3) := by decide +kernel
theorem dX3_withoutDrift_36 : decode cX3_withoutDrift 36 = .ok (.aload_n 0, 1) := by decide +kernel
theorem dX3_withoutDrift_37 : decode cX3_withoutDrift 37 = .ok (.getfield 9, 3) := by decide +kernel
theorem dX3_withoutDrift_40 : decode cX3_withoutDrift 40 = .ok (.aload_n 0, 1) := by decide +kernel
theorem dX3_withoutDrift_41 : decode cX3_withoutDrift 41 = .ok (.iload_n 2, 1) := by decide +kernel
theorem dX3_withoutDrift_42 : decode cX3_withoutDrift 42 = .ok (.invokevirtual 89, 3) := by decide +kernel
theorem dX3_withoutDrift_45 : decode cX3_withoutDrift 45 = .ok (.invokestatic 81, 3) := by decide +kernel
theorem dX3_withoutDrift_48 : decode cX3_withoutDrift 48 = .ok (.isub, 1) := by decide +kernel
theorem dX3_withoutDrift_49 : decode cX3_withoutDrift 49 = .ok (.i2l, 1) := by decide +kernel
theorem dX3_withoutDrift_50 : decode cX3_withoutDrift 50 = .ok (.lstore_n 3, 1) := by decide +kernel
theorem dX3_withoutDrift_51 : decode cX3_withoutDrift 51 = .ok (.aload_n 0, 1) := by decide +kernel
theorem dX3_withoutDrift_52 : decode cX3_withoutDrift 52 = .ok (.iload_n 1, 1) := by decide +kernel
theorem dX3_withoutDrift_53 : decode cX3_withoutDrift 53 = .ok (.invokevirtual 92, 3) := by decide +kernel
theorem dX3_withoutDrift_56 : decode cX3_withoutDrift 56 = .ok (.i2l, 1) := by decide +kernel
theorem dX3_withoutDrift_57 : decode cX3_withoutDrift 57 = .ok (.aload_n 0, 1) := by decide +kernel
theorem dX3_withoutDrift_58 : decode cX3_withoutDrift 58 = .ok (.iload_n 2, 1) := by decide +kernel
theorem dX3_withoutDrift_59 : decode cX3_withoutDrift 59 = .ok (.invokevirtual 132, 3) := by decide +kernel
theorem dX3_withoutDrift_62 : decode cX3_withoutDrift 62 = .ok (.i2l, 1) := by decide +kernel
theorem dX3_withoutDrift_63 : decode cX3_withoutDrift 63 = .ok (.lload_n 3, 1) := by decide +kernel
theorem dX3_withoutDrift_64 : decode cX3_withoutDrift 64 = .ok (.lmul, 1) := by decide +kernel
theorem dX3_withoutDrift_65 : decode cX3_withoutDrift 65 = .ok (.aload_n 0, 1) := by decide +kernel
theorem dX3_withoutDrift_66 : decode cX3_withoutDrift 66 = .ok (.iload_n 2, 1) := by decide +kernel
theorem dX3_withoutDrift_67 : decode cX3_withoutDrift 67 = .ok (.invokevirtual 129, 3) := by decide +kernel
theorem dX3_withoutDrift_70 : decode cX3_withoutDrift 70 = .ok (.i2l, 1) := by decide +kernel
theorem dX3_withoutDrift_71 : decode cX3_withoutDrift 71 = .ok (.invokestatic 135, 3) := by decide +kernel
theorem dX3_withoutDrift_74 : decode cX3_withoutDrift 74 = .ok (.lsub, 1) := by decide +kernel
theorem dX3_withoutDrift_75 : decode cX3_withoutDrift 75 = .ok (.l2i, 1) := by decide +kernel
theorem dX3_withoutDrift_76 : decode cX3_withoutDrift 76 = .ok (.ireturn, 1) := by decide +kernel
theorem dX4_init_0 : decode cX4_init 0 = .ok (.aload_n 0, 1) := by decide +kernel
theorem dX4_init_1 : decode cX4_init 1 = .ok (.invokespecial 3, 3) := by decide +kernel
theorem dX4_init_4 : decode cX4_init 4 = .ok (.aload_n 0, 1) := by decide +kernel
theorem dX4_init_5 : decode cX4_init 5 = .ok (.bipush 100, 2) := by decide +kernel
theorem dX4_init_7 : decode cX4_init 7 = .ok (.newarray .int, 2) := by decide +kernel
theorem dX4_init_9 : decode cX4_init 9 = .ok (.putfield 9, 3) := by decide +kernel
theorem dX4_init_12 : decode cX4_init 12 = .ok (.aload_n 0, 1) := by decide +kernel
theorem dX4_init_13 : decode cX4_init 13 = .ok (.iconst (-1), 1) := by decide +kernel
theorem dX4_init_14 : decode cX4_init 14 = .ok (.putfield 15, 3) := by decide +kernel
theorem dX4_init_17 : decode cX4_init 17 = .ok (.return_, 1) := by decide +kernel
end
section
set_option maxRecDepth 20000 in
theorem ggX6_init_X2_init : GoodIn wsX6_init wsX2_init := goodIn_r _ [30, 31, 2, 3, 32, 33, 34, 35, 36, 37, 38, 39, 40, 41, 42, 43, 44, 45, 46, 47, 48, 49, 50, 51, 52, 128, 129, 130, 82, 83, 84, 85, 86, 87, 88] (by decide +kernel) (by decide +kernel)
set_option maxRecDepth 20000 in
theorem gX6_init_X2_init : GoodIn wsX6_init (wsX2_init) := ggX6_init_X2_init
set_option maxRecDepth 20000 in
theorem ggX6_init_X0_init : GoodIn wsX6_init wsX0_init := goodIn_r _ [55, 56, 2, 3, 57, 58, 5, 6, 59, 29, 30, 31, 32, 33, 34, 35, 36, 37, 38, 39, 40, 41, 42, 43, 44, 45, 46, 47, 48, 49, 50, 51, 52, 98, 99, 100, 82, 83, 84, 85, 86, 87, 88, 128, 129, 130] (by decide +kernel) (by decide +kernel)
set_option maxRecDepth 20000 in
theorem gX6_init_X0_init : GoodIn wsX6_init (wsX0_init) := ggX6_init_X0_init
set_option maxRecDepth 20000 in
theorem ggX6_init_X3_init : GoodIn wsX6_init wsX3_init := goodIn_r _ [62, 63, 2, 3, 46, 64, 65, 66, 67, 68, 69, 70, 71, 101, 102, 103, 104, 105, 106, 107, 108, 109, 110, 111, 112] (by decide +kernel) (by decide +kernel)
set_option maxRecDepth 20000 in
theorem gX6_init_X3_init : GoodIn wsX6_init (wsX3_init) := ggX6_init_X3_init
set_option maxRecDepth 20000 in
theorem ggX6_init_X1_init : GoodIn wsX6_init wsX1_init := goodIn_r _ [74, 75, 2, 3] (by decide +kernel) (by decide +kernel)
set_option maxRecDepth 20000 in
theorem gX6_init_X1_init : GoodIn wsX6_init (wsX1_init) := ggX6_init_X1_init
set_option maxRecDepth 20000 in
theorem ggX6_init_X4_init : GoodIn wsX6_init wsX4_init := goodIn_r _ [78, 79, 2, 3, 46, 80, 81, 117, 118, 119, 120, 121, 122, 123, 124, 125, 126, 127] (by decide +kernel) (by decide +kernel)
set_option maxRecDepth 20000 in
theorem gX6_init_X4_init : GoodIn wsX6_init (wsX4_init) := ggX6_init_X4_init
theorem dX6_init_0 : decode cX6_init 0 = .ok (.aload_n 0, 1) := by decide +kernel
theorem dX6_init_1 : decode cX6_init 1 = .ok (.invokespecial 1, 3) := by decide +kernel
theorem dX6_init_4 : decode cX6_init 4 = .ok (.aload_n 0, 1) := by decide +kernel
theorem dX6_init_5 : decode cX6_init 5 = .ok (.new 7, 3) := by decide +kernel
theorem dX6_init_8 : decode cX6_init 8 = .ok (.dup, 1) := by decide +kernel
theorem dX6_init_9 : decode cX6_init 9 = .ok (.invokespecial 9, 3) := by decide +kernel
theorem dX6_init_12 : decode cX6_init 12 = .ok (.putfield 10, 3) := by decide +kernel
theorem dX6_init_15 : decode cX6_init 15 = .ok (.aload_n 0, 1) := by decide +kernel
theorem dX6_init_16 : decode cX6_init 16 = .ok (.new 7, 3) := by decide +kernel
theorem dX6_init_19 : decode cX6_init 19 = .ok (.dup, 1) := by decide +kernel
theorem dX6_init_20 : decode cX6_init 20 = .ok (.invokespecial 9, 3) := by decide +kernel
theorem dX6_init_23 : decode cX6_init 23 = .ok (.putfield 16, 3) := by decide +kernel
theorem dX6_init_26 : decode cX6_init 26 = .ok (.aload_n 0, 1) := by decide +kernel
theorem dX6_init_27 : decode cX6_init 27 = .ok (.new 19, 3) := by decide +kernel
theorem dX6_init_30 : decode cX6_init 30 = .ok (.dup, 1) := by decide +kernel
theorem dX6_init_31 : decode cX6_init 31 = .ok (.invokespecial 21, 3) := by decide +kernel
theorem dX6_init_34 : decode cX6_init 34 = .ok (.putfield 22, 3) := by decide +kernel
theorem dX6_init_37 : decode cX6_init 37 = .ok (.aload_n 0, 1) := by decide +kernel
theorem dX6_init_38 : decode cX6_init 38 = .ok (.new 26, 3) := by decide +kernel
theorem dX6_init_41 : decode cX6_init 41 = .ok (.dup, 1) := by decide +kernel
theorem dX6_init_42 : decode cX6_init 42 = .ok (.invokespecial 28, 3) := by decide +kernel
theorem dX6_init_45 : decode cX6_init 45 = .ok (.putfield 29, 3) := by decide +kernel
theorem dX6_init_48 : decode cX6_init 48 = .ok (.aload_n 0, 1) := by decide +kernel
theorem dX6_init_49 : decode cX6_init 49 = .ok (.new 26, 3) := by decide +kernel
theorem dX6_init_52 : decode cX6_init 52 = .ok (.dup, 1) := by decide +kernel
theorem dX6_init_53 : decode cX6_init 53 = .ok (.invokespecial 28, 3) := by decide +kernel
theorem dX6_init_56 : decode cX6_init 56 = .ok (.putfield 33, 3) := by decide +kernel
theorem dX6_init_59 : decode cX6_init 59 = .ok (.aload_n 0, 1) := by decide +kernel
theorem dX6_init_60 : decode cX6_init 60 = .ok (.new 26, 3) := by decide +kernel
theorem dX6_init_63 : decode cX6_init 63 = .ok (.dup, 1) := by decide +kernel
theorem dX6_init_64 : decode cX6_init 64 = .ok (.invokespecial 28, 3) := by decide +kernel
theorem dX6_init_67 : decode cX6_init 67 = .ok (.putfield 36, 3) := by decide +kernel
theorem dX6_init_70 : decode cX6_init 70 = .ok (.aload_n 0, 1) := by decide +kernel
theorem dX6_init_71 : decode cX6_init 71 = .ok (.new 39, 3) := by decide +kernel
theorem dX6_init_74 : decode cX6_init 74 = .ok (.dup, 1) := by decide +kernel
theorem dX6_init_75 : decode cX6_init 75 = .ok (.invokespecial 41, 3) := by decide +kernel
theorem dX6_init_78 : decode cX6_init 78 = .ok (.putfield 42, 3) := by decide +kernel
theorem dX6_init_81 : decode cX6_init 81 = .ok (.aload_n 0, 1) := by decide +kernel
theorem dX6_init_82 : decode cX6_init 82 = .ok (.new 46, 3) := by decide +kernel
theorem dX6_init_85 : decode cX6_init 85 = .ok (.dup, 1) := by decide +kernel
theorem dX6_init_86 : decode cX6_init 86 = .ok (.invokespecial 48, 3) := by decide +kernel
theorem dX6_init_89 : decode cX6_init 89 = .ok (.putfield 49, 3) := by decide +kernel
theorem dX6_init_92 : decode cX6_init 92 = .ok (.aload_n 0, 1) := by decide +kernel
theorem dX6_init_93 : decode cX6_init 93 = .ok (.iconst 1, 1) := by decide +kernel
theorem dX6_init_94 : decode cX6_init 94 = .ok (.putfield 53, 3) := by decide +kernel
theorem dX6_init_97 : decode cX6_init 97 = .ok (.return_, 1) := by decide +kernel
set_option maxRecDepth 20000 in
theorem ggX6_set_X6_isSetting : GoodIn wsX6_set wsX6_isSetting := goodIn_r _ [6, 7, 8, 9, 10, 5, 11] (by decide +kernel) (by decide +kernel)
set_option maxRecDepth 20000 in
theorem gX6_set_X6_isSetting : GoodIn wsX6_set (va_wsS RX6 57 yX6_isSetting wsX6_isSetting) := goodIn_app (goodIn_of _ (by decide +kernel)) ggX6_set_X6_isSetting
set_option maxRecDepth 20000 in
theorem ggX6_set_X6_record : GoodIn wsX6_set wsX6_record := goodIn_r _ [15, 16, 2, 17, 18, 19, 20, 21, 22, 23, 24, 25, 26, 27, 28, 29, 30, 31, 32, 33, 34, 35, 36, 37, 38, 39, 40, 41, 42, 43, 44, 45, 46, 47, 48, 49, 50, 51, 52, 53, 54, 55, 56, 65, 66, 67, 68, 69, 70, 71, 72, 73, 74, 75, 76, 77, 78, 79, 80, 81, 82, 83, 84, 85, 86] (by decide +kernel) (by decide +kernel)
set_option maxRecDepth 20000 in
theorem gX6_set_X6_record : GoodIn wsX6_set (wsV RX6 62 RX6 yX6_record wsX6_record) := goodIn_app (goodIn_of _ (by decide +kernel)) ggX6_set_X6_record
set_option maxRecDepth 20000 in
theorem ggX6_set_X2_setting : GoodIn wsX6_set wsX2_setting := goodIn_r _ [60, 39, 40, 41, 77, 78, 79, 80, 81, 82, 83] (by decide +kernel) (by decide +kernel)
set_option maxRecDepth 20000 in
theorem gX6_set_X2_setting : GoodIn wsX6_set (wsV RX6 65 RX2 yX2_setting wsX2_setting) := goodIn_app (goodIn_of _ (by decide +kernel)) ggX6_set_X2_setting
set_option maxRecDepth 20000 in
theorem ggX6_set_X2_putSetting : GoodIn wsX6_set wsX2_putSetting := goodIn_r _ [64, 39, 40, 41, 77, 78, 79, 80, 81, 82, 83] (by decide +kernel) (by decide +kernel)
set_option maxRecDepth 20000 in
theorem gX6_set_X2_putSetting : GoodIn wsX6_set (wsV RX6 69 RX2 yX2_putSetting wsX2_putSetting) := goodIn_app (goodIn_of _ (by decide +kernel)) ggX6_set_X2_putSetting
theorem dX6_set_0 : decode cX6_set 0 = .ok (.iload_n 1, 1) := by decide +kernel
theorem dX6_set_1 : decode cX6_set 1 = .ok (.iload_n 2, 1) := by decide +kernel
theorem dX6_set_2 : decode cX6_set 2 = .ok (.invokestatic 57, 3) := by decide +kernel
theorem dX6_set_5 : decode cX6_set 5 = .ok (.ifCond .ne 6, 3) := by decide +kernel
theorem dX6_set_8 : decode cX6_set 8 = .ok (.ldc 61, 2) := by decide +kernel
theorem dX6_set_10 : decode cX6_set 10 = .ok (.ireturn, 1) := by decide +kernel
theorem dX6_set_11 : decode cX6_set 11 = .ok (.aload_n 0, 1) := by decide +kernel
theorem dX6_set_12 : decode cX6_set 12 = .ok (.invokevirtual 62, 3) := by decide +kernel
theorem dX6_set_15 : decode cX6_set 15 = .ok (.aload_n 0, 1) := by decide +kernel
theorem dX6_set_16 : decode cX6_set 16 = .ok (.getfield 10, 3) := by decide +kernel
theorem dX6_set_19 : decode cX6_set 19 = .ok (.iload_n 1, 1) := by decide +kernel
theorem dX6_set_20 : decode cX6_set 20 = .ok (.invokevirtual 65, 3) := by decide +kernel
theorem dX6_set_23 : decode cX6_set 23 = .ok (.istore_n 3, 1) := by decide +kernel
theorem dX6_set_24 : decode cX6_set 24 = .ok (.aload_n 0, 1) := by decide +kernel
theorem dX6_set_25 : decode cX6_set 25 = .ok (.getfield 10, 3) := by decide +kernel
theorem dX6_set_28 : decode cX6_set 28 = .ok (.iload_n 1, 1) := by decide +kernel
theorem dX6_set_29 : decode cX6_set 29 = .ok (.iload_n 2, 1) := by decide +kernel
theorem dX6_set_30 : decode cX6_set 30 = .ok (.invokevirtual 69, 3) := by decide +kernel
theorem dX6_set_33 : decode cX6_set 33 = .ok (.iload_n 3, 1) := by decide +kernel
theorem dX6_set_34 : decode cX6_set 34 = .ok (.ireturn, 1) := by decide +kernel
set_option maxRecDepth 20000 in
theorem ggX6_base_X6_isReading : GoodIn wsX6_base wsX6_isReading := goodIn_r _ [5, 6, 7, 8, 9, 4, 10, 11, 12, 13, 14, 15, 16] (by decide +kernel) (by decide +kernel)
set_option maxRecDepth 20000 in
theorem gX6_base_X6_isReading : GoodIn wsX6_base (va_wsS RX6 73 yX6_isReading wsX6_isReading) := goodIn_app (goodIn_of _ (by decide +kernel)) ggX6_base_X6_isReading
set_option maxRecDepth 20000 in
theorem ggX6_base_X6_take : GoodIn wsX6_base wsX6_take := goodIn_r _ [20, 21, 22, 23, 24, 25, 26, 27, 28, 29, 30, 31, 32, 33, 34, 35, 36, 37, 38, 39, 40, 41, 42, 43, 44, 4, 45, 46, 47, 48, 49, 50, 51, 52, 53, 54, 55, 56, 57, 58, 59, 60, 61, 62, 63, 64, 65, 66, 67, 68, 69, 70, 71, 72, 73, 74, 75, 76, 77, 78, 79, 80, 81, 82, 83, 84, 85, 86, 87, 88, 89, 90, 91, 92, 93, 94, 95, 96, 97, 98, 99, 100, 101, 102, 103, 104, 105, 106, 107, 108, 109, 110, 111, 112, 113, 114, 115, 116, 117, 118, 119] (by decide +kernel) (by decide +kernel)
set_option maxRecDepth 20000 in
theorem gX6_base_X6_take : GoodIn wsX6_base (wsV RX6 77 RX6 yX6_take wsX6_take) := goodIn_app (goodIn_of _ (by decide +kernel)) ggX6_base_X6_take
theorem dX6_base_0 : decode cX6_base 0 = .ok (.iload_n 1, 1) := by decide +kernel
theorem dX6_base_1 : decode cX6_base 1 = .ok (.iload_n 2, 1) := by decide +kernel
theorem dX6_base_2 : decode cX6_base 2 = .ok (.iload_n 3, 1) := by decide +kernel
theorem dX6_base_3 : decode cX6_base 3 = .ok (.invokestatic 73, 3) := by decide +kernel
theorem dX6_base_6 : decode cX6_base 6 = .ok (.ifCond .ne 6, 3) := by decide +kernel
theorem dX6_base_9 : decode cX6_base 9 = .ok (.ldc 61, 2) := by decide +kernel
theorem dX6_base_11 : decode cX6_base 11 = .ok (.ireturn, 1) := by decide +kernel
theorem dX6_base_12 : decode cX6_base 12 = .ok (.aload_n 0, 1) := by decide +kernel
theorem dX6_base_13 : decode cX6_base 13 = .ok (.iconst (-1), 1) := by decide +kernel
theorem dX6_base_14 : decode cX6_base 14 = .ok (.iconst 0, 1) := by decide +kernel
theorem dX6_base_15 : decode cX6_base 15 = .ok (.iload_n 1, 1) := by decide +kernel
theorem dX6_base_16 : decode cX6_base 16 = .ok (.iload_n 2, 1) := by decide +kernel
theorem dX6_base_17 : decode cX6_base 17 = .ok (.iload_n 3, 1) := by decide +kernel
theorem dX6_base_18 : decode cX6_base 18 = .ok (.invokevirtual 77, 3) := by decide +kernel
theorem dX6_base_21 : decode cX6_base 21 = .ok (.ireturn, 1) := by decide +kernel
set_option maxRecDepth 20000 in
theorem ggX6_read_X6_isCell : GoodIn wsX6_read wsX6_isCell := goodIn_r _ [5, 6, 7, 4, 8] (by decide +kernel) (by decide +kernel)
set_option maxRecDepth 20000 in
theorem gX6_read_X6_isCell : GoodIn wsX6_read (va_wsS RX6 81 yX6_isCell wsX6_isCell) := goodIn_app (goodIn_of _ (by decide +kernel)) ggX6_read_X6_isCell
set_option maxRecDepth 20000 in
theorem ggX6_read_X6_isPoint : GoodIn wsX6_read wsX6_isPoint := goodIn_r _ [11, 6, 7, 4, 8] (by decide +kernel) (by decide +kernel)
set_option maxRecDepth 20000 in
theorem gX6_read_X6_isPoint : GoodIn wsX6_read (va_wsS RX6 85 yX6_isPoint wsX6_isPoint) := goodIn_app (goodIn_of _ (by decide +kernel)) ggX6_read_X6_isPoint
set_option maxRecDepth 20000 in
theorem ggX6_read_X6_isReading : GoodIn wsX6_read wsX6_isReading := goodIn_r _ [14, 15, 16, 17, 18, 4, 19, 6, 7, 8, 20, 21, 22] (by decide +kernel) (by decide +kernel)
set_option maxRecDepth 20000 in
theorem gX6_read_X6_isReading : GoodIn wsX6_read (va_wsS RX6 73 yX6_isReading wsX6_isReading) := goodIn_app (goodIn_of _ (by decide +kernel)) ggX6_read_X6_isReading
set_option maxRecDepth 20000 in
theorem ggX6_read_X6_take : GoodIn wsX6_read wsX6_take := goodIn_r _ [26, 27, 28, 29, 30, 31, 32, 33, 34, 35, 36, 37, 38, 39, 40, 41, 42, 43, 44, 45, 46, 47, 48, 49, 50, 4, 51, 52, 53, 54, 55, 56, 57, 58, 59, 60, 61, 62, 63, 64, 65, 66, 67, 68, 69, 70, 71, 72, 73, 74, 75, 76, 77, 78, 79, 80, 81, 82, 83, 84, 85, 86, 87, 88, 89, 90, 91, 92, 93, 94, 95, 96, 97, 98, 99, 100, 101, 102, 103, 104, 105, 106, 107, 108, 109, 110, 111, 112, 113, 114, 115, 116, 117, 118, 119, 120, 121, 122, 123, 124, 125] (by decide +kernel) (by decide +kernel)
set_option maxRecDepth 20000 in
theorem gX6_read_X6_take : GoodIn wsX6_read (wsV RX6 77 RX6 yX6_take wsX6_take) := goodIn_app (goodIn_of _ (by decide +kernel)) ggX6_read_X6_take
theorem dX6_read_0 : decode cX6_read 0 = .ok (.iload_n 1, 1) := by decide +kernel
theorem dX6_read_1 : decode cX6_read 1 = .ok (.invokestatic 81, 3) := by decide +kernel
theorem dX6_read_4 : decode cX6_read 4 = .ok (.ifCond .eq 21, 3) := by decide +kernel
theorem dX6_read_7 : decode cX6_read 7 = .ok (.iload_n 2, 1) := by decide +kernel
theorem dX6_read_8 : decode cX6_read 8 = .ok (.invokestatic 85, 3) := by decide +kernel
theorem dX6_read_11 : decode cX6_read 11 = .ok (.ifCond .eq 14, 3) := by decide +kernel
theorem dX6_read_14 : decode cX6_read 14 = .ok (.iload_n 3, 1) := by decide +kernel
theorem dX6_read_15 : decode cX6_read 15 = .ok (.iload 4, 2) := by decide +kernel
theorem dX6_read_17 : decode cX6_read 17 = .ok (.iload 5, 2) := by decide +kernel
theorem dX6_read_19 : decode cX6_read 19 = .ok (.invokestatic 73, 3) := by decide +kernel
theorem dX6_read_22 : decode cX6_read 22 = .ok (.ifCond .ne 6, 3) := by decide +kernel
theorem dX6_read_25 : decode cX6_read 25 = .ok (.ldc 61, 2) := by decide +kernel
theorem dX6_read_27 : decode cX6_read 27 = .ok (.ireturn, 1) := by decide +kernel
theorem dX6_read_28 : decode cX6_read 28 = .ok (.aload_n 0, 1) := by decide +kernel
theorem dX6_read_29 : decode cX6_read 29 = .ok (.iload_n 1, 1) := by decide +kernel
theorem dX6_read_30 : decode cX6_read 30 = .ok (.iload_n 2, 1) := by decide +kernel
theorem dX6_read_31 : decode cX6_read 31 = .ok (.iload_n 3, 1) := by decide +kernel
theorem dX6_read_32 : decode cX6_read 32 = .ok (.iload 4, 2) := by decide +kernel
theorem dX6_read_34 : decode cX6_read 34 = .ok (.iload 5, 2) := by decide +kernel
theorem dX6_read_36 : decode cX6_read 36 = .ok (.invokevirtual 77, 3) := by decide +kernel
theorem dX6_read_39 : decode cX6_read 39 = .ok (.ireturn, 1) := by decide +kernel
set_option maxRecDepth 20000 in
theorem ggX6_drop_X6_isReadingOf : GoodIn wsX6_drop wsX6_isReadingOf := goodIn_r _ [7, 2, 8, 9, 6, 10, 11, 12, 13, 14, 15, 16, 17, 18, 19, 20, 21, 22, 79, 80, 81, 82, 83, 84, 85, 86, 87, 88, 89, 90, 91, 92, 93, 94, 95, 96, 97] (by decide +kernel) (by decide +kernel)
set_option maxRecDepth 20000 in
theorem gX6_drop_X6_isReadingOf : GoodIn wsX6_drop (wsV RX6 88 RX6 yX6_isReadingOf wsX6_isReadingOf) := goodIn_app (goodIn_of _ (by decide +kernel)) ggX6_drop_X6_isReadingOf
set_option maxRecDepth 20000 in
theorem ggX6_drop_X6_record : GoodIn wsX6_drop wsX6_record := goodIn_r _ [26, 27, 2, 28, 29, 30, 31, 32, 33, 34, 35, 36, 37, 38, 39, 40, 41, 42, 43, 17, 44, 22, 19, 20, 21, 45, 46, 47, 48, 49, 50, 51, 52, 53, 54, 55, 56, 57, 58, 59, 60, 61, 62, 79, 80, 81, 82, 83, 84, 85, 86, 87, 98, 99, 100, 91, 92, 93, 94, 95, 96, 97, 88, 89, 90] (by decide +kernel) (by decide +kernel)
set_option maxRecDepth 20000 in
theorem gX6_drop_X6_record : GoodIn wsX6_drop (wsV RX6 62 RX6 yX6_record wsX6_record) := goodIn_app (goodIn_of _ (by decide +kernel)) ggX6_drop_X6_record
set_option maxRecDepth 20000 in
theorem ggX6_drop_X2_track : GoodIn wsX6_drop wsX2_track := goodIn_r _ [18, 19, 20, 21, 22, 91, 92, 93, 94, 95, 96, 97] (by decide +kernel) (by decide +kernel)
set_option maxRecDepth 20000 in
theorem gX6_drop_X2_track : GoodIn wsX6_drop (wsV RX6 91 RX2 yX2_track wsX2_track) := goodIn_app (goodIn_of _ (by decide +kernel)) ggX6_drop_X2_track
set_option maxRecDepth 20000 in
theorem ggX6_drop_X5_remove : GoodIn wsX6_drop wsX5_remove := goodIn_r _ [66, 62, 67, 68, 69, 51, 70, 53, 71, 72, 73, 74, 75, 6, 76, 77, 78, 88, 89, 90] (by decide +kernel) (by decide +kernel)
set_option maxRecDepth 20000 in
theorem gX6_drop_X5_remove : GoodIn wsX6_drop (wsV RX6 95 RX5 yX5_remove wsX5_remove) := goodIn_app (goodIn_of _ (by decide +kernel)) ggX6_drop_X5_remove
theorem dX6_drop_0 : decode cX6_drop 0 = .ok (.aload_n 0, 1) := by decide +kernel
theorem dX6_drop_1 : decode cX6_drop 1 = .ok (.iload_n 1, 1) := by decide +kernel
theorem dX6_drop_2 : decode cX6_drop 2 = .ok (.iload_n 2, 1) := by decide +kernel
theorem dX6_drop_3 : decode cX6_drop 3 = .ok (.invokevirtual 88, 3) := by decide +kernel
theorem dX6_drop_6 : decode cX6_drop 6 = .ok (.ifCond .ne 6, 3) := by decide +kernel
theorem dX6_drop_9 : decode cX6_drop 9 = .ok (.ldc 61, 2) := by decide +kernel
theorem dX6_drop_11 : decode cX6_drop 11 = .ok (.ireturn, 1) := by decide +kernel
theorem dX6_drop_12 : decode cX6_drop 12 = .ok (.aload_n 0, 1) := by decide +kernel
theorem dX6_drop_13 : decode cX6_drop 13 = .ok (.invokevirtual 62, 3) := by decide +kernel
theorem dX6_drop_16 : decode cX6_drop 16 = .ok (.aload_n 0, 1) := by decide +kernel
theorem dX6_drop_17 : decode cX6_drop 17 = .ok (.getfield 10, 3) := by decide +kernel
theorem dX6_drop_20 : decode cX6_drop 20 = .ok (.iload_n 1, 1) := by decide +kernel
theorem dX6_drop_21 : decode cX6_drop 21 = .ok (.invokevirtual 91, 3) := by decide +kernel
theorem dX6_drop_24 : decode cX6_drop 24 = .ok (.astore_n 3, 1) := by decide +kernel
theorem dX6_drop_25 : decode cX6_drop 25 = .ok (.aload_n 3, 1) := by decide +kernel
theorem dX6_drop_26 : decode cX6_drop 26 = .ok (.iload_n 2, 1) := by decide +kernel
theorem dX6_drop_27 : decode cX6_drop 27 = .ok (.invokevirtual 95, 3) := by decide +kernel
theorem dX6_drop_30 : decode cX6_drop 30 = .ok (.aload_n 3, 1) := by decide +kernel
theorem dX6_drop_31 : decode cX6_drop 31 = .ok (.getfield 101, 3) := by decide +kernel
theorem dX6_drop_34 : decode cX6_drop 34 = .ok (.ireturn, 1) := by decide +kernel
set_option maxRecDepth 20000 in
theorem ggX6_reading_X6_isReadingOf : GoodIn wsX6_reading wsX6_isReadingOf := goodIn_r _ [8, 3, 9, 10, 7, 11, 12, 13, 14, 15, 16, 17, 18, 19, 20, 21, 22, 23, 147, 148, 149, 150, 151, 152, 153, 154, 155, 156, 157, 158, 159, 160, 161, 162, 163, 164, 165] (by decide +kernel) (by decide +kernel)
set_option maxRecDepth 20000 in
theorem gX6_reading_X6_isReadingOf : GoodIn wsX6_reading (wsV RX6 88 RX6 yX6_isReadingOf wsX6_isReadingOf) := goodIn_app (goodIn_of _ (by decide +kernel)) ggX6_reading_X6_isReadingOf
set_option maxRecDepth 20000 in
theorem ggX6_reading_X6_within : GoodIn wsX6_reading wsX6_within := goodIn_r _ [14] (by decide +kernel) (by decide +kernel)
set_option maxRecDepth 20000 in
theorem gX6_reading_X6_within : GoodIn wsX6_reading (va_wsS RX6 105 yX6_within wsX6_within) := goodIn_app (goodIn_of _ (by decide +kernel)) ggX6_reading_X6_within
set_option maxRecDepth 20000 in
theorem ggX6_reading_X6_refresh : GoodIn wsX6_reading wsX6_refresh := goodIn_r _ [27, 28, 29, 3, 30, 31, 32, 33, 34, 35, 36, 37, 38, 39, 40, 41, 42, 43, 44, 16, 17, 18, 19, 20, 21, 22, 23, 45, 46, 47, 48, 49, 50, 51, 7, 52, 53, 54, 55, 56, 57, 58, 59, 60, 61, 62, 63, 64, 65, 66, 67, 68, 69, 70, 71, 72, 73, 74, 75, 76, 77, 78, 79, 80, 81, 82, 83, 84, 85, 86, 87, 88, 89, 90, 91, 92, 93, 94, 95, 96, 97, 98, 99, 100, 101, 102, 103, 104, 105, 106, 107, 108, 109, 110, 111, 112, 113, 114, 115, 116, 117, 118, 119, 120, 121, 122, 123, 124, 125, 126, 127, 128, 129, 130, 131, 132, 133, 134, 135, 136, 137, 138, 139, 147, 148, 149, 150, 151, 152, 153, 154, 155, 156, 157, 158, 166, 167, 168, 169, 170, 171, 172, 173, 174, 175, 176, 177, 159, 160, 161, 162, 163, 164, 165] (by decide +kernel) (by decide +kernel)
set_option maxRecDepth 20000 in
theorem gX6_reading_X6_refresh : GoodIn wsX6_reading (wsV RX6 109 RX6 yX6_refresh wsX6_refresh) := goodIn_app (goodIn_of _ (by decide +kernel)) ggX6_reading_X6_refresh
set_option maxRecDepth 20000 in
theorem ggX6_reading_X6_surveyOf : GoodIn wsX6_reading wsX6_surveyOf := goodIn_r _ [143, 29, 30, 31, 147, 148, 149, 150, 151, 152, 153, 154, 155] (by decide +kernel) (by decide +kernel)
set_option maxRecDepth 20000 in
theorem gX6_reading_X6_surveyOf : GoodIn wsX6_reading (wsV RX6 112 RX6 yX6_surveyOf wsX6_surveyOf) := goodIn_app (goodIn_of _ (by decide +kernel)) ggX6_reading_X6_surveyOf
set_option maxRecDepth 20000 in
theorem ggX6_reading_X3_isGust : GoodIn wsX6_reading wsX3_isGust := goodIn_r _ [91, 41, 51, 7, 52, 166, 167, 168, 169, 170, 171, 172, 173, 174, 175, 176, 177] (by decide +kernel) (by decide +kernel)
set_option maxRecDepth 20000 in
theorem gX6_reading_X3_isGust : GoodIn wsX6_reading (wsV RX6 116 RX3 yX3_isGust wsX3_isGust) := goodIn_app (goodIn_of _ (by decide +kernel)) ggX6_reading_X3_isGust
set_option maxRecDepth 20000 in
theorem ggX6_reading_X3_isGood : GoodIn wsX6_reading wsX3_isGood := goodIn_r _ [95, 40, 96, 41, 51, 7, 52, 166, 167, 168, 169, 170, 171, 172, 173, 174, 175, 176, 177] (by decide +kernel) (by decide +kernel)
set_option maxRecDepth 20000 in
theorem gX6_reading_X3_isGood : GoodIn wsX6_reading (wsV RX6 119 RX3 yX3_isGood wsX3_isGood) := goodIn_app (goodIn_of _ (by decide +kernel)) ggX6_reading_X3_isGood
set_option maxRecDepth 20000 in
theorem ggX6_reading_X2_track : GoodIn wsX6_reading wsX2_track := goodIn_r _ [19, 20, 21, 22, 23, 159, 160, 161, 162, 163, 164, 165] (by decide +kernel) (by decide +kernel)
set_option maxRecDepth 20000 in
theorem gX6_reading_X2_track : GoodIn wsX6_reading (wsV RX6 91 RX2 yX2_track wsX2_track) := goodIn_app (goodIn_of _ (by decide +kernel)) ggX6_reading_X2_track
set_option maxRecDepth 20000 in
theorem ggX6_reading_X5_value : GoodIn wsX6_reading wsX5_value := goodIn_r _ [49, 50, 51, 7, 52, 156, 157, 158] (by decide +kernel) (by decide +kernel)
set_option maxRecDepth 20000 in
theorem gX6_reading_X5_value : GoodIn wsX6_reading (wsV RX6 122 RX5 yX5_value wsX5_value) := goodIn_app (goodIn_of _ (by decide +kernel)) ggX6_reading_X5_value
theorem dX6_reading_0 : decode cX6_reading 0 = .ok (.aload_n 0, 1) := by decide +kernel
theorem dX6_reading_1 : decode cX6_reading 1 = .ok (.iload_n 1, 1) := by decide +kernel
theorem dX6_reading_2 : decode cX6_reading 2 = .ok (.iload_n 2, 1) := by decide +kernel
theorem dX6_reading_3 : decode cX6_reading 3 = .ok (.invokevirtual 88, 3) := by decide +kernel
theorem dX6_reading_6 : decode cX6_reading 6 = .ok (.ifCond .eq 12, 3) := by decide +kernel
theorem dX6_reading_9 : decode cX6_reading 9 = .ok (.iload_n 3, 1) := by decide +kernel
theorem dX6_reading_10 : decode cX6_reading 10 = .ok (.iconst 0, 1) := by decide +kernel
theorem dX6_reading_11 : decode cX6_reading 11 = .ok (.iconst 5, 1) := by decide +kernel
theorem dX6_reading_12 : decode cX6_reading 12 = .ok (.invokestatic 105, 3) := by decide +kernel
theorem dX6_reading_15 : decode cX6_reading 15 = .ok (.ifCond .ne 6, 3) := by decide +kernel
theorem dX6_reading_18 : decode cX6_reading 18 = .ok (.ldc 61, 2) := by decide +kernel
theorem dX6_reading_20 : decode cX6_reading 20 = .ok (.ireturn, 1) := by decide +kernel
theorem dX6_reading_21 : decode cX6_reading 21 = .ok (.iload_n 1, 1) := by decide +kernel
theorem dX6_reading_22 : decode cX6_reading 22 = .ok (.iconst (-1), 1) := by decide +kernel
theorem dX6_reading_23 : decode cX6_reading 23 = .ok (.if_icmp .ne 11, 3) := by decide +kernel
theorem dX6_reading_26 : decode cX6_reading 26 = .ok (.iload_n 3, 1) := by decide +kernel
theorem dX6_reading_27 : decode cX6_reading 27 = .ok (.iconst 3, 1) := by decide +kernel
theorem dX6_reading_28 : decode cX6_reading 28 = .ok (.if_icmp .lt 6, 3) := by decide +kernel
theorem dX6_reading_31 : decode cX6_reading 31 = .ok (.ldc 108, 2) := by decide +kernel
theorem dX6_reading_33 : decode cX6_reading 33 = .ok (.ireturn, 1) := by decide +kernel
theorem dX6_reading_34 : decode cX6_reading 34 = .ok (.aload_n 0, 1) := by decide +kernel
theorem dX6_reading_35 : decode cX6_reading 35 = .ok (.invokevirtual 109, 3) := by decide +kernel
theorem dX6_reading_38 : decode cX6_reading 38 = .ok (.iload_n 3, 1) := by decide +kernel
theorem dX6_reading_39 : decode cX6_reading 39 = .ok (.lookupswitch 61 #[(4, 25), (5, 43)], 25) := by decide +kernel
theorem dX6_reading_64 : decode cX6_reading 64 = .ok (.aload_n 0, 1) := by decide +kernel
theorem dX6_reading_65 : decode cX6_reading 65 = .ok (.iload_n 1, 1) := by decide +kernel
theorem dX6_reading_66 : decode cX6_reading 66 = .ok (.invokevirtual 112, 3) := by decide +kernel
theorem dX6_reading_69 : decode cX6_reading 69 = .ok (.iload_n 2, 1) := by decide +kernel
theorem dX6_reading_70 : decode cX6_reading 70 = .ok (.invokevirtual 116, 3) := by decide +kernel
theorem dX6_reading_73 : decode cX6_reading 73 = .ok (.ifCond .eq 7, 3) := by decide +kernel
theorem dX6_reading_76 : decode cX6_reading 76 = .ok (.iconst 1, 1) := by decide +kernel
theorem dX6_reading_77 : decode cX6_reading 77 = .ok (.goto 4, 3) := by decide +kernel
theorem dX6_reading_80 : decode cX6_reading 80 = .ok (.iconst 0, 1) := by decide +kernel
theorem dX6_reading_81 : decode cX6_reading 81 = .ok (.ireturn, 1) := by decide +kernel
theorem dX6_reading_82 : decode cX6_reading 82 = .ok (.aload_n 0, 1) := by decide +kernel
theorem dX6_reading_83 : decode cX6_reading 83 = .ok (.iload_n 1, 1) := by decide +kernel
theorem dX6_reading_84 : decode cX6_reading 84 = .ok (.invokevirtual 112, 3) := by decide +kernel
theorem dX6_reading_87 : decode cX6_reading 87 = .ok (.iload_n 2, 1) := by decide +kernel
theorem dX6_reading_88 : decode cX6_reading 88 = .ok (.invokevirtual 119, 3) := by decide +kernel
theorem dX6_reading_91 : decode cX6_reading 91 = .ok (.ifCond .eq 7, 3) := by decide +kernel
theorem dX6_reading_94 : decode cX6_reading 94 = .ok (.iconst 1, 1) := by decide +kernel
theorem dX6_reading_95 : decode cX6_reading 95 = .ok (.goto 4, 3) := by decide +kernel
theorem dX6_reading_98 : decode cX6_reading 98 = .ok (.iconst 0, 1) := by decide +kernel
theorem dX6_reading_99 : decode cX6_reading 99 = .ok (.ireturn, 1) := by decide +kernel
theorem dX6_reading_100 : decode cX6_reading 100 = .ok (.aload_n 0, 1) := by decide +kernel
theorem dX6_reading_101 : decode cX6_reading 101 = .ok (.getfield 10, 3) := by decide +kernel
theorem dX6_reading_104 : decode cX6_reading 104 = .ok (.iload_n 1, 1) := by decide +kernel
theorem dX6_reading_105 : decode cX6_reading 105 = .ok (.invokevirtual 91, 3) := by decide +kernel
theorem dX6_reading_108 : decode cX6_reading 108 = .ok (.iload_n 2, 1) := by decide +kernel
theorem dX6_reading_109 : decode cX6_reading 109 = .ok (.iload_n 3, 1) := by decide +kernel
theorem dX6_reading_110 : decode cX6_reading 110 = .ok (.invokevirtual 122, 3) := by decide +kernel
theorem dX6_reading_113 : decode cX6_reading 113 = .ok (.ireturn, 1) := by decide +kernel
set_option maxRecDepth 20000 in
theorem ggX6_count_X6_refresh : GoodIn wsX6_count wsX6_refresh := goodIn_r _ [12, 13, 2, 1, 3, 4, 14, 15, 16, 17, 18, 19, 20, 21, 22, 23, 24, 25, 26, 27, 28, 29, 30, 31, 32, 33, 34, 35, 36, 37, 38, 39, 40, 41, 11, 42, 43, 44, 45, 46, 47, 48, 49, 50, 51, 52, 53, 54, 55, 56, 57, 58, 59, 60, 61, 62, 63, 64, 65, 66, 67, 68, 69, 70, 71, 72, 73, 74, 75, 76, 77, 78, 79, 80, 81, 82, 83, 84, 85, 86, 87, 88, 89, 90, 91, 92, 93, 94, 95, 96, 97, 98, 99, 100, 101, 102, 103, 104, 105, 106, 107, 108, 109, 110, 111, 112, 113, 114, 115, 116, 117, 118, 119, 120, 121, 122, 123, 124, 125, 126, 127, 128, 129, 193, 194, 195, 196, 197, 198, 199, 200, 201, 202, 203, 204, 205, 206, 207, 208, 209, 210, 211, 212, 213, 214, 215, 216, 231, 232, 233, 234, 235, 236, 237] (by decide +kernel) (by decide +kernel)
set_option maxRecDepth 20000 in
theorem gX6_count_X6_refresh : GoodIn wsX6_count (wsV RX6 109 RX6 yX6_refresh wsX6_refresh) := goodIn_app (goodIn_of _ (by decide +kernel)) ggX6_count_X6_refresh
set_option maxRecDepth 20000 in
theorem ggX6_count_X2_track : GoodIn wsX6_count wsX2_track := goodIn_r _ [30, 31, 32, 33, 34, 231, 232, 233, 234, 235, 236, 237] (by decide +kernel) (by decide +kernel)
set_option maxRecDepth 20000 in
theorem gX6_count_X2_track : GoodIn wsX6_count (wsV RX6 91 RX2 yX2_track wsX2_track) := goodIn_app (goodIn_of _ (by decide +kernel)) ggX6_count_X2_track
set_option maxRecDepth 20000 in
theorem ggX6_count_X2_steps : GoodIn wsX6_count wsX2_steps := goodIn_r _ [134, 34, 135, 136, 137, 29, 138, 139, 140, 141, 142, 143, 56, 36, 37, 38, 39, 40, 41, 11, 42, 231, 232, 233, 234, 235, 236, 237, 202, 203, 204] (by decide +kernel) (by decide +kernel)
set_option maxRecDepth 20000 in
theorem gX6_count_X2_steps : GoodIn wsX6_count (wsV RX6 132 RX2 yX2_steps wsX2_steps) := goodIn_app (goodIn_of _ (by decide +kernel)) ggX6_count_X2_steps
set_option maxRecDepth 20000 in
theorem ggX6_count_X6_pointsWithHeight : GoodIn wsX6_count wsX6_pointsWithHeight := goodIn_r _ [147, 148, 149, 150, 151, 11, 152, 153, 154, 155, 156, 157, 158, 159, 160, 161, 162, 163, 2, 3, 4, 164, 165, 166, 17, 167, 19, 21, 82, 83, 84, 85, 22, 86, 23, 41, 42, 168, 169, 170, 171, 118, 119, 120, 121, 24, 106, 107, 108, 109, 93, 172, 173, 174, 175, 25, 176, 177, 178, 179, 180, 181, 182, 141, 183, 184, 185, 186, 187, 193, 194, 195, 196, 197, 198, 199, 200, 201, 238, 239, 240, 241, 205, 206, 207, 208, 209, 210, 211, 212, 213, 214, 215, 216] (by decide +kernel) (by decide +kernel)
set_option maxRecDepth 20000 in
theorem gX6_count_X6_pointsWithHeight : GoodIn wsX6_count (wsV RX6 136 RX6 yX6_pointsWithHeight wsX6_pointsWithHeight) := goodIn_app (goodIn_of _ (by decide +kernel)) ggX6_count_X6_pointsWithHeight
set_option maxRecDepth 20000 in
theorem ggX6_count_X2_setting : GoodIn wsX6_count wsX2_setting := goodIn_r _ [191, 51, 192, 143, 231, 232, 233, 234, 235, 236, 237] (by decide +kernel) (by decide +kernel)
set_option maxRecDepth 20000 in
theorem gX6_count_X2_setting : GoodIn wsX6_count (wsV RX6 65 RX2 yX2_setting wsX2_setting) := goodIn_app (goodIn_of _ (by decide +kernel)) ggX6_count_X2_setting
theorem dX6_count_0 : decode cX6_count 0 = .ok (.aload_n 0, 1) := by decide +kernel
theorem dX6_count_1 : decode cX6_count 1 = .ok (.invokevirtual 109, 3) := by decide +kernel
theorem dX6_count_4 : decode cX6_count 4 = .ok (.iload_n 1, 1) := by decide +kernel
theorem dX6_count_5 : decode cX6_count 5 = .ok (.tableswitch 198 0 13 #[71, 71, 71, 71, 85, 109, 133, 141, 146, 154, 162, 162, 162, 174], 71) := by decide +kernel
theorem dX6_count_76 : decode cX6_count 76 = .ok (.aload_n 0, 1) := by decide +kernel
theorem dX6_count_77 : decode cX6_count 77 = .ok (.getfield 10, 3) := by decide +kernel
theorem dX6_count_80 : decode cX6_count 80 = .ok (.iload_n 1, 1) := by decide +kernel
theorem dX6_count_81 : decode cX6_count 81 = .ok (.iconst 1, 1) := by decide +kernel
theorem dX6_count_82 : decode cX6_count 82 = .ok (.isub, 1) := by decide +kernel
theorem dX6_count_83 : decode cX6_count 83 = .ok (.invokevirtual 91, 3) := by decide +kernel
theorem dX6_count_86 : decode cX6_count 86 = .ok (.getfield 101, 3) := by decide +kernel
theorem dX6_count_89 : decode cX6_count 89 = .ok (.ireturn, 1) := by decide +kernel
theorem dX6_count_90 : decode cX6_count 90 = .ok (.aload_n 0, 1) := by decide +kernel
theorem dX6_count_91 : decode cX6_count 91 = .ok (.getfield 29, 3) := by decide +kernel
theorem dX6_count_94 : decode cX6_count 94 = .ok (.getfield 126, 3) := by decide +kernel
theorem dX6_count_97 : decode cX6_count 97 = .ok (.aload_n 0, 1) := by decide +kernel
theorem dX6_count_98 : decode cX6_count 98 = .ok (.getfield 33, 3) := by decide +kernel
theorem dX6_count_101 : decode cX6_count 101 = .ok (.getfield 126, 3) := by decide +kernel
theorem dX6_count_104 : decode cX6_count 104 = .ok (.iadd, 1) := by decide +kernel
theorem dX6_count_105 : decode cX6_count 105 = .ok (.aload_n 0, 1) := by decide +kernel
theorem dX6_count_106 : decode cX6_count 106 = .ok (.getfield 36, 3) := by decide +kernel
theorem dX6_count_109 : decode cX6_count 109 = .ok (.getfield 126, 3) := by decide +kernel
theorem dX6_count_112 : decode cX6_count 112 = .ok (.iadd, 1) := by decide +kernel
theorem dX6_count_113 : decode cX6_count 113 = .ok (.ireturn, 1) := by decide +kernel
theorem dX6_count_114 : decode cX6_count 114 = .ok (.aload_n 0, 1) := by decide +kernel
theorem dX6_count_115 : decode cX6_count 115 = .ok (.getfield 29, 3) := by decide +kernel
theorem dX6_count_118 : decode cX6_count 118 = .ok (.getfield 129, 3) := by decide +kernel
theorem dX6_count_121 : decode cX6_count 121 = .ok (.aload_n 0, 1) := by decide +kernel
theorem dX6_count_122 : decode cX6_count 122 = .ok (.getfield 33, 3) := by decide +kernel
theorem dX6_count_125 : decode cX6_count 125 = .ok (.getfield 129, 3) := by decide +kernel
theorem dX6_count_128 : decode cX6_count 128 = .ok (.iadd, 1) := by decide +kernel
theorem dX6_count_129 : decode cX6_count 129 = .ok (.aload_n 0, 1) := by decide +kernel
theorem dX6_count_130 : decode cX6_count 130 = .ok (.getfield 36, 3) := by decide +kernel
theorem dX6_count_133 : decode cX6_count 133 = .ok (.getfield 129, 3) := by decide +kernel
theorem dX6_count_136 : decode cX6_count 136 = .ok (.iadd, 1) := by decide +kernel
theorem dX6_count_137 : decode cX6_count 137 = .ok (.ireturn, 1) := by decide +kernel
theorem dX6_count_138 : decode cX6_count 138 = .ok (.aload_n 0, 1) := by decide +kernel
theorem dX6_count_139 : decode cX6_count 139 = .ok (.getfield 10, 3) := by decide +kernel
theorem dX6_count_142 : decode cX6_count 142 = .ok (.invokevirtual 132, 3) := by decide +kernel
theorem dX6_count_145 : decode cX6_count 145 = .ok (.ireturn, 1) := by decide +kernel
theorem dX6_count_146 : decode cX6_count 146 = .ok (.aload_n 0, 1) := by decide +kernel
theorem dX6_count_147 : decode cX6_count 147 = .ok (.invokevirtual 136, 3) := by decide +kernel
theorem dX6_count_150 : decode cX6_count 150 = .ok (.ireturn, 1) := by decide +kernel
theorem dX6_count_151 : decode cX6_count 151 = .ok (.aload_n 0, 1) := by decide +kernel
theorem dX6_count_152 : decode cX6_count 152 = .ok (.getfield 22, 3) := by decide +kernel
theorem dX6_count_155 : decode cX6_count 155 = .ok (.getfield 139, 3) := by decide +kernel
theorem dX6_count_158 : decode cX6_count 158 = .ok (.ireturn, 1) := by decide +kernel
theorem dX6_count_159 : decode cX6_count 159 = .ok (.aload_n 0, 1) := by decide +kernel
theorem dX6_count_160 : decode cX6_count 160 = .ok (.getfield 49, 3) := by decide +kernel
theorem dX6_count_163 : decode cX6_count 163 = .ok (.getfield 140, 3) := by decide +kernel
theorem dX6_count_166 : decode cX6_count 166 = .ok (.ireturn, 1) := by decide +kernel
theorem dX6_count_167 : decode cX6_count 167 = .ok (.aload_n 0, 1) := by decide +kernel
theorem dX6_count_168 : decode cX6_count 168 = .ok (.getfield 10, 3) := by decide +kernel
theorem dX6_count_171 : decode cX6_count 171 = .ok (.iload_n 1, 1) := by decide +kernel
theorem dX6_count_172 : decode cX6_count 172 = .ok (.bipush 10, 2) := by decide +kernel
theorem dX6_count_174 : decode cX6_count 174 = .ok (.isub, 1) := by decide +kernel
theorem dX6_count_175 : decode cX6_count 175 = .ok (.invokevirtual 65, 3) := by decide +kernel
theorem dX6_count_178 : decode cX6_count 178 = .ok (.ireturn, 1) := by decide +kernel
theorem dX6_count_179 : decode cX6_count 179 = .ok (.aload_n 0, 1) := by decide +kernel
theorem dX6_count_180 : decode cX6_count 180 = .ok (.getfield 29, 3) := by decide +kernel
theorem dX6_count_183 : decode cX6_count 183 = .ok (.getfield 143, 3) := by decide +kernel
theorem dX6_count_186 : decode cX6_count 186 = .ok (.aload_n 0, 1) := by decide +kernel
theorem dX6_count_187 : decode cX6_count 187 = .ok (.getfield 33, 3) := by decide +kernel
theorem dX6_count_190 : decode cX6_count 190 = .ok (.getfield 143, 3) := by decide +kernel
theorem dX6_count_193 : decode cX6_count 193 = .ok (.iadd, 1) := by decide +kernel
theorem dX6_count_194 : decode cX6_count 194 = .ok (.aload_n 0, 1) := by decide +kernel
theorem dX6_count_195 : decode cX6_count 195 = .ok (.getfield 36, 3) := by decide +kernel
theorem dX6_count_198 : decode cX6_count 198 = .ok (.getfield 143, 3) := by decide +kernel
theorem dX6_count_201 : decode cX6_count 201 = .ok (.iadd, 1) := by decide +kernel
theorem dX6_count_202 : decode cX6_count 202 = .ok (.ireturn, 1) := by decide +kernel
theorem dX6_count_203 : decode cX6_count 203 = .ok (.ldc 61, 2) := by decide +kernel
theorem dX6_count_205 : decode cX6_count 205 = .ok (.ireturn, 1) := by decide +kernel
set_option maxRecDepth 20000 in
theorem ggX6_undo_X0_giveBack : GoodIn wsX6_undo wsX0_giveBack := goodIn_r _ [9, 10, 11, 12, 13, 8, 14, 15, 16, 17, 18, 19, 20, 21, 22, 23, 24, 25, 26, 27, 28, 29, 30, 31, 32, 33, 34, 35, 36, 37, 38, 39, 40, 41, 42, 43, 53, 54, 55, 56, 57, 58, 59, 60, 61, 62, 63, 64, 65] (by decide +kernel) (by decide +kernel)
set_option maxRecDepth 20000 in
theorem gX6_undo_X0_giveBack : GoodIn wsX6_undo (wsV RX6 147 RX0 yX0_giveBack wsX0_giveBack) := goodIn_app (goodIn_of _ (by decide +kernel)) ggX6_undo_X0_giveBack
theorem dX6_undo_0 : decode cX6_undo 0 = .ok (.aload_n 0, 1) := by decide +kernel
theorem dX6_undo_1 : decode cX6_undo 1 = .ok (.getfield 22, 3) := by decide +kernel
theorem dX6_undo_4 : decode cX6_undo 4 = .ok (.getfield 139, 3) := by decide +kernel
theorem dX6_undo_7 : decode cX6_undo 7 = .ok (.ifCond .ne 6, 3) := by decide +kernel
theorem dX6_undo_10 : decode cX6_undo 10 = .ok (.ldc 146, 2) := by decide +kernel
theorem dX6_undo_12 : decode cX6_undo 12 = .ok (.ireturn, 1) := by decide +kernel
theorem dX6_undo_13 : decode cX6_undo 13 = .ok (.aload_n 0, 1) := by decide +kernel
theorem dX6_undo_14 : decode cX6_undo 14 = .ok (.getfield 22, 3) := by decide +kernel
theorem dX6_undo_17 : decode cX6_undo 17 = .ok (.aload_n 0, 1) := by decide +kernel
theorem dX6_undo_18 : decode cX6_undo 18 = .ok (.getfield 10, 3) := by decide +kernel
theorem dX6_undo_21 : decode cX6_undo 21 = .ok (.invokevirtual 147, 3) := by decide +kernel
theorem dX6_undo_24 : decode cX6_undo 24 = .ok (.aload_n 0, 1) := by decide +kernel
theorem dX6_undo_25 : decode cX6_undo 25 = .ok (.iconst 1, 1) := by decide +kernel
theorem dX6_undo_26 : decode cX6_undo 26 = .ok (.putfield 53, 3) := by decide +kernel
theorem dX6_undo_29 : decode cX6_undo 29 = .ok (.aload_n 0, 1) := by decide +kernel
theorem dX6_undo_30 : decode cX6_undo 30 = .ok (.getfield 22, 3) := by decide +kernel
theorem dX6_undo_33 : decode cX6_undo 33 = .ok (.getfield 139, 3) := by decide +kernel
theorem dX6_undo_36 : decode cX6_undo 36 = .ok (.ireturn, 1) := by decide +kernel
set_option maxRecDepth 20000 in
theorem ggX6_baseAt_X6_isTime : GoodIn wsX6_baseAt wsX6_isTime := goodIn_r _ [6, 7, 8, 5, 9] (by decide +kernel) (by decide +kernel)
set_option maxRecDepth 20000 in
theorem gX6_baseAt_X6_isTime : GoodIn wsX6_baseAt (va_wsS RX6 151 yX6_isTime wsX6_isTime) := goodIn_app (goodIn_of _ (by decide +kernel)) ggX6_baseAt_X6_isTime
set_option maxRecDepth 20000 in
theorem ggX6_baseAt_X6_within : GoodIn wsX6_baseAt wsX6_within := goodIn_r _ [9] (by decide +kernel) (by decide +kernel)
set_option maxRecDepth 20000 in
theorem gX6_baseAt_X6_within : GoodIn wsX6_baseAt (va_wsS RX6 105 yX6_within wsX6_within) := goodIn_app (goodIn_of _ (by decide +kernel)) ggX6_baseAt_X6_within
set_option maxRecDepth 20000 in
theorem ggX6_baseAt_X2_baseValue : GoodIn wsX6_baseAt wsX2_baseValue := goodIn_r _ [14, 15, 16, 17, 18, 19, 20, 21, 22, 23, 5, 24, 25, 26, 27, 28, 29, 30, 40, 41, 42, 43, 44, 45, 46, 47, 48, 49] (by decide +kernel) (by decide +kernel)
set_option maxRecDepth 20000 in
theorem gX6_baseAt_X2_baseValue : GoodIn wsX6_baseAt (wsV RX6 154 RX2 yX2_baseValue wsX2_baseValue) := goodIn_app (goodIn_of _ (by decide +kernel)) ggX6_baseAt_X2_baseValue
theorem dX6_baseAt_0 : decode cX6_baseAt 0 = .ok (.iload_n 1, 1) := by decide +kernel
theorem dX6_baseAt_1 : decode cX6_baseAt 1 = .ok (.invokestatic 151, 3) := by decide +kernel
theorem dX6_baseAt_4 : decode cX6_baseAt 4 = .ok (.ifCond .eq 12, 3) := by decide +kernel
theorem dX6_baseAt_7 : decode cX6_baseAt 7 = .ok (.iload_n 2, 1) := by decide +kernel
theorem dX6_baseAt_8 : decode cX6_baseAt 8 = .ok (.iconst 0, 1) := by decide +kernel
theorem dX6_baseAt_9 : decode cX6_baseAt 9 = .ok (.iconst 1, 1) := by decide +kernel
theorem dX6_baseAt_10 : decode cX6_baseAt 10 = .ok (.invokestatic 105, 3) := by decide +kernel
theorem dX6_baseAt_13 : decode cX6_baseAt 13 = .ok (.ifCond .ne 6, 3) := by decide +kernel
theorem dX6_baseAt_16 : decode cX6_baseAt 16 = .ok (.ldc 61, 2) := by decide +kernel
theorem dX6_baseAt_18 : decode cX6_baseAt 18 = .ok (.ireturn, 1) := by decide +kernel
theorem dX6_baseAt_19 : decode cX6_baseAt 19 = .ok (.aload_n 0, 1) := by decide +kernel
theorem dX6_baseAt_20 : decode cX6_baseAt 20 = .ok (.getfield 10, 3) := by decide +kernel
theorem dX6_baseAt_23 : decode cX6_baseAt 23 = .ok (.iload_n 1, 1) := by decide +kernel
theorem dX6_baseAt_24 : decode cX6_baseAt 24 = .ok (.iload_n 2, 1) := by decide +kernel
theorem dX6_baseAt_25 : decode cX6_baseAt 25 = .ok (.ifCond .ne 7, 3) := by decide +kernel
theorem dX6_baseAt_28 : decode cX6_baseAt 28 = .ok (.iconst 1, 1) := by decide +kernel
theorem dX6_baseAt_29 : decode cX6_baseAt 29 = .ok (.goto 4, 3) := by decide +kernel
theorem dX6_baseAt_32 : decode cX6_baseAt 32 = .ok (.iconst 2, 1) := by decide +kernel
theorem dX6_baseAt_33 : decode cX6_baseAt 33 = .ok (.invokevirtual 154, 3) := by decide +kernel
theorem dX6_baseAt_36 : decode cX6_baseAt 36 = .ok (.ireturn, 1) := by decide +kernel
set_option maxRecDepth 20000 in
theorem ggX6_raw_X6_isCell : GoodIn wsX6_raw wsX6_isCell := goodIn_r _ [5, 6, 7, 4, 8] (by decide +kernel) (by decide +kernel)
set_option maxRecDepth 20000 in
theorem gX6_raw_X6_isCell : GoodIn wsX6_raw (va_wsS RX6 81 yX6_isCell wsX6_isCell) := goodIn_app (goodIn_of _ (by decide +kernel)) ggX6_raw_X6_isCell
set_option maxRecDepth 20000 in
theorem ggX6_raw_X6_isReadingOf : GoodIn wsX6_raw wsX6_isReadingOf := goodIn_r _ [12, 13, 2, 3, 4, 5, 6, 7, 8, 14, 15, 16, 17, 18, 19, 20, 21, 22, 144, 145, 146, 147, 148, 149, 150, 151, 152, 153, 154, 155, 156, 157, 158, 159, 160, 161, 162] (by decide +kernel) (by decide +kernel)
set_option maxRecDepth 20000 in
theorem gX6_raw_X6_isReadingOf : GoodIn wsX6_raw (wsV RX6 88 RX6 yX6_isReadingOf wsX6_isReadingOf) := goodIn_app (goodIn_of _ (by decide +kernel)) ggX6_raw_X6_isReadingOf
set_option maxRecDepth 20000 in
theorem ggX6_raw_X6_refresh : GoodIn wsX6_raw wsX6_refresh := goodIn_r _ [26, 27, 28, 13, 29, 30, 31, 32, 33, 34, 35, 36, 37, 38, 39, 40, 41, 42, 43, 15, 16, 17, 18, 19, 20, 21, 22, 44, 45, 46, 47, 48, 49, 50, 4, 51, 52, 53, 54, 55, 56, 57, 58, 59, 60, 61, 62, 63, 64, 65, 66, 67, 68, 69, 70, 71, 72, 73, 74, 75, 76, 77, 78, 79, 80, 81, 82, 83, 84, 85, 86, 87, 88, 89, 90, 91, 92, 93, 94, 95, 96, 97, 98, 99, 100, 101, 102, 103, 104, 105, 106, 107, 108, 109, 110, 111, 112, 113, 114, 115, 116, 117, 118, 119, 120, 121, 122, 123, 124, 125, 126, 127, 128, 129, 130, 131, 132, 133, 134, 135, 136, 137, 138, 144, 145, 146, 147, 148, 149, 150, 151, 152, 153, 154, 155, 163, 164, 165, 166, 167, 168, 169, 170, 171, 172, 173, 174, 156, 157, 158, 159, 160, 161, 162] (by decide +kernel) (by decide +kernel)
set_option maxRecDepth 20000 in
theorem gX6_raw_X6_refresh : GoodIn wsX6_raw (wsV RX6 109 RX6 yX6_refresh wsX6_refresh) := goodIn_app (goodIn_of _ (by decide +kernel)) ggX6_raw_X6_refresh
set_option maxRecDepth 20000 in
theorem ggX6_raw_X6_surveyOf : GoodIn wsX6_raw wsX6_surveyOf := goodIn_r _ [142, 28, 29, 30, 144, 145, 146, 147, 148, 149, 150, 151, 152] (by decide +kernel) (by decide +kernel)
set_option maxRecDepth 20000 in
theorem gX6_raw_X6_surveyOf : GoodIn wsX6_raw (wsV RX6 112 RX6 yX6_surveyOf wsX6_surveyOf) := goodIn_app (goodIn_of _ (by decide +kernel)) ggX6_raw_X6_surveyOf
set_option maxRecDepth 20000 in
theorem ggX6_raw_X3_rawHeight : GoodIn wsX6_raw wsX3_rawHeight := goodIn_r _ [134, 39, 50, 4, 51, 163, 164, 165, 166, 167, 168, 169, 170, 171, 172, 173, 174] (by decide +kernel) (by decide +kernel)
set_option maxRecDepth 20000 in
theorem gX6_raw_X3_rawHeight : GoodIn wsX6_raw (wsV RX6 160 RX3 yX3_rawHeight wsX3_rawHeight) := goodIn_app (goodIn_of _ (by decide +kernel)) ggX6_raw_X3_rawHeight
theorem dX6_raw_0 : decode cX6_raw 0 = .ok (.iload_n 1, 1) := by decide +kernel
theorem dX6_raw_1 : decode cX6_raw 1 = .ok (.invokestatic 81, 3) := by decide +kernel
theorem dX6_raw_4 : decode cX6_raw 4 = .ok (.ifCond .eq 12, 3) := by decide +kernel
theorem dX6_raw_7 : decode cX6_raw 7 = .ok (.aload_n 0, 1) := by decide +kernel
theorem dX6_raw_8 : decode cX6_raw 8 = .ok (.iload_n 1, 1) := by decide +kernel
theorem dX6_raw_9 : decode cX6_raw 9 = .ok (.iload_n 2, 1) := by decide +kernel
theorem dX6_raw_10 : decode cX6_raw 10 = .ok (.invokevirtual 88, 3) := by decide +kernel
theorem dX6_raw_13 : decode cX6_raw 13 = .ok (.ifCond .ne 6, 3) := by decide +kernel
theorem dX6_raw_16 : decode cX6_raw 16 = .ok (.ldc 61, 2) := by decide +kernel
theorem dX6_raw_18 : decode cX6_raw 18 = .ok (.ireturn, 1) := by decide +kernel
theorem dX6_raw_19 : decode cX6_raw 19 = .ok (.aload_n 0, 1) := by decide +kernel
theorem dX6_raw_20 : decode cX6_raw 20 = .ok (.invokevirtual 109, 3) := by decide +kernel
theorem dX6_raw_23 : decode cX6_raw 23 = .ok (.aload_n 0, 1) := by decide +kernel
theorem dX6_raw_24 : decode cX6_raw 24 = .ok (.iload_n 1, 1) := by decide +kernel
theorem dX6_raw_25 : decode cX6_raw 25 = .ok (.invokevirtual 112, 3) := by decide +kernel
theorem dX6_raw_28 : decode cX6_raw 28 = .ok (.iload_n 2, 1) := by decide +kernel
theorem dX6_raw_29 : decode cX6_raw 29 = .ok (.invokevirtual 160, 3) := by decide +kernel
theorem dX6_raw_32 : decode cX6_raw 32 = .ok (.ireturn, 1) := by decide +kernel
set_option maxRecDepth 20000 in
theorem ggX6_would_X6_isReading : GoodIn wsX6_would wsX6_isReading := goodIn_r _ [6, 7, 8, 9, 10, 5, 11, 12, 13, 14, 15, 16, 17] (by decide +kernel) (by decide +kernel)
set_option maxRecDepth 20000 in
theorem gX6_would_X6_isReading : GoodIn wsX6_would (va_wsS RX6 73 yX6_isReading wsX6_isReading) := goodIn_app (goodIn_of _ (by decide +kernel)) ggX6_would_X6_isReading
set_option maxRecDepth 20000 in
theorem ggX6_would_X2_heightAt : GoodIn wsX6_would wsX2_heightAt := goodIn_r _ [22, 23, 24, 25, 26, 27, 28, 21, 29, 30, 31, 32, 33, 34, 35, 36, 37, 5, 38, 39, 40, 41, 42, 43, 44, 45, 46, 47, 57, 58, 59, 60, 61, 62, 63, 64, 65, 66] (by decide +kernel) (by decide +kernel)
set_option maxRecDepth 20000 in
theorem gX6_would_X2_heightAt : GoodIn wsX6_would (wsV RX6 163 RX2 yX2_heightAt wsX2_heightAt) := goodIn_app (goodIn_of _ (by decide +kernel)) ggX6_would_X2_heightAt
theorem dX6_would_0 : decode cX6_would 0 = .ok (.iload_n 1, 1) := by decide +kernel
theorem dX6_would_1 : decode cX6_would 1 = .ok (.iload_n 2, 1) := by decide +kernel
theorem dX6_would_2 : decode cX6_would 2 = .ok (.iload_n 3, 1) := by decide +kernel
theorem dX6_would_3 : decode cX6_would 3 = .ok (.invokestatic 73, 3) := by decide +kernel
theorem dX6_would_6 : decode cX6_would 6 = .ok (.ifCond .ne 6, 3) := by decide +kernel
theorem dX6_would_9 : decode cX6_would 9 = .ok (.ldc 61, 2) := by decide +kernel
theorem dX6_would_11 : decode cX6_would 11 = .ok (.ireturn, 1) := by decide +kernel
theorem dX6_would_12 : decode cX6_would 12 = .ok (.aload_n 0, 1) := by decide +kernel
theorem dX6_would_13 : decode cX6_would 13 = .ok (.getfield 10, 3) := by decide +kernel
theorem dX6_would_16 : decode cX6_would 16 = .ok (.iload_n 1, 1) := by decide +kernel
theorem dX6_would_17 : decode cX6_would 17 = .ok (.iload_n 2, 1) := by decide +kernel
theorem dX6_would_18 : decode cX6_would 18 = .ok (.iload_n 3, 1) := by decide +kernel
theorem dX6_would_19 : decode cX6_would 19 = .ok (.invokevirtual 163, 3) := by decide +kernel
theorem dX6_would_22 : decode cX6_would 22 = .ok (.ireturn, 1) := by decide +kernel
set_option maxRecDepth 20000 in
theorem ggX6_loops_X6_isCell : GoodIn wsX6_loops wsX6_isCell := goodIn_r _ [5, 6, 7, 4, 8] (by decide +kernel) (by decide +kernel)
set_option maxRecDepth 20000 in
theorem gX6_loops_X6_isCell : GoodIn wsX6_loops (va_wsS RX6 81 yX6_isCell wsX6_isCell) := goodIn_app (goodIn_of _ (by decide +kernel)) ggX6_loops_X6_isCell
set_option maxRecDepth 20000 in
theorem ggX6_loops_X6_refresh : GoodIn wsX6_loops wsX6_refresh := goodIn_r _ [12, 13, 14, 15, 16, 17, 18, 19, 20, 21, 22, 23, 24, 25, 26, 27, 28, 29, 30, 31, 32, 33, 34, 35, 36, 37, 38, 39, 40, 41, 42, 43, 44, 45, 4, 46, 47, 48, 49, 50, 51, 52, 53, 54, 55, 56, 57, 58, 59, 60, 61, 62, 63, 64, 65, 66, 67, 68, 69, 70, 71, 72, 73, 74, 75, 76, 77, 78, 79, 80, 81, 82, 83, 84, 85, 86, 87, 88, 89, 90, 91, 92, 93, 94, 95, 96, 97, 98, 99, 100, 101, 102, 103, 104, 105, 106, 107, 108, 109, 110, 111, 112, 113, 114, 115, 116, 117, 118, 119, 120, 121, 122, 123, 124, 125, 126, 127, 128, 129, 130, 131, 132, 133, 150, 151, 152, 153, 154, 155, 156, 157, 158, 159, 160, 161, 138, 139, 140, 141, 142, 143, 144, 145, 146, 147, 148, 149, 162, 163, 164, 165, 166, 167, 168] (by decide +kernel) (by decide +kernel)
set_option maxRecDepth 20000 in
theorem gX6_loops_X6_refresh : GoodIn wsX6_loops (wsV RX6 109 RX6 yX6_refresh wsX6_refresh) := goodIn_app (goodIn_of _ (by decide +kernel)) ggX6_loops_X6_refresh
set_option maxRecDepth 20000 in
theorem ggX6_loops_X6_surveyOf : GoodIn wsX6_loops wsX6_surveyOf := goodIn_r _ [137, 14, 16, 17, 150, 151, 152, 153, 154, 155, 156, 157, 158] (by decide +kernel) (by decide +kernel)
set_option maxRecDepth 20000 in
theorem gX6_loops_X6_surveyOf : GoodIn wsX6_loops (wsV RX6 112 RX6 yX6_surveyOf wsX6_surveyOf) := goodIn_app (goodIn_of _ (by decide +kernel)) ggX6_loops_X6_surveyOf
theorem dX6_loops_0 : decode cX6_loops 0 = .ok (.iload_n 1, 1) := by decide +kernel
theorem dX6_loops_1 : decode cX6_loops 1 = .ok (.invokestatic 81, 3) := by decide +kernel
theorem dX6_loops_4 : decode cX6_loops 4 = .ok (.ifCond .ne 6, 3) := by decide +kernel
theorem dX6_loops_7 : decode cX6_loops 7 = .ok (.ldc 61, 2) := by decide +kernel
theorem dX6_loops_9 : decode cX6_loops 9 = .ok (.ireturn, 1) := by decide +kernel
theorem dX6_loops_10 : decode cX6_loops 10 = .ok (.aload_n 0, 1) := by decide +kernel
theorem dX6_loops_11 : decode cX6_loops 11 = .ok (.invokevirtual 109, 3) := by decide +kernel
theorem dX6_loops_14 : decode cX6_loops 14 = .ok (.aload_n 0, 1) := by decide +kernel
theorem dX6_loops_15 : decode cX6_loops 15 = .ok (.iload_n 1, 1) := by decide +kernel
theorem dX6_loops_16 : decode cX6_loops 16 = .ok (.invokevirtual 112, 3) := by decide +kernel
theorem dX6_loops_19 : decode cX6_loops 19 = .ok (.getfield 129, 3) := by decide +kernel
theorem dX6_loops_22 : decode cX6_loops 22 = .ok (.ireturn, 1) := by decide +kernel
set_option maxRecDepth 20000 in
theorem ggX6_loop_X6_isCell : GoodIn wsX6_loop wsX6_isCell := goodIn_r _ [5, 6, 7, 4, 8] (by decide +kernel) (by decide +kernel)
set_option maxRecDepth 20000 in
theorem gX6_loop_X6_isCell : GoodIn wsX6_loop (va_wsS RX6 81 yX6_isCell wsX6_isCell) := goodIn_app (goodIn_of _ (by decide +kernel)) ggX6_loop_X6_isCell
set_option maxRecDepth 20000 in
theorem ggX6_loop_X6_refresh : GoodIn wsX6_loop wsX6_refresh := goodIn_r _ [12, 13, 14, 15, 16, 17, 18, 19, 20, 21, 22, 23, 24, 25, 26, 27, 28, 29, 30, 31, 32, 33, 34, 35, 36, 37, 38, 39, 40, 41, 42, 43, 44, 45, 4, 46, 47, 48, 49, 50, 51, 52, 53, 54, 55, 56, 57, 58, 59, 60, 61, 62, 63, 64, 65, 66, 67, 68, 69, 70, 71, 72, 73, 74, 75, 76, 77, 78, 79, 80, 81, 82, 83, 84, 85, 86, 87, 88, 89, 90, 91, 92, 93, 94, 95, 96, 97, 98, 99, 100, 101, 102, 103, 104, 105, 106, 107, 108, 109, 110, 111, 112, 113, 114, 115, 116, 117, 118, 119, 120, 121, 122, 123, 124, 125, 126, 127, 128, 129, 130, 131, 132, 133, 158, 159, 160, 161, 162, 163, 164, 165, 166, 167, 168, 169, 146, 147, 148, 149, 150, 151, 152, 153, 154, 155, 156, 157, 170, 171, 172, 173, 174, 175, 176] (by decide +kernel) (by decide +kernel)
set_option maxRecDepth 20000 in
theorem gX6_loop_X6_refresh : GoodIn wsX6_loop (wsV RX6 109 RX6 yX6_refresh wsX6_refresh) := goodIn_app (goodIn_of _ (by decide +kernel)) ggX6_loop_X6_refresh
set_option maxRecDepth 20000 in
theorem ggX6_loop_X6_surveyOf : GoodIn wsX6_loop wsX6_surveyOf := goodIn_r _ [137, 14, 16, 17, 158, 159, 160, 161, 162, 163, 164, 165, 166] (by decide +kernel) (by decide +kernel)
set_option maxRecDepth 20000 in
theorem gX6_loop_X6_surveyOf : GoodIn wsX6_loop (wsV RX6 112 RX6 yX6_surveyOf wsX6_surveyOf) := goodIn_app (goodIn_of _ (by decide +kernel)) ggX6_loop_X6_surveyOf
set_option maxRecDepth 20000 in
theorem ggX6_loop_X6_within : GoodIn wsX6_loop wsX6_within := goodIn_r _ [8] (by decide +kernel) (by decide +kernel)
set_option maxRecDepth 20000 in
theorem gX6_loop_X6_within : GoodIn wsX6_loop (va_wsS RX6 105 yX6_within wsX6_within) := goodIn_app (goodIn_of _ (by decide +kernel)) ggX6_loop_X6_within
set_option maxRecDepth 20000 in
theorem ggX6_loop_X3_begin : GoodIn wsX6_loop wsX3_begin := goodIn_r _ [109, 96, 45, 4, 46, 146, 147, 148, 149, 150, 151, 152, 153, 154, 155, 156, 157] (by decide +kernel) (by decide +kernel)
set_option maxRecDepth 20000 in
theorem gX6_loop_X3_begin : GoodIn wsX6_loop (wsV RX6 176 RX3 yX3_begin wsX3_begin) := goodIn_app (goodIn_of _ (by decide +kernel)) ggX6_loop_X3_begin
set_option maxRecDepth 20000 in
theorem ggX6_loop_X3_end : GoodIn wsX6_loop wsX3_end := goodIn_r _ [113, 97, 45, 4, 46, 146, 147, 148, 149, 150, 151, 152, 153, 154, 155, 156, 157] (by decide +kernel) (by decide +kernel)
set_option maxRecDepth 20000 in
theorem gX6_loop_X3_end : GoodIn wsX6_loop (wsV RX6 179 RX3 yX3_end wsX3_end) := goodIn_app (goodIn_of _ (by decide +kernel)) ggX6_loop_X3_end
set_option maxRecDepth 20000 in
theorem ggX6_loop_X3_misclosure : GoodIn wsX6_loop wsX3_misclosure := goodIn_r _ [133, 110, 111, 112, 21, 113, 97, 45, 4, 46, 126, 127, 128, 129, 26, 106, 107, 108, 109, 96, 146, 147, 148, 149, 150, 151, 152, 153, 154, 155, 156, 157] (by decide +kernel) (by decide +kernel)
set_option maxRecDepth 20000 in
theorem gX6_loop_X3_misclosure : GoodIn wsX6_loop (wsV RX6 182 RX3 yX3_misclosure wsX3_misclosure) := goodIn_app (goodIn_of _ (by decide +kernel)) ggX6_loop_X3_misclosure
set_option maxRecDepth 20000 in
theorem ggX6_loop_X3_misclosureBySteps : GoodIn wsX6_loop wsX3_misclosureBySteps := goodIn_r _ [144, 23, 106, 107, 108, 21, 109, 96, 45, 4, 46, 126, 127, 128, 129, 26, 110, 111, 112, 113, 97, 86, 87, 88, 89, 90, 27, 146, 147, 148, 149, 150, 151, 152, 153, 154, 155, 156, 157] (by decide +kernel) (by decide +kernel)
set_option maxRecDepth 20000 in
theorem gX6_loop_X3_misclosureBySteps : GoodIn wsX6_loop (wsV RX6 185 RX3 yX3_misclosureBySteps wsX3_misclosureBySteps) := goodIn_app (goodIn_of _ (by decide +kernel)) ggX6_loop_X3_misclosureBySteps
end
section
set_option maxRecDepth 20000 in
theorem ggX6_loop_X3_minutes : GoodIn wsX6_loop wsX3_minutes := goodIn_r _ [117, 24, 110, 111, 112, 21, 113, 97, 45, 4, 46, 106, 107, 108, 109, 96, 146, 147, 148, 149, 150, 151, 152, 153, 154, 155, 156, 157] (by decide +kernel) (by decide +kernel)
set_option maxRecDepth 20000 in
theorem gX6_loop_X3_minutes : GoodIn wsX6_loop (wsV RX6 188 RX3 yX3_minutes wsX3_minutes) := goodIn_app (goodIn_of _ (by decide +kernel)) ggX6_loop_X3_minutes
theorem dX6_loop_0 : decode cX6_loop 0 = .ok (.iload_n 1, 1) := by decide +kernel
theorem dX6_loop_1 : decode cX6_loop 1 = .ok (.invokestatic 81, 3) := by decide +kernel
theorem dX6_loop_4 : decode cX6_loop 4 = .ok (.ifCond .ne 6, 3) := by decide +kernel
theorem dX6_loop_7 : decode cX6_loop 7 = .ok (.ldc 61, 2) := by decide +kernel
theorem dX6_loop_9 : decode cX6_loop 9 = .ok (.ireturn, 1) := by decide +kernel
theorem dX6_loop_10 : decode cX6_loop 10 = .ok (.aload_n 0, 1) := by decide +kernel
theorem dX6_loop_11 : decode cX6_loop 11 = .ok (.invokevirtual 109, 3) := by decide +kernel
theorem dX6_loop_14 : decode cX6_loop 14 = .ok (.aload_n 0, 1) := by decide +kernel
theorem dX6_loop_15 : decode cX6_loop 15 = .ok (.iload_n 1, 1) := by decide +kernel
theorem dX6_loop_16 : decode cX6_loop 16 = .ok (.invokevirtual 112, 3) := by decide +kernel
theorem dX6_loop_19 : decode cX6_loop 19 = .ok (.astore 4, 2) := by decide +kernel
theorem dX6_loop_21 : decode cX6_loop 21 = .ok (.iload_n 2, 1) := by decide +kernel
theorem dX6_loop_22 : decode cX6_loop 22 = .ok (.iconst 0, 1) := by decide +kernel
theorem dX6_loop_23 : decode cX6_loop 23 = .ok (.aload 4, 2) := by decide +kernel
theorem dX6_loop_25 : decode cX6_loop 25 = .ok (.getfield 129, 3) := by decide +kernel
theorem dX6_loop_28 : decode cX6_loop 28 = .ok (.iconst 1, 1) := by decide +kernel
theorem dX6_loop_29 : decode cX6_loop 29 = .ok (.isub, 1) := by decide +kernel
theorem dX6_loop_30 : decode cX6_loop 30 = .ok (.invokestatic 105, 3) := by decide +kernel
theorem dX6_loop_33 : decode cX6_loop 33 = .ok (.ifCond .ne 6, 3) := by decide +kernel
theorem dX6_loop_36 : decode cX6_loop 36 = .ok (.ldc 61, 2) := by decide +kernel
theorem dX6_loop_38 : decode cX6_loop 38 = .ok (.ireturn, 1) := by decide +kernel
theorem dX6_loop_39 : decode cX6_loop 39 = .ok (.iload_n 3, 1) := by decide +kernel
theorem dX6_loop_40 : decode cX6_loop 40 = .ok (.tableswitch 71 0 4 #[36, 43, 50, 57, 64], 36) := by decide +kernel
theorem dX6_loop_76 : decode cX6_loop 76 = .ok (.aload 4, 2) := by decide +kernel
theorem dX6_loop_78 : decode cX6_loop 78 = .ok (.iload_n 2, 1) := by decide +kernel
theorem dX6_loop_79 : decode cX6_loop 79 = .ok (.invokevirtual 176, 3) := by decide +kernel
theorem dX6_loop_82 : decode cX6_loop 82 = .ok (.ireturn, 1) := by decide +kernel
theorem dX6_loop_83 : decode cX6_loop 83 = .ok (.aload 4, 2) := by decide +kernel
theorem dX6_loop_85 : decode cX6_loop 85 = .ok (.iload_n 2, 1) := by decide +kernel
theorem dX6_loop_86 : decode cX6_loop 86 = .ok (.invokevirtual 179, 3) := by decide +kernel
theorem dX6_loop_89 : decode cX6_loop 89 = .ok (.ireturn, 1) := by decide +kernel
theorem dX6_loop_90 : decode cX6_loop 90 = .ok (.aload 4, 2) := by decide +kernel
theorem dX6_loop_92 : decode cX6_loop 92 = .ok (.iload_n 2, 1) := by decide +kernel
theorem dX6_loop_93 : decode cX6_loop 93 = .ok (.invokevirtual 182, 3) := by decide +kernel
theorem dX6_loop_96 : decode cX6_loop 96 = .ok (.ireturn, 1) := by decide +kernel
theorem dX6_loop_97 : decode cX6_loop 97 = .ok (.aload 4, 2) := by decide +kernel
theorem dX6_loop_99 : decode cX6_loop 99 = .ok (.iload_n 2, 1) := by decide +kernel
theorem dX6_loop_100 : decode cX6_loop 100 = .ok (.invokevirtual 185, 3) := by decide +kernel
theorem dX6_loop_103 : decode cX6_loop 103 = .ok (.ireturn, 1) := by decide +kernel
theorem dX6_loop_104 : decode cX6_loop 104 = .ok (.aload 4, 2) := by decide +kernel
theorem dX6_loop_106 : decode cX6_loop 106 = .ok (.iload_n 2, 1) := by decide +kernel
theorem dX6_loop_107 : decode cX6_loop 107 = .ok (.invokevirtual 188, 3) := by decide +kernel
theorem dX6_loop_110 : decode cX6_loop 110 = .ok (.ireturn, 1) := by decide +kernel
theorem dX6_loop_111 : decode cX6_loop 111 = .ok (.ldc 61, 2) := by decide +kernel
theorem dX6_loop_113 : decode cX6_loop 113 = .ok (.ireturn, 1) := by decide +kernel
set_option maxRecDepth 20000 in
theorem ggX6_openLoop_X6_isCell : GoodIn wsX6_openLoop wsX6_isCell := goodIn_r _ [6, 7, 8, 5, 9] (by decide +kernel) (by decide +kernel)
set_option maxRecDepth 20000 in
theorem gX6_openLoop_X6_isCell : GoodIn wsX6_openLoop (va_wsS RX6 81 yX6_isCell wsX6_isCell) := goodIn_app (goodIn_of _ (by decide +kernel)) ggX6_openLoop_X6_isCell
set_option maxRecDepth 20000 in
theorem ggX6_openLoop_X6_isReadingOf : GoodIn wsX6_openLoop wsX6_isReadingOf := goodIn_r _ [13, 14, 3, 4, 5, 6, 7, 8, 9, 15, 16, 17, 18, 19, 20, 21, 22, 23, 145, 146, 147, 148, 149, 150, 151, 152, 153, 154, 155, 156, 157, 158, 159, 160, 161, 162, 163] (by decide +kernel) (by decide +kernel)
set_option maxRecDepth 20000 in
theorem gX6_openLoop_X6_isReadingOf : GoodIn wsX6_openLoop (wsV RX6 88 RX6 yX6_isReadingOf wsX6_isReadingOf) := goodIn_app (goodIn_of _ (by decide +kernel)) ggX6_openLoop_X6_isReadingOf
set_option maxRecDepth 20000 in
theorem ggX6_openLoop_X6_refresh : GoodIn wsX6_openLoop wsX6_refresh := goodIn_r _ [27, 28, 29, 14, 30, 31, 32, 33, 34, 35, 36, 37, 38, 39, 40, 41, 42, 43, 44, 16, 17, 18, 19, 20, 21, 22, 23, 45, 46, 47, 48, 49, 50, 51, 5, 52, 53, 54, 55, 56, 57, 58, 59, 60, 61, 62, 63, 64, 65, 66, 67, 68, 69, 70, 71, 72, 73, 74, 75, 76, 77, 78, 79, 80, 81, 82, 83, 84, 85, 86, 87, 88, 89, 90, 91, 92, 93, 94, 95, 96, 97, 98, 99, 100, 101, 102, 103, 104, 105, 106, 107, 108, 109, 110, 111, 112, 113, 114, 115, 116, 117, 118, 119, 120, 121, 122, 123, 124, 125, 126, 127, 128, 129, 130, 131, 132, 133, 134, 135, 136, 137, 138, 139, 145, 146, 147, 148, 149, 150, 151, 152, 153, 154, 155, 156, 164, 165, 166, 167, 168, 169, 170, 171, 172, 173, 174, 175, 157, 158, 159, 160, 161, 162, 163] (by decide +kernel) (by decide +kernel)
set_option maxRecDepth 20000 in
theorem gX6_openLoop_X6_refresh : GoodIn wsX6_openLoop (wsV RX6 109 RX6 yX6_refresh wsX6_refresh) := goodIn_app (goodIn_of _ (by decide +kernel)) ggX6_openLoop_X6_refresh
set_option maxRecDepth 20000 in
theorem ggX6_openLoop_X6_surveyOf : GoodIn wsX6_openLoop wsX6_surveyOf := goodIn_r _ [143, 29, 30, 31, 145, 146, 147, 148, 149, 150, 151, 152, 153] (by decide +kernel) (by decide +kernel)
set_option maxRecDepth 20000 in
theorem gX6_openLoop_X6_surveyOf : GoodIn wsX6_openLoop (wsV RX6 112 RX6 yX6_surveyOf wsX6_surveyOf) := goodIn_app (goodIn_of _ (by decide +kernel)) ggX6_openLoop_X6_surveyOf
set_option maxRecDepth 20000 in
theorem ggX6_openLoop_X3_openLoopOf : GoodIn wsX6_openLoop wsX3_openLoopOf := goodIn_r _ [131, 42, 51, 5, 52, 164, 165, 166, 167, 168, 169, 170, 171, 172, 173, 174, 175] (by decide +kernel) (by decide +kernel)
set_option maxRecDepth 20000 in
theorem gX6_openLoop_X3_openLoopOf : GoodIn wsX6_openLoop (wsV RX6 191 RX3 yX3_openLoopOf wsX3_openLoopOf) := goodIn_app (goodIn_of _ (by decide +kernel)) ggX6_openLoop_X3_openLoopOf
theorem dX6_openLoop_0 : decode cX6_openLoop 0 = .ok (.iload_n 1, 1) := by decide +kernel
theorem dX6_openLoop_1 : decode cX6_openLoop 1 = .ok (.invokestatic 81, 3) := by decide +kernel
theorem dX6_openLoop_4 : decode cX6_openLoop 4 = .ok (.ifCond .eq 12, 3) := by decide +kernel
theorem dX6_openLoop_7 : decode cX6_openLoop 7 = .ok (.aload_n 0, 1) := by decide +kernel
theorem dX6_openLoop_8 : decode cX6_openLoop 8 = .ok (.iload_n 1, 1) := by decide +kernel
theorem dX6_openLoop_9 : decode cX6_openLoop 9 = .ok (.iload_n 2, 1) := by decide +kernel
theorem dX6_openLoop_10 : decode cX6_openLoop 10 = .ok (.invokevirtual 88, 3) := by decide +kernel
theorem dX6_openLoop_13 : decode cX6_openLoop 13 = .ok (.ifCond .ne 6, 3) := by decide +kernel
theorem dX6_openLoop_16 : decode cX6_openLoop 16 = .ok (.ldc 61, 2) := by decide +kernel
theorem dX6_openLoop_18 : decode cX6_openLoop 18 = .ok (.ireturn, 1) := by decide +kernel
theorem dX6_openLoop_19 : decode cX6_openLoop 19 = .ok (.aload_n 0, 1) := by decide +kernel
theorem dX6_openLoop_20 : decode cX6_openLoop 20 = .ok (.invokevirtual 109, 3) := by decide +kernel
theorem dX6_openLoop_23 : decode cX6_openLoop 23 = .ok (.aload_n 0, 1) := by decide +kernel
theorem dX6_openLoop_24 : decode cX6_openLoop 24 = .ok (.iload_n 1, 1) := by decide +kernel
theorem dX6_openLoop_25 : decode cX6_openLoop 25 = .ok (.invokevirtual 112, 3) := by decide +kernel
theorem dX6_openLoop_28 : decode cX6_openLoop 28 = .ok (.iload_n 2, 1) := by decide +kernel
theorem dX6_openLoop_29 : decode cX6_openLoop 29 = .ok (.invokevirtual 191, 3) := by decide +kernel
theorem dX6_openLoop_32 : decode cX6_openLoop 32 = .ok (.istore_n 3, 1) := by decide +kernel
theorem dX6_openLoop_33 : decode cX6_openLoop 33 = .ok (.iload_n 3, 1) := by decide +kernel
theorem dX6_openLoop_34 : decode cX6_openLoop 34 = .ok (.iconst (-1), 1) := by decide +kernel
theorem dX6_openLoop_35 : decode cX6_openLoop 35 = .ok (.if_icmp .ne 8, 3) := by decide +kernel
theorem dX6_openLoop_38 : decode cX6_openLoop 38 = .ok (.ldc 108, 2) := by decide +kernel
theorem dX6_openLoop_40 : decode cX6_openLoop 40 = .ok (.goto 4, 3) := by decide +kernel
theorem dX6_openLoop_43 : decode cX6_openLoop 43 = .ok (.iload_n 3, 1) := by decide +kernel
theorem dX6_openLoop_44 : decode cX6_openLoop 44 = .ok (.ireturn, 1) := by decide +kernel
set_option maxRecDepth 20000 in
theorem ggX6_corrected_X6_isCell : GoodIn wsX6_corrected wsX6_isCell := goodIn_r _ [5, 6, 7, 4, 8] (by decide +kernel) (by decide +kernel)
set_option maxRecDepth 20000 in
theorem gX6_corrected_X6_isCell : GoodIn wsX6_corrected (va_wsS RX6 81 yX6_isCell wsX6_isCell) := goodIn_app (goodIn_of _ (by decide +kernel)) ggX6_corrected_X6_isCell
set_option maxRecDepth 20000 in
theorem ggX6_corrected_X6_isReadingOf : GoodIn wsX6_corrected wsX6_isReadingOf := goodIn_r _ [12, 13, 2, 3, 4, 5, 6, 7, 8, 14, 15, 16, 17, 18, 19, 20, 21, 22, 147, 148, 149, 150, 151, 152, 153, 154, 155, 156, 157, 158, 159, 160, 161, 162, 163, 164, 165] (by decide +kernel) (by decide +kernel)
set_option maxRecDepth 20000 in
theorem gX6_corrected_X6_isReadingOf : GoodIn wsX6_corrected (wsV RX6 88 RX6 yX6_isReadingOf wsX6_isReadingOf) := goodIn_app (goodIn_of _ (by decide +kernel)) ggX6_corrected_X6_isReadingOf
set_option maxRecDepth 20000 in
theorem ggX6_corrected_X6_refresh : GoodIn wsX6_corrected wsX6_refresh := goodIn_r _ [26, 27, 28, 13, 29, 30, 31, 32, 33, 34, 35, 36, 37, 38, 39, 40, 41, 42, 43, 15, 16, 17, 18, 19, 20, 21, 22, 44, 45, 46, 47, 48, 49, 50, 4, 51, 52, 53, 54, 55, 56, 57, 58, 59, 60, 61, 62, 63, 64, 65, 66, 67, 68, 69, 70, 71, 72, 73, 74, 75, 76, 77, 78, 79, 80, 81, 82, 83, 84, 85, 86, 87, 88, 89, 90, 91, 92, 93, 94, 95, 96, 97, 98, 99, 100, 101, 102, 103, 104, 105, 106, 107, 108, 109, 110, 111, 112, 113, 114, 115, 116, 117, 118, 119, 120, 121, 122, 123, 124, 125, 126, 127, 128, 129, 130, 131, 132, 133, 134, 135, 136, 137, 138, 147, 148, 149, 150, 151, 152, 153, 154, 155, 156, 157, 158, 166, 167, 168, 169, 170, 171, 172, 173, 174, 175, 176, 177, 159, 160, 161, 162, 163, 164, 165] (by decide +kernel) (by decide +kernel)
set_option maxRecDepth 20000 in
theorem gX6_corrected_X6_refresh : GoodIn wsX6_corrected (wsV RX6 109 RX6 yX6_refresh wsX6_refresh) := goodIn_app (goodIn_of _ (by decide +kernel)) ggX6_corrected_X6_refresh
set_option maxRecDepth 20000 in
theorem ggX6_corrected_X6_surveyOf : GoodIn wsX6_corrected wsX6_surveyOf := goodIn_r _ [142, 28, 29, 30, 147, 148, 149, 150, 151, 152, 153, 154, 155] (by decide +kernel) (by decide +kernel)
set_option maxRecDepth 20000 in
theorem gX6_corrected_X6_surveyOf : GoodIn wsX6_corrected (wsV RX6 112 RX6 yX6_surveyOf wsX6_surveyOf) := goodIn_app (goodIn_of _ (by decide +kernel)) ggX6_corrected_X6_surveyOf
set_option maxRecDepth 20000 in
theorem ggX6_corrected_X3_correctedHeight : GoodIn wsX6_corrected wsX3_correctedHeight := goodIn_r _ [146, 42, 50, 4, 51, 166, 167, 168, 169, 170, 171, 172, 173, 174, 175, 176, 177] (by decide +kernel) (by decide +kernel)
set_option maxRecDepth 20000 in
theorem gX6_corrected_X3_correctedHeight : GoodIn wsX6_corrected (wsV RX6 194 RX3 yX3_correctedHeight wsX3_correctedHeight) := goodIn_app (goodIn_of _ (by decide +kernel)) ggX6_corrected_X3_correctedHeight
theorem dX6_corrected_0 : decode cX6_corrected 0 = .ok (.iload_n 1, 1) := by decide +kernel
theorem dX6_corrected_1 : decode cX6_corrected 1 = .ok (.invokestatic 81, 3) := by decide +kernel
theorem dX6_corrected_4 : decode cX6_corrected 4 = .ok (.ifCond .eq 12, 3) := by decide +kernel
theorem dX6_corrected_7 : decode cX6_corrected 7 = .ok (.aload_n 0, 1) := by decide +kernel
theorem dX6_corrected_8 : decode cX6_corrected 8 = .ok (.iload_n 1, 1) := by decide +kernel
theorem dX6_corrected_9 : decode cX6_corrected 9 = .ok (.iload_n 2, 1) := by decide +kernel
theorem dX6_corrected_10 : decode cX6_corrected 10 = .ok (.invokevirtual 88, 3) := by decide +kernel
theorem dX6_corrected_13 : decode cX6_corrected 13 = .ok (.ifCond .ne 6, 3) := by decide +kernel
theorem dX6_corrected_16 : decode cX6_corrected 16 = .ok (.ldc 61, 2) := by decide +kernel
theorem dX6_corrected_18 : decode cX6_corrected 18 = .ok (.ireturn, 1) := by decide +kernel
theorem dX6_corrected_19 : decode cX6_corrected 19 = .ok (.aload_n 0, 1) := by decide +kernel
theorem dX6_corrected_20 : decode cX6_corrected 20 = .ok (.invokevirtual 109, 3) := by decide +kernel
theorem dX6_corrected_23 : decode cX6_corrected 23 = .ok (.aload_n 0, 1) := by decide +kernel
theorem dX6_corrected_24 : decode cX6_corrected 24 = .ok (.iload_n 1, 1) := by decide +kernel
theorem dX6_corrected_25 : decode cX6_corrected 25 = .ok (.invokevirtual 112, 3) := by decide +kernel
theorem dX6_corrected_28 : decode cX6_corrected 28 = .ok (.iload_n 2, 1) := by decide +kernel
theorem dX6_corrected_29 : decode cX6_corrected 29 = .ok (.invokevirtual 194, 3) := by decide +kernel
theorem dX6_corrected_32 : decode cX6_corrected 32 = .ok (.ireturn, 1) := by decide +kernel
set_option maxRecDepth 20000 in
theorem ggX6_point_X6_isPoint : GoodIn wsX6_point wsX6_isPoint := goodIn_r _ [7, 8, 9, 6, 10] (by decide +kernel) (by decide +kernel)
set_option maxRecDepth 20000 in
theorem gX6_point_X6_isPoint : GoodIn wsX6_point (va_wsS RX6 85 yX6_isPoint wsX6_isPoint) := goodIn_app (goodIn_of _ (by decide +kernel)) ggX6_point_X6_isPoint
set_option maxRecDepth 20000 in
theorem ggX6_point_X6_within : GoodIn wsX6_point wsX6_within := goodIn_r _ [10] (by decide +kernel) (by decide +kernel)
set_option maxRecDepth 20000 in
theorem gX6_point_X6_within : GoodIn wsX6_point (va_wsS RX6 105 yX6_within wsX6_within) := goodIn_app (goodIn_of _ (by decide +kernel)) ggX6_point_X6_within
set_option maxRecDepth 20000 in
theorem ggX6_point_X6_refresh : GoodIn wsX6_point wsX6_refresh := goodIn_r _ [14, 15, 16, 17, 18, 19, 20, 21, 22, 23, 24, 25, 26, 27, 28, 29, 30, 31, 32, 33, 34, 35, 36, 37, 38, 39, 40, 41, 42, 43, 44, 45, 46, 47, 6, 48, 49, 50, 51, 52, 53, 54, 55, 56, 57, 58, 59, 60, 61, 62, 63, 64, 65, 66, 67, 68, 69, 70, 71, 72, 73, 74, 75, 76, 77, 78, 79, 80, 81, 82, 83, 84, 85, 86, 87, 88, 89, 90, 91, 92, 93, 94, 95, 96, 97, 98, 99, 100, 101, 102, 103, 104, 105, 106, 107, 108, 109, 110, 111, 112, 113, 114, 115, 116, 117, 118, 119, 120, 121, 122, 123, 124, 125, 126, 127, 128, 129, 130, 131, 132, 133, 134, 135, 184, 185, 186, 187, 188, 189, 190, 191, 192, 197, 198, 199, 200, 201, 202, 203, 204, 205, 206, 207, 208, 209, 210, 211, 212, 213, 214, 215, 216, 217, 218] (by decide +kernel) (by decide +kernel)
set_option maxRecDepth 20000 in
theorem gX6_point_X6_refresh : GoodIn wsX6_point (wsV RX6 109 RX6 yX6_refresh wsX6_refresh) := goodIn_app (goodIn_of _ (by decide +kernel)) ggX6_point_X6_refresh
set_option maxRecDepth 20000 in
theorem ggX6_point_X6_gather : GoodIn wsX6_point wsX6_gather := goodIn_r _ [139, 2, 140, 141, 142, 143, 144, 145, 146, 147, 148, 149, 6, 150, 16, 18, 19, 151, 152, 153, 23, 154, 25, 27, 88, 89, 90, 91, 28, 92, 29, 47, 48, 155, 156, 157, 158, 124, 125, 126, 127, 30, 112, 113, 114, 115, 99, 159, 160, 161, 162, 31, 163, 164, 165, 166, 167, 168, 169, 170, 171, 172, 173, 174, 175, 184, 185, 186, 187, 188, 189, 190, 191, 192, 193, 194, 195, 196, 200, 201, 202, 203, 204, 205, 206, 207, 208, 209, 210, 211] (by decide +kernel) (by decide +kernel)
set_option maxRecDepth 20000 in
theorem gX6_point_X6_gather : GoodIn wsX6_point (wsV RX6 197 RX6 yX6_gather wsX6_gather) := goodIn_app (goodIn_of _ (by decide +kernel)) ggX6_point_X6_gather
set_option maxRecDepth 20000 in
theorem ggX6_point_X1_height : GoodIn wsX6_point wsX1_height := goodIn_r _ [179, 145, 146, 63, 6, 64, 65, 66, 67, 68, 193, 194, 195, 196] (by decide +kernel) (by decide +kernel)
set_option maxRecDepth 20000 in
theorem gX6_point_X1_height : GoodIn wsX6_point (wsV RX6 203 RX1 yX1_height wsX1_height) := goodIn_app (goodIn_of _ (by decide +kernel)) ggX6_point_X1_height
set_option maxRecDepth 20000 in
theorem ggX6_point_X1_spread : GoodIn wsX6_point wsX1_spread := goodIn_r _ [183, 172, 167, 193, 194, 195, 196] (by decide +kernel) (by decide +kernel)
set_option maxRecDepth 20000 in
theorem gX6_point_X1_spread : GoodIn wsX6_point (wsV RX6 206 RX1 yX1_spread wsX1_spread) := goodIn_app (goodIn_of _ (by decide +kernel)) ggX6_point_X1_spread
theorem dX6_point_0 : decode cX6_point 0 = .ok (.iload_n 1, 1) := by decide +kernel
theorem dX6_point_1 : decode cX6_point 1 = .ok (.invokestatic 85, 3) := by decide +kernel
theorem dX6_point_4 : decode cX6_point 4 = .ok (.ifCond .eq 12, 3) := by decide +kernel
theorem dX6_point_7 : decode cX6_point 7 = .ok (.iload_n 2, 1) := by decide +kernel
theorem dX6_point_8 : decode cX6_point 8 = .ok (.iconst 0, 1) := by decide +kernel
theorem dX6_point_9 : decode cX6_point 9 = .ok (.iconst 2, 1) := by decide +kernel
theorem dX6_point_10 : decode cX6_point 10 = .ok (.invokestatic 105, 3) := by decide +kernel
theorem dX6_point_13 : decode cX6_point 13 = .ok (.ifCond .ne 6, 3) := by decide +kernel
theorem dX6_point_16 : decode cX6_point 16 = .ok (.ldc 61, 2) := by decide +kernel
theorem dX6_point_18 : decode cX6_point 18 = .ok (.ireturn, 1) := by decide +kernel
theorem dX6_point_19 : decode cX6_point 19 = .ok (.aload_n 0, 1) := by decide +kernel
theorem dX6_point_20 : decode cX6_point 20 = .ok (.invokevirtual 109, 3) := by decide +kernel
theorem dX6_point_23 : decode cX6_point 23 = .ok (.aload_n 0, 1) := by decide +kernel
theorem dX6_point_24 : decode cX6_point 24 = .ok (.iload_n 1, 1) := by decide +kernel
theorem dX6_point_25 : decode cX6_point 25 = .ok (.invokevirtual 197, 3) := by decide +kernel
theorem dX6_point_28 : decode cX6_point 28 = .ok (.iload_n 2, 1) := by decide +kernel
theorem dX6_point_29 : decode cX6_point 29 = .ok (.iconst 2, 1) := by decide +kernel
theorem dX6_point_30 : decode cX6_point 30 = .ok (.if_icmp .ne 11, 3) := by decide +kernel
theorem dX6_point_33 : decode cX6_point 33 = .ok (.aload_n 0, 1) := by decide +kernel
theorem dX6_point_34 : decode cX6_point 34 = .ok (.getfield 42, 3) := by decide +kernel
theorem dX6_point_37 : decode cX6_point 37 = .ok (.getfield 200, 3) := by decide +kernel
theorem dX6_point_40 : decode cX6_point 40 = .ok (.ireturn, 1) := by decide +kernel
theorem dX6_point_41 : decode cX6_point 41 = .ok (.aload_n 0, 1) := by decide +kernel
theorem dX6_point_42 : decode cX6_point 42 = .ok (.getfield 42, 3) := by decide +kernel
theorem dX6_point_45 : decode cX6_point 45 = .ok (.getfield 200, 3) := by decide +kernel
theorem dX6_point_48 : decode cX6_point 48 = .ok (.ifCond .ne 6, 3) := by decide +kernel
theorem dX6_point_51 : decode cX6_point 51 = .ok (.ldc 108, 2) := by decide +kernel
theorem dX6_point_53 : decode cX6_point 53 = .ok (.ireturn, 1) := by decide +kernel
theorem dX6_point_54 : decode cX6_point 54 = .ok (.iload_n 2, 1) := by decide +kernel
theorem dX6_point_55 : decode cX6_point 55 = .ok (.ifCond .ne 13, 3) := by decide +kernel
theorem dX6_point_58 : decode cX6_point 58 = .ok (.aload_n 0, 1) := by decide +kernel
theorem dX6_point_59 : decode cX6_point 59 = .ok (.getfield 42, 3) := by decide +kernel
theorem dX6_point_62 : decode cX6_point 62 = .ok (.invokevirtual 203, 3) := by decide +kernel
theorem dX6_point_65 : decode cX6_point 65 = .ok (.goto 10, 3) := by decide +kernel
theorem dX6_point_68 : decode cX6_point 68 = .ok (.aload_n 0, 1) := by decide +kernel
theorem dX6_point_69 : decode cX6_point 69 = .ok (.getfield 42, 3) := by decide +kernel
theorem dX6_point_72 : decode cX6_point 72 = .ok (.invokevirtual 206, 3) := by decide +kernel
theorem dX6_point_75 : decode cX6_point 75 = .ok (.ireturn, 1) := by decide +kernel
theorem dX6_within_0 : decode cX6_within 0 = .ok (.iload_n 0, 1) := by decide +kernel
theorem dX6_within_1 : decode cX6_within 1 = .ok (.iload_n 1, 1) := by decide +kernel
theorem dX6_within_2 : decode cX6_within 2 = .ok (.if_icmp .lt 12, 3) := by decide +kernel
theorem dX6_within_5 : decode cX6_within 5 = .ok (.iload_n 0, 1) := by decide +kernel
theorem dX6_within_6 : decode cX6_within 6 = .ok (.iload_n 2, 1) := by decide +kernel
theorem dX6_within_7 : decode cX6_within 7 = .ok (.if_icmp .gt 7, 3) := by decide +kernel
theorem dX6_within_10 : decode cX6_within 10 = .ok (.iconst 1, 1) := by decide +kernel
theorem dX6_within_11 : decode cX6_within 11 = .ok (.goto 4, 3) := by decide +kernel
theorem dX6_within_14 : decode cX6_within 14 = .ok (.iconst 0, 1) := by decide +kernel
theorem dX6_within_15 : decode cX6_within 15 = .ok (.ireturn, 1) := by decide +kernel
set_option maxRecDepth 20000 in
theorem ggX6_isSetting_X6_within : GoodIn wsX6_isSetting wsX6_within := goodIn_r _ [6] (by decide +kernel) (by decide +kernel)
set_option maxRecDepth 20000 in
theorem gX6_isSetting_X6_within : GoodIn wsX6_isSetting (va_wsS RX6 105 yX6_within wsX6_within) := goodIn_app (goodIn_of _ (by decide +kernel)) ggX6_isSetting_X6_within
theorem dX6_isSetting_0 : decode cX6_isSetting 0 = .ok (.iload_n 0, 1) := by decide +kernel
theorem dX6_isSetting_1 : decode cX6_isSetting 1 = .ok (.tableswitch 54 0 2 #[27, 36, 45], 27) := by decide +kernel
theorem dX6_isSetting_28 : decode cX6_isSetting 28 = .ok (.iload_n 1, 1) := by decide +kernel
theorem dX6_isSetting_29 : decode cX6_isSetting 29 = .ok (.ldc 233, 2) := by decide +kernel
theorem dX6_isSetting_31 : decode cX6_isSetting 31 = .ok (.ldc 234, 2) := by decide +kernel
theorem dX6_isSetting_33 : decode cX6_isSetting 33 = .ok (.invokestatic 105, 3) := by decide +kernel
theorem dX6_isSetting_36 : decode cX6_isSetting 36 = .ok (.ireturn, 1) := by decide +kernel
theorem dX6_isSetting_37 : decode cX6_isSetting 37 = .ok (.iload_n 1, 1) := by decide +kernel
theorem dX6_isSetting_38 : decode cX6_isSetting 38 = .ok (.iconst 1, 1) := by decide +kernel
theorem dX6_isSetting_39 : decode cX6_isSetting 39 = .ok (.sipush 5000, 3) := by decide +kernel
theorem dX6_isSetting_42 : decode cX6_isSetting 42 = .ok (.invokestatic 105, 3) := by decide +kernel
theorem dX6_isSetting_45 : decode cX6_isSetting 45 = .ok (.ireturn, 1) := by decide +kernel
theorem dX6_isSetting_46 : decode cX6_isSetting 46 = .ok (.iload_n 1, 1) := by decide +kernel
theorem dX6_isSetting_47 : decode cX6_isSetting 47 = .ok (.iconst 1, 1) := by decide +kernel
theorem dX6_isSetting_48 : decode cX6_isSetting 48 = .ok (.sipush 500, 3) := by decide +kernel
theorem dX6_isSetting_51 : decode cX6_isSetting 51 = .ok (.invokestatic 105, 3) := by decide +kernel
theorem dX6_isSetting_54 : decode cX6_isSetting 54 = .ok (.ireturn, 1) := by decide +kernel
theorem dX6_isSetting_55 : decode cX6_isSetting 55 = .ok (.iconst 0, 1) := by decide +kernel
theorem dX6_isSetting_56 : decode cX6_isSetting 56 = .ok (.ireturn, 1) := by decide +kernel
set_option maxRecDepth 20000 in
theorem ggX6_isCell_X6_within : GoodIn wsX6_isCell wsX6_within := goodIn_r _ [4] (by decide +kernel) (by decide +kernel)
set_option maxRecDepth 20000 in
theorem gX6_isCell_X6_within : GoodIn wsX6_isCell (va_wsS RX6 105 yX6_within wsX6_within) := goodIn_app (goodIn_of _ (by decide +kernel)) ggX6_isCell_X6_within
theorem dX6_isCell_0 : decode cX6_isCell 0 = .ok (.iload_n 0, 1) := by decide +kernel
theorem dX6_isCell_1 : decode cX6_isCell 1 = .ok (.iconst 0, 1) := by decide +kernel
theorem dX6_isCell_2 : decode cX6_isCell 2 = .ok (.iconst 2, 1) := by decide +kernel
theorem dX6_isCell_3 : decode cX6_isCell 3 = .ok (.invokestatic 105, 3) := by decide +kernel
theorem dX6_isCell_6 : decode cX6_isCell 6 = .ok (.ireturn, 1) := by decide +kernel
set_option maxRecDepth 20000 in
theorem ggX6_isPoint_X6_within : GoodIn wsX6_isPoint wsX6_within := goodIn_r _ [4] (by decide +kernel) (by decide +kernel)
set_option maxRecDepth 20000 in
theorem gX6_isPoint_X6_within : GoodIn wsX6_isPoint (va_wsS RX6 105 yX6_within wsX6_within) := goodIn_app (goodIn_of _ (by decide +kernel)) ggX6_isPoint_X6_within
theorem dX6_isPoint_0 : decode cX6_isPoint 0 = .ok (.iload_n 0, 1) := by decide +kernel
theorem dX6_isPoint_1 : decode cX6_isPoint 1 = .ok (.iconst 0, 1) := by decide +kernel
theorem dX6_isPoint_2 : decode cX6_isPoint 2 = .ok (.bipush 9, 2) := by decide +kernel
theorem dX6_isPoint_4 : decode cX6_isPoint 4 = .ok (.invokestatic 105, 3) := by decide +kernel
theorem dX6_isPoint_7 : decode cX6_isPoint 7 = .ok (.ireturn, 1) := by decide +kernel
set_option maxRecDepth 20000 in
theorem ggX6_isTime_X6_within : GoodIn wsX6_isTime wsX6_within := goodIn_r _ [4] (by decide +kernel) (by decide +kernel)
set_option maxRecDepth 20000 in
theorem gX6_isTime_X6_within : GoodIn wsX6_isTime (va_wsS RX6 105 yX6_within wsX6_within) := goodIn_app (goodIn_of _ (by decide +kernel)) ggX6_isTime_X6_within
theorem dX6_isTime_0 : decode cX6_isTime 0 = .ok (.iload_n 0, 1) := by decide +kernel
theorem dX6_isTime_1 : decode cX6_isTime 1 = .ok (.iconst 0, 1) := by decide +kernel
theorem dX6_isTime_2 : decode cX6_isTime 2 = .ok (.sipush 10000, 3) := by decide +kernel
theorem dX6_isTime_5 : decode cX6_isTime 5 = .ok (.invokestatic 105, 3) := by decide +kernel
theorem dX6_isTime_8 : decode cX6_isTime 8 = .ok (.ireturn, 1) := by decide +kernel
set_option maxRecDepth 20000 in
theorem ggX6_isTemperature_X6_within : GoodIn wsX6_isTemperature wsX6_within := goodIn_r _ [4] (by decide +kernel) (by decide +kernel)
set_option maxRecDepth 20000 in
theorem gX6_isTemperature_X6_within : GoodIn wsX6_isTemperature (va_wsS RX6 105 yX6_within wsX6_within) := goodIn_app (goodIn_of _ (by decide +kernel)) ggX6_isTemperature_X6_within
theorem dX6_isTemperature_0 : decode cX6_isTemperature 0 = .ok (.iload_n 0, 1) := by decide +kernel
theorem dX6_isTemperature_1 : decode cX6_isTemperature 1 = .ok (.sipush (-300), 3) := by decide +kernel
theorem dX6_isTemperature_4 : decode cX6_isTemperature 4 = .ok (.sipush 500, 3) := by decide +kernel
theorem dX6_isTemperature_7 : decode cX6_isTemperature 7 = .ok (.invokestatic 105, 3) := by decide +kernel
theorem dX6_isTemperature_10 : decode cX6_isTemperature 10 = .ok (.ireturn, 1) := by decide +kernel
set_option maxRecDepth 20000 in
theorem ggX6_isReading_X6_isTime : GoodIn wsX6_isReading wsX6_isTime := goodIn_r _ [6, 7, 8, 5, 9] (by decide +kernel) (by decide +kernel)
set_option maxRecDepth 20000 in
theorem gX6_isReading_X6_isTime : GoodIn wsX6_isReading (va_wsS RX6 151 yX6_isTime wsX6_isTime) := goodIn_app (goodIn_of _ (by decide +kernel)) ggX6_isReading_X6_isTime
set_option maxRecDepth 20000 in
theorem ggX6_isReading_X6_within : GoodIn wsX6_isReading wsX6_within := goodIn_r _ [9] (by decide +kernel) (by decide +kernel)
set_option maxRecDepth 20000 in
theorem gX6_isReading_X6_within : GoodIn wsX6_isReading (va_wsS RX6 105 yX6_within wsX6_within) := goodIn_app (goodIn_of _ (by decide +kernel)) ggX6_isReading_X6_within
set_option maxRecDepth 20000 in
theorem ggX6_isReading_X6_isTemperature : GoodIn wsX6_isReading wsX6_isTemperature := goodIn_r _ [12, 7, 8, 5, 9] (by decide +kernel) (by decide +kernel)
set_option maxRecDepth 20000 in
theorem gX6_isReading_X6_isTemperature : GoodIn wsX6_isReading (va_wsS RX6 167 yX6_isTemperature wsX6_isTemperature) := goodIn_app (goodIn_of _ (by decide +kernel)) ggX6_isReading_X6_isTemperature
theorem dX6_isReading_0 : decode cX6_isReading 0 = .ok (.iload_n 0, 1) := by decide +kernel
theorem dX6_isReading_1 : decode cX6_isReading 1 = .ok (.invokestatic 151, 3) := by decide +kernel
theorem dX6_isReading_4 : decode cX6_isReading 4 = .ok (.ifCond .eq 25, 3) := by decide +kernel
theorem dX6_isReading_7 : decode cX6_isReading 7 = .ok (.iload_n 1, 1) := by decide +kernel
theorem dX6_isReading_8 : decode cX6_isReading 8 = .ok (.ldc 172, 2) := by decide +kernel
theorem dX6_isReading_10 : decode cX6_isReading 10 = .ok (.ldc 235, 2) := by decide +kernel
theorem dX6_isReading_12 : decode cX6_isReading 12 = .ok (.invokestatic 105, 3) := by decide +kernel
theorem dX6_isReading_15 : decode cX6_isReading 15 = .ok (.ifCond .eq 14, 3) := by decide +kernel
theorem dX6_isReading_18 : decode cX6_isReading 18 = .ok (.iload_n 2, 1) := by decide +kernel
theorem dX6_isReading_19 : decode cX6_isReading 19 = .ok (.invokestatic 167, 3) := by decide +kernel
theorem dX6_isReading_22 : decode cX6_isReading 22 = .ok (.ifCond .eq 7, 3) := by decide +kernel
theorem dX6_isReading_25 : decode cX6_isReading 25 = .ok (.iconst 1, 1) := by decide +kernel
theorem dX6_isReading_26 : decode cX6_isReading 26 = .ok (.goto 4, 3) := by decide +kernel
theorem dX6_isReading_29 : decode cX6_isReading 29 = .ok (.iconst 0, 1) := by decide +kernel
theorem dX6_isReading_30 : decode cX6_isReading 30 = .ok (.ireturn, 1) := by decide +kernel
set_option maxRecDepth 20000 in
theorem ggX6_isReadingOf_X6_isCell : GoodIn wsX6_isReadingOf wsX6_isCell := goodIn_r _ [5, 6, 7, 4, 8] (by decide +kernel) (by decide +kernel)
set_option maxRecDepth 20000 in
theorem gX6_isReadingOf_X6_isCell : GoodIn wsX6_isReadingOf (va_wsS RX6 81 yX6_isCell wsX6_isCell) := goodIn_app (goodIn_of _ (by decide +kernel)) ggX6_isReadingOf_X6_isCell
set_option maxRecDepth 20000 in
theorem ggX6_isReadingOf_X2_track : GoodIn wsX6_isReadingOf wsX2_track := goodIn_r _ [13, 14, 15, 16, 17, 30, 31, 32, 33, 34, 35, 36] (by decide +kernel) (by decide +kernel)
set_option maxRecDepth 20000 in
theorem gX6_isReadingOf_X2_track : GoodIn wsX6_isReadingOf (wsV RX6 91 RX2 yX2_track wsX2_track) := goodIn_app (goodIn_of _ (by decide +kernel)) ggX6_isReadingOf_X2_track
set_option maxRecDepth 20000 in
theorem ggX6_isReadingOf_X6_within : GoodIn wsX6_isReadingOf wsX6_within := goodIn_r _ [8] (by decide +kernel) (by decide +kernel)
set_option maxRecDepth 20000 in
theorem gX6_isReadingOf_X6_within : GoodIn wsX6_isReadingOf (va_wsS RX6 105 yX6_within wsX6_within) := goodIn_app (goodIn_of _ (by decide +kernel)) ggX6_isReadingOf_X6_within
theorem dX6_isReadingOf_0 : decode cX6_isReadingOf 0 = .ok (.iload_n 1, 1) := by decide +kernel
theorem dX6_isReadingOf_1 : decode cX6_isReadingOf 1 = .ok (.iconst (-1), 1) := by decide +kernel
theorem dX6_isReadingOf_2 : decode cX6_isReadingOf 2 = .ok (.if_icmp .eq 10, 3) := by decide +kernel
theorem dX6_isReadingOf_5 : decode cX6_isReadingOf 5 = .ok (.iload_n 1, 1) := by decide +kernel
theorem dX6_isReadingOf_6 : decode cX6_isReadingOf 6 = .ok (.invokestatic 81, 3) := by decide +kernel
theorem dX6_isReadingOf_9 : decode cX6_isReadingOf 9 = .ok (.ifCond .eq 28, 3) := by decide +kernel
theorem dX6_isReadingOf_12 : decode cX6_isReadingOf 12 = .ok (.iload_n 2, 1) := by decide +kernel
theorem dX6_isReadingOf_13 : decode cX6_isReadingOf 13 = .ok (.iconst 0, 1) := by decide +kernel
theorem dX6_isReadingOf_14 : decode cX6_isReadingOf 14 = .ok (.aload_n 0, 1) := by decide +kernel
theorem dX6_isReadingOf_15 : decode cX6_isReadingOf 15 = .ok (.getfield 10, 3) := by decide +kernel
theorem dX6_isReadingOf_18 : decode cX6_isReadingOf 18 = .ok (.iload_n 1, 1) := by decide +kernel
theorem dX6_isReadingOf_19 : decode cX6_isReadingOf 19 = .ok (.invokevirtual 91, 3) := by decide +kernel
theorem dX6_isReadingOf_22 : decode cX6_isReadingOf 22 = .ok (.getfield 101, 3) := by decide +kernel
theorem dX6_isReadingOf_25 : decode cX6_isReadingOf 25 = .ok (.iconst 1, 1) := by decide +kernel
theorem dX6_isReadingOf_26 : decode cX6_isReadingOf 26 = .ok (.isub, 1) := by decide +kernel
theorem dX6_isReadingOf_27 : decode cX6_isReadingOf 27 = .ok (.invokestatic 105, 3) := by decide +kernel
theorem dX6_isReadingOf_30 : decode cX6_isReadingOf 30 = .ok (.ifCond .eq 7, 3) := by decide +kernel
theorem dX6_isReadingOf_33 : decode cX6_isReadingOf 33 = .ok (.iconst 1, 1) := by decide +kernel
theorem dX6_isReadingOf_34 : decode cX6_isReadingOf 34 = .ok (.goto 4, 3) := by decide +kernel
theorem dX6_isReadingOf_37 : decode cX6_isReadingOf 37 = .ok (.iconst 0, 1) := by decide +kernel
theorem dX6_isReadingOf_38 : decode cX6_isReadingOf 38 = .ok (.ireturn, 1) := by decide +kernel
theorem dX6_at_0 : decode cX6_at 0 = .ok (.iload_n 1, 1) := by decide +kernel
theorem dX6_at_1 : decode cX6_at 1 = .ok (.ifCond .lt 15, 3) := by decide +kernel
theorem dX6_at_4 : decode cX6_at 4 = .ok (.iload_n 1, 1) := by decide +kernel
theorem dX6_at_5 : decode cX6_at 5 = .ok (.aload_n 0, 1) := by decide +kernel
theorem dX6_at_6 : decode cX6_at 6 = .ok (.arraylength, 1) := by decide +kernel
theorem dX6_at_7 : decode cX6_at 7 = .ok (.if_icmp .ge 9, 3) := by decide +kernel
theorem dX6_at_10 : decode cX6_at 10 = .ok (.aload_n 0, 1) := by decide +kernel
theorem dX6_at_11 : decode cX6_at 11 = .ok (.iload_n 1, 1) := by decide +kernel
theorem dX6_at_12 : decode cX6_at 12 = .ok (.iaload, 1) := by decide +kernel
theorem dX6_at_13 : decode cX6_at 13 = .ok (.goto 4, 3) := by decide +kernel
theorem dX6_at_16 : decode cX6_at 16 = .ok (.iconst 0, 1) := by decide +kernel
theorem dX6_at_17 : decode cX6_at 17 = .ok (.ireturn, 1) := by decide +kernel
theorem dX6_put_0 : decode cX6_put 0 = .ok (.iload_n 1, 1) := by decide +kernel
theorem dX6_put_1 : decode cX6_put 1 = .ok (.ifCond .lt 13, 3) := by decide +kernel
theorem dX6_put_4 : decode cX6_put 4 = .ok (.iload_n 1, 1) := by decide +kernel
theorem dX6_put_5 : decode cX6_put 5 = .ok (.aload_n 0, 1) := by decide +kernel
theorem dX6_put_6 : decode cX6_put 6 = .ok (.arraylength, 1) := by decide +kernel
theorem dX6_put_7 : decode cX6_put 7 = .ok (.if_icmp .ge 7, 3) := by decide +kernel
theorem dX6_put_10 : decode cX6_put 10 = .ok (.aload_n 0, 1) := by decide +kernel
theorem dX6_put_11 : decode cX6_put 11 = .ok (.iload_n 1, 1) := by decide +kernel
theorem dX6_put_12 : decode cX6_put 12 = .ok (.iload_n 2, 1) := by decide +kernel
theorem dX6_put_13 : decode cX6_put 13 = .ok (.iastore, 1) := by decide +kernel
theorem dX6_put_14 : decode cX6_put 14 = .ok (.return_, 1) := by decide +kernel
set_option maxRecDepth 20000 in
theorem ggX6_divideDown_J9_floorDiv_f86c9 : GoodIn wsX6_divideDown wsJ9_floorDiv_f86c9 := goodIn_r _ [4] (by decide +kernel) (by decide +kernel)
set_option maxRecDepth 20000 in
theorem gX6_divideDown_J9_floorDiv_f86c9 : GoodIn wsX6_divideDown (va_wsS RX6 236 yJ9_floorDiv_f86c9 wsJ9_floorDiv_f86c9) := goodIn_app (goodIn_of _ (by decide +kernel)) ggX6_divideDown_J9_floorDiv_f86c9
theorem dX6_divideDown_0 : decode cX6_divideDown 0 = .ok (.lload_n 2, 1) := by decide +kernel
theorem dX6_divideDown_1 : decode cX6_divideDown 1 = .ok (.lconst 0, 1) := by decide +kernel
theorem dX6_divideDown_2 : decode cX6_divideDown 2 = .ok (.lcmp, 1) := by decide +kernel
theorem dX6_divideDown_3 : decode cX6_divideDown 3 = .ok (.ifCond .ne 7, 3) := by decide +kernel
theorem dX6_divideDown_6 : decode cX6_divideDown 6 = .ok (.lconst 0, 1) := by decide +kernel
theorem dX6_divideDown_7 : decode cX6_divideDown 7 = .ok (.goto 8, 3) := by decide +kernel
theorem dX6_divideDown_10 : decode cX6_divideDown 10 = .ok (.lload_n 0, 1) := by decide +kernel
theorem dX6_divideDown_11 : decode cX6_divideDown 11 = .ok (.lload_n 2, 1) := by decide +kernel
theorem dX6_divideDown_12 : decode cX6_divideDown 12 = .ok (.invokestatic 236, 3) := by decide +kernel
theorem dX6_divideDown_15 : decode cX6_divideDown 15 = .ok (.lreturn, 1) := by decide +kernel
set_option maxRecDepth 20000 in
theorem ggX6_record_X0_keep : GoodIn wsX6_record wsX0_keep := goodIn_r _ [8, 9, 10, 11, 12, 13, 7, 14, 15, 16, 17, 18, 19, 20, 21, 22, 23, 24, 25, 26, 27, 28, 29, 30, 31, 32, 33, 34, 35, 36, 37, 38, 39, 40, 41, 42, 52, 53, 54, 55, 56, 57, 58, 59, 60, 61, 62, 63, 64] (by decide +kernel) (by decide +kernel)
set_option maxRecDepth 20000 in
theorem gX6_record_X0_keep : GoodIn wsX6_record (wsV RX6 240 RX0 yX0_keep wsX0_keep) := goodIn_app (goodIn_of _ (by decide +kernel)) ggX6_record_X0_keep
theorem dX6_record_0 : decode cX6_record 0 = .ok (.aload_n 0, 1) := by decide +kernel
theorem dX6_record_1 : decode cX6_record 1 = .ok (.getfield 22, 3) := by decide +kernel
theorem dX6_record_4 : decode cX6_record 4 = .ok (.aload_n 0, 1) := by decide +kernel
theorem dX6_record_5 : decode cX6_record 5 = .ok (.getfield 10, 3) := by decide +kernel
theorem dX6_record_8 : decode cX6_record 8 = .ok (.invokevirtual 240, 3) := by decide +kernel
theorem dX6_record_11 : decode cX6_record 11 = .ok (.aload_n 0, 1) := by decide +kernel
theorem dX6_record_12 : decode cX6_record 12 = .ok (.iconst 1, 1) := by decide +kernel
theorem dX6_record_13 : decode cX6_record 13 = .ok (.putfield 53, 3) := by decide +kernel
theorem dX6_record_16 : decode cX6_record 16 = .ok (.return_, 1) := by decide +kernel
set_option maxRecDepth 20000 in
theorem ggX6_take_X2_track : GoodIn wsX6_take wsX2_track := goodIn_r _ [8, 9, 10, 11, 12, 88, 89, 90, 91, 92, 93, 94] (by decide +kernel) (by decide +kernel)
set_option maxRecDepth 20000 in
theorem gX6_take_X2_track : GoodIn wsX6_take (wsV RX6 91 RX2 yX2_track wsX2_track) := goodIn_app (goodIn_of _ (by decide +kernel)) ggX6_take_X2_track
set_option maxRecDepth 20000 in
theorem ggX6_take_X5_hasTime : GoodIn wsX6_take wsX5_hasTime := goodIn_r _ [17, 18, 19, 20, 21, 16, 22, 23, 24, 25, 26, 95, 96, 97] (by decide +kernel) (by decide +kernel)
set_option maxRecDepth 20000 in
theorem gX6_take_X5_hasTime : GoodIn wsX6_take (wsV RX6 243 RX5 yX5_hasTime wsX5_hasTime) := goodIn_app (goodIn_of _ (by decide +kernel)) ggX6_take_X5_hasTime
set_option maxRecDepth 20000 in
theorem ggX6_take_X5_isFull : GoodIn wsX6_take wsX5_isFull := goodIn_r _ [30, 18, 31, 95, 96, 97] (by decide +kernel) (by decide +kernel)
set_option maxRecDepth 20000 in
theorem gX6_take_X5_isFull : GoodIn wsX6_take (wsV RX6 246 RX5 yX5_isFull wsX5_isFull) := goodIn_app (goodIn_of _ (by decide +kernel)) ggX6_take_X5_isFull
set_option maxRecDepth 20000 in
theorem ggX6_take_X6_record : GoodIn wsX6_take wsX6_record := goodIn_r _ [35, 36, 1, 37, 38, 39, 40, 41, 42, 43, 44, 45, 46, 47, 48, 49, 50, 51, 52, 7, 53, 12, 9, 10, 11, 54, 55, 56, 57, 58, 59, 16, 60, 23, 61, 62, 63, 64, 65, 66, 67, 68, 18, 79, 80, 81, 82, 83, 84, 85, 86, 87, 98, 99, 100, 88, 89, 90, 91, 92, 93, 94, 95, 96, 97] (by decide +kernel) (by decide +kernel)
set_option maxRecDepth 20000 in
theorem gX6_take_X6_record : GoodIn wsX6_take (wsV RX6 62 RX6 yX6_record wsX6_record) := goodIn_app (goodIn_of _ (by decide +kernel)) ggX6_take_X6_record
set_option maxRecDepth 20000 in
theorem ggX6_take_X5_insert : GoodIn wsX6_take wsX5_insert := goodIn_r _ [72, 18, 23, 19, 20, 21, 16, 22, 24, 25, 26, 73, 74, 75, 76, 77, 78, 95, 96, 97] (by decide +kernel) (by decide +kernel)
set_option maxRecDepth 20000 in
theorem gX6_take_X5_insert : GoodIn wsX6_take (wsV RX6 250 RX5 yX5_insert wsX5_insert) := goodIn_app (goodIn_of _ (by decide +kernel)) ggX6_take_X5_insert
theorem dX6_take_0 : decode cX6_take 0 = .ok (.aload_n 0, 1) := by decide +kernel
theorem dX6_take_1 : decode cX6_take 1 = .ok (.getfield 10, 3) := by decide +kernel
theorem dX6_take_4 : decode cX6_take 4 = .ok (.iload_n 1, 1) := by decide +kernel
theorem dX6_take_5 : decode cX6_take 5 = .ok (.invokevirtual 91, 3) := by decide +kernel
theorem dX6_take_8 : decode cX6_take 8 = .ok (.astore 6, 2) := by decide +kernel
theorem dX6_take_10 : decode cX6_take 10 = .ok (.aload 6, 2) := by decide +kernel
theorem dX6_take_12 : decode cX6_take 12 = .ok (.iload_n 3, 1) := by decide +kernel
theorem dX6_take_13 : decode cX6_take 13 = .ok (.invokevirtual 243, 3) := by decide +kernel
theorem dX6_take_16 : decode cX6_take 16 = .ok (.ifCond .eq 6, 3) := by decide +kernel
theorem dX6_take_19 : decode cX6_take 19 = .ok (.ldc 146, 2) := by decide +kernel
theorem dX6_take_21 : decode cX6_take 21 = .ok (.ireturn, 1) := by decide +kernel
theorem dX6_take_22 : decode cX6_take 22 = .ok (.aload 6, 2) := by decide +kernel
theorem dX6_take_24 : decode cX6_take 24 = .ok (.invokevirtual 246, 3) := by decide +kernel
theorem dX6_take_27 : decode cX6_take 27 = .ok (.ifCond .eq 6, 3) := by decide +kernel
theorem dX6_take_30 : decode cX6_take 30 = .ok (.ldc 214, 2) := by decide +kernel
theorem dX6_take_32 : decode cX6_take 32 = .ok (.ireturn, 1) := by decide +kernel
theorem dX6_take_33 : decode cX6_take 33 = .ok (.aload_n 0, 1) := by decide +kernel
theorem dX6_take_34 : decode cX6_take 34 = .ok (.invokevirtual 62, 3) := by decide +kernel
theorem dX6_take_37 : decode cX6_take 37 = .ok (.aload 6, 2) := by decide +kernel
theorem dX6_take_39 : decode cX6_take 39 = .ok (.iload_n 2, 1) := by decide +kernel
theorem dX6_take_40 : decode cX6_take 40 = .ok (.iload_n 3, 1) := by decide +kernel
theorem dX6_take_41 : decode cX6_take 41 = .ok (.iload 4, 2) := by decide +kernel
theorem dX6_take_43 : decode cX6_take 43 = .ok (.iload 5, 2) := by decide +kernel
theorem dX6_take_45 : decode cX6_take 45 = .ok (.invokevirtual 250, 3) := by decide +kernel
theorem dX6_take_48 : decode cX6_take 48 = .ok (.ireturn, 1) := by decide +kernel
set_option maxRecDepth 20000 in
theorem ggX6_refresh_X3_workOut : GoodIn wsX6_refresh wsX3_workOut := goodIn_r _ [10, 11, 12, 13, 14, 15, 16, 17, 18, 19, 20, 21, 22, 23, 24, 25, 26, 27, 28, 29, 30, 31, 32, 33, 34, 35, 36, 37, 38, 39, 40, 41, 42, 43, 44, 45, 46, 47, 48, 49, 50, 51, 52, 53, 54, 55, 56, 57, 58, 59, 60, 61, 62, 63, 64, 65, 66, 67, 9, 68, 69, 70, 71, 72, 73, 74, 75, 76, 77, 78, 79, 80, 81, 82, 83, 84, 85, 86, 87, 88, 89, 90, 91, 92, 93, 94, 95, 96, 97, 98, 99, 100, 101, 102, 103, 104, 105, 106, 107, 108, 109, 110, 111, 112, 113, 114, 115, 116, 117, 118, 119, 120, 121, 122, 132, 133, 134, 135, 136, 137, 138, 139, 140, 141, 142, 143, 144, 145, 146, 147, 148, 149, 150, 151, 152, 153] (by decide +kernel) (by decide +kernel)
set_option maxRecDepth 20000 in
theorem gX6_refresh_X3_workOut : GoodIn wsX6_refresh (wsV RX6 257 RX3 yX3_workOut wsX3_workOut) := goodIn_app (goodIn_of _ (by decide +kernel)) ggX6_refresh_X3_workOut
theorem dX6_refresh_0 : decode cX6_refresh 0 = .ok (.aload_n 0, 1) := by decide +kernel
theorem dX6_refresh_1 : decode cX6_refresh 1 = .ok (.getfield 53, 3) := by decide +kernel
theorem dX6_refresh_4 : decode cX6_refresh 4 = .ok (.ifCond .eq 44, 3) := by decide +kernel
theorem dX6_refresh_7 : decode cX6_refresh 7 = .ok (.aload_n 0, 1) := by decide +kernel
theorem dX6_refresh_8 : decode cX6_refresh 8 = .ok (.getfield 29, 3) := by decide +kernel
theorem dX6_refresh_11 : decode cX6_refresh 11 = .ok (.aload_n 0, 1) := by decide +kernel
theorem dX6_refresh_12 : decode cX6_refresh 12 = .ok (.getfield 10, 3) := by decide +kernel
theorem dX6_refresh_15 : decode cX6_refresh 15 = .ok (.iconst 0, 1) := by decide +kernel
theorem dX6_refresh_16 : decode cX6_refresh 16 = .ok (.invokevirtual 257, 3) := by decide +kernel
theorem dX6_refresh_19 : decode cX6_refresh 19 = .ok (.aload_n 0, 1) := by decide +kernel
theorem dX6_refresh_20 : decode cX6_refresh 20 = .ok (.getfield 33, 3) := by decide +kernel
theorem dX6_refresh_23 : decode cX6_refresh 23 = .ok (.aload_n 0, 1) := by decide +kernel
theorem dX6_refresh_24 : decode cX6_refresh 24 = .ok (.getfield 10, 3) := by decide +kernel
theorem dX6_refresh_27 : decode cX6_refresh 27 = .ok (.iconst 1, 1) := by decide +kernel
theorem dX6_refresh_28 : decode cX6_refresh 28 = .ok (.invokevirtual 257, 3) := by decide +kernel
theorem dX6_refresh_31 : decode cX6_refresh 31 = .ok (.aload_n 0, 1) := by decide +kernel
theorem dX6_refresh_32 : decode cX6_refresh 32 = .ok (.getfield 36, 3) := by decide +kernel
theorem dX6_refresh_35 : decode cX6_refresh 35 = .ok (.aload_n 0, 1) := by decide +kernel
theorem dX6_refresh_36 : decode cX6_refresh 36 = .ok (.getfield 10, 3) := by decide +kernel
theorem dX6_refresh_39 : decode cX6_refresh 39 = .ok (.iconst 2, 1) := by decide +kernel
theorem dX6_refresh_40 : decode cX6_refresh 40 = .ok (.invokevirtual 257, 3) := by decide +kernel
theorem dX6_refresh_43 : decode cX6_refresh 43 = .ok (.aload_n 0, 1) := by decide +kernel
theorem dX6_refresh_44 : decode cX6_refresh 44 = .ok (.iconst 0, 1) := by decide +kernel
theorem dX6_refresh_45 : decode cX6_refresh 45 = .ok (.putfield 53, 3) := by decide +kernel
theorem dX6_refresh_48 : decode cX6_refresh 48 = .ok (.return_, 1) := by decide +kernel
theorem dX6_surveyOf_0 : decode cX6_surveyOf 0 = .ok (.iload_n 1, 1) := by decide +kernel
theorem dX6_surveyOf_1 : decode cX6_surveyOf 1 = .ok (.lookupswitch 37 #[(0, 27), (1, 32)], 27) := by decide +kernel
theorem dX6_surveyOf_28 : decode cX6_surveyOf 28 = .ok (.aload_n 0, 1) := by decide +kernel
theorem dX6_surveyOf_29 : decode cX6_surveyOf 29 = .ok (.getfield 29, 3) := by decide +kernel
theorem dX6_surveyOf_32 : decode cX6_surveyOf 32 = .ok (.areturn, 1) := by decide +kernel
theorem dX6_surveyOf_33 : decode cX6_surveyOf 33 = .ok (.aload_n 0, 1) := by decide +kernel
theorem dX6_surveyOf_34 : decode cX6_surveyOf 34 = .ok (.getfield 33, 3) := by decide +kernel
theorem dX6_surveyOf_37 : decode cX6_surveyOf 37 = .ok (.areturn, 1) := by decide +kernel
theorem dX6_surveyOf_38 : decode cX6_surveyOf 38 = .ok (.aload_n 0, 1) := by decide +kernel
theorem dX6_surveyOf_39 : decode cX6_surveyOf 39 = .ok (.getfield 36, 3) := by decide +kernel
theorem dX6_surveyOf_42 : decode cX6_surveyOf 42 = .ok (.areturn, 1) := by decide +kernel
set_option maxRecDepth 20000 in
theorem ggX6_pointsWithHeight_X6_gather : GoodIn wsX6_pointsWithHeight wsX6_gather := goodIn_r _ [6, 1, 7, 8, 9, 10, 11, 12, 13, 14, 15, 16, 5, 17, 18, 19, 20, 21, 22, 23, 24, 25, 26, 27, 28, 29, 30, 31, 32, 33, 34, 35, 36, 37, 38, 39, 40, 41, 42, 43, 44, 45, 46, 47, 48, 49, 50, 51, 52, 53, 54, 55, 56, 57, 58, 59, 60, 61, 62, 63, 64, 65, 66, 67, 68, 69, 70, 71, 72, 73, 74, 75, 76, 77, 78, 79, 80, 81, 82, 83, 84, 85, 86, 87, 88, 89, 90, 91, 92, 93] (by decide +kernel) (by decide +kernel)
set_option maxRecDepth 20000 in
theorem gX6_pointsWithHeight_X6_gather : GoodIn wsX6_pointsWithHeight (wsV RX6 197 RX6 yX6_gather wsX6_gather) := goodIn_app (goodIn_of _ (by decide +kernel)) ggX6_pointsWithHeight_X6_gather
theorem dX6_pointsWithHeight_0 : decode cX6_pointsWithHeight 0 = .ok (.iconst 0, 1) := by decide +kernel
theorem dX6_pointsWithHeight_1 : decode cX6_pointsWithHeight 1 = .ok (.istore_n 1, 1) := by decide +kernel
theorem dX6_pointsWithHeight_2 : decode cX6_pointsWithHeight 2 = .ok (.iconst 0, 1) := by decide +kernel
theorem dX6_pointsWithHeight_3 : decode cX6_pointsWithHeight 3 = .ok (.istore_n 2, 1) := by decide +kernel
theorem dX6_pointsWithHeight_4 : decode cX6_pointsWithHeight 4 = .ok (.iload_n 2, 1) := by decide +kernel
theorem dX6_pointsWithHeight_5 : decode cX6_pointsWithHeight 5 = .ok (.bipush 10, 2) := by decide +kernel
theorem dX6_pointsWithHeight_7 : decode cX6_pointsWithHeight 7 = .ok (.if_icmp .ge 32, 3) := by decide +kernel
theorem dX6_pointsWithHeight_10 : decode cX6_pointsWithHeight 10 = .ok (.aload_n 0, 1) := by decide +kernel
theorem dX6_pointsWithHeight_11 : decode cX6_pointsWithHeight 11 = .ok (.iload_n 2, 1) := by decide +kernel
theorem dX6_pointsWithHeight_12 : decode cX6_pointsWithHeight 12 = .ok (.invokevirtual 197, 3) := by decide +kernel
theorem dX6_pointsWithHeight_15 : decode cX6_pointsWithHeight 15 = .ok (.iload_n 1, 1) := by decide +kernel
theorem dX6_pointsWithHeight_16 : decode cX6_pointsWithHeight 16 = .ok (.aload_n 0, 1) := by decide +kernel
theorem dX6_pointsWithHeight_17 : decode cX6_pointsWithHeight 17 = .ok (.getfield 42, 3) := by decide +kernel
theorem dX6_pointsWithHeight_20 : decode cX6_pointsWithHeight 20 = .ok (.getfield 200, 3) := by decide +kernel
theorem dX6_pointsWithHeight_23 : decode cX6_pointsWithHeight 23 = .ok (.ifCond .le 7, 3) := by decide +kernel
theorem dX6_pointsWithHeight_26 : decode cX6_pointsWithHeight 26 = .ok (.iconst 1, 1) := by decide +kernel
theorem dX6_pointsWithHeight_27 : decode cX6_pointsWithHeight 27 = .ok (.goto 4, 3) := by decide +kernel
theorem dX6_pointsWithHeight_30 : decode cX6_pointsWithHeight 30 = .ok (.iconst 0, 1) := by decide +kernel
theorem dX6_pointsWithHeight_31 : decode cX6_pointsWithHeight 31 = .ok (.iadd, 1) := by decide +kernel
theorem dX6_pointsWithHeight_32 : decode cX6_pointsWithHeight 32 = .ok (.istore_n 1, 1) := by decide +kernel
theorem dX6_pointsWithHeight_33 : decode cX6_pointsWithHeight 33 = .ok (.iinc 2 1, 3) := by decide +kernel
theorem dX6_pointsWithHeight_36 : decode cX6_pointsWithHeight 36 = .ok (.goto (-32), 3) := by decide +kernel
theorem dX6_pointsWithHeight_39 : decode cX6_pointsWithHeight 39 = .ok (.iload_n 1, 1) := by decide +kernel
theorem dX6_pointsWithHeight_40 : decode cX6_pointsWithHeight 40 = .ok (.ireturn, 1) := by decide +kernel
set_option maxRecDepth 20000 in
theorem ggX6_gather_X1_clear : GoodIn wsX6_gather wsX1_clear := goodIn_r _ [6, 7, 8, 74, 75, 76, 77] (by decide +kernel) (by decide +kernel)
set_option maxRecDepth 20000 in
theorem gX6_gather_X1_clear : GoodIn wsX6_gather (wsV RX6 261 RX1 yX1_clear wsX1_clear) := goodIn_app (goodIn_of _ (by decide +kernel)) ggX6_gather_X1_clear
set_option maxRecDepth 20000 in
theorem ggX6_gather_X6_surveyOf : GoodIn wsX6_gather wsX6_surveyOf := goodIn_r _ [13, 14, 15, 16, 65, 66, 67, 68, 69, 70, 71, 72, 73] (by decide +kernel) (by decide +kernel)
set_option maxRecDepth 20000 in
theorem gX6_gather_X6_surveyOf : GoodIn wsX6_gather (wsV RX6 112 RX6 yX6_surveyOf wsX6_surveyOf) := goodIn_app (goodIn_of _ (by decide +kernel)) ggX6_gather_X6_surveyOf
set_option maxRecDepth 20000 in
theorem ggX6_gather_X3_addTo : GoodIn wsX6_gather wsX3_addTo := goodIn_r _ [21, 22, 23, 24, 25, 26, 20, 27, 28, 29, 30, 31, 12, 32, 33, 34, 35, 36, 37, 38, 39, 40, 41, 42, 43, 44, 45, 46, 47, 48, 49, 50, 51, 52, 53, 54, 5, 55, 8, 56, 57, 58, 59, 60, 61, 62, 63, 64, 7, 78, 79, 80, 81, 82, 83, 84, 85, 86, 87, 88, 89, 74, 75, 76, 77] (by decide +kernel) (by decide +kernel)
set_option maxRecDepth 20000 in
theorem gX6_gather_X3_addTo : GoodIn wsX6_gather (wsV RX6 264 RX3 yX3_addTo wsX3_addTo) := goodIn_app (goodIn_of _ (by decide +kernel)) ggX6_gather_X3_addTo
theorem dX6_gather_0 : decode cX6_gather 0 = .ok (.aload_n 0, 1) := by decide +kernel
theorem dX6_gather_1 : decode cX6_gather 1 = .ok (.getfield 42, 3) := by decide +kernel
theorem dX6_gather_4 : decode cX6_gather 4 = .ok (.invokevirtual 261, 3) := by decide +kernel
theorem dX6_gather_7 : decode cX6_gather 7 = .ok (.iconst 0, 1) := by decide +kernel
theorem dX6_gather_8 : decode cX6_gather 8 = .ok (.istore_n 2, 1) := by decide +kernel
theorem dX6_gather_9 : decode cX6_gather 9 = .ok (.iload_n 2, 1) := by decide +kernel
theorem dX6_gather_10 : decode cX6_gather 10 = .ok (.iconst 3, 1) := by decide +kernel
theorem dX6_gather_11 : decode cX6_gather 11 = .ok (.if_icmp .ge 22, 3) := by decide +kernel
theorem dX6_gather_14 : decode cX6_gather 14 = .ok (.aload_n 0, 1) := by decide +kernel
theorem dX6_gather_15 : decode cX6_gather 15 = .ok (.iload_n 2, 1) := by decide +kernel
theorem dX6_gather_16 : decode cX6_gather 16 = .ok (.invokevirtual 112, 3) := by decide +kernel
theorem dX6_gather_19 : decode cX6_gather 19 = .ok (.aload_n 0, 1) := by decide +kernel
theorem dX6_gather_20 : decode cX6_gather 20 = .ok (.getfield 42, 3) := by decide +kernel
theorem dX6_gather_23 : decode cX6_gather 23 = .ok (.iload_n 1, 1) := by decide +kernel
theorem dX6_gather_24 : decode cX6_gather 24 = .ok (.invokevirtual 264, 3) := by decide +kernel
theorem dX6_gather_27 : decode cX6_gather 27 = .ok (.iinc 2 1, 3) := by decide +kernel
theorem dX6_gather_30 : decode cX6_gather 30 = .ok (.goto (-21), 3) := by decide +kernel
theorem dX6_gather_33 : decode cX6_gather 33 = .ok (.return_, 1) := by decide +kernel
end
section
theorem dL_cell_0 : decode cL_cell 0 = .ok (.iload_n 1, 1) := by decide +kernel
theorem dL_cell_1 : decode cL_cell 1 = .ok (.aload_n 0, 1) := by decide +kernel
theorem dL_cell_2 : decode cL_cell 2 = .ok (.arraylength, 1) := by decide +kernel
theorem dL_cell_3 : decode cL_cell 3 = .ok (.if_icmp .ge 9, 3) := by decide +kernel
theorem dL_cell_6 : decode cL_cell 6 = .ok (.aload_n 0, 1) := by decide +kernel
theorem dL_cell_7 : decode cL_cell 7 = .ok (.iload_n 1, 1) := by decide +kernel
theorem dL_cell_8 : decode cL_cell 8 = .ok (.iaload, 1) := by decide +kernel
theorem dL_cell_9 : decode cL_cell 9 = .ok (.goto 10, 3) := by decide +kernel
theorem dL_cell_12 : decode cL_cell 12 = .ok (.ldc 7, 2) := by decide +kernel
theorem dL_cell_14 : decode cL_cell 14 = .ok (.iload_n 1, 1) := by decide +kernel
theorem dL_cell_15 : decode cL_cell 15 = .ok (.imul, 1) := by decide +kernel
theorem dL_cell_16 : decode cL_cell 16 = .ok (.bipush 109, 2) := by decide +kernel
theorem dL_cell_18 : decode cL_cell 18 = .ok (.iadd, 1) := by decide +kernel
theorem dL_cell_19 : decode cL_cell 19 = .ok (.ldc 8, 2) := by decide +kernel
theorem dL_cell_21 : decode cL_cell 21 = .ok (.iand, 1) := by decide +kernel
theorem dL_cell_22 : decode cL_cell 22 = .ok (.ireturn, 1) := by decide +kernel
set_option maxRecDepth 20000 in
theorem ggL_holds_X6_count : GoodIn wsL_holds wsX6_count := goodIn_r _ [6, 7, 8, 9, 10, 11, 12, 13, 14, 15, 16, 5, 17, 18, 19, 20, 21, 22, 23, 24, 25, 26, 27, 28, 29, 30, 31, 32, 33, 34, 35, 36, 37, 38, 39, 40, 41, 42, 43, 44, 45, 46, 47, 48, 49, 50, 51, 52, 53, 54, 55, 56, 57, 58, 59, 60, 61, 62, 63, 64, 65, 66, 67, 68, 69, 70, 71, 72, 73, 74, 75, 76, 77, 78, 79, 80, 81, 82, 83, 84, 85, 86, 87, 88, 89, 90, 91, 92, 93, 94, 95, 96, 97, 98, 99, 100, 101, 102, 103, 104, 105, 106, 107, 108, 109, 110, 111, 112, 113, 114, 115, 116, 117, 118, 119, 120, 121, 122, 123, 124, 125, 126, 127, 128, 129, 130, 131, 132, 133, 134, 135, 136, 137, 138, 139, 140, 141, 142, 143, 144, 145, 146, 147, 148, 149, 150, 151, 152, 153, 154, 155, 156, 157, 158, 159, 160, 161, 162, 163, 164, 165, 166, 167, 168, 169, 170, 171, 172, 173, 174, 175, 176, 177, 178, 179, 180, 181, 182, 183, 184, 185, 186, 187, 188, 189, 190, 191, 192, 193, 194, 195, 196, 197, 262, 263, 264, 265, 266, 267, 268, 269, 270, 271, 272, 273, 274, 275, 276, 277, 278, 279, 280, 281, 282, 283, 284, 285, 286, 287, 288, 289, 290, 291, 292, 293, 294, 295, 296, 297, 298, 299, 300, 301, 302, 303, 304, 305, 306, 307, 308, 309, 310] (by decide +kernel) (by decide +kernel)
set_option maxRecDepth 20000 in
theorem gL_holds_X6_count : GoodIn wsL_holds (wsV RL 9 RX6 yX6_count wsX6_count) := goodIn_app (goodIn_of _ (by decide +kernel)) ggL_holds_X6_count
set_option maxRecDepth 20000 in
theorem ggL_holds_X6_reading : GoodIn wsL_holds wsX6_reading := goodIn_r _ [201, 13, 202, 7, 203, 204, 205, 5, 206, 207, 208, 209, 210, 211, 212, 135, 32, 33, 34, 35, 36, 37, 38, 39, 14, 15, 16, 17, 18, 8, 9, 10, 19, 20, 21, 22, 23, 24, 25, 26, 27, 28, 29, 30, 31, 40, 41, 42, 43, 44, 45, 46, 47, 48, 49, 50, 51, 52, 53, 54, 55, 56, 57, 58, 59, 60, 61, 62, 63, 64, 65, 66, 67, 68, 69, 70, 71, 72, 73, 74, 75, 76, 77, 78, 79, 80, 81, 82, 83, 84, 85, 86, 87, 88, 89, 90, 91, 92, 93, 94, 95, 96, 97, 98, 99, 100, 101, 102, 103, 104, 105, 106, 107, 108, 109, 110, 111, 112, 113, 114, 115, 116, 117, 118, 119, 120, 121, 122, 123, 124, 125, 126, 127, 128, 129, 130, 131, 132, 133, 134, 165, 166, 167, 168, 213, 214, 215, 262, 263, 264, 265, 266, 267, 268, 269, 270, 271, 272, 273, 300, 301, 302, 303, 304, 305, 306, 274, 275, 276, 277, 278, 279, 280, 281, 282, 283, 284, 285] (by decide +kernel) (by decide +kernel)
set_option maxRecDepth 20000 in
theorem gL_holds_X6_reading : GoodIn wsL_holds (wsV RL 15 RX6 yX6_reading wsX6_reading) := goodIn_app (goodIn_of _ (by decide +kernel)) ggL_holds_X6_reading
set_option maxRecDepth 20000 in
theorem ggL_holds_X6_loops : GoodIn wsL_holds wsX6_loops := goodIn_r _ [219, 13, 207, 208, 5, 209, 210, 211, 212, 14, 15, 16, 17, 18, 8, 7, 9, 10, 19, 20, 21, 22, 23, 24, 25, 26, 27, 28, 29, 30, 31, 32, 33, 34, 35, 36, 37, 38, 39, 40, 41, 42, 43, 44, 45, 46, 47, 48, 49, 50, 51, 52, 53, 54, 55, 56, 57, 58, 59, 60, 61, 62, 63, 64, 65, 66, 67, 68, 69, 70, 71, 72, 73, 74, 75, 76, 77, 78, 79, 80, 81, 82, 83, 84, 85, 86, 87, 88, 89, 90, 91, 92, 93, 94, 95, 96, 97, 98, 99, 100, 101, 102, 103, 104, 105, 106, 107, 108, 109, 110, 111, 112, 113, 114, 115, 116, 117, 118, 119, 120, 121, 122, 123, 124, 125, 126, 127, 128, 129, 130, 131, 132, 133, 134, 165, 166, 167, 168, 274, 275, 276, 277, 278, 279, 280, 281, 282, 283, 284, 285, 262, 263, 264, 265, 266, 267, 268, 269, 270, 271, 272, 273, 300, 301, 302, 303, 304, 305, 306] (by decide +kernel) (by decide +kernel)
set_option maxRecDepth 20000 in
theorem gL_holds_X6_loops : GoodIn wsL_holds (wsV RL 19 RX6 yX6_loops wsX6_loops) := goodIn_app (goodIn_of _ (by decide +kernel)) ggL_holds_X6_loops
set_option maxRecDepth 20000 in
theorem ggL_holds_X6_loop : GoodIn wsL_holds wsX6_loop := goodIn_r _ [223, 13, 207, 208, 5, 209, 210, 211, 212, 14, 15, 16, 17, 18, 8, 7, 9, 10, 19, 20, 21, 22, 23, 24, 25, 26, 27, 28, 29, 30, 31, 32, 33, 34, 35, 36, 37, 38, 39, 40, 41, 42, 43, 44, 45, 46, 47, 48, 49, 50, 51, 52, 53, 54, 55, 56, 57, 58, 59, 60, 61, 62, 63, 64, 65, 66, 67, 68, 69, 70, 71, 72, 73, 74, 75, 76, 77, 78, 79, 80, 81, 82, 83, 84, 85, 86, 87, 88, 89, 90, 91, 92, 93, 94, 95, 96, 97, 98, 99, 100, 101, 102, 103, 104, 105, 106, 107, 108, 109, 110, 111, 112, 113, 114, 115, 116, 117, 118, 119, 120, 121, 122, 123, 124, 125, 126, 127, 128, 129, 130, 131, 132, 133, 134, 165, 166, 167, 168, 224, 225, 226, 227, 228, 229, 230, 231, 274, 275, 276, 277, 278, 279, 280, 281, 282, 283, 284, 285, 262, 263, 264, 265, 266, 267, 268, 269, 270, 271, 272, 273, 300, 301, 302, 303, 304, 305, 306] (by decide +kernel) (by decide +kernel)
set_option maxRecDepth 20000 in
theorem gL_holds_X6_loop : GoodIn wsL_holds (wsV RL 22 RX6 yX6_loop wsX6_loop) := goodIn_app (goodIn_of _ (by decide +kernel)) ggL_holds_X6_loop
set_option maxRecDepth 20000 in
theorem ggL_holds_X6_openLoop : GoodIn wsL_holds wsX6_openLoop := goodIn_r _ [235, 13, 202, 207, 208, 5, 209, 210, 211, 212, 203, 204, 205, 206, 7, 135, 32, 33, 34, 35, 36, 37, 38, 39, 14, 15, 16, 17, 18, 8, 9, 10, 19, 20, 21, 22, 23, 24, 25, 26, 27, 28, 29, 30, 31, 40, 41, 42, 43, 44, 45, 46, 47, 48, 49, 50, 51, 52, 53, 54, 55, 56, 57, 58, 59, 60, 61, 62, 63, 64, 65, 66, 67, 68, 69, 70, 71, 72, 73, 74, 75, 76, 77, 78, 79, 80, 81, 82, 83, 84, 85, 86, 87, 88, 89, 90, 91, 92, 93, 94, 95, 96, 97, 98, 99, 100, 101, 102, 103, 104, 105, 106, 107, 108, 109, 110, 111, 112, 113, 114, 115, 116, 117, 118, 119, 120, 121, 122, 123, 124, 125, 126, 127, 128, 129, 130, 131, 132, 133, 134, 165, 166, 167, 168, 236, 262, 263, 264, 265, 266, 267, 268, 269, 270, 271, 272, 273, 300, 301, 302, 303, 304, 305, 306, 274, 275, 276, 277, 278, 279, 280, 281, 282, 283, 284, 285] (by decide +kernel) (by decide +kernel)
set_option maxRecDepth 20000 in
theorem gL_holds_X6_openLoop : GoodIn wsL_holds (wsV RL 25 RX6 yX6_openLoop wsX6_openLoop) := goodIn_app (goodIn_of _ (by decide +kernel)) ggL_holds_X6_openLoop
set_option maxRecDepth 20000 in
theorem ggL_holds_X6_corrected : GoodIn wsL_holds wsX6_corrected := goodIn_r _ [240, 13, 207, 208, 5, 209, 210, 211, 212, 203, 204, 205, 206, 7, 135, 32, 33, 34, 35, 36, 37, 38, 39, 14, 15, 16, 17, 18, 8, 9, 10, 19, 20, 21, 22, 23, 24, 25, 26, 27, 28, 29, 30, 31, 40, 41, 42, 43, 44, 45, 46, 47, 48, 49, 50, 51, 52, 53, 54, 55, 56, 57, 58, 59, 60, 61, 62, 63, 64, 65, 66, 67, 68, 69, 70, 71, 72, 73, 74, 75, 76, 77, 78, 79, 80, 81, 82, 83, 84, 85, 86, 87, 88, 89, 90, 91, 92, 93, 94, 95, 96, 97, 98, 99, 100, 101, 102, 103, 104, 105, 106, 107, 108, 109, 110, 111, 112, 113, 114, 115, 116, 117, 118, 119, 120, 121, 122, 123, 124, 125, 126, 127, 128, 129, 130, 131, 132, 133, 134, 165, 166, 167, 168, 241, 178, 179, 180, 262, 263, 264, 265, 266, 267, 268, 269, 270, 271, 272, 273, 300, 301, 302, 303, 304, 305, 306, 274, 275, 276, 277, 278, 279, 280, 281, 282, 283, 284, 285] (by decide +kernel) (by decide +kernel)
set_option maxRecDepth 20000 in
theorem gL_holds_X6_corrected : GoodIn wsL_holds (wsV RL 29 RX6 yX6_corrected wsX6_corrected) := goodIn_app (goodIn_of _ (by decide +kernel)) ggL_holds_X6_corrected
set_option maxRecDepth 20000 in
theorem ggL_holds_X6_raw : GoodIn wsL_holds wsX6_raw := goodIn_r _ [245, 13, 207, 208, 5, 209, 210, 211, 212, 203, 204, 205, 206, 7, 135, 32, 33, 34, 35, 36, 37, 38, 39, 14, 15, 16, 17, 18, 8, 9, 10, 19, 20, 21, 22, 23, 24, 25, 26, 27, 28, 29, 30, 31, 40, 41, 42, 43, 44, 45, 46, 47, 48, 49, 50, 51, 52, 53, 54, 55, 56, 57, 58, 59, 60, 61, 62, 63, 64, 65, 66, 67, 68, 69, 70, 71, 72, 73, 74, 75, 76, 77, 78, 79, 80, 81, 82, 83, 84, 85, 86, 87, 88, 89, 90, 91, 92, 93, 94, 95, 96, 97, 98, 99, 100, 101, 102, 103, 104, 105, 106, 107, 108, 109, 110, 111, 112, 113, 114, 115, 116, 117, 118, 119, 120, 121, 122, 123, 124, 125, 126, 127, 128, 129, 130, 131, 132, 133, 134, 165, 166, 167, 168, 246, 262, 263, 264, 265, 266, 267, 268, 269, 270, 271, 272, 273, 300, 301, 302, 303, 304, 305, 306, 274, 275, 276, 277, 278, 279, 280, 281, 282, 283, 284, 285] (by decide +kernel) (by decide +kernel)
set_option maxRecDepth 20000 in
theorem gL_holds_X6_raw : GoodIn wsL_holds (wsV RL 32 RX6 yX6_raw wsX6_raw) := goodIn_app (goodIn_of _ (by decide +kernel)) ggL_holds_X6_raw
set_option maxRecDepth 20000 in
theorem ggL_holds_X6_point : GoodIn wsL_holds wsX6_point := goodIn_r _ [250, 13, 153, 202, 251, 252, 5, 253, 210, 211, 212, 14, 15, 16, 17, 18, 8, 7, 9, 10, 19, 20, 21, 22, 23, 24, 25, 26, 27, 28, 29, 30, 31, 32, 33, 34, 35, 36, 37, 38, 39, 40, 41, 42, 43, 44, 45, 46, 47, 48, 49, 50, 51, 52, 53, 54, 55, 56, 57, 58, 59, 60, 61, 62, 63, 64, 65, 66, 67, 68, 69, 70, 71, 72, 73, 74, 75, 76, 77, 78, 79, 80, 81, 82, 83, 84, 85, 86, 87, 88, 89, 90, 91, 92, 93, 94, 95, 96, 97, 98, 99, 100, 101, 102, 103, 104, 105, 106, 107, 108, 109, 110, 111, 112, 113, 114, 115, 116, 117, 118, 119, 120, 121, 122, 123, 124, 125, 126, 127, 128, 129, 130, 131, 132, 133, 134, 154, 155, 156, 157, 158, 159, 160, 161, 162, 163, 164, 165, 166, 167, 168, 169, 170, 171, 172, 173, 174, 175, 176, 177, 178, 179, 180, 181, 182, 183, 184, 185, 186, 187, 146, 188, 189, 190, 191, 192, 254, 255, 256, 257, 258, 259, 260, 261, 262, 263, 264, 265, 266, 267, 268, 269, 270, 307, 308, 309, 310, 271, 272, 273, 274, 275, 276, 277, 278, 279, 280, 281, 282, 283, 284, 285, 300, 301, 302, 303, 304, 305, 306] (by decide +kernel) (by decide +kernel)
set_option maxRecDepth 20000 in
theorem gL_holds_X6_point : GoodIn wsL_holds (wsV RL 36 RX6 yX6_point wsX6_point) := goodIn_app (goodIn_of _ (by decide +kernel)) ggL_holds_X6_point
theorem dL_holds_0 : decode cL_holds 0 = .ok (.aload_n 0, 1) := by decide +kernel
theorem dL_holds_1 : decode cL_holds 1 = .ok (.iconst 0, 1) := by decide +kernel
theorem dL_holds_2 : decode cL_holds 2 = .ok (.invokevirtual 9, 3) := by decide +kernel
theorem dL_holds_5 : decode cL_holds 5 = .ok (.bipush 12, 2) := by decide +kernel
theorem dL_holds_7 : decode cL_holds 7 = .ok (.if_icmp .gt 7, 3) := by decide +kernel
theorem dL_holds_10 : decode cL_holds 10 = .ok (.iconst 1, 1) := by decide +kernel
theorem dL_holds_11 : decode cL_holds 11 = .ok (.goto 4, 3) := by decide +kernel
theorem dL_holds_14 : decode cL_holds 14 = .ok (.iconst 0, 1) := by decide +kernel
theorem dL_holds_15 : decode cL_holds 15 = .ok (.istore_n 1, 1) := by decide +kernel
theorem dL_holds_16 : decode cL_holds 16 = .ok (.iconst (-1), 1) := by decide +kernel
theorem dL_holds_17 : decode cL_holds 17 = .ok (.istore_n 2, 1) := by decide +kernel
theorem dL_holds_18 : decode cL_holds 18 = .ok (.iload_n 2, 1) := by decide +kernel
theorem dL_holds_19 : decode cL_holds 19 = .ok (.iconst 3, 1) := by decide +kernel
theorem dL_holds_20 : decode cL_holds 20 = .ok (.if_icmp .ge 61, 3) := by decide +kernel
theorem dL_holds_23 : decode cL_holds 23 = .ok (.iload_n 1, 1) := by decide +kernel
theorem dL_holds_24 : decode cL_holds 24 = .ok (.ifCond .eq 57, 3) := by decide +kernel
theorem dL_holds_27 : decode cL_holds 27 = .ok (.iconst 1, 1) := by decide +kernel
theorem dL_holds_28 : decode cL_holds 28 = .ok (.istore_n 3, 1) := by decide +kernel
theorem dL_holds_29 : decode cL_holds 29 = .ok (.iload_n 3, 1) := by decide +kernel
theorem dL_holds_30 : decode cL_holds 30 = .ok (.aload_n 0, 1) := by decide +kernel
theorem dL_holds_31 : decode cL_holds 31 = .ok (.iconst 1, 1) := by decide +kernel
theorem dL_holds_32 : decode cL_holds 32 = .ok (.iload_n 2, 1) := by decide +kernel
theorem dL_holds_33 : decode cL_holds 33 = .ok (.iadd, 1) := by decide +kernel
theorem dL_holds_34 : decode cL_holds 34 = .ok (.invokevirtual 9, 3) := by decide +kernel
theorem dL_holds_37 : decode cL_holds 37 = .ok (.if_icmp .ge 38, 3) := by decide +kernel
theorem dL_holds_40 : decode cL_holds 40 = .ok (.iload_n 1, 1) := by decide +kernel
theorem dL_holds_41 : decode cL_holds 41 = .ok (.ifCond .eq 26, 3) := by decide +kernel
theorem dL_holds_44 : decode cL_holds 44 = .ok (.aload_n 0, 1) := by decide +kernel
theorem dL_holds_45 : decode cL_holds 45 = .ok (.iload_n 2, 1) := by decide +kernel
theorem dL_holds_46 : decode cL_holds 46 = .ok (.iload_n 3, 1) := by decide +kernel
theorem dL_holds_47 : decode cL_holds 47 = .ok (.iconst 0, 1) := by decide +kernel
theorem dL_holds_48 : decode cL_holds 48 = .ok (.invokevirtual 15, 3) := by decide +kernel
theorem dL_holds_51 : decode cL_holds 51 = .ok (.aload_n 0, 1) := by decide +kernel
theorem dL_holds_52 : decode cL_holds 52 = .ok (.iload_n 2, 1) := by decide +kernel
theorem dL_holds_53 : decode cL_holds 53 = .ok (.iload_n 3, 1) := by decide +kernel
theorem dL_holds_54 : decode cL_holds 54 = .ok (.iconst 1, 1) := by decide +kernel
theorem dL_holds_55 : decode cL_holds 55 = .ok (.isub, 1) := by decide +kernel
theorem dL_holds_56 : decode cL_holds 56 = .ok (.iconst 0, 1) := by decide +kernel
theorem dL_holds_57 : decode cL_holds 57 = .ok (.invokevirtual 15, 3) := by decide +kernel
theorem dL_holds_60 : decode cL_holds 60 = .ok (.if_icmp .le 7, 3) := by decide +kernel
theorem dL_holds_63 : decode cL_holds 63 = .ok (.iconst 1, 1) := by decide +kernel
theorem dL_holds_64 : decode cL_holds 64 = .ok (.goto 4, 3) := by decide +kernel
theorem dL_holds_67 : decode cL_holds 67 = .ok (.iconst 0, 1) := by decide +kernel
theorem dL_holds_68 : decode cL_holds 68 = .ok (.istore_n 1, 1) := by decide +kernel
theorem dL_holds_69 : decode cL_holds 69 = .ok (.iinc 3 1, 3) := by decide +kernel
theorem dL_holds_72 : decode cL_holds 72 = .ok (.goto (-43), 3) := by decide +kernel
theorem dL_holds_75 : decode cL_holds 75 = .ok (.iinc 2 1, 3) := by decide +kernel
theorem dL_holds_78 : decode cL_holds 78 = .ok (.goto (-60), 3) := by decide +kernel
theorem dL_holds_81 : decode cL_holds 81 = .ok (.iconst 0, 1) := by decide +kernel
theorem dL_holds_82 : decode cL_holds 82 = .ok (.istore_n 2, 1) := by decide +kernel
theorem dL_holds_83 : decode cL_holds 83 = .ok (.iload_n 2, 1) := by decide +kernel
theorem dL_holds_84 : decode cL_holds 84 = .ok (.iconst 3, 1) := by decide +kernel
theorem dL_holds_85 : decode cL_holds 85 = .ok (.if_icmp .ge 306, 3) := by decide +kernel
theorem dL_holds_88 : decode cL_holds 88 = .ok (.iload_n 1, 1) := by decide +kernel
theorem dL_holds_89 : decode cL_holds 89 = .ok (.ifCond .eq 302, 3) := by decide +kernel
theorem dL_holds_92 : decode cL_holds 92 = .ok (.iconst 0, 1) := by decide +kernel
theorem dL_holds_93 : decode cL_holds 93 = .ok (.istore_n 3, 1) := by decide +kernel
theorem dL_holds_94 : decode cL_holds 94 = .ok (.iload_n 3, 1) := by decide +kernel
theorem dL_holds_95 : decode cL_holds 95 = .ok (.aload_n 0, 1) := by decide +kernel
theorem dL_holds_96 : decode cL_holds 96 = .ok (.iload_n 2, 1) := by decide +kernel
theorem dL_holds_97 : decode cL_holds 97 = .ok (.invokevirtual 19, 3) := by decide +kernel
theorem dL_holds_100 : decode cL_holds 100 = .ok (.if_icmp .ge 174, 3) := by decide +kernel
theorem dL_holds_103 : decode cL_holds 103 = .ok (.iload_n 1, 1) := by decide +kernel
theorem dL_holds_104 : decode cL_holds 104 = .ok (.ifCond .eq 170, 3) := by decide +kernel
theorem dL_holds_107 : decode cL_holds 107 = .ok (.aload_n 0, 1) := by decide +kernel
theorem dL_holds_108 : decode cL_holds 108 = .ok (.iload_n 2, 1) := by decide +kernel
theorem dL_holds_109 : decode cL_holds 109 = .ok (.iload_n 3, 1) := by decide +kernel
theorem dL_holds_110 : decode cL_holds 110 = .ok (.iconst 0, 1) := by decide +kernel
theorem dL_holds_111 : decode cL_holds 111 = .ok (.invokevirtual 22, 3) := by decide +kernel
theorem dL_holds_114 : decode cL_holds 114 = .ok (.istore 4, 2) := by decide +kernel
theorem dL_holds_116 : decode cL_holds 116 = .ok (.aload_n 0, 1) := by decide +kernel
theorem dL_holds_117 : decode cL_holds 117 = .ok (.iload_n 2, 1) := by decide +kernel
theorem dL_holds_118 : decode cL_holds 118 = .ok (.iload_n 3, 1) := by decide +kernel
theorem dL_holds_119 : decode cL_holds 119 = .ok (.iconst 1, 1) := by decide +kernel
theorem dL_holds_120 : decode cL_holds 120 = .ok (.invokevirtual 22, 3) := by decide +kernel
theorem dL_holds_123 : decode cL_holds 123 = .ok (.istore 5, 2) := by decide +kernel
theorem dL_holds_125 : decode cL_holds 125 = .ok (.iload 4, 2) := by decide +kernel
theorem dL_holds_127 : decode cL_holds 127 = .ok (.iload 5, 2) := by decide +kernel
theorem dL_holds_129 : decode cL_holds 129 = .ok (.if_icmp .ge 71, 3) := by decide +kernel
theorem dL_holds_132 : decode cL_holds 132 = .ok (.aload_n 0, 1) := by decide +kernel
theorem dL_holds_133 : decode cL_holds 133 = .ok (.iload_n 2, 1) := by decide +kernel
theorem dL_holds_134 : decode cL_holds 134 = .ok (.iload 4, 2) := by decide +kernel
theorem dL_holds_136 : decode cL_holds 136 = .ok (.iconst 3, 1) := by decide +kernel
theorem dL_holds_137 : decode cL_holds 137 = .ok (.invokevirtual 15, 3) := by decide +kernel
theorem dL_holds_140 : decode cL_holds 140 = .ok (.aload_n 0, 1) := by decide +kernel
theorem dL_holds_141 : decode cL_holds 141 = .ok (.iload_n 2, 1) := by decide +kernel
theorem dL_holds_142 : decode cL_holds 142 = .ok (.iload 5, 2) := by decide +kernel
theorem dL_holds_144 : decode cL_holds 144 = .ok (.iconst 3, 1) := by decide +kernel
theorem dL_holds_145 : decode cL_holds 145 = .ok (.invokevirtual 15, 3) := by decide +kernel
theorem dL_holds_148 : decode cL_holds 148 = .ok (.if_icmp .ne 52, 3) := by decide +kernel
theorem dL_holds_151 : decode cL_holds 151 = .ok (.aload_n 0, 1) := by decide +kernel
theorem dL_holds_152 : decode cL_holds 152 = .ok (.iload_n 2, 1) := by decide +kernel
theorem dL_holds_153 : decode cL_holds 153 = .ok (.iload_n 3, 1) := by decide +kernel
theorem dL_holds_154 : decode cL_holds 154 = .ok (.iconst 2, 1) := by decide +kernel
theorem dL_holds_155 : decode cL_holds 155 = .ok (.invokevirtual 22, 3) := by decide +kernel
theorem dL_holds_158 : decode cL_holds 158 = .ok (.aload_n 0, 1) := by decide +kernel
theorem dL_holds_159 : decode cL_holds 159 = .ok (.iload_n 2, 1) := by decide +kernel
theorem dL_holds_160 : decode cL_holds 160 = .ok (.iload_n 3, 1) := by decide +kernel
theorem dL_holds_161 : decode cL_holds 161 = .ok (.iconst 3, 1) := by decide +kernel
theorem dL_holds_162 : decode cL_holds 162 = .ok (.invokevirtual 22, 3) := by decide +kernel
theorem dL_holds_165 : decode cL_holds 165 = .ok (.if_icmp .ne 35, 3) := by decide +kernel
theorem dL_holds_168 : decode cL_holds 168 = .ok (.aload_n 0, 1) := by decide +kernel
theorem dL_holds_169 : decode cL_holds 169 = .ok (.iload_n 2, 1) := by decide +kernel
theorem dL_holds_170 : decode cL_holds 170 = .ok (.iload_n 3, 1) := by decide +kernel
theorem dL_holds_171 : decode cL_holds 171 = .ok (.iconst 4, 1) := by decide +kernel
theorem dL_holds_172 : decode cL_holds 172 = .ok (.invokevirtual 22, 3) := by decide +kernel
theorem dL_holds_175 : decode cL_holds 175 = .ok (.ifCond .le 25, 3) := by decide +kernel
theorem dL_holds_178 : decode cL_holds 178 = .ok (.iload_n 3, 1) := by decide +kernel
theorem dL_holds_179 : decode cL_holds 179 = .ok (.ifCond .eq 17, 3) := by decide +kernel
theorem dL_holds_182 : decode cL_holds 182 = .ok (.iload 5, 2) := by decide +kernel
theorem dL_holds_184 : decode cL_holds 184 = .ok (.aload_n 0, 1) := by decide +kernel
theorem dL_holds_185 : decode cL_holds 185 = .ok (.iload_n 2, 1) := by decide +kernel
theorem dL_holds_186 : decode cL_holds 186 = .ok (.iload_n 3, 1) := by decide +kernel
theorem dL_holds_187 : decode cL_holds 187 = .ok (.iconst 1, 1) := by decide +kernel
theorem dL_holds_188 : decode cL_holds 188 = .ok (.isub, 1) := by decide +kernel
theorem dL_holds_189 : decode cL_holds 189 = .ok (.iconst 1, 1) := by decide +kernel
theorem dL_holds_190 : decode cL_holds 190 = .ok (.invokevirtual 22, 3) := by decide +kernel
theorem dL_holds_193 : decode cL_holds 193 = .ok (.if_icmp .le 7, 3) := by decide +kernel
theorem dL_holds_196 : decode cL_holds 196 = .ok (.iconst 1, 1) := by decide +kernel
theorem dL_holds_197 : decode cL_holds 197 = .ok (.goto 4, 3) := by decide +kernel
theorem dL_holds_200 : decode cL_holds 200 = .ok (.iconst 0, 1) := by decide +kernel
theorem dL_holds_201 : decode cL_holds 201 = .ok (.istore_n 1, 1) := by decide +kernel
theorem dL_holds_202 : decode cL_holds 202 = .ok (.iload_n 1, 1) := by decide +kernel
theorem dL_holds_203 : decode cL_holds 203 = .ok (.ifCond .eq 63, 3) := by decide +kernel
theorem dL_holds_206 : decode cL_holds 206 = .ok (.aload_n 0, 1) := by decide +kernel
theorem dL_holds_207 : decode cL_holds 207 = .ok (.iload_n 2, 1) := by decide +kernel
theorem dL_holds_208 : decode cL_holds 208 = .ok (.iload 4, 2) := by decide +kernel
theorem dL_holds_210 : decode cL_holds 210 = .ok (.invokevirtual 25, 3) := by decide +kernel
theorem dL_holds_213 : decode cL_holds 213 = .ok (.iload_n 3, 1) := by decide +kernel
theorem dL_holds_214 : decode cL_holds 214 = .ok (.if_icmp .ne 48, 3) := by decide +kernel
theorem dL_holds_217 : decode cL_holds 217 = .ok (.aload_n 0, 1) := by decide +kernel
theorem dL_holds_218 : decode cL_holds 218 = .ok (.iload_n 2, 1) := by decide +kernel
theorem dL_holds_219 : decode cL_holds 219 = .ok (.iload 5, 2) := by decide +kernel
theorem dL_holds_221 : decode cL_holds 221 = .ok (.invokevirtual 25, 3) := by decide +kernel
theorem dL_holds_224 : decode cL_holds 224 = .ok (.iload_n 3, 1) := by decide +kernel
theorem dL_holds_225 : decode cL_holds 225 = .ok (.if_icmp .ne 37, 3) := by decide +kernel
theorem dL_holds_228 : decode cL_holds 228 = .ok (.aload_n 0, 1) := by decide +kernel
theorem dL_holds_229 : decode cL_holds 229 = .ok (.iload_n 2, 1) := by decide +kernel
theorem dL_holds_230 : decode cL_holds 230 = .ok (.iload 4, 2) := by decide +kernel
theorem dL_holds_232 : decode cL_holds 232 = .ok (.invokevirtual 29, 3) := by decide +kernel
theorem dL_holds_235 : decode cL_holds 235 = .ok (.aload_n 0, 1) := by decide +kernel
theorem dL_holds_236 : decode cL_holds 236 = .ok (.iload_n 2, 1) := by decide +kernel
theorem dL_holds_237 : decode cL_holds 237 = .ok (.iload 5, 2) := by decide +kernel
theorem dL_holds_239 : decode cL_holds 239 = .ok (.invokevirtual 29, 3) := by decide +kernel
theorem dL_holds_242 : decode cL_holds 242 = .ok (.if_icmp .ne 24, 3) := by decide +kernel
theorem dL_holds_245 : decode cL_holds 245 = .ok (.aload_n 0, 1) := by decide +kernel
theorem dL_holds_246 : decode cL_holds 246 = .ok (.iload_n 2, 1) := by decide +kernel
theorem dL_holds_247 : decode cL_holds 247 = .ok (.iload 4, 2) := by decide +kernel
theorem dL_holds_249 : decode cL_holds 249 = .ok (.invokevirtual 29, 3) := by decide +kernel
theorem dL_holds_252 : decode cL_holds 252 = .ok (.aload_n 0, 1) := by decide +kernel
theorem dL_holds_253 : decode cL_holds 253 = .ok (.iload_n 2, 1) := by decide +kernel
theorem dL_holds_254 : decode cL_holds 254 = .ok (.iload 4, 2) := by decide +kernel
theorem dL_holds_256 : decode cL_holds 256 = .ok (.invokevirtual 32, 3) := by decide +kernel
theorem dL_holds_259 : decode cL_holds 259 = .ok (.if_icmp .ne 7, 3) := by decide +kernel
theorem dL_holds_262 : decode cL_holds 262 = .ok (.iconst 1, 1) := by decide +kernel
theorem dL_holds_263 : decode cL_holds 263 = .ok (.goto 4, 3) := by decide +kernel
theorem dL_holds_266 : decode cL_holds 266 = .ok (.iconst 0, 1) := by decide +kernel
theorem dL_holds_267 : decode cL_holds 267 = .ok (.istore_n 1, 1) := by decide +kernel
theorem dL_holds_268 : decode cL_holds 268 = .ok (.iinc 3 1, 3) := by decide +kernel
theorem dL_holds_271 : decode cL_holds 271 = .ok (.goto (-177), 3) := by decide +kernel
theorem dL_holds_274 : decode cL_holds 274 = .ok (.iconst 0, 1) := by decide +kernel
theorem dL_holds_275 : decode cL_holds 275 = .ok (.istore_n 3, 1) := by decide +kernel
theorem dL_holds_276 : decode cL_holds 276 = .ok (.iload_n 3, 1) := by decide +kernel
theorem dL_holds_277 : decode cL_holds 277 = .ok (.aload_n 0, 1) := by decide +kernel
theorem dL_holds_278 : decode cL_holds 278 = .ok (.iconst 1, 1) := by decide +kernel
theorem dL_holds_279 : decode cL_holds 279 = .ok (.iload_n 2, 1) := by decide +kernel
theorem dL_holds_280 : decode cL_holds 280 = .ok (.iadd, 1) := by decide +kernel
theorem dL_holds_281 : decode cL_holds 281 = .ok (.invokevirtual 9, 3) := by decide +kernel
theorem dL_holds_284 : decode cL_holds 284 = .ok (.if_icmp .ge 101, 3) := by decide +kernel
theorem dL_holds_287 : decode cL_holds 287 = .ok (.iload_n 1, 1) := by decide +kernel
theorem dL_holds_288 : decode cL_holds 288 = .ok (.ifCond .eq 97, 3) := by decide +kernel
theorem dL_holds_291 : decode cL_holds 291 = .ok (.aload_n 0, 1) := by decide +kernel
theorem dL_holds_292 : decode cL_holds 292 = .ok (.iload_n 2, 1) := by decide +kernel
theorem dL_holds_293 : decode cL_holds 293 = .ok (.iload_n 3, 1) := by decide +kernel
theorem dL_holds_294 : decode cL_holds 294 = .ok (.invokevirtual 25, 3) := by decide +kernel
theorem dL_holds_297 : decode cL_holds 297 = .ok (.istore 4, 2) := by decide +kernel
theorem dL_holds_299 : decode cL_holds 299 = .ok (.aload_n 0, 1) := by decide +kernel
theorem dL_holds_300 : decode cL_holds 300 = .ok (.iload_n 2, 1) := by decide +kernel
theorem dL_holds_301 : decode cL_holds 301 = .ok (.iload_n 3, 1) := by decide +kernel
theorem dL_holds_302 : decode cL_holds 302 = .ok (.iconst 5, 1) := by decide +kernel
theorem dL_holds_303 : decode cL_holds 303 = .ok (.invokevirtual 15, 3) := by decide +kernel
theorem dL_holds_306 : decode cL_holds 306 = .ok (.iconst 1, 1) := by decide +kernel
theorem dL_holds_307 : decode cL_holds 307 = .ok (.if_icmp .ne 7, 3) := by decide +kernel
theorem dL_holds_310 : decode cL_holds 310 = .ok (.iconst 1, 1) := by decide +kernel
theorem dL_holds_311 : decode cL_holds 311 = .ok (.goto 4, 3) := by decide +kernel
theorem dL_holds_314 : decode cL_holds 314 = .ok (.iconst 0, 1) := by decide +kernel
theorem dL_holds_315 : decode cL_holds 315 = .ok (.aload_n 0, 1) := by decide +kernel
theorem dL_holds_316 : decode cL_holds 316 = .ok (.iload_n 2, 1) := by decide +kernel
theorem dL_holds_317 : decode cL_holds 317 = .ok (.iload_n 3, 1) := by decide +kernel
theorem dL_holds_318 : decode cL_holds 318 = .ok (.iconst 4, 1) := by decide +kernel
theorem dL_holds_319 : decode cL_holds 319 = .ok (.invokevirtual 15, 3) := by decide +kernel
theorem dL_holds_322 : decode cL_holds 322 = .ok (.ifCond .ne 18, 3) := by decide +kernel
theorem dL_holds_325 : decode cL_holds 325 = .ok (.aload_n 0, 1) := by decide +kernel
theorem dL_holds_326 : decode cL_holds 326 = .ok (.iload_n 2, 1) := by decide +kernel
theorem dL_holds_327 : decode cL_holds 327 = .ok (.iload_n 3, 1) := by decide +kernel
theorem dL_holds_328 : decode cL_holds 328 = .ok (.invokevirtual 32, 3) := by decide +kernel
theorem dL_holds_331 : decode cL_holds 331 = .ok (.ldc 35, 2) := by decide +kernel
theorem dL_holds_333 : decode cL_holds 333 = .ok (.if_icmp .eq 7, 3) := by decide +kernel
theorem dL_holds_336 : decode cL_holds 336 = .ok (.iconst 1, 1) := by decide +kernel
theorem dL_holds_337 : decode cL_holds 337 = .ok (.goto 4, 3) := by decide +kernel
theorem dL_holds_340 : decode cL_holds 340 = .ok (.iconst 0, 1) := by decide +kernel
theorem dL_holds_341 : decode cL_holds 341 = .ok (.if_icmp .ne 36, 3) := by decide +kernel
theorem dL_holds_344 : decode cL_holds 344 = .ok (.iload 4, 2) := by decide +kernel
theorem dL_holds_346 : decode cL_holds 346 = .ok (.ifCond .lt 27, 3) := by decide +kernel
theorem dL_holds_349 : decode cL_holds 349 = .ok (.aload_n 0, 1) := by decide +kernel
theorem dL_holds_350 : decode cL_holds 350 = .ok (.iload_n 2, 1) := by decide +kernel
theorem dL_holds_351 : decode cL_holds 351 = .ok (.iload 4, 2) := by decide +kernel
theorem dL_holds_353 : decode cL_holds 353 = .ok (.iconst 0, 1) := by decide +kernel
theorem dL_holds_354 : decode cL_holds 354 = .ok (.invokevirtual 22, 3) := by decide +kernel
theorem dL_holds_357 : decode cL_holds 357 = .ok (.iload_n 3, 1) := by decide +kernel
theorem dL_holds_358 : decode cL_holds 358 = .ok (.if_icmp .gt 19, 3) := by decide +kernel
theorem dL_holds_361 : decode cL_holds 361 = .ok (.iload_n 3, 1) := by decide +kernel
theorem dL_holds_362 : decode cL_holds 362 = .ok (.aload_n 0, 1) := by decide +kernel
theorem dL_holds_363 : decode cL_holds 363 = .ok (.iload_n 2, 1) := by decide +kernel
theorem dL_holds_364 : decode cL_holds 364 = .ok (.iload 4, 2) := by decide +kernel
theorem dL_holds_366 : decode cL_holds 366 = .ok (.iconst 1, 1) := by decide +kernel
theorem dL_holds_367 : decode cL_holds 367 = .ok (.invokevirtual 22, 3) := by decide +kernel
theorem dL_holds_370 : decode cL_holds 370 = .ok (.if_icmp .gt 7, 3) := by decide +kernel
theorem dL_holds_373 : decode cL_holds 373 = .ok (.iconst 1, 1) := by decide +kernel
theorem dL_holds_374 : decode cL_holds 374 = .ok (.goto 4, 3) := by decide +kernel
theorem dL_holds_377 : decode cL_holds 377 = .ok (.iconst 0, 1) := by decide +kernel
theorem dL_holds_378 : decode cL_holds 378 = .ok (.istore_n 1, 1) := by decide +kernel
theorem dL_holds_379 : decode cL_holds 379 = .ok (.iinc 3 1, 3) := by decide +kernel
theorem dL_holds_382 : decode cL_holds 382 = .ok (.goto (-106), 3) := by decide +kernel
theorem dL_holds_385 : decode cL_holds 385 = .ok (.iinc 2 1, 3) := by decide +kernel
theorem dL_holds_388 : decode cL_holds 388 = .ok (.goto (-305), 3) := by decide +kernel
theorem dL_holds_391 : decode cL_holds 391 = .ok (.iconst 0, 1) := by decide +kernel
theorem dL_holds_392 : decode cL_holds 392 = .ok (.istore_n 2, 1) := by decide +kernel
theorem dL_holds_393 : decode cL_holds 393 = .ok (.iconst 0, 1) := by decide +kernel
theorem dL_holds_394 : decode cL_holds 394 = .ok (.istore_n 3, 1) := by decide +kernel
theorem dL_holds_395 : decode cL_holds 395 = .ok (.iload_n 3, 1) := by decide +kernel
theorem dL_holds_396 : decode cL_holds 396 = .ok (.bipush 10, 2) := by decide +kernel
theorem dL_holds_398 : decode cL_holds 398 = .ok (.if_icmp .ge 65, 3) := by decide +kernel
theorem dL_holds_401 : decode cL_holds 401 = .ok (.iload_n 1, 1) := by decide +kernel
theorem dL_holds_402 : decode cL_holds 402 = .ok (.ifCond .eq 61, 3) := by decide +kernel
theorem dL_holds_405 : decode cL_holds 405 = .ok (.iload_n 2, 1) := by decide +kernel
theorem dL_holds_406 : decode cL_holds 406 = .ok (.aload_n 0, 1) := by decide +kernel
theorem dL_holds_407 : decode cL_holds 407 = .ok (.iload_n 3, 1) := by decide +kernel
theorem dL_holds_408 : decode cL_holds 408 = .ok (.iconst 2, 1) := by decide +kernel
theorem dL_holds_409 : decode cL_holds 409 = .ok (.invokevirtual 36, 3) := by decide +kernel
theorem dL_holds_412 : decode cL_holds 412 = .ok (.iadd, 1) := by decide +kernel
theorem dL_holds_413 : decode cL_holds 413 = .ok (.istore_n 2, 1) := by decide +kernel
theorem dL_holds_414 : decode cL_holds 414 = .ok (.aload_n 0, 1) := by decide +kernel
theorem dL_holds_415 : decode cL_holds 415 = .ok (.iload_n 3, 1) := by decide +kernel
theorem dL_holds_416 : decode cL_holds 416 = .ok (.iconst 2, 1) := by decide +kernel
theorem dL_holds_417 : decode cL_holds 417 = .ok (.invokevirtual 36, 3) := by decide +kernel
theorem dL_holds_420 : decode cL_holds 420 = .ok (.ifCond .eq 31, 3) := by decide +kernel
theorem dL_holds_423 : decode cL_holds 423 = .ok (.aload_n 0, 1) := by decide +kernel
theorem dL_holds_424 : decode cL_holds 424 = .ok (.iload_n 3, 1) := by decide +kernel
theorem dL_holds_425 : decode cL_holds 425 = .ok (.iconst 1, 1) := by decide +kernel
theorem dL_holds_426 : decode cL_holds 426 = .ok (.invokevirtual 36, 3) := by decide +kernel
theorem dL_holds_429 : decode cL_holds 429 = .ok (.ifCond .lt 26, 3) := by decide +kernel
theorem dL_holds_432 : decode cL_holds 432 = .ok (.aload_n 0, 1) := by decide +kernel
theorem dL_holds_433 : decode cL_holds 433 = .ok (.iload_n 3, 1) := by decide +kernel
theorem dL_holds_434 : decode cL_holds 434 = .ok (.iconst 2, 1) := by decide +kernel
theorem dL_holds_435 : decode cL_holds 435 = .ok (.invokevirtual 36, 3) := by decide +kernel
theorem dL_holds_438 : decode cL_holds 438 = .ok (.iconst 1, 1) := by decide +kernel
theorem dL_holds_439 : decode cL_holds 439 = .ok (.if_icmp .gt 12, 3) := by decide +kernel
theorem dL_holds_442 : decode cL_holds 442 = .ok (.aload_n 0, 1) := by decide +kernel
theorem dL_holds_443 : decode cL_holds 443 = .ok (.iload_n 3, 1) := by decide +kernel
theorem dL_holds_444 : decode cL_holds 444 = .ok (.iconst 1, 1) := by decide +kernel
theorem dL_holds_445 : decode cL_holds 445 = .ok (.invokevirtual 36, 3) := by decide +kernel
theorem dL_holds_448 : decode cL_holds 448 = .ok (.ifCond .ne 7, 3) := by decide +kernel
theorem dL_holds_451 : decode cL_holds 451 = .ok (.iconst 1, 1) := by decide +kernel
theorem dL_holds_452 : decode cL_holds 452 = .ok (.goto 4, 3) := by decide +kernel
theorem dL_holds_455 : decode cL_holds 455 = .ok (.iconst 0, 1) := by decide +kernel
theorem dL_holds_456 : decode cL_holds 456 = .ok (.istore_n 1, 1) := by decide +kernel
theorem dL_holds_457 : decode cL_holds 457 = .ok (.iinc 3 1, 3) := by decide +kernel
theorem dL_holds_460 : decode cL_holds 460 = .ok (.goto (-65), 3) := by decide +kernel
theorem dL_holds_463 : decode cL_holds 463 = .ok (.iload_n 1, 1) := by decide +kernel
theorem dL_holds_464 : decode cL_holds 464 = .ok (.ifCond .eq 33, 3) := by decide +kernel
theorem dL_holds_467 : decode cL_holds 467 = .ok (.iload_n 2, 1) := by decide +kernel
theorem dL_holds_468 : decode cL_holds 468 = .ok (.aload_n 0, 1) := by decide +kernel
theorem dL_holds_469 : decode cL_holds 469 = .ok (.bipush 13, 2) := by decide +kernel
theorem dL_holds_471 : decode cL_holds 471 = .ok (.invokevirtual 9, 3) := by decide +kernel
theorem dL_holds_474 : decode cL_holds 474 = .ok (.if_icmp .gt 23, 3) := by decide +kernel
theorem dL_holds_477 : decode cL_holds 477 = .ok (.iload_n 2, 1) := by decide +kernel
theorem dL_holds_478 : decode cL_holds 478 = .ok (.aload_n 0, 1) := by decide +kernel
theorem dL_holds_479 : decode cL_holds 479 = .ok (.bipush 13, 2) := by decide +kernel
theorem dL_holds_481 : decode cL_holds 481 = .ok (.invokevirtual 9, 3) := by decide +kernel
theorem dL_holds_484 : decode cL_holds 484 = .ok (.aload_n 0, 1) := by decide +kernel
theorem dL_holds_485 : decode cL_holds 485 = .ok (.iconst 5, 1) := by decide +kernel
theorem dL_holds_486 : decode cL_holds 486 = .ok (.invokevirtual 9, 3) := by decide +kernel
theorem dL_holds_489 : decode cL_holds 489 = .ok (.isub, 1) := by decide +kernel
theorem dL_holds_490 : decode cL_holds 490 = .ok (.if_icmp .lt 7, 3) := by decide +kernel
theorem dL_holds_493 : decode cL_holds 493 = .ok (.iconst 1, 1) := by decide +kernel
theorem dL_holds_494 : decode cL_holds 494 = .ok (.goto 4, 3) := by decide +kernel
theorem dL_holds_497 : decode cL_holds 497 = .ok (.iconst 0, 1) := by decide +kernel
theorem dL_holds_498 : decode cL_holds 498 = .ok (.ireturn, 1) := by decide +kernel
set_option maxRecDepth 20000 in
theorem ggL_level_X6_count : GoodIn wsL_level wsX6_count := goodIn_r _ [5, 6, 7, 8, 9, 10, 11, 12, 13, 14, 15, 4, 16, 17, 18, 19, 20, 21, 22, 23, 24, 25, 26, 27, 28, 29, 30, 31, 32, 33, 34, 35, 36, 37, 38, 39, 40, 41, 42, 43, 44, 45, 46, 47, 48, 49, 50, 51, 52, 53, 54, 55, 56, 57, 58, 59, 60, 61, 62, 63, 64, 65, 66, 67, 68, 69, 70, 71, 72, 73, 74, 75, 76, 77, 78, 79, 80, 81, 82, 83, 84, 85, 86, 87, 88, 89, 90, 91, 92, 93, 94, 95, 96, 97, 98, 99, 100, 101, 102, 103, 104, 105, 106, 107, 108, 109, 110, 111, 112, 113, 114, 115, 116, 117, 118, 119, 120, 121, 122, 123, 124, 125, 126, 127, 128, 129, 130, 131, 132, 133, 134, 135, 136, 137, 138, 139, 140, 141, 142, 143, 144, 145, 146, 147, 148, 149, 150, 151, 152, 153, 154, 155, 156, 157, 158, 159, 160, 161, 162, 163, 164, 165, 166, 167, 168, 169, 170, 171, 172, 173, 174, 175, 176, 177, 178, 179, 180, 181, 182, 183, 184, 185, 186, 187, 188, 189, 190, 191, 192, 193, 194, 195, 196, 236, 237, 238, 239, 240, 241, 242, 243, 244, 245, 246, 247, 248, 249, 250, 251, 252, 253, 254, 255, 256, 257, 258, 259, 260, 261, 262, 263, 264, 265, 266, 267, 268, 269, 270, 271, 272, 273, 274, 275, 276, 277, 278, 279, 280, 281, 282, 283, 284] (by decide +kernel) (by decide +kernel)
set_option maxRecDepth 20000 in
theorem gL_level_X6_count : GoodIn wsL_level (wsV RL 9 RX6 yX6_count wsX6_count) := goodIn_app (goodIn_of _ (by decide +kernel)) ggL_level_X6_count
set_option maxRecDepth 20000 in
theorem ggL_level_X6_reading : GoodIn wsL_level wsX6_reading := goodIn_r _ [200, 12, 201, 6, 202, 203, 204, 4, 205, 206, 207, 208, 209, 210, 211, 134, 31, 32, 33, 34, 35, 36, 37, 38, 13, 14, 15, 16, 17, 7, 8, 9, 18, 19, 20, 21, 22, 23, 24, 25, 26, 27, 28, 29, 30, 39, 40, 41, 42, 43, 44, 45, 46, 47, 48, 49, 50, 51, 52, 53, 54, 55, 56, 57, 58, 59, 60, 61, 62, 63, 64, 65, 66, 67, 68, 69, 70, 71, 72, 73, 74, 75, 76, 77, 78, 79, 80, 81, 82, 83, 84, 85, 86, 87, 88, 89, 90, 91, 92, 93, 94, 95, 96, 97, 98, 99, 100, 101, 102, 103, 104, 105, 106, 107, 108, 109, 110, 111, 112, 113, 114, 115, 116, 117, 118, 119, 120, 121, 122, 123, 124, 125, 126, 127, 128, 129, 130, 131, 132, 133, 164, 165, 166, 167, 212, 213, 214, 236, 237, 238, 239, 240, 241, 242, 243, 244, 245, 246, 247, 274, 275, 276, 277, 278, 279, 280, 248, 249, 250, 251, 252, 253, 254, 255, 256, 257, 258, 259] (by decide +kernel) (by decide +kernel)
set_option maxRecDepth 20000 in
theorem gL_level_X6_reading : GoodIn wsL_level (wsV RL 15 RX6 yX6_reading wsX6_reading) := goodIn_app (goodIn_of _ (by decide +kernel)) ggL_level_X6_reading
set_option maxRecDepth 20000 in
theorem ggL_level_X6_baseAt : GoodIn wsL_level wsX6_baseAt := goodIn_r _ [218, 12, 6, 219, 220, 4, 221, 209, 210, 211, 222, 57, 58, 33, 59, 38, 53, 60, 40, 41, 42, 43, 44, 45, 46, 61, 62, 63, 64, 65, 66, 236, 237, 238, 239, 240, 241, 242, 243, 244, 274, 275, 276, 277, 278, 279, 280, 245, 246, 247] (by decide +kernel) (by decide +kernel)
set_option maxRecDepth 20000 in
theorem gL_level_X6_baseAt : GoodIn wsL_level (wsV RL 39 RX6 yX6_baseAt wsX6_baseAt) := goodIn_app (goodIn_of _ (by decide +kernel)) ggL_level_X6_baseAt
set_option maxRecDepth 20000 in
theorem ggL_level_X6_would : GoodIn wsL_level wsX6_would := goodIn_r _ [226, 12, 6, 227, 228, 4, 229, 230, 231, 219, 220, 221, 209, 210, 211, 232, 233, 234, 235, 50, 51, 33, 52, 53, 54, 55, 56, 57, 58, 59, 38, 60, 40, 41, 42, 43, 44, 45, 46, 61, 62, 63, 64, 65, 66, 67, 68, 69, 236, 237, 238, 239, 240, 241, 242, 243, 244, 274, 275, 276, 277, 278, 279, 280, 245, 246, 247] (by decide +kernel) (by decide +kernel)
set_option maxRecDepth 20000 in
theorem gL_level_X6_would : GoodIn wsL_level (wsV RL 42 RX6 yX6_would wsX6_would) := goodIn_app (goodIn_of _ (by decide +kernel)) ggL_level_X6_would
theorem dL_level_0 : decode cL_level 0 = .ok (.iconst 1, 1) := by decide +kernel
theorem dL_level_1 : decode cL_level 1 = .ok (.istore_n 1, 1) := by decide +kernel
theorem dL_level_2 : decode cL_level 2 = .ok (.iconst 0, 1) := by decide +kernel
theorem dL_level_3 : decode cL_level 3 = .ok (.istore_n 2, 1) := by decide +kernel
theorem dL_level_4 : decode cL_level 4 = .ok (.iload_n 2, 1) := by decide +kernel
theorem dL_level_5 : decode cL_level 5 = .ok (.aload_n 0, 1) := by decide +kernel
theorem dL_level_6 : decode cL_level 6 = .ok (.iconst 0, 1) := by decide +kernel
theorem dL_level_7 : decode cL_level 7 = .ok (.invokevirtual 9, 3) := by decide +kernel
theorem dL_level_10 : decode cL_level 10 = .ok (.if_icmp .ge 87, 3) := by decide +kernel
theorem dL_level_13 : decode cL_level 13 = .ok (.iload_n 1, 1) := by decide +kernel
theorem dL_level_14 : decode cL_level 14 = .ok (.ifCond .eq 83, 3) := by decide +kernel
theorem dL_level_17 : decode cL_level 17 = .ok (.aload_n 0, 1) := by decide +kernel
theorem dL_level_18 : decode cL_level 18 = .ok (.iconst (-1), 1) := by decide +kernel
theorem dL_level_19 : decode cL_level 19 = .ok (.iload_n 2, 1) := by decide +kernel
theorem dL_level_20 : decode cL_level 20 = .ok (.iconst 0, 1) := by decide +kernel
theorem dL_level_21 : decode cL_level 21 = .ok (.invokevirtual 15, 3) := by decide +kernel
theorem dL_level_24 : decode cL_level 24 = .ok (.istore_n 3, 1) := by decide +kernel
theorem dL_level_25 : decode cL_level 25 = .ok (.aload_n 0, 1) := by decide +kernel
theorem dL_level_26 : decode cL_level 26 = .ok (.iload_n 3, 1) := by decide +kernel
theorem dL_level_27 : decode cL_level 27 = .ok (.iconst 0, 1) := by decide +kernel
theorem dL_level_28 : decode cL_level 28 = .ok (.invokevirtual 39, 3) := by decide +kernel
theorem dL_level_31 : decode cL_level 31 = .ok (.aload_n 0, 1) := by decide +kernel
theorem dL_level_32 : decode cL_level 32 = .ok (.iconst (-1), 1) := by decide +kernel
theorem dL_level_33 : decode cL_level 33 = .ok (.iload_n 2, 1) := by decide +kernel
theorem dL_level_34 : decode cL_level 34 = .ok (.iconst 1, 1) := by decide +kernel
theorem dL_level_35 : decode cL_level 35 = .ok (.invokevirtual 15, 3) := by decide +kernel
theorem dL_level_38 : decode cL_level 38 = .ok (.if_icmp .ne 51, 3) := by decide +kernel
theorem dL_level_41 : decode cL_level 41 = .ok (.aload_n 0, 1) := by decide +kernel
theorem dL_level_42 : decode cL_level 42 = .ok (.iload_n 3, 1) := by decide +kernel
theorem dL_level_43 : decode cL_level 43 = .ok (.iconst 1, 1) := by decide +kernel
theorem dL_level_44 : decode cL_level 44 = .ok (.invokevirtual 39, 3) := by decide +kernel
theorem dL_level_47 : decode cL_level 47 = .ok (.aload_n 0, 1) := by decide +kernel
theorem dL_level_48 : decode cL_level 48 = .ok (.iconst (-1), 1) := by decide +kernel
theorem dL_level_49 : decode cL_level 49 = .ok (.iload_n 2, 1) := by decide +kernel
theorem dL_level_50 : decode cL_level 50 = .ok (.iconst 2, 1) := by decide +kernel
theorem dL_level_51 : decode cL_level 51 = .ok (.invokevirtual 15, 3) := by decide +kernel
theorem dL_level_54 : decode cL_level 54 = .ok (.if_icmp .ne 35, 3) := by decide +kernel
theorem dL_level_57 : decode cL_level 57 = .ok (.aload_n 0, 1) := by decide +kernel
theorem dL_level_58 : decode cL_level 58 = .ok (.iload_n 3, 1) := by decide +kernel
theorem dL_level_59 : decode cL_level 59 = .ok (.aload_n 0, 1) := by decide +kernel
theorem dL_level_60 : decode cL_level 60 = .ok (.iconst (-1), 1) := by decide +kernel
theorem dL_level_61 : decode cL_level 61 = .ok (.iload_n 2, 1) := by decide +kernel
theorem dL_level_62 : decode cL_level 62 = .ok (.iconst 1, 1) := by decide +kernel
theorem dL_level_63 : decode cL_level 63 = .ok (.invokevirtual 15, 3) := by decide +kernel
theorem dL_level_66 : decode cL_level 66 = .ok (.aload_n 0, 1) := by decide +kernel
theorem dL_level_67 : decode cL_level 67 = .ok (.iconst (-1), 1) := by decide +kernel
theorem dL_level_68 : decode cL_level 68 = .ok (.iload_n 2, 1) := by decide +kernel
theorem dL_level_69 : decode cL_level 69 = .ok (.iconst 2, 1) := by decide +kernel
theorem dL_level_70 : decode cL_level 70 = .ok (.invokevirtual 15, 3) := by decide +kernel
theorem dL_level_73 : decode cL_level 73 = .ok (.invokevirtual 42, 3) := by decide +kernel
theorem dL_level_76 : decode cL_level 76 = .ok (.aload_n 0, 1) := by decide +kernel
theorem dL_level_77 : decode cL_level 77 = .ok (.bipush 10, 2) := by decide +kernel
theorem dL_level_79 : decode cL_level 79 = .ok (.invokevirtual 9, 3) := by decide +kernel
theorem dL_level_82 : decode cL_level 82 = .ok (.if_icmp .ne 7, 3) := by decide +kernel
theorem dL_level_85 : decode cL_level 85 = .ok (.iconst 1, 1) := by decide +kernel
theorem dL_level_86 : decode cL_level 86 = .ok (.goto 4, 3) := by decide +kernel
theorem dL_level_89 : decode cL_level 89 = .ok (.iconst 0, 1) := by decide +kernel
theorem dL_level_90 : decode cL_level 90 = .ok (.istore_n 1, 1) := by decide +kernel
theorem dL_level_91 : decode cL_level 91 = .ok (.iinc 2 1, 3) := by decide +kernel
theorem dL_level_94 : decode cL_level 94 = .ok (.goto (-90), 3) := by decide +kernel
theorem dL_level_97 : decode cL_level 97 = .ok (.iload_n 1, 1) := by decide +kernel
theorem dL_level_98 : decode cL_level 98 = .ok (.ireturn, 1) := by decide +kernel
end
section
/-! one world: the cells of the class, numbered in the order in which they are made; M holds the ints, by cell and place, and the longs, by cell -/
abbrev wG : Type := va_G × (ClassId × ClassId) × (Nat → Nat)
def gD (G : wG) : va_G := G.1
def gI (G : wG) : ClassId := G.2.1.1
def gO (G : wG) : ClassId := G.2.1.2
def ga (G : wG) (i : Nat) : Nat := G.2.2 i
abbrev wM : Type := (Nat → Nat → Int32) × (Nat → Int64)
def st (M : wM) (i k : Nat) (v : Int32) : wM := (fun a b => if a = i ∧ b = k then v else M.1 a b, M.2)
def stL (M : wM) (i : Nat) (v : Int64) : wM := (M.1, fun a => if a = i then v else M.2 a)
def cpM (M : wM) (src dst n : Nat) : wM := (fun a b => if a = dst then va_cpy (M.1 src) (M.1 dst) 0 0 n b else M.1 a b, M.2)
def kdL : List Nat := [6, 2, 5, 20, 5, 20, 5, 20, 5, 20, 2, 5, 20, 5, 20, 5, 20, 5, 20, 0, 8, 2, 5, 20, 5, 20, 5, 20, 5, 20, 2, 5, 20, 5, 20, 5, 20, 5, 20, 2, 5, 20, 5, 20, 5, 20, 5, 20, 2, 5, 20, 5, 20, 5, 20, 5, 20, 2, 5, 20, 5, 20, 5, 20, 5, 20, 3, 20, 20, 20, 20, 20, 20, 20, 20, 3, 20, 20, 20, 20, 20, 20, 20, 20, 3, 20, 20, 20, 20, 20, 20, 20, 20, 1, 4, 20]
def lnL : List Nat := [0, 0, 0, 80, 0, 80, 0, 80, 0, 80, 0, 0, 80, 0, 80, 0, 80, 0, 80, 0, 5, 0, 0, 80, 0, 80, 0, 80, 0, 80, 0, 0, 80, 0, 80, 0, 80, 0, 80, 0, 0, 80, 0, 80, 0, 80, 0, 80, 0, 0, 80, 0, 80, 0, 80, 0, 80, 0, 0, 80, 0, 80, 0, 80, 0, 80, 0, 20, 20, 20, 20, 20, 20, 20, 20, 0, 20, 20, 20, 20, 20, 20, 20, 20, 0, 20, 20, 20, 20, 20, 20, 20, 20, 0, 0, 100]
def kd (i : Nat) : Nat := kdL.getD i 99
def ln (i : Nat) : Nat := lnL.getD i 0
def cellOf (G : wG) (M : wM) (i : Nat) : va_E := match kd i with
  | 0 => .inr (0, [.ref (ga G (i + 1)), .int (M.1 i 1), .int (M.1 i 2)])
  | 1 => .inr (1, [.long (M.2 i), .int (M.1 i 1), .int (M.1 i 2), .int (M.1 i 3)])
  | 2 => .inr (2, [.ref (ga G (i + 1)), .ref (ga G (i + 3)), .ref (ga G (i + 5)), .ref (ga G (i + 7)), .int (M.1 i 4), .int (M.1 i 5), .int (M.1 i 6)])
  | 3 => .inr (3, [.ref (ga G (i + 1)), .ref (ga G (i + 2)), .ref (ga G (i + 3)), .ref (ga G (i + 4)), .ref (ga G (i + 5)), .ref (ga G (i + 6)), .ref (ga G (i + 7)), .ref (ga G (i + 8)), .int (M.1 i 8), .int (M.1 i 9), .int (M.1 i 10), .int (M.1 i 11)])
  | 4 => .inr (4, [.ref (ga G (i + 1)), .int (M.1 i 1), .int (M.1 i 2), .int (M.1 i 3), .int (M.1 i 4), .int (M.1 i 5), .int (M.1 i 6), .int (M.1 i 7), .int (M.1 i 8), .int (M.1 i 9), .int (M.1 i 10)])
  | 5 => .inr (5, [.ref (ga G (i + 1)), .int (M.1 i 1), .int (M.1 i 2)])
  | 6 => .inr (6, [.ref (ga G (i + 1)), .ref (ga G (i + 10)), .ref (ga G (i + 19)), .ref (ga G (i + 66)), .ref (ga G (i + 75)), .ref (ga G (i + 84)), .ref (ga G (i + 93)), .ref (ga G (i + 94)), .int (M.1 i 8)])
  | 8 => .inl (gO G, 5, .inr (.inr (.inr (.inr (fun k => some (ga G (i + 1 + 9 * k)))))))
  | 20 => .inl (gI G, ln i, .inl (M.1 i))
  | _ => .inr (0, [])
theorem ce0 {G : wG} {M : wM} {i : Nat} (h : kd i = 0) : cellOf G M i = .inr (0, [.ref (ga G (i + 1)), .int (M.1 i 1), .int (M.1 i 2)]) := by simp only [cellOf, h]
theorem ce1 {G : wG} {M : wM} {i : Nat} (h : kd i = 1) : cellOf G M i = .inr (1, [.long (M.2 i), .int (M.1 i 1), .int (M.1 i 2), .int (M.1 i 3)]) := by simp only [cellOf, h]
theorem ce2 {G : wG} {M : wM} {i : Nat} (h : kd i = 2) : cellOf G M i = .inr (2, [.ref (ga G (i + 1)), .ref (ga G (i + 3)), .ref (ga G (i + 5)), .ref (ga G (i + 7)), .int (M.1 i 4), .int (M.1 i 5), .int (M.1 i 6)]) := by simp only [cellOf, h]
theorem ce3 {G : wG} {M : wM} {i : Nat} (h : kd i = 3) : cellOf G M i = .inr (3, [.ref (ga G (i + 1)), .ref (ga G (i + 2)), .ref (ga G (i + 3)), .ref (ga G (i + 4)), .ref (ga G (i + 5)), .ref (ga G (i + 6)), .ref (ga G (i + 7)), .ref (ga G (i + 8)), .int (M.1 i 8), .int (M.1 i 9), .int (M.1 i 10), .int (M.1 i 11)]) := by simp only [cellOf, h]
theorem ce4 {G : wG} {M : wM} {i : Nat} (h : kd i = 4) : cellOf G M i = .inr (4, [.ref (ga G (i + 1)), .int (M.1 i 1), .int (M.1 i 2), .int (M.1 i 3), .int (M.1 i 4), .int (M.1 i 5), .int (M.1 i 6), .int (M.1 i 7), .int (M.1 i 8), .int (M.1 i 9), .int (M.1 i 10)]) := by simp only [cellOf, h]
theorem ce5 {G : wG} {M : wM} {i : Nat} (h : kd i = 5) : cellOf G M i = .inr (5, [.ref (ga G (i + 1)), .int (M.1 i 1), .int (M.1 i 2)]) := by simp only [cellOf, h]
theorem ce6 {G : wG} {M : wM} {i : Nat} (h : kd i = 6) : cellOf G M i = .inr (6, [.ref (ga G (i + 1)), .ref (ga G (i + 10)), .ref (ga G (i + 19)), .ref (ga G (i + 66)), .ref (ga G (i + 75)), .ref (ga G (i + 84)), .ref (ga G (i + 93)), .ref (ga G (i + 94)), .int (M.1 i 8)]) := by simp only [cellOf, h]
theorem ce8 {G : wG} {M : wM} {i : Nat} (h : kd i = 8) : cellOf G M i = .inl (gO G, 5, .inr (.inr (.inr (.inr (fun k => some (ga G (i + 1 + 9 * k))))))) := by simp only [cellOf, h]
theorem ce20 {G : wG} {M : wM} {i : Nat} (h : kd i = 20) : cellOf G M i = .inl (gI G, ln i, .inl (M.1 i)) := by simp only [cellOf, h]
theorem kdlt {i c : Nat} (h : kd i = c) (hc : c < 99) : i < 96 := by
  rcases Nat.lt_or_ge i 96 with q | q
  · exact q
  · have e0 : kdL[i]? = none := List.getElem?_eq_none (by have e : kdL.length = 96 := rfl; omega)
    have e : kd i = 99 := by show (kdL[i]?).getD 99 = 99; rw [e0]; rfl
    omega
theorem kf0_0 {i : Nat} (h : kd i = 0) : kd (i + 1) = 8 := by
  have key : ∀ j, j < 96 → kd j = 0 → kd (j + 1) = 8 := by decide +kernel
  exact key i (kdlt h (by decide)) h
theorem kf2_0 {i : Nat} (h : kd i = 2) : kd (i + 1) = 5 := by
  have key : ∀ j, j < 96 → kd j = 2 → kd (j + 1) = 5 := by decide +kernel
  exact key i (kdlt h (by decide)) h
theorem kf2_1 {i : Nat} (h : kd i = 2) : kd (i + 3) = 5 := by
  have key : ∀ j, j < 96 → kd j = 2 → kd (j + 3) = 5 := by decide +kernel
  exact key i (kdlt h (by decide)) h
theorem kf2_2 {i : Nat} (h : kd i = 2) : kd (i + 5) = 5 := by
  have key : ∀ j, j < 96 → kd j = 2 → kd (j + 5) = 5 := by decide +kernel
  exact key i (kdlt h (by decide)) h
theorem kf2_3 {i : Nat} (h : kd i = 2) : kd (i + 7) = 5 := by
  have key : ∀ j, j < 96 → kd j = 2 → kd (j + 7) = 5 := by decide +kernel
  exact key i (kdlt h (by decide)) h
theorem kf3_0 {i : Nat} (h : kd i = 3) : kd (i + 1) = 20 := by
  have key : ∀ j, j < 96 → kd j = 3 → kd (j + 1) = 20 := by decide +kernel
  exact key i (kdlt h (by decide)) h
theorem lkf3_0 {i : Nat} (h : kd i = 3) : ln (i + 1) = 20 := by
  have key : ∀ j, j < 96 → kd j = 3 → ln (j + 1) = 20 := by decide +kernel
  exact key i (kdlt h (by decide)) h
theorem kf3_1 {i : Nat} (h : kd i = 3) : kd (i + 2) = 20 := by
  have key : ∀ j, j < 96 → kd j = 3 → kd (j + 2) = 20 := by decide +kernel
  exact key i (kdlt h (by decide)) h
theorem lkf3_1 {i : Nat} (h : kd i = 3) : ln (i + 2) = 20 := by
  have key : ∀ j, j < 96 → kd j = 3 → ln (j + 2) = 20 := by decide +kernel
  exact key i (kdlt h (by decide)) h
theorem kf3_2 {i : Nat} (h : kd i = 3) : kd (i + 3) = 20 := by
  have key : ∀ j, j < 96 → kd j = 3 → kd (j + 3) = 20 := by decide +kernel
  exact key i (kdlt h (by decide)) h
theorem lkf3_2 {i : Nat} (h : kd i = 3) : ln (i + 3) = 20 := by
  have key : ∀ j, j < 96 → kd j = 3 → ln (j + 3) = 20 := by decide +kernel
  exact key i (kdlt h (by decide)) h
theorem kf3_3 {i : Nat} (h : kd i = 3) : kd (i + 4) = 20 := by
  have key : ∀ j, j < 96 → kd j = 3 → kd (j + 4) = 20 := by decide +kernel
  exact key i (kdlt h (by decide)) h
theorem lkf3_3 {i : Nat} (h : kd i = 3) : ln (i + 4) = 20 := by
  have key : ∀ j, j < 96 → kd j = 3 → ln (j + 4) = 20 := by decide +kernel
  exact key i (kdlt h (by decide)) h
theorem kf3_4 {i : Nat} (h : kd i = 3) : kd (i + 5) = 20 := by
  have key : ∀ j, j < 96 → kd j = 3 → kd (j + 5) = 20 := by decide +kernel
  exact key i (kdlt h (by decide)) h
theorem lkf3_4 {i : Nat} (h : kd i = 3) : ln (i + 5) = 20 := by
  have key : ∀ j, j < 96 → kd j = 3 → ln (j + 5) = 20 := by decide +kernel
  exact key i (kdlt h (by decide)) h
theorem kf3_5 {i : Nat} (h : kd i = 3) : kd (i + 6) = 20 := by
  have key : ∀ j, j < 96 → kd j = 3 → kd (j + 6) = 20 := by decide +kernel
  exact key i (kdlt h (by decide)) h
theorem lkf3_5 {i : Nat} (h : kd i = 3) : ln (i + 6) = 20 := by
  have key : ∀ j, j < 96 → kd j = 3 → ln (j + 6) = 20 := by decide +kernel
  exact key i (kdlt h (by decide)) h
theorem kf3_6 {i : Nat} (h : kd i = 3) : kd (i + 7) = 20 := by
  have key : ∀ j, j < 96 → kd j = 3 → kd (j + 7) = 20 := by decide +kernel
  exact key i (kdlt h (by decide)) h
theorem lkf3_6 {i : Nat} (h : kd i = 3) : ln (i + 7) = 20 := by
  have key : ∀ j, j < 96 → kd j = 3 → ln (j + 7) = 20 := by decide +kernel
  exact key i (kdlt h (by decide)) h
theorem kf3_7 {i : Nat} (h : kd i = 3) : kd (i + 8) = 20 := by
  have key : ∀ j, j < 96 → kd j = 3 → kd (j + 8) = 20 := by decide +kernel
  exact key i (kdlt h (by decide)) h
theorem lkf3_7 {i : Nat} (h : kd i = 3) : ln (i + 8) = 20 := by
  have key : ∀ j, j < 96 → kd j = 3 → ln (j + 8) = 20 := by decide +kernel
  exact key i (kdlt h (by decide)) h
theorem kf4_0 {i : Nat} (h : kd i = 4) : kd (i + 1) = 20 := by
  have key : ∀ j, j < 96 → kd j = 4 → kd (j + 1) = 20 := by decide +kernel
  exact key i (kdlt h (by decide)) h
theorem lkf4_0 {i : Nat} (h : kd i = 4) : ln (i + 1) = 100 := by
  have key : ∀ j, j < 96 → kd j = 4 → ln (j + 1) = 100 := by decide +kernel
  exact key i (kdlt h (by decide)) h
theorem kf5_0 {i : Nat} (h : kd i = 5) : kd (i + 1) = 20 := by
  have key : ∀ j, j < 96 → kd j = 5 → kd (j + 1) = 20 := by decide +kernel
  exact key i (kdlt h (by decide)) h
theorem lkf5_0 {i : Nat} (h : kd i = 5) : ln (i + 1) = 80 := by
  have key : ∀ j, j < 96 → kd j = 5 → ln (j + 1) = 80 := by decide +kernel
  exact key i (kdlt h (by decide)) h
theorem kf8 {i k : Nat} (h : kd i = 8) (hk : k < 5) : kd (i + 1 + 9 * k) = 2 := by
  have key : ∀ j, j < 96 → kd j = 8 → ∀ k, k < 5 → kd (j + 1 + 9 * k) = 2 := by decide +kernel
  exact key i (kdlt h (by decide)) h k hk
def wl (G : wG) (M : wM) : va_W := (List.range 96).map (fun i => (ga G i, cellOf G M i))
theorem wl_at {G : wG} {M : wM} {i : Nat} (h : i < 96) : (wl G M)[i]? = some (ga G i, cellOf G M i) := by simp [wl, h]
theorem wl_at2 {G : wG} {M : wM} {i c : Nat} {e : va_E} (h : kd i = c) (hc : c < 99) (he : cellOf G M i = e) : (wl G M)[i]? = some (ga G i, e) := by rw [wl_at (kdlt h hc), he]
theorem wl_of {G : wG} {M : wM} {k : Nat} {q : Nat × va_E} (h : (wl G M)[k]? = some q) : k < 96 ∧ q = (ga G k, cellOf G M k) := by
  rcases Nat.lt_or_ge k 96 with hk | hk
  · rw [wl_at hk] at h
    exact ⟨hk, (Option.some.inj h).symm⟩
  · rw [List.getElem?_eq_none (by simp [wl]; exact hk)] at h
    cases h
theorem wl_set {G : wG} {M M' : wM} {i : Nat} {e : va_E} (hi : i < 96) (h : ∀ j, j ≠ i → cellOf G M' j = cellOf G M j) (he : cellOf G M' i = e) : (wl G M).set i (ga G i, e) = wl G M' := by
  apply List.ext_getElem?
  intro k
  rcases Nat.lt_or_ge k 96 with hk | hk
  · rw [wl_at hk]
    by_cases hki : k = i
    · subst hki
      rw [List.getElem?_set_self (by simp [wl]; exact hk), he]
    · rw [List.getElem?_set_ne (fun q => hki q.symm), wl_at hk, h k hki]
  · rw [List.getElem?_eq_none (by simp [wl]; exact hk), List.getElem?_eq_none (by simp [wl]; exact hk)]
theorem st_same {M : wM} {i k : Nat} {v : Int32} : (st M i k v).1 i k = v := by simp [st]
theorem st_row {M : wM} {i k : Nat} {v : Int32} {a : Nat} (h : a ≠ i) : (st M i k v).1 a = M.1 a := by funext b; simp [st, h]
theorem st_col {M : wM} {i k : Nat} {v : Int32} {a b : Nat} (h : b ≠ k) : (st M i k v).1 a b = M.1 a b := by simp [st, h]
theorem st_L {M : wM} {i k : Nat} {v : Int32} : (st M i k v).2 = M.2 := rfl
theorem stL_1 {M : wM} {i : Nat} {v : Int64} : (stL M i v).1 = M.1 := rfl
theorem stL_same {M : wM} {i : Nat} {v : Int64} : (stL M i v).2 i = v := by simp [stL]
theorem stL_ne {M : wM} {i a : Nat} {v : Int64} (h : a ≠ i) : (stL M i v).2 a = M.2 a := by simp [stL, h]
theorem ce_row {G : wG} {M M' : wM} {j : Nat} (h1 : M'.1 j = M.1 j) (h2 : M'.2 j = M.2 j) : cellOf G M' j = cellOf G M j := by unfold cellOf; rw [h1, h2]
theorem ce_st {G : wG} {M : wM} {i k : Nat} {v : Int32} {j : Nat} (h : j ≠ i) : cellOf G (st M i k v) j = cellOf G M j := ce_row (st_row h) rfl
theorem ce_stL {G : wG} {M : wM} {i : Nat} {v : Int64} {j : Nat} (h : j ≠ i) : cellOf G (stL M i v) j = cellOf G M j := ce_row rfl (stL_ne h)
theorem ce_cpM {G : wG} {M : wM} {src dst n j : Nat} (h : j ≠ dst) : cellOf G (cpM M src dst n) j = cellOf G M j := ce_row (by funext b; simp [cpM, h]) rfl
def wt (G : wG) : List (ClassId × FieldType) := [(gI G, .int), (gO G, .object "BaroRuns$State")]
def gi (G : wG) : Prop := ∀ i j, i < 96 → j < 96 → ga G i = ga G j → i = j
def wA (G : wG) (sz : Nat) : Nat → Prop := fun q => (∃ i, i < 96 ∧ q = ga G i) ∨ sz ≤ q
theorem wA_D {G : wG} {M : wM} {sz : Nat} (h : gi G) : va_D (wA G sz) (wl G M) := by
  refine ⟨fun i j p q hi hj hpq => ?_, fun k q hk => ?_⟩
  · obtain ⟨h1, rfl⟩ := wl_of hi
    obtain ⟨h2, rfl⟩ := wl_of hj
    exact h i j h1 h2 hpq
  · obtain ⟨h1, rfl⟩ := wl_of hk
    exact Or.inl ⟨k, h1, rfl⟩
def nwF : List (String × Nat × String × String × String × String) := [("BaroRuns", 101, "BaroRuns$Track", "size", "I", "BaroRuns"), ("BaroRuns", 126, "BaroRuns$Survey", "gustCount", "I", "BaroRuns"), ("BaroRuns", 129, "BaroRuns$Survey", "loopCount", "I", "BaroRuns"), ("BaroRuns", 139, "BaroRuns$History", "size", "I", "BaroRuns"), ("BaroRuns", 140, "BaroRuns$Text", "length", "I", "BaroRuns"), ("BaroRuns", 143, "BaroRuns$Survey", "goodCount", "I", "BaroRuns"), ("BaroRuns", 200, "BaroRuns$PointSum", "number", "I", "BaroRuns"), ("BaroRuns$State", 43, "BaroRuns$Track", "size", "I", "BaroRuns"), ("BaroRuns$Survey", 42, "BaroRuns$Track", "size", "I", "BaroRuns"), ("BaroRuns$Survey", 61, "BaroRuns$State", "gustLimit", "I", "BaroRuns")]
def nwM : List (String × Nat × MethodName × String) := [("BaroRuns$PointSum", 32, ⟨"BaroRuns", "divideDown", "(JJ)J"⟩, "BaroRuns"), ("BaroRuns$State", 51, ⟨"BaroRuns", "divideDown", "(JJ)J"⟩, "BaroRuns"), ("BaroRuns$Survey", 135, ⟨"BaroRuns", "divideDown", "(JJ)J"⟩, "BaroRuns"), ("BaroRuns$Survey", 53, ⟨"BaroRuns", "put", "([III)V"⟩, "BaroRuns"), ("BaroRuns$Survey", 81, ⟨"BaroRuns", "at", "([II)I"⟩, "BaroRuns"), ("BaroRuns$Track", 25, ⟨"BaroRuns", "at", "([II)I"⟩, "BaroRuns"), ("BaroRuns$Track", 39, ⟨"BaroRuns", "put", "([III)V"⟩, "BaroRuns")]
def wN (U : State) : Prop := (∀ q ∈ nwF, va_Nw (.fieldLinkNest q.1 q.2.1 q.2.2.1 q.2.2.2.1 q.2.2.2.2.1 q.2.2.2.2.2) U) ∧ ∀ q ∈ nwM, va_Nw (.methodLinkNest q.1 q.2.1 q.2.2.1 q.2.2.2) U
theorem wN.warm {s U : State} (hW : s.WarmedH U.vm) (h : wN s) : wN U := ⟨fun q hq => va_Nw.warmF hW (h.1 q hq), fun q hq => va_Nw.warmM hW (h.2 q hq)⟩
theorem nwf_BaroRuns_101 {s : State} {args : Array Value} (h : wN s) : (Cond.fieldLinkNest "BaroRuns" 101 "BaroRuns$Track" "size" "I" "BaroRuns").before args s = true := va_Nw.use rfl (h.1 ("BaroRuns", 101, "BaroRuns$Track", "size", "I", "BaroRuns") (List.mem_of_getElem? (i := 0) rfl))
theorem nwf_BaroRuns_126 {s : State} {args : Array Value} (h : wN s) : (Cond.fieldLinkNest "BaroRuns" 126 "BaroRuns$Survey" "gustCount" "I" "BaroRuns").before args s = true := va_Nw.use rfl (h.1 ("BaroRuns", 126, "BaroRuns$Survey", "gustCount", "I", "BaroRuns") (List.mem_of_getElem? (i := 1) rfl))
theorem nwf_BaroRuns_129 {s : State} {args : Array Value} (h : wN s) : (Cond.fieldLinkNest "BaroRuns" 129 "BaroRuns$Survey" "loopCount" "I" "BaroRuns").before args s = true := va_Nw.use rfl (h.1 ("BaroRuns", 129, "BaroRuns$Survey", "loopCount", "I", "BaroRuns") (List.mem_of_getElem? (i := 2) rfl))
theorem nwf_BaroRuns_139 {s : State} {args : Array Value} (h : wN s) : (Cond.fieldLinkNest "BaroRuns" 139 "BaroRuns$History" "size" "I" "BaroRuns").before args s = true := va_Nw.use rfl (h.1 ("BaroRuns", 139, "BaroRuns$History", "size", "I", "BaroRuns") (List.mem_of_getElem? (i := 3) rfl))
theorem nwf_BaroRuns_140 {s : State} {args : Array Value} (h : wN s) : (Cond.fieldLinkNest "BaroRuns" 140 "BaroRuns$Text" "length" "I" "BaroRuns").before args s = true := va_Nw.use rfl (h.1 ("BaroRuns", 140, "BaroRuns$Text", "length", "I", "BaroRuns") (List.mem_of_getElem? (i := 4) rfl))
theorem nwf_BaroRuns_143 {s : State} {args : Array Value} (h : wN s) : (Cond.fieldLinkNest "BaroRuns" 143 "BaroRuns$Survey" "goodCount" "I" "BaroRuns").before args s = true := va_Nw.use rfl (h.1 ("BaroRuns", 143, "BaroRuns$Survey", "goodCount", "I", "BaroRuns") (List.mem_of_getElem? (i := 5) rfl))
theorem nwf_BaroRuns_200 {s : State} {args : Array Value} (h : wN s) : (Cond.fieldLinkNest "BaroRuns" 200 "BaroRuns$PointSum" "number" "I" "BaroRuns").before args s = true := va_Nw.use rfl (h.1 ("BaroRuns", 200, "BaroRuns$PointSum", "number", "I", "BaroRuns") (List.mem_of_getElem? (i := 6) rfl))
theorem nwf_State_43 {s : State} {args : Array Value} (h : wN s) : (Cond.fieldLinkNest "BaroRuns$State" 43 "BaroRuns$Track" "size" "I" "BaroRuns").before args s = true := va_Nw.use rfl (h.1 ("BaroRuns$State", 43, "BaroRuns$Track", "size", "I", "BaroRuns") (List.mem_of_getElem? (i := 7) rfl))
theorem nwf_Survey_42 {s : State} {args : Array Value} (h : wN s) : (Cond.fieldLinkNest "BaroRuns$Survey" 42 "BaroRuns$Track" "size" "I" "BaroRuns").before args s = true := va_Nw.use rfl (h.1 ("BaroRuns$Survey", 42, "BaroRuns$Track", "size", "I", "BaroRuns") (List.mem_of_getElem? (i := 8) rfl))
theorem nwf_Survey_61 {s : State} {args : Array Value} (h : wN s) : (Cond.fieldLinkNest "BaroRuns$Survey" 61 "BaroRuns$State" "gustLimit" "I" "BaroRuns").before args s = true := va_Nw.use rfl (h.1 ("BaroRuns$Survey", 61, "BaroRuns$State", "gustLimit", "I", "BaroRuns") (List.mem_of_getElem? (i := 9) rfl))
theorem nwm_PointSum_32 {s : State} (h : wN s) : va_Nw (.methodLinkNest "BaroRuns$PointSum" 32 ⟨"BaroRuns", "divideDown", "(JJ)J"⟩ "BaroRuns") s := h.2 ("BaroRuns$PointSum", 32, ⟨"BaroRuns", "divideDown", "(JJ)J"⟩, "BaroRuns") (List.mem_of_getElem? (i := 0) rfl)
theorem nwm_State_51 {s : State} (h : wN s) : va_Nw (.methodLinkNest "BaroRuns$State" 51 ⟨"BaroRuns", "divideDown", "(JJ)J"⟩ "BaroRuns") s := h.2 ("BaroRuns$State", 51, ⟨"BaroRuns", "divideDown", "(JJ)J"⟩, "BaroRuns") (List.mem_of_getElem? (i := 1) rfl)
theorem nwm_Survey_135 {s : State} (h : wN s) : va_Nw (.methodLinkNest "BaroRuns$Survey" 135 ⟨"BaroRuns", "divideDown", "(JJ)J"⟩ "BaroRuns") s := h.2 ("BaroRuns$Survey", 135, ⟨"BaroRuns", "divideDown", "(JJ)J"⟩, "BaroRuns") (List.mem_of_getElem? (i := 2) rfl)
theorem nwm_Survey_53 {s : State} (h : wN s) : va_Nw (.methodLinkNest "BaroRuns$Survey" 53 ⟨"BaroRuns", "put", "([III)V"⟩ "BaroRuns") s := h.2 ("BaroRuns$Survey", 53, ⟨"BaroRuns", "put", "([III)V"⟩, "BaroRuns") (List.mem_of_getElem? (i := 3) rfl)
theorem nwm_Survey_81 {s : State} (h : wN s) : va_Nw (.methodLinkNest "BaroRuns$Survey" 81 ⟨"BaroRuns", "at", "([II)I"⟩ "BaroRuns") s := h.2 ("BaroRuns$Survey", 81, ⟨"BaroRuns", "at", "([II)I"⟩, "BaroRuns") (List.mem_of_getElem? (i := 4) rfl)
theorem nwm_Track_25 {s : State} (h : wN s) : va_Nw (.methodLinkNest "BaroRuns$Track" 25 ⟨"BaroRuns", "at", "([II)I"⟩ "BaroRuns") s := h.2 ("BaroRuns$Track", 25, ⟨"BaroRuns", "at", "([II)I"⟩, "BaroRuns") (List.mem_of_getElem? (i := 5) rfl)
theorem nwm_Track_39 {s : State} (h : wN s) : va_Nw (.methodLinkNest "BaroRuns$Track" 39 ⟨"BaroRuns", "put", "([III)V"⟩ "BaroRuns") s := h.2 ("BaroRuns$Track", 39, ⟨"BaroRuns", "put", "([III)V"⟩, "BaroRuns") (List.mem_of_getElem? (i := 6) rfl)
def wB (G : wG) (M : wM) (U : State) : Prop := va_P (gD G) vwCl (wl G M) U.heap ∧ va_K (gD G) vwCl (wt G) U ∧ gi G ∧ wN U
def wC (p : Program) (m : MethodId) (c : Code) (cc : ByteArray) (nL : Nat) (s : State) (args : Array Value) (Ts : List Cond) (own : String) (G : wG) : Prop := CallFix p m c cc nL s args Ts own ∧ va_K (gD G) vwCl (wt G) s ∧ gi G ∧ wN s
def wR (G : wG) (M : wM) (s : State) (H : Heap) (locs : List Loc) : Prop := va_P (gD G) vwCl (wl G M) H ∧ va_S (wA G s.heap.size) s.heap H locs
theorem wB.blind {G : wG} {M : wM} {U : State} {g : JFrame} {mk : MethodId} {a : Array Value} (h : wB G M U) : wB G M (U.calling g mk a) := ⟨h.1, va_K.moved (u := U) (U := U.calling g mk a) (Vm.Alike.refl U.vm) h.2.1, h.2.2.1, ⟨fun q hq => va_Nw.same rfl (u := U) (U := U.calling g mk a) rfl (h.2.2.2.1 q hq), fun q hq => va_Nw.same rfl (u := U) (U := U.calling g mk a) rfl (h.2.2.2.2 q hq)⟩⟩
section WW
variable {p : Program} {l : Launch} {e : Env} {R : Room} {s : State} {m : MethodId} {args : Array Value} {below : List Frame} {meth : Method} {c : Code} {Q : State → Prop} {cc : ByteArray} {nL : Nat} {Ts : List Cond} {own : String} {G : wG} {M : wM} {pc : Nat} {lv lv' : List (Nat × Value)} {rest : List Value}
def wAt (p : Program) (l : Launch) (e : Env) (R : Room) (s : State) (m : MethodId) (args : Array Value) (below : List Frame) (meth : Method) (c : Code) (Q : State → Prop) (nL : Nat) (G : wG) (M : wM) (pc : Nat) (lv : List (Nat × Value)) (stk : List Value) : Prop := ∀ (H : Heap) (locs : List Loc) (ls : Array Slot), lv_has ls nL lv → wR G M s H locs → W p l e R s m args below meth c H locs 0 0 Q (F0 m pc ls stk)
theorem wa_iconst (hC : wC p m c cc nL s args Ts own G) {n : Int} {v : Int32} (hdg : decode cc pc = .ok (.iconst n, 1)) (hv : Int32.ofInt n = v) (k : wAt p l e R s m args below meth c Q nL G M (pc + 1) lv (.int v :: rest)) : wAt p l e R s m args below meth c Q nL G M pc lv (rest) := fun H locs ls hl hR => lv_iconst hC.1.1 hC.1.2.1 hdg hv (k H locs ls hl hR)
theorem wa_bipush (hC : wC p m c cc nL s args Ts own G) {n : Int} {v : Int32} (hdg : decode cc pc = .ok (.bipush n, 2)) (hv : (Int8.ofInt n).toInt32 = v) (k : wAt p l e R s m args below meth c Q nL G M (pc + 2) lv (.int v :: rest)) : wAt p l e R s m args below meth c Q nL G M pc lv (rest) := fun H locs ls hl hR => lv_bipush hC.1.1 hC.1.2.1 hdg hv (k H locs ls hl hR)
theorem wa_sipush (hC : wC p m c cc nL s args Ts own G) {n : Int} {v : Int32} (hdg : decode cc pc = .ok (.sipush n, 3)) (hv : (Int16.ofInt n).toInt32 = v) (k : wAt p l e R s m args below meth c Q nL G M (pc + 3) lv (.int v :: rest)) : wAt p l e R s m args below meth c Q nL G M pc lv (rest) := fun H locs ls hl hR => lv_sipush hC.1.1 hC.1.2.1 hdg hv (k H locs ls hl hR)
theorem wa_lconst (hC : wC p m c cc nL s args Ts own G) {n : Fin 2} {v : Int64} (hdg : decode cc pc = .ok (.lconst n, 1)) (hv : Int64.ofNat (n : Nat) = v) (k : wAt p l e R s m args below meth c Q nL G M (pc + 1) lv (.long v :: rest)) : wAt p l e R s m args below meth c Q nL G M pc lv (rest) := fun H locs ls hl hR => lv_lconst hC.1.1 hC.1.2.1 hdg hv (k H locs ls hl hR)
theorem wa_iadd (hC : wC p m c cc nL s args Ts own G) {x y : Int32} (hdg : decode cc pc = .ok (.iadd, 1))  (k : wAt p l e R s m args below meth c Q nL G M (pc + 1) lv (.int (x + y) :: rest)) : wAt p l e R s m args below meth c Q nL G M pc lv (.int y :: .int x :: rest) := fun H locs ls hl hR => lv_iadd hC.1.1 hC.1.2.1 hdg  (k H locs ls hl hR)
theorem wa_isub (hC : wC p m c cc nL s args Ts own G) {x y : Int32} (hdg : decode cc pc = .ok (.isub, 1))  (k : wAt p l e R s m args below meth c Q nL G M (pc + 1) lv (.int (x - y) :: rest)) : wAt p l e R s m args below meth c Q nL G M pc lv (.int y :: .int x :: rest) := fun H locs ls hl hR => lv_isub hC.1.1 hC.1.2.1 hdg  (k H locs ls hl hR)
theorem wa_imul (hC : wC p m c cc nL s args Ts own G) {x y : Int32} (hdg : decode cc pc = .ok (.imul, 1))  (k : wAt p l e R s m args below meth c Q nL G M (pc + 1) lv (.int (x * y) :: rest)) : wAt p l e R s m args below meth c Q nL G M pc lv (.int y :: .int x :: rest) := fun H locs ls hl hR => lv_imul hC.1.1 hC.1.2.1 hdg  (k H locs ls hl hR)
theorem wa_iand (hC : wC p m c cc nL s args Ts own G) {x y : Int32} (hdg : decode cc pc = .ok (.iand, 1))  (k : wAt p l e R s m args below meth c Q nL G M (pc + 1) lv (.int (x &&& y) :: rest)) : wAt p l e R s m args below meth c Q nL G M pc lv (.int y :: .int x :: rest) := fun H locs ls hl hR => lv_iand hC.1.1 hC.1.2.1 hdg  (k H locs ls hl hR)
theorem wa_ixor (hC : wC p m c cc nL s args Ts own G) {x y : Int32} (hdg : decode cc pc = .ok (.ixor, 1))  (k : wAt p l e R s m args below meth c Q nL G M (pc + 1) lv (.int (x ^^^ y) :: rest)) : wAt p l e R s m args below meth c Q nL G M pc lv (.int y :: .int x :: rest) := fun H locs ls hl hR => lv_ixor hC.1.1 hC.1.2.1 hdg  (k H locs ls hl hR)
theorem wa_idiv (hC : wC p m c cc nL s args Ts own G) {x y : Int32} (hdg : decode cc pc = .ok (.idiv, 1)) (hne : ¬ y = 0) (k : wAt p l e R s m args below meth c Q nL G M (pc + 1) lv (.int (x / y) :: rest)) : wAt p l e R s m args below meth c Q nL G M pc lv (.int y :: .int x :: rest) := fun H locs ls hl hR => lv_idiv hC.1.1 hC.1.2.1 hdg hne (k H locs ls hl hR)
theorem wa_irem (hC : wC p m c cc nL s args Ts own G) {x y : Int32} (hdg : decode cc pc = .ok (.irem, 1)) (hne : ¬ y = 0) (k : wAt p l e R s m args below meth c Q nL G M (pc + 1) lv (.int (x - x / y * y) :: rest)) : wAt p l e R s m args below meth c Q nL G M pc lv (.int y :: .int x :: rest) := fun H locs ls hl hR => lv_irem hC.1.1 hC.1.2.1 hdg hne (k H locs ls hl hR)
theorem wa_ineg (hC : wC p m c cc nL s args Ts own G) {x : Int32} (hdg : decode cc pc = .ok (.ineg, 1))  (k : wAt p l e R s m args below meth c Q nL G M (pc + 1) lv (.int (-x) :: rest)) : wAt p l e R s m args below meth c Q nL G M pc lv (.int x :: rest) := fun H locs ls hl hR => lv_ineg hC.1.1 hC.1.2.1 hdg  (k H locs ls hl hR)
theorem wa_ladd (hC : wC p m c cc nL s args Ts own G) {x y : Int64} (hdg : decode cc pc = .ok (.ladd, 1))  (k : wAt p l e R s m args below meth c Q nL G M (pc + 1) lv (.long (x + y) :: rest)) : wAt p l e R s m args below meth c Q nL G M pc lv (.long y :: .long x :: rest) := fun H locs ls hl hR => lv_ladd hC.1.1 hC.1.2.1 hdg  (k H locs ls hl hR)
theorem wa_lsub (hC : wC p m c cc nL s args Ts own G) {x y : Int64} (hdg : decode cc pc = .ok (.lsub, 1))  (k : wAt p l e R s m args below meth c Q nL G M (pc + 1) lv (.long (x - y) :: rest)) : wAt p l e R s m args below meth c Q nL G M pc lv (.long y :: .long x :: rest) := fun H locs ls hl hR => lv_lsub hC.1.1 hC.1.2.1 hdg  (k H locs ls hl hR)
theorem wa_lmul (hC : wC p m c cc nL s args Ts own G) {x y : Int64} (hdg : decode cc pc = .ok (.lmul, 1))  (k : wAt p l e R s m args below meth c Q nL G M (pc + 1) lv (.long (x * y) :: rest)) : wAt p l e R s m args below meth c Q nL G M pc lv (.long y :: .long x :: rest) := fun H locs ls hl hR => lv_lmul hC.1.1 hC.1.2.1 hdg  (k H locs ls hl hR)
theorem wa_lxor (hC : wC p m c cc nL s args Ts own G) {x y : Int64} (hdg : decode cc pc = .ok (.lxor, 1))  (k : wAt p l e R s m args below meth c Q nL G M (pc + 1) lv (.long (x ^^^ y) :: rest)) : wAt p l e R s m args below meth c Q nL G M pc lv (.long y :: .long x :: rest) := fun H locs ls hl hR => lv_lxor hC.1.1 hC.1.2.1 hdg  (k H locs ls hl hR)
theorem wa_ldiv (hC : wC p m c cc nL s args Ts own G) {x y : Int64} (hdg : decode cc pc = .ok (.ldiv, 1)) (hne : ¬ y = 0) (k : wAt p l e R s m args below meth c Q nL G M (pc + 1) lv (.long (x / y) :: rest)) : wAt p l e R s m args below meth c Q nL G M pc lv (.long y :: .long x :: rest) := fun H locs ls hl hR => lv_ldiv hC.1.1 hC.1.2.1 hdg hne (k H locs ls hl hR)
theorem wa_lrem (hC : wC p m c cc nL s args Ts own G) {x y : Int64} (hdg : decode cc pc = .ok (.lrem, 1)) (hne : ¬ y = 0) (k : wAt p l e R s m args below meth c Q nL G M (pc + 1) lv (.long (x - x / y * y) :: rest)) : wAt p l e R s m args below meth c Q nL G M pc lv (.long y :: .long x :: rest) := fun H locs ls hl hR => lv_lrem hC.1.1 hC.1.2.1 hdg hne (k H locs ls hl hR)
theorem wa_i2l (hC : wC p m c cc nL s args Ts own G) {x : Int32} {v : Int64} (hdg : decode cc pc = .ok (.i2l, 1)) (hv : x.toInt64 = v) (k : wAt p l e R s m args below meth c Q nL G M (pc + 1) lv (.long v :: rest)) : wAt p l e R s m args below meth c Q nL G M pc lv (.int x :: rest) := fun H locs ls hl hR => lv_i2l hC.1.1 hC.1.2.1 hdg hv (k H locs ls hl hR)
theorem wa_l2i (hC : wC p m c cc nL s args Ts own G) {x : Int64} {v : Int32} (hdg : decode cc pc = .ok (.l2i, 1)) (hv : x.toInt32 = v) (k : wAt p l e R s m args below meth c Q nL G M (pc + 1) lv (.int v :: rest)) : wAt p l e R s m args below meth c Q nL G M pc lv (.long x :: rest) := fun H locs ls hl hR => lv_l2i hC.1.1 hC.1.2.1 hdg hv (k H locs ls hl hR)
theorem wa_i2c (hC : wC p m c cc nL s args Ts own G) {x : Int32} {v : Int32} (hdg : decode cc pc = .ok (.i2c, 1)) (hv : (x.toUInt32 % 65536).toInt32 = v) (k : wAt p l e R s m args below meth c Q nL G M (pc + 1) lv (.int v :: rest)) : wAt p l e R s m args below meth c Q nL G M pc lv (.int x :: rest) := fun H locs ls hl hR => lv_i2c hC.1.1 hC.1.2.1 hdg hv (k H locs ls hl hR)
theorem wa_dup (hC : wC p m c cc nL s args Ts own G) {va : Value} (hdg : decode cc pc = .ok (.dup, 1)) (hva : va.category = 1) (k : wAt p l e R s m args below meth c Q nL G M (pc + 1) lv (va :: va :: rest)) : wAt p l e R s m args below meth c Q nL G M pc lv (va :: rest) := fun H locs ls hl hR => lv_dup hC.1.1 hC.1.2.1 hdg hva (k H locs ls hl hR)
theorem wa_pop (hC : wC p m c cc nL s args Ts own G) {va : Value} (hdg : decode cc pc = .ok (.pop, 1)) (hva : va.category = 1) (k : wAt p l e R s m args below meth c Q nL G M (pc + 1) lv (rest)) : wAt p l e R s m args below meth c Q nL G M pc lv (va :: rest) := fun H locs ls hl hR => lv_pop hC.1.1 hC.1.2.1 hdg hva (k H locs ls hl hR)
theorem wa_dup_x1 (hC : wC p m c cc nL s args Ts own G) {va vb : Value} (hdg : decode cc pc = .ok (.dup_x1, 1)) (hva : va.category = 1) (hvb : vb.category = 1) (k : wAt p l e R s m args below meth c Q nL G M (pc + 1) lv (va :: vb :: va :: rest)) : wAt p l e R s m args below meth c Q nL G M pc lv (va :: vb :: rest) := fun H locs ls hl hR => lv_dup_x1 hC.1.1 hC.1.2.1 hdg hva hvb (k H locs ls hl hR)
theorem wa_dup_x2 (hC : wC p m c cc nL s args Ts own G) {va vb vc : Value} (hdg : decode cc pc = .ok (.dup_x2, 1)) (hva : va.category = 1) (hvb : vb.category = 1) (hvc : vc.category = 1) (k : wAt p l e R s m args below meth c Q nL G M (pc + 1) lv (va :: vb :: vc :: va :: rest)) : wAt p l e R s m args below meth c Q nL G M pc lv (va :: vb :: vc :: rest) := fun H locs ls hl hR => lv_dup_x2 hC.1.1 hC.1.2.1 hdg hva hvb hvc (k H locs ls hl hR)
theorem wa_dup2_11 (hC : wC p m c cc nL s args Ts own G) {va vb : Value} (hdg : decode cc pc = .ok (.dup2, 1)) (hva : va.category = 1) (hvb : vb.category = 1) (k : wAt p l e R s m args below meth c Q nL G M (pc + 1) lv (va :: vb :: va :: vb :: rest)) : wAt p l e R s m args below meth c Q nL G M pc lv (va :: vb :: rest) := fun H locs ls hl hR => lv_dup2_11 hC.1.1 hC.1.2.1 hdg hva hvb (k H locs ls hl hR)
theorem wa_dup2_2 (hC : wC p m c cc nL s args Ts own G) {va : Value} (hdg : decode cc pc = .ok (.dup2, 1)) (hva : va.category = 2) (k : wAt p l e R s m args below meth c Q nL G M (pc + 1) lv (va :: va :: rest)) : wAt p l e R s m args below meth c Q nL G M pc lv (va :: rest) := fun H locs ls hl hR => lv_dup2_2 hC.1.1 hC.1.2.1 hdg hva (k H locs ls hl hR)
theorem wa_dup2_x1_2 (hC : wC p m c cc nL s args Ts own G) {va vb : Value} (hdg : decode cc pc = .ok (.dup2_x1, 1)) (hva : va.category = 2) (hvb : vb.category = 1) (k : wAt p l e R s m args below meth c Q nL G M (pc + 1) lv (va :: vb :: va :: rest)) : wAt p l e R s m args below meth c Q nL G M pc lv (va :: vb :: rest) := fun H locs ls hl hR => lv_dup2_x1_2 hC.1.1 hC.1.2.1 hdg hva hvb (k H locs ls hl hR)
theorem wa_iload_n (hC : wC p m c cc nL s args Ts own G) {k0 : Fin 4} {i : Nat} {x : Int32} (hdg : decode cc pc = .ok (.iload_n k0, 1)) (hi : (k0 : Nat) = i) (t : Nat) (ht : lv[t]? = some (i, .int x)) (k : wAt p l e R s m args below meth c Q nL G M (pc + 1) lv (.int x :: rest)) : wAt p l e R s m args below meth c Q nL G M pc lv rest := fun H locs ls hl hR => lv_iload_n hC.1.1 hC.1.2.1 hdg hi (lv_at hl t ht) (k H locs ls hl hR)
theorem wa_iload (hC : wC p m c cc nL s args Ts own G) {i : Nat} {x : Int32} (hdg : decode cc pc = .ok (.iload i, 2)) (t : Nat) (ht : lv[t]? = some (i, .int x)) (k : wAt p l e R s m args below meth c Q nL G M (pc + 2) lv (.int x :: rest)) : wAt p l e R s m args below meth c Q nL G M pc lv rest := fun H locs ls hl hR => lv_iload hC.1.1 hC.1.2.1 hdg (lv_at hl t ht) (k H locs ls hl hR)
theorem wa_lload_n (hC : wC p m c cc nL s args Ts own G) {k0 : Fin 4} {i : Nat} {x : Int64} (hdg : decode cc pc = .ok (.lload_n k0, 1)) (hi : (k0 : Nat) = i) (t : Nat) (ht : lv[t]? = some (i, .long x)) (k : wAt p l e R s m args below meth c Q nL G M (pc + 1) lv (.long x :: rest)) : wAt p l e R s m args below meth c Q nL G M pc lv rest := fun H locs ls hl hR => lv_lload_n hC.1.1 hC.1.2.1 hdg hi (lv_at hl t ht) (k H locs ls hl hR)
theorem wa_lload (hC : wC p m c cc nL s args Ts own G) {i : Nat} {x : Int64} (hdg : decode cc pc = .ok (.lload i, 2)) (t : Nat) (ht : lv[t]? = some (i, .long x)) (k : wAt p l e R s m args below meth c Q nL G M (pc + 2) lv (.long x :: rest)) : wAt p l e R s m args below meth c Q nL G M pc lv rest := fun H locs ls hl hR => lv_lload hC.1.1 hC.1.2.1 hdg (lv_at hl t ht) (k H locs ls hl hR)
theorem wa_aload_n (hC : wC p m c cc nL s args Ts own G) {k0 : Fin 4} {i : Nat} {x : Nat} (hdg : decode cc pc = .ok (.aload_n k0, 1)) (hi : (k0 : Nat) = i) (t : Nat) (ht : lv[t]? = some (i, .ref x)) (k : wAt p l e R s m args below meth c Q nL G M (pc + 1) lv (.ref x :: rest)) : wAt p l e R s m args below meth c Q nL G M pc lv rest := fun H locs ls hl hR => lv_aload_n hC.1.1 hC.1.2.1 hdg hi (lv_at hl t ht) (k H locs ls hl hR)
theorem wa_aload (hC : wC p m c cc nL s args Ts own G) {i : Nat} {x : Nat} (hdg : decode cc pc = .ok (.aload i, 2)) (t : Nat) (ht : lv[t]? = some (i, .ref x)) (k : wAt p l e R s m args below meth c Q nL G M (pc + 2) lv (.ref x :: rest)) : wAt p l e R s m args below meth c Q nL G M pc lv rest := fun H locs ls hl hR => lv_aload hC.1.1 hC.1.2.1 hdg (lv_at hl t ht) (k H locs ls hl hR)
theorem wa_istore_n (hC : wC p m c cc nL s args Ts own G) {k0 : Fin 4} {i : Nat} {x : Int32} (hdg : decode cc pc = .ok (.istore_n k0, 1)) (hi : (k0 : Nat) = i) (hn : i < nL) (hl0 : (i, Value.int x) :: lv.filter (fun q => !(q.1 == i) && !(q.1 + 1 == i && q.2.category == 2)) = lv') (k : wAt p l e R s m args below meth c Q nL G M (pc + 1) lv' rest) : wAt p l e R s m args below meth c Q nL G M pc lv (.int x :: rest) := fun H locs ls hl hR => lv_istore_n hC.1.1 hC.1.2.1 hdg hi hl hn hl0 (fun ls' hl' => k H locs ls' hl' hR)
theorem wa_istore (hC : wC p m c cc nL s args Ts own G) {i : Nat} {x : Int32} (hdg : decode cc pc = .ok (.istore i, 2)) (hn : i < nL) (hl0 : (i, Value.int x) :: lv.filter (fun q => !(q.1 == i) && !(q.1 + 1 == i && q.2.category == 2)) = lv') (k : wAt p l e R s m args below meth c Q nL G M (pc + 2) lv' rest) : wAt p l e R s m args below meth c Q nL G M pc lv (.int x :: rest) := fun H locs ls hl hR => lv_istore hC.1.1 hC.1.2.1 hdg hl hn hl0 (fun ls' hl' => k H locs ls' hl' hR)
theorem wa_astore_n (hC : wC p m c cc nL s args Ts own G) {k0 : Fin 4} {i : Nat} {x : Nat} (hdg : decode cc pc = .ok (.astore_n k0, 1)) (hi : (k0 : Nat) = i) (hn : i < nL) (hl0 : (i, Value.ref x) :: lv.filter (fun q => !(q.1 == i) && !(q.1 + 1 == i && q.2.category == 2)) = lv') (k : wAt p l e R s m args below meth c Q nL G M (pc + 1) lv' rest) : wAt p l e R s m args below meth c Q nL G M pc lv (.ref x :: rest) := fun H locs ls hl hR => lv_astore_n hC.1.1 hC.1.2.1 hdg hi hl hn hl0 (fun ls' hl' => k H locs ls' hl' hR)
theorem wa_astore (hC : wC p m c cc nL s args Ts own G) {i : Nat} {x : Nat} (hdg : decode cc pc = .ok (.astore i, 2)) (hn : i < nL) (hl0 : (i, Value.ref x) :: lv.filter (fun q => !(q.1 == i) && !(q.1 + 1 == i && q.2.category == 2)) = lv') (k : wAt p l e R s m args below meth c Q nL G M (pc + 2) lv' rest) : wAt p l e R s m args below meth c Q nL G M pc lv (.ref x :: rest) := fun H locs ls hl hR => lv_astore hC.1.1 hC.1.2.1 hdg hl hn hl0 (fun ls' hl' => k H locs ls' hl' hR)
theorem wa_lstore_n (hC : wC p m c cc nL s args Ts own G) {k0 : Fin 4} {i : Nat} {x : Int64} (hdg : decode cc pc = .ok (.lstore_n k0, 1)) (hi : (k0 : Nat) = i) (hn : i + 1 < nL) (hl0 : (i, Value.long x) :: lv.filter (fun q => !(q.1 == i) && (!(q.1 == i + 1) && !(q.1 + 1 == i && q.2.category == 2))) = lv') (k : wAt p l e R s m args below meth c Q nL G M (pc + 1) lv' rest) : wAt p l e R s m args below meth c Q nL G M pc lv (.long x :: rest) := fun H locs ls hl hR => lv_lstore_n hC.1.1 hC.1.2.1 hdg hi hl hn hl0 (fun ls' hl' => k H locs ls' hl' hR)
theorem wa_lstore (hC : wC p m c cc nL s args Ts own G) {i : Nat} {x : Int64} (hdg : decode cc pc = .ok (.lstore i, 2)) (hn : i + 1 < nL) (hl0 : (i, Value.long x) :: lv.filter (fun q => !(q.1 == i) && (!(q.1 == i + 1) && !(q.1 + 1 == i && q.2.category == 2))) = lv') (k : wAt p l e R s m args below meth c Q nL G M (pc + 2) lv' rest) : wAt p l e R s m args below meth c Q nL G M pc lv (.long x :: rest) := fun H locs ls hl hR => lv_lstore hC.1.1 hC.1.2.1 hdg hl hn hl0 (fun ls' hl' => k H locs ls' hl' hR)
theorem wa_iinc (hC : wC p m c cc nL s args Ts own G) {i t : Nat} {n : Int} {x v : Int32} (hdg : decode cc pc = .ok (.iinc i n, 3)) (hk : lv[t]? = some (i, .int x)) (hv : x + Int32.ofInt n = v) (hn : i < nL) (hl0 : (i, Value.int v) :: lv.filter (fun q => !(q.1 == i) && !(q.1 + 1 == i && q.2.category == 2)) = lv') (k : wAt p l e R s m args below meth c Q nL G M (pc + 3) lv' rest) : wAt p l e R s m args below meth c Q nL G M pc lv rest := fun H locs ls hl hR => lv_iinc hC.1.1 hC.1.2.1 hdg hl hk hv hn hl0 (fun ls' hl' => k H locs ls' hl' hR)
theorem wa_if_eq (hC : wC p m c cc nL s args Ts own G) {x : Int32} {off : Int} (tgt : Nat) (hdg : decode cc pc = .ok (.ifCond .eq off, 3)) (ht : (pc : Int) + off = (tgt : Int)) (kt : x = 0 → wAt p l e R s m args below meth c Q nL G M tgt lv rest) (kf : ¬ x = 0 → wAt p l e R s m args below meth c Q nL G M (pc + 3) lv rest) : wAt p l e R s m args below meth c Q nL G M pc lv (.int x :: rest) := fun H locs ls hl hR => lv_if_eq hC.1.1 hC.1.2.1 hdg ht (fun h => kt h H locs ls hl hR) (fun h => kf h H locs ls hl hR)
theorem wa_icmp_eq (hC : wC p m c cc nL s args Ts own G) {x y : Int32} {off : Int} (tgt : Nat) (hdg : decode cc pc = .ok (.if_icmp .eq off, 3)) (ht : (pc : Int) + off = (tgt : Int)) (kt : x = y → wAt p l e R s m args below meth c Q nL G M tgt lv rest) (kf : ¬ x = y → wAt p l e R s m args below meth c Q nL G M (pc + 3) lv rest) : wAt p l e R s m args below meth c Q nL G M pc lv (.int y :: .int x :: rest) := fun H locs ls hl hR => lv_icmp_eq hC.1.1 hC.1.2.1 hdg ht (fun h => kt h H locs ls hl hR) (fun h => kf h H locs ls hl hR)
theorem wa_if_ne (hC : wC p m c cc nL s args Ts own G) {x : Int32} {off : Int} (tgt : Nat) (hdg : decode cc pc = .ok (.ifCond .ne off, 3)) (ht : (pc : Int) + off = (tgt : Int)) (kt : ¬ x = 0 → wAt p l e R s m args below meth c Q nL G M tgt lv rest) (kf : x = 0 → wAt p l e R s m args below meth c Q nL G M (pc + 3) lv rest) : wAt p l e R s m args below meth c Q nL G M pc lv (.int x :: rest) := fun H locs ls hl hR => lv_if_ne hC.1.1 hC.1.2.1 hdg ht (fun h => kt h H locs ls hl hR) (fun h => kf h H locs ls hl hR)
theorem wa_icmp_ne (hC : wC p m c cc nL s args Ts own G) {x y : Int32} {off : Int} (tgt : Nat) (hdg : decode cc pc = .ok (.if_icmp .ne off, 3)) (ht : (pc : Int) + off = (tgt : Int)) (kt : ¬ x = y → wAt p l e R s m args below meth c Q nL G M tgt lv rest) (kf : x = y → wAt p l e R s m args below meth c Q nL G M (pc + 3) lv rest) : wAt p l e R s m args below meth c Q nL G M pc lv (.int y :: .int x :: rest) := fun H locs ls hl hR => lv_icmp_ne hC.1.1 hC.1.2.1 hdg ht (fun h => kt h H locs ls hl hR) (fun h => kf h H locs ls hl hR)
theorem wa_if_lt (hC : wC p m c cc nL s args Ts own G) {x : Int32} {off : Int} (tgt : Nat) (hdg : decode cc pc = .ok (.ifCond .lt off, 3)) (ht : (pc : Int) + off = (tgt : Int)) (kt : x < 0 → wAt p l e R s m args below meth c Q nL G M tgt lv rest) (kf : ¬ x < 0 → wAt p l e R s m args below meth c Q nL G M (pc + 3) lv rest) : wAt p l e R s m args below meth c Q nL G M pc lv (.int x :: rest) := fun H locs ls hl hR => lv_if_lt hC.1.1 hC.1.2.1 hdg ht (fun h => kt h H locs ls hl hR) (fun h => kf h H locs ls hl hR)
theorem wa_icmp_lt (hC : wC p m c cc nL s args Ts own G) {x y : Int32} {off : Int} (tgt : Nat) (hdg : decode cc pc = .ok (.if_icmp .lt off, 3)) (ht : (pc : Int) + off = (tgt : Int)) (kt : x < y → wAt p l e R s m args below meth c Q nL G M tgt lv rest) (kf : ¬ x < y → wAt p l e R s m args below meth c Q nL G M (pc + 3) lv rest) : wAt p l e R s m args below meth c Q nL G M pc lv (.int y :: .int x :: rest) := fun H locs ls hl hR => lv_icmp_lt hC.1.1 hC.1.2.1 hdg ht (fun h => kt h H locs ls hl hR) (fun h => kf h H locs ls hl hR)
theorem wa_if_ge (hC : wC p m c cc nL s args Ts own G) {x : Int32} {off : Int} (tgt : Nat) (hdg : decode cc pc = .ok (.ifCond .ge off, 3)) (ht : (pc : Int) + off = (tgt : Int)) (kt : 0 ≤ x → wAt p l e R s m args below meth c Q nL G M tgt lv rest) (kf : ¬ 0 ≤ x → wAt p l e R s m args below meth c Q nL G M (pc + 3) lv rest) : wAt p l e R s m args below meth c Q nL G M pc lv (.int x :: rest) := fun H locs ls hl hR => lv_if_ge hC.1.1 hC.1.2.1 hdg ht (fun h => kt h H locs ls hl hR) (fun h => kf h H locs ls hl hR)
theorem wa_icmp_ge (hC : wC p m c cc nL s args Ts own G) {x y : Int32} {off : Int} (tgt : Nat) (hdg : decode cc pc = .ok (.if_icmp .ge off, 3)) (ht : (pc : Int) + off = (tgt : Int)) (kt : y ≤ x → wAt p l e R s m args below meth c Q nL G M tgt lv rest) (kf : ¬ y ≤ x → wAt p l e R s m args below meth c Q nL G M (pc + 3) lv rest) : wAt p l e R s m args below meth c Q nL G M pc lv (.int y :: .int x :: rest) := fun H locs ls hl hR => lv_icmp_ge hC.1.1 hC.1.2.1 hdg ht (fun h => kt h H locs ls hl hR) (fun h => kf h H locs ls hl hR)
theorem wa_if_gt (hC : wC p m c cc nL s args Ts own G) {x : Int32} {off : Int} (tgt : Nat) (hdg : decode cc pc = .ok (.ifCond .gt off, 3)) (ht : (pc : Int) + off = (tgt : Int)) (kt : 0 < x → wAt p l e R s m args below meth c Q nL G M tgt lv rest) (kf : ¬ 0 < x → wAt p l e R s m args below meth c Q nL G M (pc + 3) lv rest) : wAt p l e R s m args below meth c Q nL G M pc lv (.int x :: rest) := fun H locs ls hl hR => lv_if_gt hC.1.1 hC.1.2.1 hdg ht (fun h => kt h H locs ls hl hR) (fun h => kf h H locs ls hl hR)
theorem wa_icmp_gt (hC : wC p m c cc nL s args Ts own G) {x y : Int32} {off : Int} (tgt : Nat) (hdg : decode cc pc = .ok (.if_icmp .gt off, 3)) (ht : (pc : Int) + off = (tgt : Int)) (kt : y < x → wAt p l e R s m args below meth c Q nL G M tgt lv rest) (kf : ¬ y < x → wAt p l e R s m args below meth c Q nL G M (pc + 3) lv rest) : wAt p l e R s m args below meth c Q nL G M pc lv (.int y :: .int x :: rest) := fun H locs ls hl hR => lv_icmp_gt hC.1.1 hC.1.2.1 hdg ht (fun h => kt h H locs ls hl hR) (fun h => kf h H locs ls hl hR)
theorem wa_if_le (hC : wC p m c cc nL s args Ts own G) {x : Int32} {off : Int} (tgt : Nat) (hdg : decode cc pc = .ok (.ifCond .le off, 3)) (ht : (pc : Int) + off = (tgt : Int)) (kt : x ≤ 0 → wAt p l e R s m args below meth c Q nL G M tgt lv rest) (kf : ¬ x ≤ 0 → wAt p l e R s m args below meth c Q nL G M (pc + 3) lv rest) : wAt p l e R s m args below meth c Q nL G M pc lv (.int x :: rest) := fun H locs ls hl hR => lv_if_le hC.1.1 hC.1.2.1 hdg ht (fun h => kt h H locs ls hl hR) (fun h => kf h H locs ls hl hR)
theorem wa_icmp_le (hC : wC p m c cc nL s args Ts own G) {x y : Int32} {off : Int} (tgt : Nat) (hdg : decode cc pc = .ok (.if_icmp .le off, 3)) (ht : (pc : Int) + off = (tgt : Int)) (kt : x ≤ y → wAt p l e R s m args below meth c Q nL G M tgt lv rest) (kf : ¬ x ≤ y → wAt p l e R s m args below meth c Q nL G M (pc + 3) lv rest) : wAt p l e R s m args below meth c Q nL G M pc lv (.int y :: .int x :: rest) := fun H locs ls hl hR => lv_icmp_le hC.1.1 hC.1.2.1 hdg ht (fun h => kt h H locs ls hl hR) (fun h => kf h H locs ls hl hR)
theorem wa_goto (hC : wC p m c cc nL s args Ts own G) {off : Int} (tgt : Nat) (hdg : decode cc pc = .ok (.goto off, 3)) (ht : (pc : Int) + off = (tgt : Int)) (k : wAt p l e R s m args below meth c Q nL G M tgt lv rest) : wAt p l e R s m args below meth c Q nL G M pc lv rest := fun H locs ls hl hR => lv_goto hC.1.1 hC.1.2.1 hdg ht (k H locs ls hl hR)
theorem wa_ldc (hC : wC p m c cc nL s args Ts own G) {index : Nat} {v : Int32} (hm : Cond.constant own index v ∈ Ts) (hdg : decode cc pc = .ok (.ldc index, 2)) (k : wAt p l e R s m args below meth c Q nL G M (pc + 2) lv (.int v :: rest)) : wAt p l e R s m args below meth c Q nL G M pc lv rest := fun H locs ls hl hR => lv_ldc hC.1.1 hC.1.2.1 hC.1.2.2.2.1 (hC.1.2.2.2.2 _ hm) hdg (k H locs ls hl hR)
theorem wa_ldc2 (hC : wC p m c cc nL s args Ts own G) {index : Nat} {v : Int64} (hm : Cond.constantLong own index v ∈ Ts) (hdg : decode cc pc = .ok (.ldc2_w index, 3)) (k : wAt p l e R s m args below meth c Q nL G M (pc + 3) lv (.long v :: rest)) : wAt p l e R s m args below meth c Q nL G M pc lv rest := fun H locs ls hl hR => lv_ldc2 hC.1.1 hC.1.2.1 hC.1.2.2.2.1 (hC.1.2.2.2.2 _ hm) hdg (k H locs ls hl hR)
theorem wa_tableIn (hC : wC p m c cc nL s args Ts own G) {dflt lo hi : Int} {offs : Array Int} {len : Nat} {x : Int32} {off : Int} (tgt : Nat) (hdg : decode cc pc = .ok (.tableswitch dflt lo hi offs, len)) (h1 : ¬ x.toInt < lo) (h2 : ¬ hi < x.toInt) (ho : offs[(x.toInt - lo).toNat]? = some off) (ht : (pc : Int) + off = (tgt : Int)) (k : wAt p l e R s m args below meth c Q nL G M tgt lv rest) : wAt p l e R s m args below meth c Q nL G M pc lv (.int x :: rest) := fun H locs ls hl hR => lv_tableIn hC.1.1 hC.1.2.1 hdg h1 h2 ho ht (k H locs ls hl hR)
theorem wa_tableOut (hC : wC p m c cc nL s args Ts own G) {dflt lo hi : Int} {offs : Array Int} {len : Nat} {x : Int32} (tgt : Nat) (hdg : decode cc pc = .ok (.tableswitch dflt lo hi offs, len)) (h : x.toInt < lo ∨ hi < x.toInt) (ht : (pc : Int) + dflt = (tgt : Int)) (k : wAt p l e R s m args below meth c Q nL G M tgt lv rest) : wAt p l e R s m args below meth c Q nL G M pc lv (.int x :: rest) := fun H locs ls hl hR => lv_tableOut hC.1.1 hC.1.2.1 hdg h ht (k H locs ls hl hR)
theorem wa_lookup (hC : wC p m c cc nL s args Ts own G) {dflt : Int} {ps : Array (Int × Int)} {len : Nat} {x : Int32} {off : Int} (tgt : Nat) (hdg : decode cc pc = .ok (.lookupswitch dflt ps, len)) (hp : (ps.toList.zip (ps.toList.drop 1)).all (fun (a, next) => a.1 < next.1) = true) (ho : Op.lookupswitch.offset ps.toList dflt x.toInt = off) (ht : (pc : Int) + off = (tgt : Int)) (k : wAt p l e R s m args below meth c Q nL G M tgt lv rest) : wAt p l e R s m args below meth c Q nL G M pc lv (.int x :: rest) := fun H locs ls hl hR => lv_lookup hC.1.1 hC.1.2.1 hdg hp ho ht (k H locs ls hl hR)
theorem wa_get (hC : wC p m c cc nL s args Ts own G) {C : String} {T : u_T} {N ci index i : Nat} (hin : ∀ w ∈ u_ws C T N, w ∈ Ts) (hi : kd i = ci) (h99 : ci < 99) {fs : List Value} (he : cellOf G M i = .inr (ci, fs)) (hc : vwCl[ci]? = some (C, T, N)) (k0 : Nat) (hk : k0 < N) (hlink : Cond.fieldLink own index (T k0).1 (T k0).2.1 (T k0).2.2.1 ∈ Ts) {v : Value} (hv : fs[k0]? = some v) (hdg : decode cc pc = .ok (.getfield index, 3)) (k : wAt p l e R s m args below meth c Q nL G M (pc + 3) lv (v :: rest)) : wAt p l e R s m args below meth c Q nL G M pc lv (.ref (ga G i) :: rest) := fun H locs ls hl hR => va_get hC.1.1 hC.1.2.1 hC.1.2.2.2.2 hin hC.1.2.2.2.1 hC.2.1 hR.1 i (wl_at2 hi h99 he) hc k0 hk (hC.1.2.2.2.2 _ hlink) (fun _ h => h) hv hdg (k H locs ls hl hR)
theorem wa_getN (hC : wC p m c cc nL s args Ts own G) {C host : String} {T : u_T} {N ci index i : Nat} (hin : ∀ w ∈ u_ws C T N, w ∈ Ts) (hi : kd i = ci) (h99 : ci < 99) {fs : List Value} (he : cellOf G M i = .inr (ci, fs)) (hc : vwCl[ci]? = some (C, T, N)) (k0 : Nat) (hk : k0 < N) (hlink : (Cond.fieldLinkNest own index (T k0).1 (T k0).2.1 (T k0).2.2.1 host).before args s = true) {v : Value} (hv : fs[k0]? = some v) (hdg : decode cc pc = .ok (.getfield index, 3)) (k : wAt p l e R s m args below meth c Q nL G M (pc + 3) lv (v :: rest)) : wAt p l e R s m args below meth c Q nL G M pc lv (.ref (ga G i) :: rest) := fun H locs ls hl hR => va_getN hC.1.1 hC.1.2.1 hC.1.2.2.2.2 hin hC.1.2.2.2.1 hC.2.1 hR.1 i (wl_at2 hi h99 he) hc k0 hk hlink (fun _ h => h) hv hdg (k H locs ls hl hR)
theorem wa_put (hC : wC p m c cc nL s args Ts own G) {C : String} {T : u_T} {N ci index i : Nat} (hin : ∀ w ∈ u_ws C T N, w ∈ Ts) {ty0 : Nat → FieldType} (hty : ∀ k, k < N → parseFieldDescriptor (T k).2.2.1 = some (ty0 k)) (hnm : ∀ a, a < N → ∀ b, b < N → a ≠ b → (T a).2.1 ≠ (T b).2.1) (hi : kd i = ci) (h99 : ci < 99) {fs : List Value} (he : cellOf G M i = .inr (ci, fs)) (hc : vwCl[ci]? = some (C, T, N)) (k0 : Nat) (hk : k0 < N) (hlink : Cond.fieldLink own index (T k0).1 (T k0).2.1 (T k0).2.2.1 ∈ Ts) (hfin : (T k0).2.2.2 = false) {v : Value} (hn : narrow (ty0 k0) v = v) (hfit : fits (ty0 k0) v = true) (hlen : k0 < fs.length) {M' : wM} (hM1 : ∀ j, j ≠ i → cellOf G M' j = cellOf G M j) (hM2 : cellOf G M' i = .inr (ci, fs.set k0 v)) (hdg : decode cc pc = .ok (.putfield index, 3)) (k : wAt p l e R s m args below meth c Q nL G M' (pc + 3) lv rest) : wAt p l e R s m args below meth c Q nL G M pc lv (v :: .ref (ga G i) :: rest) := fun H locs ls hl hR => va_put hC.1.1 hC.1.2.1 hC.1.2.2.2.2 hin ty0 hty hnm hC.1.2.2.2.1 hC.2.1 hR.1 (wA_D hC.2.2.1) hR.2 i (wl_at2 hi h99 he) hc k0 hk (hC.1.2.2.2.2 _ hlink) (fun _ h => h) hfin (hty k0 hk) hn hfit hlen hdg (fun H1 locs1 hP hD hS => k H1 locs1 ls hl ⟨by rw [wl_set (kdlt hi h99) hM1 hM2] at hP; exact hP, hS⟩)
theorem wa_putN (hC : wC p m c cc nL s args Ts own G) {C host : String} {T : u_T} {N ci index i : Nat} (hin : ∀ w ∈ u_ws C T N, w ∈ Ts) {ty0 : Nat → FieldType} (hty : ∀ k, k < N → parseFieldDescriptor (T k).2.2.1 = some (ty0 k)) (hnm : ∀ a, a < N → ∀ b, b < N → a ≠ b → (T a).2.1 ≠ (T b).2.1) (hi : kd i = ci) (h99 : ci < 99) {fs : List Value} (he : cellOf G M i = .inr (ci, fs)) (hc : vwCl[ci]? = some (C, T, N)) (k0 : Nat) (hk : k0 < N) (hlink : (Cond.fieldLinkNest own index (T k0).1 (T k0).2.1 (T k0).2.2.1 host).before args s = true) (hfin : (T k0).2.2.2 = false) {v : Value} (hn : narrow (ty0 k0) v = v) (hfit : fits (ty0 k0) v = true) (hlen : k0 < fs.length) {M' : wM} (hM1 : ∀ j, j ≠ i → cellOf G M' j = cellOf G M j) (hM2 : cellOf G M' i = .inr (ci, fs.set k0 v)) (hdg : decode cc pc = .ok (.putfield index, 3)) (k : wAt p l e R s m args below meth c Q nL G M' (pc + 3) lv rest) : wAt p l e R s m args below meth c Q nL G M pc lv (v :: .ref (ga G i) :: rest) := fun H locs ls hl hR => va_putN hC.1.1 hC.1.2.1 hC.1.2.2.2.2 hin ty0 hty hnm hC.1.2.2.2.1 hC.2.1 hR.1 (wA_D hC.2.2.1) hR.2 i (wl_at2 hi h99 he) hc k0 hk hlink (fun _ h => h) hfin (hty k0 hk) hn hfit hlen hdg (fun H1 locs1 hP hD hS => k H1 locs1 ls hl ⟨by rw [wl_set (kdlt hi h99) hM1 hM2] at hP; exact hP, hS⟩)
theorem wa_iald (hC : wC p m c cc nL s args Ts own G) {i : Nat} {j : Int32} (hi : kd i = 20) (hin : vp_in j (ln i)) (hdg : decode cc pc = .ok (.iaload, 1)) (k : wAt p l e R s m args below meth c Q nL G M (pc + 1) lv (.int (M.1 i j.toNatClampNeg) :: rest)) : wAt p l e R s m args below meth c Q nL G M pc lv (.int j :: .ref (ga G i) :: rest) := fun H locs ls hl hR => va_iald hC.1.1 hC.1.2.1 hC.2.1 hR.1 i 0 (wl_at2 hi (by decide) (ce20 hi)) rfl hin hdg (k H locs ls hl hR)
theorem wa_iast (hC : wC p m c cc nL s args Ts own G) {i : Nat} {j x v : Int32} (hi : kd i = 20) (hin : vp_in j (ln i)) (hv : x = v) (hdg : decode cc pc = .ok (.iastore, 1)) (k : wAt p l e R s m args below meth c Q nL G (st M i j.toNatClampNeg v) (pc + 1) lv rest) : wAt p l e R s m args below meth c Q nL G M pc lv (.int x :: .int j :: .ref (ga G i) :: rest) := fun H locs ls hl hR => va_iast hC.1.1 hC.1.2.1 hC.2.1 hR.1 (wA_D hC.2.2.1) hR.2 i 0 (wl_at2 hi (by decide) (ce20 hi)) rfl hin hdg (fun H1 locs1 hP hD hS => k H1 locs1 ls hl ⟨by
    rw [hv, wl_set (M' := st M i j.toNatClampNeg v) (kdlt hi (by decide)) (fun j hj => ce_st hj) (by rw [ce20 hi]; congr 4; funext b; simp [st, upd])] at hP
    exact hP, hS⟩)
theorem wa_alen (hC : wC p m c cc nL s args Ts own G) {i : Nat} (hi : kd i = 20) (hdg : decode cc pc = .ok (.arraylength, 1)) (k : wAt p l e R s m args below meth c Q nL G M (pc + 1) lv (.int (nI (ln i)) :: rest)) : wAt p l e R s m args below meth c Q nL G M pc lv (.ref (ga G i) :: rest) := fun H locs ls hl hR => va_alen hC.1.1 hC.1.2.1 hC.2.1 hR.1 i 0 (wl_at2 hi (by decide) (ce20 hi)) rfl rfl hdg (k H locs ls hl hR)
theorem wa_alen8 (hC : wC p m c cc nL s args Ts own G) {i : Nat} (hi : kd i = 8) (hdg : decode cc pc = .ok (.arraylength, 1)) (k : wAt p l e R s m args below meth c Q nL G M (pc + 1) lv (.int 5 :: rest)) : wAt p l e R s m args below meth c Q nL G M pc lv (.ref (ga G i) :: rest) := fun H locs ls hl hR => va_alen hC.1.1 hC.1.2.1 hC.2.1 hR.1 i 1 (wl_at2 hi (by decide) (ce8 hi)) rfl rfl hdg (k H locs ls hl hR)
theorem wa_aald8 (hC : wC p m c cc nL s args Ts own G) {i : Nat} {j : Int32} (hi : kd i = 8) (hin : vp_in j 5) (hdg : decode cc pc = .ok (.aaload, 1)) (k : wAt p l e R s m args below meth c Q nL G M (pc + 1) lv (.ref (ga G (i + 1 + 9 * j.toNatClampNeg)) :: rest)) : wAt p l e R s m args below meth c Q nL G M pc lv (.int j :: .ref (ga G i) :: rest) := fun H locs ls hl hR => va_aldq hC.1.1 hC.1.2.1 hC.2.1 hR.1 i 1 (wl_at2 hi (by decide) (ce8 hi)) rfl hin hdg (k H locs ls hl hR)
end WW
section WW3
variable {p : Program} {l : Launch} {e : Env} {R : Room} {s : State} {m : MethodId} {args : Array Value} {below : List Frame} {meth : Method} {c : Code} {Q : State → Prop} {cc : ByteArray} {nL : Nat} {Ts : List Cond} {own : String} {G : wG} {M : wM} {pc : Nat} {lv lv' : List (Nat × Value)} {rest : List Value}
theorem rg0_0 (hC : wC p m c cc nL s args Ts own G) (hin : ∀ w ∈ u_ws RX0 TX0 3, w ∈ Ts) {i : Nat} (hi : kd i = 0) {index : Nat} (hlink : Cond.fieldLink own index "BaroRuns$History" "places" "[LBaroRuns$State;" ∈ Ts) (hdg : decode cc pc = .ok (.getfield index, 3)) (k : wAt p l e R s m args below meth c Q nL G M (pc + 3) lv (.ref (ga G (i + 1)) :: rest)) : wAt p l e R s m args below meth c Q nL G M pc lv (.ref (ga G i) :: rest) := wa_get hC hin hi (by decide) (ce0 hi) rfl 0 (by decide) hlink rfl hdg k
theorem rgn0_0 (hC : wC p m c cc nL s args Ts own G) (hin : ∀ w ∈ u_ws RX0 TX0 3, w ∈ Ts) {i : Nat} (hi : kd i = 0) {index : Nat} {host : String} (hlink : (Cond.fieldLinkNest own index "BaroRuns$History" "places" "[LBaroRuns$State;" host).before args s = true) (hdg : decode cc pc = .ok (.getfield index, 3)) (k : wAt p l e R s m args below meth c Q nL G M (pc + 3) lv (.ref (ga G (i + 1)) :: rest)) : wAt p l e R s m args below meth c Q nL G M pc lv (.ref (ga G i) :: rest) := wa_getN hC hin hi (by decide) (ce0 hi) rfl 0 (by decide) hlink rfl hdg k
theorem rg0_1 (hC : wC p m c cc nL s args Ts own G) (hin : ∀ w ∈ u_ws RX0 TX0 3, w ∈ Ts) {i : Nat} (hi : kd i = 0) {index : Nat} (hlink : Cond.fieldLink own index "BaroRuns$History" "oldest" "I" ∈ Ts) (hdg : decode cc pc = .ok (.getfield index, 3)) (k : wAt p l e R s m args below meth c Q nL G M (pc + 3) lv (.int (M.1 i 1) :: rest)) : wAt p l e R s m args below meth c Q nL G M pc lv (.ref (ga G i) :: rest) := wa_get hC hin hi (by decide) (ce0 hi) rfl 1 (by decide) hlink rfl hdg k
theorem rp0_1 (hC : wC p m c cc nL s args Ts own G) (hin : ∀ w ∈ u_ws RX0 TX0 3, w ∈ Ts) {i : Nat} (hi : kd i = 0) {index : Nat} (hlink : Cond.fieldLink own index "BaroRuns$History" "oldest" "I" ∈ Ts) {x : Int32} (hdg : decode cc pc = .ok (.putfield index, 3)) (k : wAt p l e R s m args below meth c Q nL G (st M i 1 x) (pc + 3) lv rest) : wAt p l e R s m args below meth c Q nL G M pc lv (.int x :: .ref (ga G i) :: rest) := wa_put hC hin tyX0_ok nmX0 hi (by decide) (ce0 hi) rfl 1 (by decide) hlink rfl rfl rfl (Nat.le_of_ble_eq_true rfl) (fun j hj => ce_st hj) (by rw [ce0 hi]; simp [st, stL]) hdg k
theorem rgn0_1 (hC : wC p m c cc nL s args Ts own G) (hin : ∀ w ∈ u_ws RX0 TX0 3, w ∈ Ts) {i : Nat} (hi : kd i = 0) {index : Nat} {host : String} (hlink : (Cond.fieldLinkNest own index "BaroRuns$History" "oldest" "I" host).before args s = true) (hdg : decode cc pc = .ok (.getfield index, 3)) (k : wAt p l e R s m args below meth c Q nL G M (pc + 3) lv (.int (M.1 i 1) :: rest)) : wAt p l e R s m args below meth c Q nL G M pc lv (.ref (ga G i) :: rest) := wa_getN hC hin hi (by decide) (ce0 hi) rfl 1 (by decide) hlink rfl hdg k
theorem rpn0_1 (hC : wC p m c cc nL s args Ts own G) (hin : ∀ w ∈ u_ws RX0 TX0 3, w ∈ Ts) {i : Nat} (hi : kd i = 0) {index : Nat} {host : String} (hlink : (Cond.fieldLinkNest own index "BaroRuns$History" "oldest" "I" host).before args s = true) {x : Int32} (hdg : decode cc pc = .ok (.putfield index, 3)) (k : wAt p l e R s m args below meth c Q nL G (st M i 1 x) (pc + 3) lv rest) : wAt p l e R s m args below meth c Q nL G M pc lv (.int x :: .ref (ga G i) :: rest) := wa_putN hC hin tyX0_ok nmX0 hi (by decide) (ce0 hi) rfl 1 (by decide) hlink rfl rfl rfl (Nat.le_of_ble_eq_true rfl) (fun j hj => ce_st hj) (by rw [ce0 hi]; simp [st, stL]) hdg k
theorem rg0_2 (hC : wC p m c cc nL s args Ts own G) (hin : ∀ w ∈ u_ws RX0 TX0 3, w ∈ Ts) {i : Nat} (hi : kd i = 0) {index : Nat} (hlink : Cond.fieldLink own index "BaroRuns$History" "size" "I" ∈ Ts) (hdg : decode cc pc = .ok (.getfield index, 3)) (k : wAt p l e R s m args below meth c Q nL G M (pc + 3) lv (.int (M.1 i 2) :: rest)) : wAt p l e R s m args below meth c Q nL G M pc lv (.ref (ga G i) :: rest) := wa_get hC hin hi (by decide) (ce0 hi) rfl 2 (by decide) hlink rfl hdg k
theorem rp0_2 (hC : wC p m c cc nL s args Ts own G) (hin : ∀ w ∈ u_ws RX0 TX0 3, w ∈ Ts) {i : Nat} (hi : kd i = 0) {index : Nat} (hlink : Cond.fieldLink own index "BaroRuns$History" "size" "I" ∈ Ts) {x : Int32} (hdg : decode cc pc = .ok (.putfield index, 3)) (k : wAt p l e R s m args below meth c Q nL G (st M i 2 x) (pc + 3) lv rest) : wAt p l e R s m args below meth c Q nL G M pc lv (.int x :: .ref (ga G i) :: rest) := wa_put hC hin tyX0_ok nmX0 hi (by decide) (ce0 hi) rfl 2 (by decide) hlink rfl rfl rfl (Nat.le_of_ble_eq_true rfl) (fun j hj => ce_st hj) (by rw [ce0 hi]; simp [st, stL]) hdg k
theorem rgn0_2 (hC : wC p m c cc nL s args Ts own G) (hin : ∀ w ∈ u_ws RX0 TX0 3, w ∈ Ts) {i : Nat} (hi : kd i = 0) {index : Nat} {host : String} (hlink : (Cond.fieldLinkNest own index "BaroRuns$History" "size" "I" host).before args s = true) (hdg : decode cc pc = .ok (.getfield index, 3)) (k : wAt p l e R s m args below meth c Q nL G M (pc + 3) lv (.int (M.1 i 2) :: rest)) : wAt p l e R s m args below meth c Q nL G M pc lv (.ref (ga G i) :: rest) := wa_getN hC hin hi (by decide) (ce0 hi) rfl 2 (by decide) hlink rfl hdg k
theorem rpn0_2 (hC : wC p m c cc nL s args Ts own G) (hin : ∀ w ∈ u_ws RX0 TX0 3, w ∈ Ts) {i : Nat} (hi : kd i = 0) {index : Nat} {host : String} (hlink : (Cond.fieldLinkNest own index "BaroRuns$History" "size" "I" host).before args s = true) {x : Int32} (hdg : decode cc pc = .ok (.putfield index, 3)) (k : wAt p l e R s m args below meth c Q nL G (st M i 2 x) (pc + 3) lv rest) : wAt p l e R s m args below meth c Q nL G M pc lv (.int x :: .ref (ga G i) :: rest) := wa_putN hC hin tyX0_ok nmX0 hi (by decide) (ce0 hi) rfl 2 (by decide) hlink rfl rfl rfl (Nat.le_of_ble_eq_true rfl) (fun j hj => ce_st hj) (by rw [ce0 hi]; simp [st, stL]) hdg k
theorem rg1_0 (hC : wC p m c cc nL s args Ts own G) (hin : ∀ w ∈ u_ws RX1 TX1 4, w ∈ Ts) {i : Nat} (hi : kd i = 1) {index : Nat} (hlink : Cond.fieldLink own index "BaroRuns$PointSum" "sum" "J" ∈ Ts) (hdg : decode cc pc = .ok (.getfield index, 3)) (k : wAt p l e R s m args below meth c Q nL G M (pc + 3) lv (.long (M.2 i) :: rest)) : wAt p l e R s m args below meth c Q nL G M pc lv (.ref (ga G i) :: rest) := wa_get hC hin hi (by decide) (ce1 hi) rfl 0 (by decide) hlink rfl hdg k
theorem rp1_0 (hC : wC p m c cc nL s args Ts own G) (hin : ∀ w ∈ u_ws RX1 TX1 4, w ∈ Ts) {i : Nat} (hi : kd i = 1) {index : Nat} (hlink : Cond.fieldLink own index "BaroRuns$PointSum" "sum" "J" ∈ Ts) {x : Int64} (hdg : decode cc pc = .ok (.putfield index, 3)) (k : wAt p l e R s m args below meth c Q nL G (stL M i x) (pc + 3) lv rest) : wAt p l e R s m args below meth c Q nL G M pc lv (.long x :: .ref (ga G i) :: rest) := wa_put hC hin tyX1_ok nmX1 hi (by decide) (ce1 hi) rfl 0 (by decide) hlink rfl rfl rfl (Nat.le_of_ble_eq_true rfl) (fun j hj => ce_stL hj) (by rw [ce1 hi]; simp [st, stL]) hdg k
theorem rgn1_0 (hC : wC p m c cc nL s args Ts own G) (hin : ∀ w ∈ u_ws RX1 TX1 4, w ∈ Ts) {i : Nat} (hi : kd i = 1) {index : Nat} {host : String} (hlink : (Cond.fieldLinkNest own index "BaroRuns$PointSum" "sum" "J" host).before args s = true) (hdg : decode cc pc = .ok (.getfield index, 3)) (k : wAt p l e R s m args below meth c Q nL G M (pc + 3) lv (.long (M.2 i) :: rest)) : wAt p l e R s m args below meth c Q nL G M pc lv (.ref (ga G i) :: rest) := wa_getN hC hin hi (by decide) (ce1 hi) rfl 0 (by decide) hlink rfl hdg k
theorem rpn1_0 (hC : wC p m c cc nL s args Ts own G) (hin : ∀ w ∈ u_ws RX1 TX1 4, w ∈ Ts) {i : Nat} (hi : kd i = 1) {index : Nat} {host : String} (hlink : (Cond.fieldLinkNest own index "BaroRuns$PointSum" "sum" "J" host).before args s = true) {x : Int64} (hdg : decode cc pc = .ok (.putfield index, 3)) (k : wAt p l e R s m args below meth c Q nL G (stL M i x) (pc + 3) lv rest) : wAt p l e R s m args below meth c Q nL G M pc lv (.long x :: .ref (ga G i) :: rest) := wa_putN hC hin tyX1_ok nmX1 hi (by decide) (ce1 hi) rfl 0 (by decide) hlink rfl rfl rfl (Nat.le_of_ble_eq_true rfl) (fun j hj => ce_stL hj) (by rw [ce1 hi]; simp [st, stL]) hdg k
theorem rg1_1 (hC : wC p m c cc nL s args Ts own G) (hin : ∀ w ∈ u_ws RX1 TX1 4, w ∈ Ts) {i : Nat} (hi : kd i = 1) {index : Nat} (hlink : Cond.fieldLink own index "BaroRuns$PointSum" "number" "I" ∈ Ts) (hdg : decode cc pc = .ok (.getfield index, 3)) (k : wAt p l e R s m args below meth c Q nL G M (pc + 3) lv (.int (M.1 i 1) :: rest)) : wAt p l e R s m args below meth c Q nL G M pc lv (.ref (ga G i) :: rest) := wa_get hC hin hi (by decide) (ce1 hi) rfl 1 (by decide) hlink rfl hdg k
theorem rp1_1 (hC : wC p m c cc nL s args Ts own G) (hin : ∀ w ∈ u_ws RX1 TX1 4, w ∈ Ts) {i : Nat} (hi : kd i = 1) {index : Nat} (hlink : Cond.fieldLink own index "BaroRuns$PointSum" "number" "I" ∈ Ts) {x : Int32} (hdg : decode cc pc = .ok (.putfield index, 3)) (k : wAt p l e R s m args below meth c Q nL G (st M i 1 x) (pc + 3) lv rest) : wAt p l e R s m args below meth c Q nL G M pc lv (.int x :: .ref (ga G i) :: rest) := wa_put hC hin tyX1_ok nmX1 hi (by decide) (ce1 hi) rfl 1 (by decide) hlink rfl rfl rfl (Nat.le_of_ble_eq_true rfl) (fun j hj => ce_st hj) (by rw [ce1 hi]; simp [st, stL]) hdg k
theorem rgn1_1 (hC : wC p m c cc nL s args Ts own G) (hin : ∀ w ∈ u_ws RX1 TX1 4, w ∈ Ts) {i : Nat} (hi : kd i = 1) {index : Nat} {host : String} (hlink : (Cond.fieldLinkNest own index "BaroRuns$PointSum" "number" "I" host).before args s = true) (hdg : decode cc pc = .ok (.getfield index, 3)) (k : wAt p l e R s m args below meth c Q nL G M (pc + 3) lv (.int (M.1 i 1) :: rest)) : wAt p l e R s m args below meth c Q nL G M pc lv (.ref (ga G i) :: rest) := wa_getN hC hin hi (by decide) (ce1 hi) rfl 1 (by decide) hlink rfl hdg k
theorem rpn1_1 (hC : wC p m c cc nL s args Ts own G) (hin : ∀ w ∈ u_ws RX1 TX1 4, w ∈ Ts) {i : Nat} (hi : kd i = 1) {index : Nat} {host : String} (hlink : (Cond.fieldLinkNest own index "BaroRuns$PointSum" "number" "I" host).before args s = true) {x : Int32} (hdg : decode cc pc = .ok (.putfield index, 3)) (k : wAt p l e R s m args below meth c Q nL G (st M i 1 x) (pc + 3) lv rest) : wAt p l e R s m args below meth c Q nL G M pc lv (.int x :: .ref (ga G i) :: rest) := wa_putN hC hin tyX1_ok nmX1 hi (by decide) (ce1 hi) rfl 1 (by decide) hlink rfl rfl rfl (Nat.le_of_ble_eq_true rfl) (fun j hj => ce_st hj) (by rw [ce1 hi]; simp [st, stL]) hdg k
theorem rg1_2 (hC : wC p m c cc nL s args Ts own G) (hin : ∀ w ∈ u_ws RX1 TX1 4, w ∈ Ts) {i : Nat} (hi : kd i = 1) {index : Nat} (hlink : Cond.fieldLink own index "BaroRuns$PointSum" "least" "I" ∈ Ts) (hdg : decode cc pc = .ok (.getfield index, 3)) (k : wAt p l e R s m args below meth c Q nL G M (pc + 3) lv (.int (M.1 i 2) :: rest)) : wAt p l e R s m args below meth c Q nL G M pc lv (.ref (ga G i) :: rest) := wa_get hC hin hi (by decide) (ce1 hi) rfl 2 (by decide) hlink rfl hdg k
theorem rp1_2 (hC : wC p m c cc nL s args Ts own G) (hin : ∀ w ∈ u_ws RX1 TX1 4, w ∈ Ts) {i : Nat} (hi : kd i = 1) {index : Nat} (hlink : Cond.fieldLink own index "BaroRuns$PointSum" "least" "I" ∈ Ts) {x : Int32} (hdg : decode cc pc = .ok (.putfield index, 3)) (k : wAt p l e R s m args below meth c Q nL G (st M i 2 x) (pc + 3) lv rest) : wAt p l e R s m args below meth c Q nL G M pc lv (.int x :: .ref (ga G i) :: rest) := wa_put hC hin tyX1_ok nmX1 hi (by decide) (ce1 hi) rfl 2 (by decide) hlink rfl rfl rfl (Nat.le_of_ble_eq_true rfl) (fun j hj => ce_st hj) (by rw [ce1 hi]; simp [st, stL]) hdg k
theorem rgn1_2 (hC : wC p m c cc nL s args Ts own G) (hin : ∀ w ∈ u_ws RX1 TX1 4, w ∈ Ts) {i : Nat} (hi : kd i = 1) {index : Nat} {host : String} (hlink : (Cond.fieldLinkNest own index "BaroRuns$PointSum" "least" "I" host).before args s = true) (hdg : decode cc pc = .ok (.getfield index, 3)) (k : wAt p l e R s m args below meth c Q nL G M (pc + 3) lv (.int (M.1 i 2) :: rest)) : wAt p l e R s m args below meth c Q nL G M pc lv (.ref (ga G i) :: rest) := wa_getN hC hin hi (by decide) (ce1 hi) rfl 2 (by decide) hlink rfl hdg k
theorem rpn1_2 (hC : wC p m c cc nL s args Ts own G) (hin : ∀ w ∈ u_ws RX1 TX1 4, w ∈ Ts) {i : Nat} (hi : kd i = 1) {index : Nat} {host : String} (hlink : (Cond.fieldLinkNest own index "BaroRuns$PointSum" "least" "I" host).before args s = true) {x : Int32} (hdg : decode cc pc = .ok (.putfield index, 3)) (k : wAt p l e R s m args below meth c Q nL G (st M i 2 x) (pc + 3) lv rest) : wAt p l e R s m args below meth c Q nL G M pc lv (.int x :: .ref (ga G i) :: rest) := wa_putN hC hin tyX1_ok nmX1 hi (by decide) (ce1 hi) rfl 2 (by decide) hlink rfl rfl rfl (Nat.le_of_ble_eq_true rfl) (fun j hj => ce_st hj) (by rw [ce1 hi]; simp [st, stL]) hdg k
theorem rg1_3 (hC : wC p m c cc nL s args Ts own G) (hin : ∀ w ∈ u_ws RX1 TX1 4, w ∈ Ts) {i : Nat} (hi : kd i = 1) {index : Nat} (hlink : Cond.fieldLink own index "BaroRuns$PointSum" "greatest" "I" ∈ Ts) (hdg : decode cc pc = .ok (.getfield index, 3)) (k : wAt p l e R s m args below meth c Q nL G M (pc + 3) lv (.int (M.1 i 3) :: rest)) : wAt p l e R s m args below meth c Q nL G M pc lv (.ref (ga G i) :: rest) := wa_get hC hin hi (by decide) (ce1 hi) rfl 3 (by decide) hlink rfl hdg k
theorem rp1_3 (hC : wC p m c cc nL s args Ts own G) (hin : ∀ w ∈ u_ws RX1 TX1 4, w ∈ Ts) {i : Nat} (hi : kd i = 1) {index : Nat} (hlink : Cond.fieldLink own index "BaroRuns$PointSum" "greatest" "I" ∈ Ts) {x : Int32} (hdg : decode cc pc = .ok (.putfield index, 3)) (k : wAt p l e R s m args below meth c Q nL G (st M i 3 x) (pc + 3) lv rest) : wAt p l e R s m args below meth c Q nL G M pc lv (.int x :: .ref (ga G i) :: rest) := wa_put hC hin tyX1_ok nmX1 hi (by decide) (ce1 hi) rfl 3 (by decide) hlink rfl rfl rfl (Nat.le_of_ble_eq_true rfl) (fun j hj => ce_st hj) (by rw [ce1 hi]; simp [st, stL]) hdg k
theorem rgn1_3 (hC : wC p m c cc nL s args Ts own G) (hin : ∀ w ∈ u_ws RX1 TX1 4, w ∈ Ts) {i : Nat} (hi : kd i = 1) {index : Nat} {host : String} (hlink : (Cond.fieldLinkNest own index "BaroRuns$PointSum" "greatest" "I" host).before args s = true) (hdg : decode cc pc = .ok (.getfield index, 3)) (k : wAt p l e R s m args below meth c Q nL G M (pc + 3) lv (.int (M.1 i 3) :: rest)) : wAt p l e R s m args below meth c Q nL G M pc lv (.ref (ga G i) :: rest) := wa_getN hC hin hi (by decide) (ce1 hi) rfl 3 (by decide) hlink rfl hdg k
theorem rpn1_3 (hC : wC p m c cc nL s args Ts own G) (hin : ∀ w ∈ u_ws RX1 TX1 4, w ∈ Ts) {i : Nat} (hi : kd i = 1) {index : Nat} {host : String} (hlink : (Cond.fieldLinkNest own index "BaroRuns$PointSum" "greatest" "I" host).before args s = true) {x : Int32} (hdg : decode cc pc = .ok (.putfield index, 3)) (k : wAt p l e R s m args below meth c Q nL G (st M i 3 x) (pc + 3) lv rest) : wAt p l e R s m args below meth c Q nL G M pc lv (.int x :: .ref (ga G i) :: rest) := wa_putN hC hin tyX1_ok nmX1 hi (by decide) (ce1 hi) rfl 3 (by decide) hlink rfl rfl rfl (Nat.le_of_ble_eq_true rfl) (fun j hj => ce_st hj) (by rw [ce1 hi]; simp [st, stL]) hdg k
theorem rg2_0 (hC : wC p m c cc nL s args Ts own G) (hin : ∀ w ∈ u_ws RX2 TX2 7, w ∈ Ts) {i : Nat} (hi : kd i = 2) {index : Nat} (hlink : Cond.fieldLink own index "BaroRuns$State" "baseTrack" "LBaroRuns$Track;" ∈ Ts) (hdg : decode cc pc = .ok (.getfield index, 3)) (k : wAt p l e R s m args below meth c Q nL G M (pc + 3) lv (.ref (ga G (i + 1)) :: rest)) : wAt p l e R s m args below meth c Q nL G M pc lv (.ref (ga G i) :: rest) := wa_get hC hin hi (by decide) (ce2 hi) rfl 0 (by decide) hlink rfl hdg k
theorem rgn2_0 (hC : wC p m c cc nL s args Ts own G) (hin : ∀ w ∈ u_ws RX2 TX2 7, w ∈ Ts) {i : Nat} (hi : kd i = 2) {index : Nat} {host : String} (hlink : (Cond.fieldLinkNest own index "BaroRuns$State" "baseTrack" "LBaroRuns$Track;" host).before args s = true) (hdg : decode cc pc = .ok (.getfield index, 3)) (k : wAt p l e R s m args below meth c Q nL G M (pc + 3) lv (.ref (ga G (i + 1)) :: rest)) : wAt p l e R s m args below meth c Q nL G M pc lv (.ref (ga G i) :: rest) := wa_getN hC hin hi (by decide) (ce2 hi) rfl 0 (by decide) hlink rfl hdg k
theorem rg2_1 (hC : wC p m c cc nL s args Ts own G) (hin : ∀ w ∈ u_ws RX2 TX2 7, w ∈ Ts) {i : Nat} (hi : kd i = 2) {index : Nat} (hlink : Cond.fieldLink own index "BaroRuns$State" "firstTrack" "LBaroRuns$Track;" ∈ Ts) (hdg : decode cc pc = .ok (.getfield index, 3)) (k : wAt p l e R s m args below meth c Q nL G M (pc + 3) lv (.ref (ga G (i + 3)) :: rest)) : wAt p l e R s m args below meth c Q nL G M pc lv (.ref (ga G i) :: rest) := wa_get hC hin hi (by decide) (ce2 hi) rfl 1 (by decide) hlink rfl hdg k
theorem rgn2_1 (hC : wC p m c cc nL s args Ts own G) (hin : ∀ w ∈ u_ws RX2 TX2 7, w ∈ Ts) {i : Nat} (hi : kd i = 2) {index : Nat} {host : String} (hlink : (Cond.fieldLinkNest own index "BaroRuns$State" "firstTrack" "LBaroRuns$Track;" host).before args s = true) (hdg : decode cc pc = .ok (.getfield index, 3)) (k : wAt p l e R s m args below meth c Q nL G M (pc + 3) lv (.ref (ga G (i + 3)) :: rest)) : wAt p l e R s m args below meth c Q nL G M pc lv (.ref (ga G i) :: rest) := wa_getN hC hin hi (by decide) (ce2 hi) rfl 1 (by decide) hlink rfl hdg k
theorem rg2_2 (hC : wC p m c cc nL s args Ts own G) (hin : ∀ w ∈ u_ws RX2 TX2 7, w ∈ Ts) {i : Nat} (hi : kd i = 2) {index : Nat} (hlink : Cond.fieldLink own index "BaroRuns$State" "secondTrack" "LBaroRuns$Track;" ∈ Ts) (hdg : decode cc pc = .ok (.getfield index, 3)) (k : wAt p l e R s m args below meth c Q nL G M (pc + 3) lv (.ref (ga G (i + 5)) :: rest)) : wAt p l e R s m args below meth c Q nL G M pc lv (.ref (ga G i) :: rest) := wa_get hC hin hi (by decide) (ce2 hi) rfl 2 (by decide) hlink rfl hdg k
theorem rgn2_2 (hC : wC p m c cc nL s args Ts own G) (hin : ∀ w ∈ u_ws RX2 TX2 7, w ∈ Ts) {i : Nat} (hi : kd i = 2) {index : Nat} {host : String} (hlink : (Cond.fieldLinkNest own index "BaroRuns$State" "secondTrack" "LBaroRuns$Track;" host).before args s = true) (hdg : decode cc pc = .ok (.getfield index, 3)) (k : wAt p l e R s m args below meth c Q nL G M (pc + 3) lv (.ref (ga G (i + 5)) :: rest)) : wAt p l e R s m args below meth c Q nL G M pc lv (.ref (ga G i) :: rest) := wa_getN hC hin hi (by decide) (ce2 hi) rfl 2 (by decide) hlink rfl hdg k
theorem rg2_3 (hC : wC p m c cc nL s args Ts own G) (hin : ∀ w ∈ u_ws RX2 TX2 7, w ∈ Ts) {i : Nat} (hi : kd i = 2) {index : Nat} (hlink : Cond.fieldLink own index "BaroRuns$State" "thirdTrack" "LBaroRuns$Track;" ∈ Ts) (hdg : decode cc pc = .ok (.getfield index, 3)) (k : wAt p l e R s m args below meth c Q nL G M (pc + 3) lv (.ref (ga G (i + 7)) :: rest)) : wAt p l e R s m args below meth c Q nL G M pc lv (.ref (ga G i) :: rest) := wa_get hC hin hi (by decide) (ce2 hi) rfl 3 (by decide) hlink rfl hdg k
theorem rgn2_3 (hC : wC p m c cc nL s args Ts own G) (hin : ∀ w ∈ u_ws RX2 TX2 7, w ∈ Ts) {i : Nat} (hi : kd i = 2) {index : Nat} {host : String} (hlink : (Cond.fieldLinkNest own index "BaroRuns$State" "thirdTrack" "LBaroRuns$Track;" host).before args s = true) (hdg : decode cc pc = .ok (.getfield index, 3)) (k : wAt p l e R s m args below meth c Q nL G M (pc + 3) lv (.ref (ga G (i + 7)) :: rest)) : wAt p l e R s m args below meth c Q nL G M pc lv (.ref (ga G i) :: rest) := wa_getN hC hin hi (by decide) (ce2 hi) rfl 3 (by decide) hlink rfl hdg k
theorem rg2_4 (hC : wC p m c cc nL s args Ts own G) (hin : ∀ w ∈ u_ws RX2 TX2 7, w ∈ Ts) {i : Nat} (hi : kd i = 2) {index : Nat} (hlink : Cond.fieldLink own index "BaroRuns$State" "baseHeight" "I" ∈ Ts) (hdg : decode cc pc = .ok (.getfield index, 3)) (k : wAt p l e R s m args below meth c Q nL G M (pc + 3) lv (.int (M.1 i 4) :: rest)) : wAt p l e R s m args below meth c Q nL G M pc lv (.ref (ga G i) :: rest) := wa_get hC hin hi (by decide) (ce2 hi) rfl 4 (by decide) hlink rfl hdg k
theorem rp2_4 (hC : wC p m c cc nL s args Ts own G) (hin : ∀ w ∈ u_ws RX2 TX2 7, w ∈ Ts) {i : Nat} (hi : kd i = 2) {index : Nat} (hlink : Cond.fieldLink own index "BaroRuns$State" "baseHeight" "I" ∈ Ts) {x : Int32} (hdg : decode cc pc = .ok (.putfield index, 3)) (k : wAt p l e R s m args below meth c Q nL G (st M i 4 x) (pc + 3) lv rest) : wAt p l e R s m args below meth c Q nL G M pc lv (.int x :: .ref (ga G i) :: rest) := wa_put hC hin tyX2_ok nmX2 hi (by decide) (ce2 hi) rfl 4 (by decide) hlink rfl rfl rfl (Nat.le_of_ble_eq_true rfl) (fun j hj => ce_st hj) (by rw [ce2 hi]; simp [st, stL]) hdg k
theorem rgn2_4 (hC : wC p m c cc nL s args Ts own G) (hin : ∀ w ∈ u_ws RX2 TX2 7, w ∈ Ts) {i : Nat} (hi : kd i = 2) {index : Nat} {host : String} (hlink : (Cond.fieldLinkNest own index "BaroRuns$State" "baseHeight" "I" host).before args s = true) (hdg : decode cc pc = .ok (.getfield index, 3)) (k : wAt p l e R s m args below meth c Q nL G M (pc + 3) lv (.int (M.1 i 4) :: rest)) : wAt p l e R s m args below meth c Q nL G M pc lv (.ref (ga G i) :: rest) := wa_getN hC hin hi (by decide) (ce2 hi) rfl 4 (by decide) hlink rfl hdg k
theorem rpn2_4 (hC : wC p m c cc nL s args Ts own G) (hin : ∀ w ∈ u_ws RX2 TX2 7, w ∈ Ts) {i : Nat} (hi : kd i = 2) {index : Nat} {host : String} (hlink : (Cond.fieldLinkNest own index "BaroRuns$State" "baseHeight" "I" host).before args s = true) {x : Int32} (hdg : decode cc pc = .ok (.putfield index, 3)) (k : wAt p l e R s m args below meth c Q nL G (st M i 4 x) (pc + 3) lv rest) : wAt p l e R s m args below meth c Q nL G M pc lv (.int x :: .ref (ga G i) :: rest) := wa_putN hC hin tyX2_ok nmX2 hi (by decide) (ce2 hi) rfl 4 (by decide) hlink rfl rfl rfl (Nat.le_of_ble_eq_true rfl) (fun j hj => ce_st hj) (by rw [ce2 hi]; simp [st, stL]) hdg k
theorem rg2_5 (hC : wC p m c cc nL s args Ts own G) (hin : ∀ w ∈ u_ws RX2 TX2 7, w ∈ Ts) {i : Nat} (hi : kd i = 2) {index : Nat} (hlink : Cond.fieldLink own index "BaroRuns$State" "gustLimit" "I" ∈ Ts) (hdg : decode cc pc = .ok (.getfield index, 3)) (k : wAt p l e R s m args below meth c Q nL G M (pc + 3) lv (.int (M.1 i 5) :: rest)) : wAt p l e R s m args below meth c Q nL G M pc lv (.ref (ga G i) :: rest) := wa_get hC hin hi (by decide) (ce2 hi) rfl 5 (by decide) hlink rfl hdg k
theorem rp2_5 (hC : wC p m c cc nL s args Ts own G) (hin : ∀ w ∈ u_ws RX2 TX2 7, w ∈ Ts) {i : Nat} (hi : kd i = 2) {index : Nat} (hlink : Cond.fieldLink own index "BaroRuns$State" "gustLimit" "I" ∈ Ts) {x : Int32} (hdg : decode cc pc = .ok (.putfield index, 3)) (k : wAt p l e R s m args below meth c Q nL G (st M i 5 x) (pc + 3) lv rest) : wAt p l e R s m args below meth c Q nL G M pc lv (.int x :: .ref (ga G i) :: rest) := wa_put hC hin tyX2_ok nmX2 hi (by decide) (ce2 hi) rfl 5 (by decide) hlink rfl rfl rfl (Nat.le_of_ble_eq_true rfl) (fun j hj => ce_st hj) (by rw [ce2 hi]; simp [st, stL]) hdg k
theorem rgn2_5 (hC : wC p m c cc nL s args Ts own G) (hin : ∀ w ∈ u_ws RX2 TX2 7, w ∈ Ts) {i : Nat} (hi : kd i = 2) {index : Nat} {host : String} (hlink : (Cond.fieldLinkNest own index "BaroRuns$State" "gustLimit" "I" host).before args s = true) (hdg : decode cc pc = .ok (.getfield index, 3)) (k : wAt p l e R s m args below meth c Q nL G M (pc + 3) lv (.int (M.1 i 5) :: rest)) : wAt p l e R s m args below meth c Q nL G M pc lv (.ref (ga G i) :: rest) := wa_getN hC hin hi (by decide) (ce2 hi) rfl 5 (by decide) hlink rfl hdg k
theorem rpn2_5 (hC : wC p m c cc nL s args Ts own G) (hin : ∀ w ∈ u_ws RX2 TX2 7, w ∈ Ts) {i : Nat} (hi : kd i = 2) {index : Nat} {host : String} (hlink : (Cond.fieldLinkNest own index "BaroRuns$State" "gustLimit" "I" host).before args s = true) {x : Int32} (hdg : decode cc pc = .ok (.putfield index, 3)) (k : wAt p l e R s m args below meth c Q nL G (st M i 5 x) (pc + 3) lv rest) : wAt p l e R s m args below meth c Q nL G M pc lv (.int x :: .ref (ga G i) :: rest) := wa_putN hC hin tyX2_ok nmX2 hi (by decide) (ce2 hi) rfl 5 (by decide) hlink rfl rfl rfl (Nat.le_of_ble_eq_true rfl) (fun j hj => ce_st hj) (by rw [ce2 hi]; simp [st, stL]) hdg k
theorem rg2_6 (hC : wC p m c cc nL s args Ts own G) (hin : ∀ w ∈ u_ws RX2 TX2 7, w ∈ Ts) {i : Nat} (hi : kd i = 2) {index : Nat} (hlink : Cond.fieldLink own index "BaroRuns$State" "stepLimit" "I" ∈ Ts) (hdg : decode cc pc = .ok (.getfield index, 3)) (k : wAt p l e R s m args below meth c Q nL G M (pc + 3) lv (.int (M.1 i 6) :: rest)) : wAt p l e R s m args below meth c Q nL G M pc lv (.ref (ga G i) :: rest) := wa_get hC hin hi (by decide) (ce2 hi) rfl 6 (by decide) hlink rfl hdg k
theorem rp2_6 (hC : wC p m c cc nL s args Ts own G) (hin : ∀ w ∈ u_ws RX2 TX2 7, w ∈ Ts) {i : Nat} (hi : kd i = 2) {index : Nat} (hlink : Cond.fieldLink own index "BaroRuns$State" "stepLimit" "I" ∈ Ts) {x : Int32} (hdg : decode cc pc = .ok (.putfield index, 3)) (k : wAt p l e R s m args below meth c Q nL G (st M i 6 x) (pc + 3) lv rest) : wAt p l e R s m args below meth c Q nL G M pc lv (.int x :: .ref (ga G i) :: rest) := wa_put hC hin tyX2_ok nmX2 hi (by decide) (ce2 hi) rfl 6 (by decide) hlink rfl rfl rfl (Nat.le_of_ble_eq_true rfl) (fun j hj => ce_st hj) (by rw [ce2 hi]; simp [st, stL]) hdg k
theorem rgn2_6 (hC : wC p m c cc nL s args Ts own G) (hin : ∀ w ∈ u_ws RX2 TX2 7, w ∈ Ts) {i : Nat} (hi : kd i = 2) {index : Nat} {host : String} (hlink : (Cond.fieldLinkNest own index "BaroRuns$State" "stepLimit" "I" host).before args s = true) (hdg : decode cc pc = .ok (.getfield index, 3)) (k : wAt p l e R s m args below meth c Q nL G M (pc + 3) lv (.int (M.1 i 6) :: rest)) : wAt p l e R s m args below meth c Q nL G M pc lv (.ref (ga G i) :: rest) := wa_getN hC hin hi (by decide) (ce2 hi) rfl 6 (by decide) hlink rfl hdg k
theorem rpn2_6 (hC : wC p m c cc nL s args Ts own G) (hin : ∀ w ∈ u_ws RX2 TX2 7, w ∈ Ts) {i : Nat} (hi : kd i = 2) {index : Nat} {host : String} (hlink : (Cond.fieldLinkNest own index "BaroRuns$State" "stepLimit" "I" host).before args s = true) {x : Int32} (hdg : decode cc pc = .ok (.putfield index, 3)) (k : wAt p l e R s m args below meth c Q nL G (st M i 6 x) (pc + 3) lv rest) : wAt p l e R s m args below meth c Q nL G M pc lv (.int x :: .ref (ga G i) :: rest) := wa_putN hC hin tyX2_ok nmX2 hi (by decide) (ce2 hi) rfl 6 (by decide) hlink rfl rfl rfl (Nat.le_of_ble_eq_true rfl) (fun j hj => ce_st hj) (by rw [ce2 hi]; simp [st, stL]) hdg k
theorem rg3_0 (hC : wC p m c cc nL s args Ts own G) (hin : ∀ w ∈ u_ws RX3 TX3 12, w ∈ Ts) {i : Nat} (hi : kd i = 3) {index : Nat} (hlink : Cond.fieldLink own index "BaroRuns$Survey" "times" "[I" ∈ Ts) (hdg : decode cc pc = .ok (.getfield index, 3)) (k : wAt p l e R s m args below meth c Q nL G M (pc + 3) lv (.ref (ga G (i + 1)) :: rest)) : wAt p l e R s m args below meth c Q nL G M pc lv (.ref (ga G i) :: rest) := wa_get hC hin hi (by decide) (ce3 hi) rfl 0 (by decide) hlink rfl hdg k
theorem rgn3_0 (hC : wC p m c cc nL s args Ts own G) (hin : ∀ w ∈ u_ws RX3 TX3 12, w ∈ Ts) {i : Nat} (hi : kd i = 3) {index : Nat} {host : String} (hlink : (Cond.fieldLinkNest own index "BaroRuns$Survey" "times" "[I" host).before args s = true) (hdg : decode cc pc = .ok (.getfield index, 3)) (k : wAt p l e R s m args below meth c Q nL G M (pc + 3) lv (.ref (ga G (i + 1)) :: rest)) : wAt p l e R s m args below meth c Q nL G M pc lv (.ref (ga G i) :: rest) := wa_getN hC hin hi (by decide) (ce3 hi) rfl 0 (by decide) hlink rfl hdg k
theorem rg3_1 (hC : wC p m c cc nL s args Ts own G) (hin : ∀ w ∈ u_ws RX3 TX3 12, w ∈ Ts) {i : Nat} (hi : kd i = 3) {index : Nat} (hlink : Cond.fieldLink own index "BaroRuns$Survey" "points" "[I" ∈ Ts) (hdg : decode cc pc = .ok (.getfield index, 3)) (k : wAt p l e R s m args below meth c Q nL G M (pc + 3) lv (.ref (ga G (i + 2)) :: rest)) : wAt p l e R s m args below meth c Q nL G M pc lv (.ref (ga G i) :: rest) := wa_get hC hin hi (by decide) (ce3 hi) rfl 1 (by decide) hlink rfl hdg k
theorem rgn3_1 (hC : wC p m c cc nL s args Ts own G) (hin : ∀ w ∈ u_ws RX3 TX3 12, w ∈ Ts) {i : Nat} (hi : kd i = 3) {index : Nat} {host : String} (hlink : (Cond.fieldLinkNest own index "BaroRuns$Survey" "points" "[I" host).before args s = true) (hdg : decode cc pc = .ok (.getfield index, 3)) (k : wAt p l e R s m args below meth c Q nL G M (pc + 3) lv (.ref (ga G (i + 2)) :: rest)) : wAt p l e R s m args below meth c Q nL G M pc lv (.ref (ga G i) :: rest) := wa_getN hC hin hi (by decide) (ce3 hi) rfl 1 (by decide) hlink rfl hdg k
theorem rg3_2 (hC : wC p m c cc nL s args Ts own G) (hin : ∀ w ∈ u_ws RX3 TX3 12, w ∈ Ts) {i : Nat} (hi : kd i = 3) {index : Nat} (hlink : Cond.fieldLink own index "BaroRuns$Survey" "heights" "[I" ∈ Ts) (hdg : decode cc pc = .ok (.getfield index, 3)) (k : wAt p l e R s m args below meth c Q nL G M (pc + 3) lv (.ref (ga G (i + 3)) :: rest)) : wAt p l e R s m args below meth c Q nL G M pc lv (.ref (ga G i) :: rest) := wa_get hC hin hi (by decide) (ce3 hi) rfl 2 (by decide) hlink rfl hdg k
theorem rgn3_2 (hC : wC p m c cc nL s args Ts own G) (hin : ∀ w ∈ u_ws RX3 TX3 12, w ∈ Ts) {i : Nat} (hi : kd i = 3) {index : Nat} {host : String} (hlink : (Cond.fieldLinkNest own index "BaroRuns$Survey" "heights" "[I" host).before args s = true) (hdg : decode cc pc = .ok (.getfield index, 3)) (k : wAt p l e R s m args below meth c Q nL G M (pc + 3) lv (.ref (ga G (i + 3)) :: rest)) : wAt p l e R s m args below meth c Q nL G M pc lv (.ref (ga G i) :: rest) := wa_getN hC hin hi (by decide) (ce3 hi) rfl 2 (by decide) hlink rfl hdg k
theorem rg3_3 (hC : wC p m c cc nL s args Ts own G) (hin : ∀ w ∈ u_ws RX3 TX3 12, w ∈ Ts) {i : Nat} (hi : kd i = 3) {index : Nat} (hlink : Cond.fieldLink own index "BaroRuns$Survey" "gusts" "[I" ∈ Ts) (hdg : decode cc pc = .ok (.getfield index, 3)) (k : wAt p l e R s m args below meth c Q nL G M (pc + 3) lv (.ref (ga G (i + 4)) :: rest)) : wAt p l e R s m args below meth c Q nL G M pc lv (.ref (ga G i) :: rest) := wa_get hC hin hi (by decide) (ce3 hi) rfl 3 (by decide) hlink rfl hdg k
theorem rgn3_3 (hC : wC p m c cc nL s args Ts own G) (hin : ∀ w ∈ u_ws RX3 TX3 12, w ∈ Ts) {i : Nat} (hi : kd i = 3) {index : Nat} {host : String} (hlink : (Cond.fieldLinkNest own index "BaroRuns$Survey" "gusts" "[I" host).before args s = true) (hdg : decode cc pc = .ok (.getfield index, 3)) (k : wAt p l e R s m args below meth c Q nL G M (pc + 3) lv (.ref (ga G (i + 4)) :: rest)) : wAt p l e R s m args below meth c Q nL G M pc lv (.ref (ga G i) :: rest) := wa_getN hC hin hi (by decide) (ce3 hi) rfl 3 (by decide) hlink rfl hdg k
theorem rg3_4 (hC : wC p m c cc nL s args Ts own G) (hin : ∀ w ∈ u_ws RX3 TX3 12, w ∈ Ts) {i : Nat} (hi : kd i = 3) {index : Nat} (hlink : Cond.fieldLink own index "BaroRuns$Survey" "openLoops" "[I" ∈ Ts) (hdg : decode cc pc = .ok (.getfield index, 3)) (k : wAt p l e R s m args below meth c Q nL G M (pc + 3) lv (.ref (ga G (i + 5)) :: rest)) : wAt p l e R s m args below meth c Q nL G M pc lv (.ref (ga G i) :: rest) := wa_get hC hin hi (by decide) (ce3 hi) rfl 4 (by decide) hlink rfl hdg k
theorem rgn3_4 (hC : wC p m c cc nL s args Ts own G) (hin : ∀ w ∈ u_ws RX3 TX3 12, w ∈ Ts) {i : Nat} (hi : kd i = 3) {index : Nat} {host : String} (hlink : (Cond.fieldLinkNest own index "BaroRuns$Survey" "openLoops" "[I" host).before args s = true) (hdg : decode cc pc = .ok (.getfield index, 3)) (k : wAt p l e R s m args below meth c Q nL G M (pc + 3) lv (.ref (ga G (i + 5)) :: rest)) : wAt p l e R s m args below meth c Q nL G M pc lv (.ref (ga G i) :: rest) := wa_getN hC hin hi (by decide) (ce3 hi) rfl 4 (by decide) hlink rfl hdg k
theorem rg3_5 (hC : wC p m c cc nL s args Ts own G) (hin : ∀ w ∈ u_ws RX3 TX3 12, w ∈ Ts) {i : Nat} (hi : kd i = 3) {index : Nat} (hlink : Cond.fieldLink own index "BaroRuns$Survey" "correctedHeights" "[I" ∈ Ts) (hdg : decode cc pc = .ok (.getfield index, 3)) (k : wAt p l e R s m args below meth c Q nL G M (pc + 3) lv (.ref (ga G (i + 6)) :: rest)) : wAt p l e R s m args below meth c Q nL G M pc lv (.ref (ga G i) :: rest) := wa_get hC hin hi (by decide) (ce3 hi) rfl 5 (by decide) hlink rfl hdg k
theorem rgn3_5 (hC : wC p m c cc nL s args Ts own G) (hin : ∀ w ∈ u_ws RX3 TX3 12, w ∈ Ts) {i : Nat} (hi : kd i = 3) {index : Nat} {host : String} (hlink : (Cond.fieldLinkNest own index "BaroRuns$Survey" "correctedHeights" "[I" host).before args s = true) (hdg : decode cc pc = .ok (.getfield index, 3)) (k : wAt p l e R s m args below meth c Q nL G M (pc + 3) lv (.ref (ga G (i + 6)) :: rest)) : wAt p l e R s m args below meth c Q nL G M pc lv (.ref (ga G i) :: rest) := wa_getN hC hin hi (by decide) (ce3 hi) rfl 5 (by decide) hlink rfl hdg k
theorem rg3_6 (hC : wC p m c cc nL s args Ts own G) (hin : ∀ w ∈ u_ws RX3 TX3 12, w ∈ Ts) {i : Nat} (hi : kd i = 3) {index : Nat} (hlink : Cond.fieldLink own index "BaroRuns$Survey" "begins" "[I" ∈ Ts) (hdg : decode cc pc = .ok (.getfield index, 3)) (k : wAt p l e R s m args below meth c Q nL G M (pc + 3) lv (.ref (ga G (i + 7)) :: rest)) : wAt p l e R s m args below meth c Q nL G M pc lv (.ref (ga G i) :: rest) := wa_get hC hin hi (by decide) (ce3 hi) rfl 6 (by decide) hlink rfl hdg k
theorem rgn3_6 (hC : wC p m c cc nL s args Ts own G) (hin : ∀ w ∈ u_ws RX3 TX3 12, w ∈ Ts) {i : Nat} (hi : kd i = 3) {index : Nat} {host : String} (hlink : (Cond.fieldLinkNest own index "BaroRuns$Survey" "begins" "[I" host).before args s = true) (hdg : decode cc pc = .ok (.getfield index, 3)) (k : wAt p l e R s m args below meth c Q nL G M (pc + 3) lv (.ref (ga G (i + 7)) :: rest)) : wAt p l e R s m args below meth c Q nL G M pc lv (.ref (ga G i) :: rest) := wa_getN hC hin hi (by decide) (ce3 hi) rfl 6 (by decide) hlink rfl hdg k
theorem rg3_7 (hC : wC p m c cc nL s args Ts own G) (hin : ∀ w ∈ u_ws RX3 TX3 12, w ∈ Ts) {i : Nat} (hi : kd i = 3) {index : Nat} (hlink : Cond.fieldLink own index "BaroRuns$Survey" "ends" "[I" ∈ Ts) (hdg : decode cc pc = .ok (.getfield index, 3)) (k : wAt p l e R s m args below meth c Q nL G M (pc + 3) lv (.ref (ga G (i + 8)) :: rest)) : wAt p l e R s m args below meth c Q nL G M pc lv (.ref (ga G i) :: rest) := wa_get hC hin hi (by decide) (ce3 hi) rfl 7 (by decide) hlink rfl hdg k
theorem rgn3_7 (hC : wC p m c cc nL s args Ts own G) (hin : ∀ w ∈ u_ws RX3 TX3 12, w ∈ Ts) {i : Nat} (hi : kd i = 3) {index : Nat} {host : String} (hlink : (Cond.fieldLinkNest own index "BaroRuns$Survey" "ends" "[I" host).before args s = true) (hdg : decode cc pc = .ok (.getfield index, 3)) (k : wAt p l e R s m args below meth c Q nL G M (pc + 3) lv (.ref (ga G (i + 8)) :: rest)) : wAt p l e R s m args below meth c Q nL G M pc lv (.ref (ga G i) :: rest) := wa_getN hC hin hi (by decide) (ce3 hi) rfl 7 (by decide) hlink rfl hdg k
theorem rg3_8 (hC : wC p m c cc nL s args Ts own G) (hin : ∀ w ∈ u_ws RX3 TX3 12, w ∈ Ts) {i : Nat} (hi : kd i = 3) {index : Nat} (hlink : Cond.fieldLink own index "BaroRuns$Survey" "size" "I" ∈ Ts) (hdg : decode cc pc = .ok (.getfield index, 3)) (k : wAt p l e R s m args below meth c Q nL G M (pc + 3) lv (.int (M.1 i 8) :: rest)) : wAt p l e R s m args below meth c Q nL G M pc lv (.ref (ga G i) :: rest) := wa_get hC hin hi (by decide) (ce3 hi) rfl 8 (by decide) hlink rfl hdg k
theorem rp3_8 (hC : wC p m c cc nL s args Ts own G) (hin : ∀ w ∈ u_ws RX3 TX3 12, w ∈ Ts) {i : Nat} (hi : kd i = 3) {index : Nat} (hlink : Cond.fieldLink own index "BaroRuns$Survey" "size" "I" ∈ Ts) {x : Int32} (hdg : decode cc pc = .ok (.putfield index, 3)) (k : wAt p l e R s m args below meth c Q nL G (st M i 8 x) (pc + 3) lv rest) : wAt p l e R s m args below meth c Q nL G M pc lv (.int x :: .ref (ga G i) :: rest) := wa_put hC hin tyX3_ok nmX3 hi (by decide) (ce3 hi) rfl 8 (by decide) hlink rfl rfl rfl (Nat.le_of_ble_eq_true rfl) (fun j hj => ce_st hj) (by rw [ce3 hi]; simp [st, stL]) hdg k
theorem rgn3_8 (hC : wC p m c cc nL s args Ts own G) (hin : ∀ w ∈ u_ws RX3 TX3 12, w ∈ Ts) {i : Nat} (hi : kd i = 3) {index : Nat} {host : String} (hlink : (Cond.fieldLinkNest own index "BaroRuns$Survey" "size" "I" host).before args s = true) (hdg : decode cc pc = .ok (.getfield index, 3)) (k : wAt p l e R s m args below meth c Q nL G M (pc + 3) lv (.int (M.1 i 8) :: rest)) : wAt p l e R s m args below meth c Q nL G M pc lv (.ref (ga G i) :: rest) := wa_getN hC hin hi (by decide) (ce3 hi) rfl 8 (by decide) hlink rfl hdg k
theorem rpn3_8 (hC : wC p m c cc nL s args Ts own G) (hin : ∀ w ∈ u_ws RX3 TX3 12, w ∈ Ts) {i : Nat} (hi : kd i = 3) {index : Nat} {host : String} (hlink : (Cond.fieldLinkNest own index "BaroRuns$Survey" "size" "I" host).before args s = true) {x : Int32} (hdg : decode cc pc = .ok (.putfield index, 3)) (k : wAt p l e R s m args below meth c Q nL G (st M i 8 x) (pc + 3) lv rest) : wAt p l e R s m args below meth c Q nL G M pc lv (.int x :: .ref (ga G i) :: rest) := wa_putN hC hin tyX3_ok nmX3 hi (by decide) (ce3 hi) rfl 8 (by decide) hlink rfl rfl rfl (Nat.le_of_ble_eq_true rfl) (fun j hj => ce_st hj) (by rw [ce3 hi]; simp [st, stL]) hdg k
theorem rg3_9 (hC : wC p m c cc nL s args Ts own G) (hin : ∀ w ∈ u_ws RX3 TX3 12, w ∈ Ts) {i : Nat} (hi : kd i = 3) {index : Nat} (hlink : Cond.fieldLink own index "BaroRuns$Survey" "gustCount" "I" ∈ Ts) (hdg : decode cc pc = .ok (.getfield index, 3)) (k : wAt p l e R s m args below meth c Q nL G M (pc + 3) lv (.int (M.1 i 9) :: rest)) : wAt p l e R s m args below meth c Q nL G M pc lv (.ref (ga G i) :: rest) := wa_get hC hin hi (by decide) (ce3 hi) rfl 9 (by decide) hlink rfl hdg k
theorem rp3_9 (hC : wC p m c cc nL s args Ts own G) (hin : ∀ w ∈ u_ws RX3 TX3 12, w ∈ Ts) {i : Nat} (hi : kd i = 3) {index : Nat} (hlink : Cond.fieldLink own index "BaroRuns$Survey" "gustCount" "I" ∈ Ts) {x : Int32} (hdg : decode cc pc = .ok (.putfield index, 3)) (k : wAt p l e R s m args below meth c Q nL G (st M i 9 x) (pc + 3) lv rest) : wAt p l e R s m args below meth c Q nL G M pc lv (.int x :: .ref (ga G i) :: rest) := wa_put hC hin tyX3_ok nmX3 hi (by decide) (ce3 hi) rfl 9 (by decide) hlink rfl rfl rfl (Nat.le_of_ble_eq_true rfl) (fun j hj => ce_st hj) (by rw [ce3 hi]; simp [st, stL]) hdg k
theorem rgn3_9 (hC : wC p m c cc nL s args Ts own G) (hin : ∀ w ∈ u_ws RX3 TX3 12, w ∈ Ts) {i : Nat} (hi : kd i = 3) {index : Nat} {host : String} (hlink : (Cond.fieldLinkNest own index "BaroRuns$Survey" "gustCount" "I" host).before args s = true) (hdg : decode cc pc = .ok (.getfield index, 3)) (k : wAt p l e R s m args below meth c Q nL G M (pc + 3) lv (.int (M.1 i 9) :: rest)) : wAt p l e R s m args below meth c Q nL G M pc lv (.ref (ga G i) :: rest) := wa_getN hC hin hi (by decide) (ce3 hi) rfl 9 (by decide) hlink rfl hdg k
theorem rpn3_9 (hC : wC p m c cc nL s args Ts own G) (hin : ∀ w ∈ u_ws RX3 TX3 12, w ∈ Ts) {i : Nat} (hi : kd i = 3) {index : Nat} {host : String} (hlink : (Cond.fieldLinkNest own index "BaroRuns$Survey" "gustCount" "I" host).before args s = true) {x : Int32} (hdg : decode cc pc = .ok (.putfield index, 3)) (k : wAt p l e R s m args below meth c Q nL G (st M i 9 x) (pc + 3) lv rest) : wAt p l e R s m args below meth c Q nL G M pc lv (.int x :: .ref (ga G i) :: rest) := wa_putN hC hin tyX3_ok nmX3 hi (by decide) (ce3 hi) rfl 9 (by decide) hlink rfl rfl rfl (Nat.le_of_ble_eq_true rfl) (fun j hj => ce_st hj) (by rw [ce3 hi]; simp [st, stL]) hdg k
theorem rg3_10 (hC : wC p m c cc nL s args Ts own G) (hin : ∀ w ∈ u_ws RX3 TX3 12, w ∈ Ts) {i : Nat} (hi : kd i = 3) {index : Nat} (hlink : Cond.fieldLink own index "BaroRuns$Survey" "goodCount" "I" ∈ Ts) (hdg : decode cc pc = .ok (.getfield index, 3)) (k : wAt p l e R s m args below meth c Q nL G M (pc + 3) lv (.int (M.1 i 10) :: rest)) : wAt p l e R s m args below meth c Q nL G M pc lv (.ref (ga G i) :: rest) := wa_get hC hin hi (by decide) (ce3 hi) rfl 10 (by decide) hlink rfl hdg k
theorem rp3_10 (hC : wC p m c cc nL s args Ts own G) (hin : ∀ w ∈ u_ws RX3 TX3 12, w ∈ Ts) {i : Nat} (hi : kd i = 3) {index : Nat} (hlink : Cond.fieldLink own index "BaroRuns$Survey" "goodCount" "I" ∈ Ts) {x : Int32} (hdg : decode cc pc = .ok (.putfield index, 3)) (k : wAt p l e R s m args below meth c Q nL G (st M i 10 x) (pc + 3) lv rest) : wAt p l e R s m args below meth c Q nL G M pc lv (.int x :: .ref (ga G i) :: rest) := wa_put hC hin tyX3_ok nmX3 hi (by decide) (ce3 hi) rfl 10 (by decide) hlink rfl rfl rfl (Nat.le_of_ble_eq_true rfl) (fun j hj => ce_st hj) (by rw [ce3 hi]; simp [st, stL]) hdg k
theorem rgn3_10 (hC : wC p m c cc nL s args Ts own G) (hin : ∀ w ∈ u_ws RX3 TX3 12, w ∈ Ts) {i : Nat} (hi : kd i = 3) {index : Nat} {host : String} (hlink : (Cond.fieldLinkNest own index "BaroRuns$Survey" "goodCount" "I" host).before args s = true) (hdg : decode cc pc = .ok (.getfield index, 3)) (k : wAt p l e R s m args below meth c Q nL G M (pc + 3) lv (.int (M.1 i 10) :: rest)) : wAt p l e R s m args below meth c Q nL G M pc lv (.ref (ga G i) :: rest) := wa_getN hC hin hi (by decide) (ce3 hi) rfl 10 (by decide) hlink rfl hdg k
theorem rpn3_10 (hC : wC p m c cc nL s args Ts own G) (hin : ∀ w ∈ u_ws RX3 TX3 12, w ∈ Ts) {i : Nat} (hi : kd i = 3) {index : Nat} {host : String} (hlink : (Cond.fieldLinkNest own index "BaroRuns$Survey" "goodCount" "I" host).before args s = true) {x : Int32} (hdg : decode cc pc = .ok (.putfield index, 3)) (k : wAt p l e R s m args below meth c Q nL G (st M i 10 x) (pc + 3) lv rest) : wAt p l e R s m args below meth c Q nL G M pc lv (.int x :: .ref (ga G i) :: rest) := wa_putN hC hin tyX3_ok nmX3 hi (by decide) (ce3 hi) rfl 10 (by decide) hlink rfl rfl rfl (Nat.le_of_ble_eq_true rfl) (fun j hj => ce_st hj) (by rw [ce3 hi]; simp [st, stL]) hdg k
theorem rg3_11 (hC : wC p m c cc nL s args Ts own G) (hin : ∀ w ∈ u_ws RX3 TX3 12, w ∈ Ts) {i : Nat} (hi : kd i = 3) {index : Nat} (hlink : Cond.fieldLink own index "BaroRuns$Survey" "loopCount" "I" ∈ Ts) (hdg : decode cc pc = .ok (.getfield index, 3)) (k : wAt p l e R s m args below meth c Q nL G M (pc + 3) lv (.int (M.1 i 11) :: rest)) : wAt p l e R s m args below meth c Q nL G M pc lv (.ref (ga G i) :: rest) := wa_get hC hin hi (by decide) (ce3 hi) rfl 11 (by decide) hlink rfl hdg k
theorem rp3_11 (hC : wC p m c cc nL s args Ts own G) (hin : ∀ w ∈ u_ws RX3 TX3 12, w ∈ Ts) {i : Nat} (hi : kd i = 3) {index : Nat} (hlink : Cond.fieldLink own index "BaroRuns$Survey" "loopCount" "I" ∈ Ts) {x : Int32} (hdg : decode cc pc = .ok (.putfield index, 3)) (k : wAt p l e R s m args below meth c Q nL G (st M i 11 x) (pc + 3) lv rest) : wAt p l e R s m args below meth c Q nL G M pc lv (.int x :: .ref (ga G i) :: rest) := wa_put hC hin tyX3_ok nmX3 hi (by decide) (ce3 hi) rfl 11 (by decide) hlink rfl rfl rfl (Nat.le_of_ble_eq_true rfl) (fun j hj => ce_st hj) (by rw [ce3 hi]; simp [st, stL]) hdg k
theorem rgn3_11 (hC : wC p m c cc nL s args Ts own G) (hin : ∀ w ∈ u_ws RX3 TX3 12, w ∈ Ts) {i : Nat} (hi : kd i = 3) {index : Nat} {host : String} (hlink : (Cond.fieldLinkNest own index "BaroRuns$Survey" "loopCount" "I" host).before args s = true) (hdg : decode cc pc = .ok (.getfield index, 3)) (k : wAt p l e R s m args below meth c Q nL G M (pc + 3) lv (.int (M.1 i 11) :: rest)) : wAt p l e R s m args below meth c Q nL G M pc lv (.ref (ga G i) :: rest) := wa_getN hC hin hi (by decide) (ce3 hi) rfl 11 (by decide) hlink rfl hdg k
theorem rpn3_11 (hC : wC p m c cc nL s args Ts own G) (hin : ∀ w ∈ u_ws RX3 TX3 12, w ∈ Ts) {i : Nat} (hi : kd i = 3) {index : Nat} {host : String} (hlink : (Cond.fieldLinkNest own index "BaroRuns$Survey" "loopCount" "I" host).before args s = true) {x : Int32} (hdg : decode cc pc = .ok (.putfield index, 3)) (k : wAt p l e R s m args below meth c Q nL G (st M i 11 x) (pc + 3) lv rest) : wAt p l e R s m args below meth c Q nL G M pc lv (.int x :: .ref (ga G i) :: rest) := wa_putN hC hin tyX3_ok nmX3 hi (by decide) (ce3 hi) rfl 11 (by decide) hlink rfl rfl rfl (Nat.le_of_ble_eq_true rfl) (fun j hj => ce_st hj) (by rw [ce3 hi]; simp [st, stL]) hdg k
theorem rg4_0 (hC : wC p m c cc nL s args Ts own G) (hin : ∀ w ∈ u_ws RX4 TX4 11, w ∈ Ts) {i : Nat} (hi : kd i = 4) {index : Nat} (hlink : Cond.fieldLink own index "BaroRuns$Text" "characters" "[I" ∈ Ts) (hdg : decode cc pc = .ok (.getfield index, 3)) (k : wAt p l e R s m args below meth c Q nL G M (pc + 3) lv (.ref (ga G (i + 1)) :: rest)) : wAt p l e R s m args below meth c Q nL G M pc lv (.ref (ga G i) :: rest) := wa_get hC hin hi (by decide) (ce4 hi) rfl 0 (by decide) hlink rfl hdg k
theorem rgn4_0 (hC : wC p m c cc nL s args Ts own G) (hin : ∀ w ∈ u_ws RX4 TX4 11, w ∈ Ts) {i : Nat} (hi : kd i = 4) {index : Nat} {host : String} (hlink : (Cond.fieldLinkNest own index "BaroRuns$Text" "characters" "[I" host).before args s = true) (hdg : decode cc pc = .ok (.getfield index, 3)) (k : wAt p l e R s m args below meth c Q nL G M (pc + 3) lv (.ref (ga G (i + 1)) :: rest)) : wAt p l e R s m args below meth c Q nL G M pc lv (.ref (ga G i) :: rest) := wa_getN hC hin hi (by decide) (ce4 hi) rfl 0 (by decide) hlink rfl hdg k
theorem rg4_1 (hC : wC p m c cc nL s args Ts own G) (hin : ∀ w ∈ u_ws RX4 TX4 11, w ∈ Ts) {i : Nat} (hi : kd i = 4) {index : Nat} (hlink : Cond.fieldLink own index "BaroRuns$Text" "length" "I" ∈ Ts) (hdg : decode cc pc = .ok (.getfield index, 3)) (k : wAt p l e R s m args below meth c Q nL G M (pc + 3) lv (.int (M.1 i 1) :: rest)) : wAt p l e R s m args below meth c Q nL G M pc lv (.ref (ga G i) :: rest) := wa_get hC hin hi (by decide) (ce4 hi) rfl 1 (by decide) hlink rfl hdg k
theorem rp4_1 (hC : wC p m c cc nL s args Ts own G) (hin : ∀ w ∈ u_ws RX4 TX4 11, w ∈ Ts) {i : Nat} (hi : kd i = 4) {index : Nat} (hlink : Cond.fieldLink own index "BaroRuns$Text" "length" "I" ∈ Ts) {x : Int32} (hdg : decode cc pc = .ok (.putfield index, 3)) (k : wAt p l e R s m args below meth c Q nL G (st M i 1 x) (pc + 3) lv rest) : wAt p l e R s m args below meth c Q nL G M pc lv (.int x :: .ref (ga G i) :: rest) := wa_put hC hin tyX4_ok nmX4 hi (by decide) (ce4 hi) rfl 1 (by decide) hlink rfl rfl rfl (Nat.le_of_ble_eq_true rfl) (fun j hj => ce_st hj) (by rw [ce4 hi]; simp [st, stL]) hdg k
theorem rgn4_1 (hC : wC p m c cc nL s args Ts own G) (hin : ∀ w ∈ u_ws RX4 TX4 11, w ∈ Ts) {i : Nat} (hi : kd i = 4) {index : Nat} {host : String} (hlink : (Cond.fieldLinkNest own index "BaroRuns$Text" "length" "I" host).before args s = true) (hdg : decode cc pc = .ok (.getfield index, 3)) (k : wAt p l e R s m args below meth c Q nL G M (pc + 3) lv (.int (M.1 i 1) :: rest)) : wAt p l e R s m args below meth c Q nL G M pc lv (.ref (ga G i) :: rest) := wa_getN hC hin hi (by decide) (ce4 hi) rfl 1 (by decide) hlink rfl hdg k
theorem rpn4_1 (hC : wC p m c cc nL s args Ts own G) (hin : ∀ w ∈ u_ws RX4 TX4 11, w ∈ Ts) {i : Nat} (hi : kd i = 4) {index : Nat} {host : String} (hlink : (Cond.fieldLinkNest own index "BaroRuns$Text" "length" "I" host).before args s = true) {x : Int32} (hdg : decode cc pc = .ok (.putfield index, 3)) (k : wAt p l e R s m args below meth c Q nL G (st M i 1 x) (pc + 3) lv rest) : wAt p l e R s m args below meth c Q nL G M pc lv (.int x :: .ref (ga G i) :: rest) := wa_putN hC hin tyX4_ok nmX4 hi (by decide) (ce4 hi) rfl 1 (by decide) hlink rfl rfl rfl (Nat.le_of_ble_eq_true rfl) (fun j hj => ce_st hj) (by rw [ce4 hi]; simp [st, stL]) hdg k
theorem rg4_2 (hC : wC p m c cc nL s args Ts own G) (hin : ∀ w ∈ u_ws RX4 TX4 11, w ∈ Ts) {i : Nat} (hi : kd i = 4) {index : Nat} (hlink : Cond.fieldLink own index "BaroRuns$Text" "position" "I" ∈ Ts) (hdg : decode cc pc = .ok (.getfield index, 3)) (k : wAt p l e R s m args below meth c Q nL G M (pc + 3) lv (.int (M.1 i 2) :: rest)) : wAt p l e R s m args below meth c Q nL G M pc lv (.ref (ga G i) :: rest) := wa_get hC hin hi (by decide) (ce4 hi) rfl 2 (by decide) hlink rfl hdg k
theorem rp4_2 (hC : wC p m c cc nL s args Ts own G) (hin : ∀ w ∈ u_ws RX4 TX4 11, w ∈ Ts) {i : Nat} (hi : kd i = 4) {index : Nat} (hlink : Cond.fieldLink own index "BaroRuns$Text" "position" "I" ∈ Ts) {x : Int32} (hdg : decode cc pc = .ok (.putfield index, 3)) (k : wAt p l e R s m args below meth c Q nL G (st M i 2 x) (pc + 3) lv rest) : wAt p l e R s m args below meth c Q nL G M pc lv (.int x :: .ref (ga G i) :: rest) := wa_put hC hin tyX4_ok nmX4 hi (by decide) (ce4 hi) rfl 2 (by decide) hlink rfl rfl rfl (Nat.le_of_ble_eq_true rfl) (fun j hj => ce_st hj) (by rw [ce4 hi]; simp [st, stL]) hdg k
theorem rgn4_2 (hC : wC p m c cc nL s args Ts own G) (hin : ∀ w ∈ u_ws RX4 TX4 11, w ∈ Ts) {i : Nat} (hi : kd i = 4) {index : Nat} {host : String} (hlink : (Cond.fieldLinkNest own index "BaroRuns$Text" "position" "I" host).before args s = true) (hdg : decode cc pc = .ok (.getfield index, 3)) (k : wAt p l e R s m args below meth c Q nL G M (pc + 3) lv (.int (M.1 i 2) :: rest)) : wAt p l e R s m args below meth c Q nL G M pc lv (.ref (ga G i) :: rest) := wa_getN hC hin hi (by decide) (ce4 hi) rfl 2 (by decide) hlink rfl hdg k
theorem rpn4_2 (hC : wC p m c cc nL s args Ts own G) (hin : ∀ w ∈ u_ws RX4 TX4 11, w ∈ Ts) {i : Nat} (hi : kd i = 4) {index : Nat} {host : String} (hlink : (Cond.fieldLinkNest own index "BaroRuns$Text" "position" "I" host).before args s = true) {x : Int32} (hdg : decode cc pc = .ok (.putfield index, 3)) (k : wAt p l e R s m args below meth c Q nL G (st M i 2 x) (pc + 3) lv rest) : wAt p l e R s m args below meth c Q nL G M pc lv (.int x :: .ref (ga G i) :: rest) := wa_putN hC hin tyX4_ok nmX4 hi (by decide) (ce4 hi) rfl 2 (by decide) hlink rfl rfl rfl (Nat.le_of_ble_eq_true rfl) (fun j hj => ce_st hj) (by rw [ce4 hi]; simp [st, stL]) hdg k
theorem rg4_3 (hC : wC p m c cc nL s args Ts own G) (hin : ∀ w ∈ u_ws RX4 TX4 11, w ∈ Ts) {i : Nat} (hi : kd i = 4) {index : Nat} (hlink : Cond.fieldLink own index "BaroRuns$Text" "cell" "I" ∈ Ts) (hdg : decode cc pc = .ok (.getfield index, 3)) (k : wAt p l e R s m args below meth c Q nL G M (pc + 3) lv (.int (M.1 i 3) :: rest)) : wAt p l e R s m args below meth c Q nL G M pc lv (.ref (ga G i) :: rest) := wa_get hC hin hi (by decide) (ce4 hi) rfl 3 (by decide) hlink rfl hdg k
theorem rp4_3 (hC : wC p m c cc nL s args Ts own G) (hin : ∀ w ∈ u_ws RX4 TX4 11, w ∈ Ts) {i : Nat} (hi : kd i = 4) {index : Nat} (hlink : Cond.fieldLink own index "BaroRuns$Text" "cell" "I" ∈ Ts) {x : Int32} (hdg : decode cc pc = .ok (.putfield index, 3)) (k : wAt p l e R s m args below meth c Q nL G (st M i 3 x) (pc + 3) lv rest) : wAt p l e R s m args below meth c Q nL G M pc lv (.int x :: .ref (ga G i) :: rest) := wa_put hC hin tyX4_ok nmX4 hi (by decide) (ce4 hi) rfl 3 (by decide) hlink rfl rfl rfl (Nat.le_of_ble_eq_true rfl) (fun j hj => ce_st hj) (by rw [ce4 hi]; simp [st, stL]) hdg k
theorem rgn4_3 (hC : wC p m c cc nL s args Ts own G) (hin : ∀ w ∈ u_ws RX4 TX4 11, w ∈ Ts) {i : Nat} (hi : kd i = 4) {index : Nat} {host : String} (hlink : (Cond.fieldLinkNest own index "BaroRuns$Text" "cell" "I" host).before args s = true) (hdg : decode cc pc = .ok (.getfield index, 3)) (k : wAt p l e R s m args below meth c Q nL G M (pc + 3) lv (.int (M.1 i 3) :: rest)) : wAt p l e R s m args below meth c Q nL G M pc lv (.ref (ga G i) :: rest) := wa_getN hC hin hi (by decide) (ce4 hi) rfl 3 (by decide) hlink rfl hdg k
theorem rpn4_3 (hC : wC p m c cc nL s args Ts own G) (hin : ∀ w ∈ u_ws RX4 TX4 11, w ∈ Ts) {i : Nat} (hi : kd i = 4) {index : Nat} {host : String} (hlink : (Cond.fieldLinkNest own index "BaroRuns$Text" "cell" "I" host).before args s = true) {x : Int32} (hdg : decode cc pc = .ok (.putfield index, 3)) (k : wAt p l e R s m args below meth c Q nL G (st M i 3 x) (pc + 3) lv rest) : wAt p l e R s m args below meth c Q nL G M pc lv (.int x :: .ref (ga G i) :: rest) := wa_putN hC hin tyX4_ok nmX4 hi (by decide) (ce4 hi) rfl 3 (by decide) hlink rfl rfl rfl (Nat.le_of_ble_eq_true rfl) (fun j hj => ce_st hj) (by rw [ce4 hi]; simp [st, stL]) hdg k
theorem rg4_4 (hC : wC p m c cc nL s args Ts own G) (hin : ∀ w ∈ u_ws RX4 TX4 11, w ∈ Ts) {i : Nat} (hi : kd i = 4) {index : Nat} (hlink : Cond.fieldLink own index "BaroRuns$Text" "point" "I" ∈ Ts) (hdg : decode cc pc = .ok (.getfield index, 3)) (k : wAt p l e R s m args below meth c Q nL G M (pc + 3) lv (.int (M.1 i 4) :: rest)) : wAt p l e R s m args below meth c Q nL G M pc lv (.ref (ga G i) :: rest) := wa_get hC hin hi (by decide) (ce4 hi) rfl 4 (by decide) hlink rfl hdg k
theorem rp4_4 (hC : wC p m c cc nL s args Ts own G) (hin : ∀ w ∈ u_ws RX4 TX4 11, w ∈ Ts) {i : Nat} (hi : kd i = 4) {index : Nat} (hlink : Cond.fieldLink own index "BaroRuns$Text" "point" "I" ∈ Ts) {x : Int32} (hdg : decode cc pc = .ok (.putfield index, 3)) (k : wAt p l e R s m args below meth c Q nL G (st M i 4 x) (pc + 3) lv rest) : wAt p l e R s m args below meth c Q nL G M pc lv (.int x :: .ref (ga G i) :: rest) := wa_put hC hin tyX4_ok nmX4 hi (by decide) (ce4 hi) rfl 4 (by decide) hlink rfl rfl rfl (Nat.le_of_ble_eq_true rfl) (fun j hj => ce_st hj) (by rw [ce4 hi]; simp [st, stL]) hdg k
theorem rgn4_4 (hC : wC p m c cc nL s args Ts own G) (hin : ∀ w ∈ u_ws RX4 TX4 11, w ∈ Ts) {i : Nat} (hi : kd i = 4) {index : Nat} {host : String} (hlink : (Cond.fieldLinkNest own index "BaroRuns$Text" "point" "I" host).before args s = true) (hdg : decode cc pc = .ok (.getfield index, 3)) (k : wAt p l e R s m args below meth c Q nL G M (pc + 3) lv (.int (M.1 i 4) :: rest)) : wAt p l e R s m args below meth c Q nL G M pc lv (.ref (ga G i) :: rest) := wa_getN hC hin hi (by decide) (ce4 hi) rfl 4 (by decide) hlink rfl hdg k
theorem rpn4_4 (hC : wC p m c cc nL s args Ts own G) (hin : ∀ w ∈ u_ws RX4 TX4 11, w ∈ Ts) {i : Nat} (hi : kd i = 4) {index : Nat} {host : String} (hlink : (Cond.fieldLinkNest own index "BaroRuns$Text" "point" "I" host).before args s = true) {x : Int32} (hdg : decode cc pc = .ok (.putfield index, 3)) (k : wAt p l e R s m args below meth c Q nL G (st M i 4 x) (pc + 3) lv rest) : wAt p l e R s m args below meth c Q nL G M pc lv (.int x :: .ref (ga G i) :: rest) := wa_putN hC hin tyX4_ok nmX4 hi (by decide) (ce4 hi) rfl 4 (by decide) hlink rfl rfl rfl (Nat.le_of_ble_eq_true rfl) (fun j hj => ce_st hj) (by rw [ce4 hi]; simp [st, stL]) hdg k
theorem rg4_5 (hC : wC p m c cc nL s args Ts own G) (hin : ∀ w ∈ u_ws RX4 TX4 11, w ∈ Ts) {i : Nat} (hi : kd i = 4) {index : Nat} (hlink : Cond.fieldLink own index "BaroRuns$Text" "time" "I" ∈ Ts) (hdg : decode cc pc = .ok (.getfield index, 3)) (k : wAt p l e R s m args below meth c Q nL G M (pc + 3) lv (.int (M.1 i 5) :: rest)) : wAt p l e R s m args below meth c Q nL G M pc lv (.ref (ga G i) :: rest) := wa_get hC hin hi (by decide) (ce4 hi) rfl 5 (by decide) hlink rfl hdg k
theorem rp4_5 (hC : wC p m c cc nL s args Ts own G) (hin : ∀ w ∈ u_ws RX4 TX4 11, w ∈ Ts) {i : Nat} (hi : kd i = 4) {index : Nat} (hlink : Cond.fieldLink own index "BaroRuns$Text" "time" "I" ∈ Ts) {x : Int32} (hdg : decode cc pc = .ok (.putfield index, 3)) (k : wAt p l e R s m args below meth c Q nL G (st M i 5 x) (pc + 3) lv rest) : wAt p l e R s m args below meth c Q nL G M pc lv (.int x :: .ref (ga G i) :: rest) := wa_put hC hin tyX4_ok nmX4 hi (by decide) (ce4 hi) rfl 5 (by decide) hlink rfl rfl rfl (Nat.le_of_ble_eq_true rfl) (fun j hj => ce_st hj) (by rw [ce4 hi]; simp [st, stL]) hdg k
theorem rgn4_5 (hC : wC p m c cc nL s args Ts own G) (hin : ∀ w ∈ u_ws RX4 TX4 11, w ∈ Ts) {i : Nat} (hi : kd i = 4) {index : Nat} {host : String} (hlink : (Cond.fieldLinkNest own index "BaroRuns$Text" "time" "I" host).before args s = true) (hdg : decode cc pc = .ok (.getfield index, 3)) (k : wAt p l e R s m args below meth c Q nL G M (pc + 3) lv (.int (M.1 i 5) :: rest)) : wAt p l e R s m args below meth c Q nL G M pc lv (.ref (ga G i) :: rest) := wa_getN hC hin hi (by decide) (ce4 hi) rfl 5 (by decide) hlink rfl hdg k
theorem rpn4_5 (hC : wC p m c cc nL s args Ts own G) (hin : ∀ w ∈ u_ws RX4 TX4 11, w ∈ Ts) {i : Nat} (hi : kd i = 4) {index : Nat} {host : String} (hlink : (Cond.fieldLinkNest own index "BaroRuns$Text" "time" "I" host).before args s = true) {x : Int32} (hdg : decode cc pc = .ok (.putfield index, 3)) (k : wAt p l e R s m args below meth c Q nL G (st M i 5 x) (pc + 3) lv rest) : wAt p l e R s m args below meth c Q nL G M pc lv (.int x :: .ref (ga G i) :: rest) := wa_putN hC hin tyX4_ok nmX4 hi (by decide) (ce4 hi) rfl 5 (by decide) hlink rfl rfl rfl (Nat.le_of_ble_eq_true rfl) (fun j hj => ce_st hj) (by rw [ce4 hi]; simp [st, stL]) hdg k
theorem rg4_6 (hC : wC p m c cc nL s args Ts own G) (hin : ∀ w ∈ u_ws RX4 TX4 11, w ∈ Ts) {i : Nat} (hi : kd i = 4) {index : Nat} (hlink : Cond.fieldLink own index "BaroRuns$Text" "pressure" "I" ∈ Ts) (hdg : decode cc pc = .ok (.getfield index, 3)) (k : wAt p l e R s m args below meth c Q nL G M (pc + 3) lv (.int (M.1 i 6) :: rest)) : wAt p l e R s m args below meth c Q nL G M pc lv (.ref (ga G i) :: rest) := wa_get hC hin hi (by decide) (ce4 hi) rfl 6 (by decide) hlink rfl hdg k
theorem rp4_6 (hC : wC p m c cc nL s args Ts own G) (hin : ∀ w ∈ u_ws RX4 TX4 11, w ∈ Ts) {i : Nat} (hi : kd i = 4) {index : Nat} (hlink : Cond.fieldLink own index "BaroRuns$Text" "pressure" "I" ∈ Ts) {x : Int32} (hdg : decode cc pc = .ok (.putfield index, 3)) (k : wAt p l e R s m args below meth c Q nL G (st M i 6 x) (pc + 3) lv rest) : wAt p l e R s m args below meth c Q nL G M pc lv (.int x :: .ref (ga G i) :: rest) := wa_put hC hin tyX4_ok nmX4 hi (by decide) (ce4 hi) rfl 6 (by decide) hlink rfl rfl rfl (Nat.le_of_ble_eq_true rfl) (fun j hj => ce_st hj) (by rw [ce4 hi]; simp [st, stL]) hdg k
theorem rgn4_6 (hC : wC p m c cc nL s args Ts own G) (hin : ∀ w ∈ u_ws RX4 TX4 11, w ∈ Ts) {i : Nat} (hi : kd i = 4) {index : Nat} {host : String} (hlink : (Cond.fieldLinkNest own index "BaroRuns$Text" "pressure" "I" host).before args s = true) (hdg : decode cc pc = .ok (.getfield index, 3)) (k : wAt p l e R s m args below meth c Q nL G M (pc + 3) lv (.int (M.1 i 6) :: rest)) : wAt p l e R s m args below meth c Q nL G M pc lv (.ref (ga G i) :: rest) := wa_getN hC hin hi (by decide) (ce4 hi) rfl 6 (by decide) hlink rfl hdg k
theorem rpn4_6 (hC : wC p m c cc nL s args Ts own G) (hin : ∀ w ∈ u_ws RX4 TX4 11, w ∈ Ts) {i : Nat} (hi : kd i = 4) {index : Nat} {host : String} (hlink : (Cond.fieldLinkNest own index "BaroRuns$Text" "pressure" "I" host).before args s = true) {x : Int32} (hdg : decode cc pc = .ok (.putfield index, 3)) (k : wAt p l e R s m args below meth c Q nL G (st M i 6 x) (pc + 3) lv rest) : wAt p l e R s m args below meth c Q nL G M pc lv (.int x :: .ref (ga G i) :: rest) := wa_putN hC hin tyX4_ok nmX4 hi (by decide) (ce4 hi) rfl 6 (by decide) hlink rfl rfl rfl (Nat.le_of_ble_eq_true rfl) (fun j hj => ce_st hj) (by rw [ce4 hi]; simp [st, stL]) hdg k
theorem rg4_7 (hC : wC p m c cc nL s args Ts own G) (hin : ∀ w ∈ u_ws RX4 TX4 11, w ∈ Ts) {i : Nat} (hi : kd i = 4) {index : Nat} (hlink : Cond.fieldLink own index "BaroRuns$Text" "temperature" "I" ∈ Ts) (hdg : decode cc pc = .ok (.getfield index, 3)) (k : wAt p l e R s m args below meth c Q nL G M (pc + 3) lv (.int (M.1 i 7) :: rest)) : wAt p l e R s m args below meth c Q nL G M pc lv (.ref (ga G i) :: rest) := wa_get hC hin hi (by decide) (ce4 hi) rfl 7 (by decide) hlink rfl hdg k
theorem rp4_7 (hC : wC p m c cc nL s args Ts own G) (hin : ∀ w ∈ u_ws RX4 TX4 11, w ∈ Ts) {i : Nat} (hi : kd i = 4) {index : Nat} (hlink : Cond.fieldLink own index "BaroRuns$Text" "temperature" "I" ∈ Ts) {x : Int32} (hdg : decode cc pc = .ok (.putfield index, 3)) (k : wAt p l e R s m args below meth c Q nL G (st M i 7 x) (pc + 3) lv rest) : wAt p l e R s m args below meth c Q nL G M pc lv (.int x :: .ref (ga G i) :: rest) := wa_put hC hin tyX4_ok nmX4 hi (by decide) (ce4 hi) rfl 7 (by decide) hlink rfl rfl rfl (Nat.le_of_ble_eq_true rfl) (fun j hj => ce_st hj) (by rw [ce4 hi]; simp [st, stL]) hdg k
theorem rgn4_7 (hC : wC p m c cc nL s args Ts own G) (hin : ∀ w ∈ u_ws RX4 TX4 11, w ∈ Ts) {i : Nat} (hi : kd i = 4) {index : Nat} {host : String} (hlink : (Cond.fieldLinkNest own index "BaroRuns$Text" "temperature" "I" host).before args s = true) (hdg : decode cc pc = .ok (.getfield index, 3)) (k : wAt p l e R s m args below meth c Q nL G M (pc + 3) lv (.int (M.1 i 7) :: rest)) : wAt p l e R s m args below meth c Q nL G M pc lv (.ref (ga G i) :: rest) := wa_getN hC hin hi (by decide) (ce4 hi) rfl 7 (by decide) hlink rfl hdg k
theorem rpn4_7 (hC : wC p m c cc nL s args Ts own G) (hin : ∀ w ∈ u_ws RX4 TX4 11, w ∈ Ts) {i : Nat} (hi : kd i = 4) {index : Nat} {host : String} (hlink : (Cond.fieldLinkNest own index "BaroRuns$Text" "temperature" "I" host).before args s = true) {x : Int32} (hdg : decode cc pc = .ok (.putfield index, 3)) (k : wAt p l e R s m args below meth c Q nL G (st M i 7 x) (pc + 3) lv rest) : wAt p l e R s m args below meth c Q nL G M pc lv (.int x :: .ref (ga G i) :: rest) := wa_putN hC hin tyX4_ok nmX4 hi (by decide) (ce4 hi) rfl 7 (by decide) hlink rfl rfl rfl (Nat.le_of_ble_eq_true rfl) (fun j hj => ce_st hj) (by rw [ce4 hi]; simp [st, stL]) hdg k
theorem rg4_8 (hC : wC p m c cc nL s args Ts own G) (hin : ∀ w ∈ u_ws RX4 TX4 11, w ∈ Ts) {i : Nat} (hi : kd i = 4) {index : Nat} (hlink : Cond.fieldLink own index "BaroRuns$Text" "taken" "I" ∈ Ts) (hdg : decode cc pc = .ok (.getfield index, 3)) (k : wAt p l e R s m args below meth c Q nL G M (pc + 3) lv (.int (M.1 i 8) :: rest)) : wAt p l e R s m args below meth c Q nL G M pc lv (.ref (ga G i) :: rest) := wa_get hC hin hi (by decide) (ce4 hi) rfl 8 (by decide) hlink rfl hdg k
theorem rp4_8 (hC : wC p m c cc nL s args Ts own G) (hin : ∀ w ∈ u_ws RX4 TX4 11, w ∈ Ts) {i : Nat} (hi : kd i = 4) {index : Nat} (hlink : Cond.fieldLink own index "BaroRuns$Text" "taken" "I" ∈ Ts) {x : Int32} (hdg : decode cc pc = .ok (.putfield index, 3)) (k : wAt p l e R s m args below meth c Q nL G (st M i 8 x) (pc + 3) lv rest) : wAt p l e R s m args below meth c Q nL G M pc lv (.int x :: .ref (ga G i) :: rest) := wa_put hC hin tyX4_ok nmX4 hi (by decide) (ce4 hi) rfl 8 (by decide) hlink rfl rfl rfl (Nat.le_of_ble_eq_true rfl) (fun j hj => ce_st hj) (by rw [ce4 hi]; simp [st, stL]) hdg k
theorem rgn4_8 (hC : wC p m c cc nL s args Ts own G) (hin : ∀ w ∈ u_ws RX4 TX4 11, w ∈ Ts) {i : Nat} (hi : kd i = 4) {index : Nat} {host : String} (hlink : (Cond.fieldLinkNest own index "BaroRuns$Text" "taken" "I" host).before args s = true) (hdg : decode cc pc = .ok (.getfield index, 3)) (k : wAt p l e R s m args below meth c Q nL G M (pc + 3) lv (.int (M.1 i 8) :: rest)) : wAt p l e R s m args below meth c Q nL G M pc lv (.ref (ga G i) :: rest) := wa_getN hC hin hi (by decide) (ce4 hi) rfl 8 (by decide) hlink rfl hdg k
theorem rpn4_8 (hC : wC p m c cc nL s args Ts own G) (hin : ∀ w ∈ u_ws RX4 TX4 11, w ∈ Ts) {i : Nat} (hi : kd i = 4) {index : Nat} {host : String} (hlink : (Cond.fieldLinkNest own index "BaroRuns$Text" "taken" "I" host).before args s = true) {x : Int32} (hdg : decode cc pc = .ok (.putfield index, 3)) (k : wAt p l e R s m args below meth c Q nL G (st M i 8 x) (pc + 3) lv rest) : wAt p l e R s m args below meth c Q nL G M pc lv (.int x :: .ref (ga G i) :: rest) := wa_putN hC hin tyX4_ok nmX4 hi (by decide) (ce4 hi) rfl 8 (by decide) hlink rfl rfl rfl (Nat.le_of_ble_eq_true rfl) (fun j hj => ce_st hj) (by rw [ce4 hi]; simp [st, stL]) hdg k
theorem rg4_9 (hC : wC p m c cc nL s args Ts own G) (hin : ∀ w ∈ u_ws RX4 TX4 11, w ∈ Ts) {i : Nat} (hi : kd i = 4) {index : Nat} (hlink : Cond.fieldLink own index "BaroRuns$Text" "faultPosition" "I" ∈ Ts) (hdg : decode cc pc = .ok (.getfield index, 3)) (k : wAt p l e R s m args below meth c Q nL G M (pc + 3) lv (.int (M.1 i 9) :: rest)) : wAt p l e R s m args below meth c Q nL G M pc lv (.ref (ga G i) :: rest) := wa_get hC hin hi (by decide) (ce4 hi) rfl 9 (by decide) hlink rfl hdg k
theorem rp4_9 (hC : wC p m c cc nL s args Ts own G) (hin : ∀ w ∈ u_ws RX4 TX4 11, w ∈ Ts) {i : Nat} (hi : kd i = 4) {index : Nat} (hlink : Cond.fieldLink own index "BaroRuns$Text" "faultPosition" "I" ∈ Ts) {x : Int32} (hdg : decode cc pc = .ok (.putfield index, 3)) (k : wAt p l e R s m args below meth c Q nL G (st M i 9 x) (pc + 3) lv rest) : wAt p l e R s m args below meth c Q nL G M pc lv (.int x :: .ref (ga G i) :: rest) := wa_put hC hin tyX4_ok nmX4 hi (by decide) (ce4 hi) rfl 9 (by decide) hlink rfl rfl rfl (Nat.le_of_ble_eq_true rfl) (fun j hj => ce_st hj) (by rw [ce4 hi]; simp [st, stL]) hdg k
theorem rgn4_9 (hC : wC p m c cc nL s args Ts own G) (hin : ∀ w ∈ u_ws RX4 TX4 11, w ∈ Ts) {i : Nat} (hi : kd i = 4) {index : Nat} {host : String} (hlink : (Cond.fieldLinkNest own index "BaroRuns$Text" "faultPosition" "I" host).before args s = true) (hdg : decode cc pc = .ok (.getfield index, 3)) (k : wAt p l e R s m args below meth c Q nL G M (pc + 3) lv (.int (M.1 i 9) :: rest)) : wAt p l e R s m args below meth c Q nL G M pc lv (.ref (ga G i) :: rest) := wa_getN hC hin hi (by decide) (ce4 hi) rfl 9 (by decide) hlink rfl hdg k
theorem rpn4_9 (hC : wC p m c cc nL s args Ts own G) (hin : ∀ w ∈ u_ws RX4 TX4 11, w ∈ Ts) {i : Nat} (hi : kd i = 4) {index : Nat} {host : String} (hlink : (Cond.fieldLinkNest own index "BaroRuns$Text" "faultPosition" "I" host).before args s = true) {x : Int32} (hdg : decode cc pc = .ok (.putfield index, 3)) (k : wAt p l e R s m args below meth c Q nL G (st M i 9 x) (pc + 3) lv rest) : wAt p l e R s m args below meth c Q nL G M pc lv (.int x :: .ref (ga G i) :: rest) := wa_putN hC hin tyX4_ok nmX4 hi (by decide) (ce4 hi) rfl 9 (by decide) hlink rfl rfl rfl (Nat.le_of_ble_eq_true rfl) (fun j hj => ce_st hj) (by rw [ce4 hi]; simp [st, stL]) hdg k
theorem rg4_10 (hC : wC p m c cc nL s args Ts own G) (hin : ∀ w ∈ u_ws RX4 TX4 11, w ∈ Ts) {i : Nat} (hi : kd i = 4) {index : Nat} (hlink : Cond.fieldLink own index "BaroRuns$Text" "faultReason" "I" ∈ Ts) (hdg : decode cc pc = .ok (.getfield index, 3)) (k : wAt p l e R s m args below meth c Q nL G M (pc + 3) lv (.int (M.1 i 10) :: rest)) : wAt p l e R s m args below meth c Q nL G M pc lv (.ref (ga G i) :: rest) := wa_get hC hin hi (by decide) (ce4 hi) rfl 10 (by decide) hlink rfl hdg k
theorem rp4_10 (hC : wC p m c cc nL s args Ts own G) (hin : ∀ w ∈ u_ws RX4 TX4 11, w ∈ Ts) {i : Nat} (hi : kd i = 4) {index : Nat} (hlink : Cond.fieldLink own index "BaroRuns$Text" "faultReason" "I" ∈ Ts) {x : Int32} (hdg : decode cc pc = .ok (.putfield index, 3)) (k : wAt p l e R s m args below meth c Q nL G (st M i 10 x) (pc + 3) lv rest) : wAt p l e R s m args below meth c Q nL G M pc lv (.int x :: .ref (ga G i) :: rest) := wa_put hC hin tyX4_ok nmX4 hi (by decide) (ce4 hi) rfl 10 (by decide) hlink rfl rfl rfl (Nat.le_of_ble_eq_true rfl) (fun j hj => ce_st hj) (by rw [ce4 hi]; simp [st, stL]) hdg k
theorem rgn4_10 (hC : wC p m c cc nL s args Ts own G) (hin : ∀ w ∈ u_ws RX4 TX4 11, w ∈ Ts) {i : Nat} (hi : kd i = 4) {index : Nat} {host : String} (hlink : (Cond.fieldLinkNest own index "BaroRuns$Text" "faultReason" "I" host).before args s = true) (hdg : decode cc pc = .ok (.getfield index, 3)) (k : wAt p l e R s m args below meth c Q nL G M (pc + 3) lv (.int (M.1 i 10) :: rest)) : wAt p l e R s m args below meth c Q nL G M pc lv (.ref (ga G i) :: rest) := wa_getN hC hin hi (by decide) (ce4 hi) rfl 10 (by decide) hlink rfl hdg k
theorem rpn4_10 (hC : wC p m c cc nL s args Ts own G) (hin : ∀ w ∈ u_ws RX4 TX4 11, w ∈ Ts) {i : Nat} (hi : kd i = 4) {index : Nat} {host : String} (hlink : (Cond.fieldLinkNest own index "BaroRuns$Text" "faultReason" "I" host).before args s = true) {x : Int32} (hdg : decode cc pc = .ok (.putfield index, 3)) (k : wAt p l e R s m args below meth c Q nL G (st M i 10 x) (pc + 3) lv rest) : wAt p l e R s m args below meth c Q nL G M pc lv (.int x :: .ref (ga G i) :: rest) := wa_putN hC hin tyX4_ok nmX4 hi (by decide) (ce4 hi) rfl 10 (by decide) hlink rfl rfl rfl (Nat.le_of_ble_eq_true rfl) (fun j hj => ce_st hj) (by rw [ce4 hi]; simp [st, stL]) hdg k
theorem rg5_0 (hC : wC p m c cc nL s args Ts own G) (hin : ∀ w ∈ u_ws RX5 TX5 3, w ∈ Ts) {i : Nat} (hi : kd i = 5) {index : Nat} (hlink : Cond.fieldLink own index "BaroRuns$Track" "values" "[I" ∈ Ts) (hdg : decode cc pc = .ok (.getfield index, 3)) (k : wAt p l e R s m args below meth c Q nL G M (pc + 3) lv (.ref (ga G (i + 1)) :: rest)) : wAt p l e R s m args below meth c Q nL G M pc lv (.ref (ga G i) :: rest) := wa_get hC hin hi (by decide) (ce5 hi) rfl 0 (by decide) hlink rfl hdg k
theorem rgn5_0 (hC : wC p m c cc nL s args Ts own G) (hin : ∀ w ∈ u_ws RX5 TX5 3, w ∈ Ts) {i : Nat} (hi : kd i = 5) {index : Nat} {host : String} (hlink : (Cond.fieldLinkNest own index "BaroRuns$Track" "values" "[I" host).before args s = true) (hdg : decode cc pc = .ok (.getfield index, 3)) (k : wAt p l e R s m args below meth c Q nL G M (pc + 3) lv (.ref (ga G (i + 1)) :: rest)) : wAt p l e R s m args below meth c Q nL G M pc lv (.ref (ga G i) :: rest) := wa_getN hC hin hi (by decide) (ce5 hi) rfl 0 (by decide) hlink rfl hdg k
theorem rg5_1 (hC : wC p m c cc nL s args Ts own G) (hin : ∀ w ∈ u_ws RX5 TX5 3, w ∈ Ts) {i : Nat} (hi : kd i = 5) {index : Nat} (hlink : Cond.fieldLink own index "BaroRuns$Track" "room" "I" ∈ Ts) (hdg : decode cc pc = .ok (.getfield index, 3)) (k : wAt p l e R s m args below meth c Q nL G M (pc + 3) lv (.int (M.1 i 1) :: rest)) : wAt p l e R s m args below meth c Q nL G M pc lv (.ref (ga G i) :: rest) := wa_get hC hin hi (by decide) (ce5 hi) rfl 1 (by decide) hlink rfl hdg k
theorem rgn5_1 (hC : wC p m c cc nL s args Ts own G) (hin : ∀ w ∈ u_ws RX5 TX5 3, w ∈ Ts) {i : Nat} (hi : kd i = 5) {index : Nat} {host : String} (hlink : (Cond.fieldLinkNest own index "BaroRuns$Track" "room" "I" host).before args s = true) (hdg : decode cc pc = .ok (.getfield index, 3)) (k : wAt p l e R s m args below meth c Q nL G M (pc + 3) lv (.int (M.1 i 1) :: rest)) : wAt p l e R s m args below meth c Q nL G M pc lv (.ref (ga G i) :: rest) := wa_getN hC hin hi (by decide) (ce5 hi) rfl 1 (by decide) hlink rfl hdg k
theorem rg5_2 (hC : wC p m c cc nL s args Ts own G) (hin : ∀ w ∈ u_ws RX5 TX5 3, w ∈ Ts) {i : Nat} (hi : kd i = 5) {index : Nat} (hlink : Cond.fieldLink own index "BaroRuns$Track" "size" "I" ∈ Ts) (hdg : decode cc pc = .ok (.getfield index, 3)) (k : wAt p l e R s m args below meth c Q nL G M (pc + 3) lv (.int (M.1 i 2) :: rest)) : wAt p l e R s m args below meth c Q nL G M pc lv (.ref (ga G i) :: rest) := wa_get hC hin hi (by decide) (ce5 hi) rfl 2 (by decide) hlink rfl hdg k
theorem rp5_2 (hC : wC p m c cc nL s args Ts own G) (hin : ∀ w ∈ u_ws RX5 TX5 3, w ∈ Ts) {i : Nat} (hi : kd i = 5) {index : Nat} (hlink : Cond.fieldLink own index "BaroRuns$Track" "size" "I" ∈ Ts) {x : Int32} (hdg : decode cc pc = .ok (.putfield index, 3)) (k : wAt p l e R s m args below meth c Q nL G (st M i 2 x) (pc + 3) lv rest) : wAt p l e R s m args below meth c Q nL G M pc lv (.int x :: .ref (ga G i) :: rest) := wa_put hC hin tyX5_ok nmX5 hi (by decide) (ce5 hi) rfl 2 (by decide) hlink rfl rfl rfl (Nat.le_of_ble_eq_true rfl) (fun j hj => ce_st hj) (by rw [ce5 hi]; simp [st, stL]) hdg k
theorem rgn5_2 (hC : wC p m c cc nL s args Ts own G) (hin : ∀ w ∈ u_ws RX5 TX5 3, w ∈ Ts) {i : Nat} (hi : kd i = 5) {index : Nat} {host : String} (hlink : (Cond.fieldLinkNest own index "BaroRuns$Track" "size" "I" host).before args s = true) (hdg : decode cc pc = .ok (.getfield index, 3)) (k : wAt p l e R s m args below meth c Q nL G M (pc + 3) lv (.int (M.1 i 2) :: rest)) : wAt p l e R s m args below meth c Q nL G M pc lv (.ref (ga G i) :: rest) := wa_getN hC hin hi (by decide) (ce5 hi) rfl 2 (by decide) hlink rfl hdg k
theorem rpn5_2 (hC : wC p m c cc nL s args Ts own G) (hin : ∀ w ∈ u_ws RX5 TX5 3, w ∈ Ts) {i : Nat} (hi : kd i = 5) {index : Nat} {host : String} (hlink : (Cond.fieldLinkNest own index "BaroRuns$Track" "size" "I" host).before args s = true) {x : Int32} (hdg : decode cc pc = .ok (.putfield index, 3)) (k : wAt p l e R s m args below meth c Q nL G (st M i 2 x) (pc + 3) lv rest) : wAt p l e R s m args below meth c Q nL G M pc lv (.int x :: .ref (ga G i) :: rest) := wa_putN hC hin tyX5_ok nmX5 hi (by decide) (ce5 hi) rfl 2 (by decide) hlink rfl rfl rfl (Nat.le_of_ble_eq_true rfl) (fun j hj => ce_st hj) (by rw [ce5 hi]; simp [st, stL]) hdg k
theorem rg6_0 (hC : wC p m c cc nL s args Ts own G) (hin : ∀ w ∈ u_ws RX6 TX6 9, w ∈ Ts) {index : Nat} (hlink : Cond.fieldLink own index "BaroRuns" "now" "LBaroRuns$State;" ∈ Ts) (hdg : decode cc pc = .ok (.getfield index, 3)) (k : wAt p l e R s m args below meth c Q nL G M (pc + 3) lv (.ref (ga G 1) :: rest)) : wAt p l e R s m args below meth c Q nL G M pc lv (.ref (ga G 0) :: rest) := wa_get hC hin (show kd 0 = 6 from rfl) (by decide) (ce6 (show kd 0 = 6 from rfl)) rfl 0 (by decide) hlink rfl hdg k
theorem rg6_1 (hC : wC p m c cc nL s args Ts own G) (hin : ∀ w ∈ u_ws RX6 TX6 9, w ∈ Ts) {index : Nat} (hlink : Cond.fieldLink own index "BaroRuns" "trial" "LBaroRuns$State;" ∈ Ts) (hdg : decode cc pc = .ok (.getfield index, 3)) (k : wAt p l e R s m args below meth c Q nL G M (pc + 3) lv (.ref (ga G 10) :: rest)) : wAt p l e R s m args below meth c Q nL G M pc lv (.ref (ga G 0) :: rest) := wa_get hC hin (show kd 0 = 6 from rfl) (by decide) (ce6 (show kd 0 = 6 from rfl)) rfl 1 (by decide) hlink rfl hdg k
theorem rg6_2 (hC : wC p m c cc nL s args Ts own G) (hin : ∀ w ∈ u_ws RX6 TX6 9, w ∈ Ts) {index : Nat} (hlink : Cond.fieldLink own index "BaroRuns" "history" "LBaroRuns$History;" ∈ Ts) (hdg : decode cc pc = .ok (.getfield index, 3)) (k : wAt p l e R s m args below meth c Q nL G M (pc + 3) lv (.ref (ga G 19) :: rest)) : wAt p l e R s m args below meth c Q nL G M pc lv (.ref (ga G 0) :: rest) := wa_get hC hin (show kd 0 = 6 from rfl) (by decide) (ce6 (show kd 0 = 6 from rfl)) rfl 2 (by decide) hlink rfl hdg k
theorem rg6_3 (hC : wC p m c cc nL s args Ts own G) (hin : ∀ w ∈ u_ws RX6 TX6 9, w ∈ Ts) {index : Nat} (hlink : Cond.fieldLink own index "BaroRuns" "firstSurvey" "LBaroRuns$Survey;" ∈ Ts) (hdg : decode cc pc = .ok (.getfield index, 3)) (k : wAt p l e R s m args below meth c Q nL G M (pc + 3) lv (.ref (ga G 66) :: rest)) : wAt p l e R s m args below meth c Q nL G M pc lv (.ref (ga G 0) :: rest) := wa_get hC hin (show kd 0 = 6 from rfl) (by decide) (ce6 (show kd 0 = 6 from rfl)) rfl 3 (by decide) hlink rfl hdg k
theorem rg6_4 (hC : wC p m c cc nL s args Ts own G) (hin : ∀ w ∈ u_ws RX6 TX6 9, w ∈ Ts) {index : Nat} (hlink : Cond.fieldLink own index "BaroRuns" "secondSurvey" "LBaroRuns$Survey;" ∈ Ts) (hdg : decode cc pc = .ok (.getfield index, 3)) (k : wAt p l e R s m args below meth c Q nL G M (pc + 3) lv (.ref (ga G 75) :: rest)) : wAt p l e R s m args below meth c Q nL G M pc lv (.ref (ga G 0) :: rest) := wa_get hC hin (show kd 0 = 6 from rfl) (by decide) (ce6 (show kd 0 = 6 from rfl)) rfl 4 (by decide) hlink rfl hdg k
theorem rg6_5 (hC : wC p m c cc nL s args Ts own G) (hin : ∀ w ∈ u_ws RX6 TX6 9, w ∈ Ts) {index : Nat} (hlink : Cond.fieldLink own index "BaroRuns" "thirdSurvey" "LBaroRuns$Survey;" ∈ Ts) (hdg : decode cc pc = .ok (.getfield index, 3)) (k : wAt p l e R s m args below meth c Q nL G M (pc + 3) lv (.ref (ga G 84) :: rest)) : wAt p l e R s m args below meth c Q nL G M pc lv (.ref (ga G 0) :: rest) := wa_get hC hin (show kd 0 = 6 from rfl) (by decide) (ce6 (show kd 0 = 6 from rfl)) rfl 5 (by decide) hlink rfl hdg k
theorem rg6_6 (hC : wC p m c cc nL s args Ts own G) (hin : ∀ w ∈ u_ws RX6 TX6 9, w ∈ Ts) {index : Nat} (hlink : Cond.fieldLink own index "BaroRuns" "pointSum" "LBaroRuns$PointSum;" ∈ Ts) (hdg : decode cc pc = .ok (.getfield index, 3)) (k : wAt p l e R s m args below meth c Q nL G M (pc + 3) lv (.ref (ga G 93) :: rest)) : wAt p l e R s m args below meth c Q nL G M pc lv (.ref (ga G 0) :: rest) := wa_get hC hin (show kd 0 = 6 from rfl) (by decide) (ce6 (show kd 0 = 6 from rfl)) rfl 6 (by decide) hlink rfl hdg k
theorem rg6_7 (hC : wC p m c cc nL s args Ts own G) (hin : ∀ w ∈ u_ws RX6 TX6 9, w ∈ Ts) {index : Nat} (hlink : Cond.fieldLink own index "BaroRuns" "text" "LBaroRuns$Text;" ∈ Ts) (hdg : decode cc pc = .ok (.getfield index, 3)) (k : wAt p l e R s m args below meth c Q nL G M (pc + 3) lv (.ref (ga G 94) :: rest)) : wAt p l e R s m args below meth c Q nL G M pc lv (.ref (ga G 0) :: rest) := wa_get hC hin (show kd 0 = 6 from rfl) (by decide) (ce6 (show kd 0 = 6 from rfl)) rfl 7 (by decide) hlink rfl hdg k
theorem rg6_8 (hC : wC p m c cc nL s args Ts own G) (hin : ∀ w ∈ u_ws RX6 TX6 9, w ∈ Ts) {index : Nat} (hlink : Cond.fieldLink own index "BaroRuns" "stale" "Z" ∈ Ts) (hdg : decode cc pc = .ok (.getfield index, 3)) (k : wAt p l e R s m args below meth c Q nL G M (pc + 3) lv (.int (M.1 0 8) :: rest)) : wAt p l e R s m args below meth c Q nL G M pc lv (.ref (ga G 0) :: rest) := wa_get hC hin (show kd 0 = 6 from rfl) (by decide) (ce6 (show kd 0 = 6 from rfl)) rfl 8 (by decide) hlink rfl hdg k
theorem rp6_8 (hC : wC p m c cc nL s args Ts own G) (hin : ∀ w ∈ u_ws RX6 TX6 9, w ∈ Ts) {index : Nat} (hlink : Cond.fieldLink own index "BaroRuns" "stale" "Z" ∈ Ts) {x : Int32} (hz : narrow .boolean (.int x) = .int x) (hz2 : fits .boolean (.int x) = true) (hdg : decode cc pc = .ok (.putfield index, 3)) (k : wAt p l e R s m args below meth c Q nL G (st M 0 8 x) (pc + 3) lv rest) : wAt p l e R s m args below meth c Q nL G M pc lv (.int x :: .ref (ga G 0) :: rest) := wa_put hC hin tyX6_ok nmX6 (show kd 0 = 6 from rfl) (by decide) (ce6 (show kd 0 = 6 from rfl)) rfl 8 (by decide) hlink rfl hz hz2 (Nat.le_of_ble_eq_true rfl) (fun j hj => ce_st hj) (by rw [ce6 (show kd 0 = 6 from rfl)]; simp [st, stL]) hdg k
end WW3
theorem in5 {j : Int32} (h : vp_in j 5) : j.toNatClampNeg < 5 := by unfold vp_in at h; omega
end
section
section WW2
variable {p : Program} {l : Launch} {e : Env} {R : Room} {s : State} {m : MethodId} {args : Array Value} {below : List Frame} {meth : Method} {c : Code} {Q : State → Prop} {cc : ByteArray} {nL : Nat} {Ts : List Cond} {own : String} {G : wG} {M M1 : wM} {pc : Nat} {lv lv' : List (Nat × Value)} {rest : List Value}
theorem wa_sub (ks : List Nat) (hl0 : lv_pick lv ks = lv') (k : wAt p l e R s m args below meth c Q nL G M pc lv' rest) : wAt p l e R s m args below meth c Q nL G M pc lv rest := fun H locs ls hl hR => k H locs ls (lv_sub hl ks hl0) hR
theorem wa_lcmp (hC : wC p m c cc nL s args Ts own G) {x y : Int64} (hdg : decode cc pc = .ok (.lcmp, 1)) (k : wAt p l e R s m args below meth c Q nL G M (pc + 1) lv (.int (lg_cmp x y) :: rest)) : wAt p l e R s m args below meth c Q nL G M pc lv (.long y :: .long x :: rest) := fun H locs ls hl hR => W.lcmp hC.1.1 hC.1.2.1 hdg (k H locs ls hl hR)
theorem wa_ifnull (hC : wC p m c cc nL s args Ts own G) {x : Nat} {off : Int} (hdg : decode cc pc = .ok (.ifnull off, 3)) (k : wAt p l e R s m args below meth c Q nL G M (pc + 3) lv rest) : wAt p l e R s m args below meth c Q nL G M pc lv (.ref x :: rest) := fun H locs ls hl hR => lv_ifnull hC.1.1 hC.1.2.1 hdg (k H locs ls hl hR)
/-- a contract of a method over the one world: from M it answers r and leaves M1 -/
def mI (l : Launch) (y : MethodName) (ws : List Cond) (rm : Room) (G : wG) (a : List Value) (M : wM) (r : Int32) (M1 : wM) : Prop := ∀ sz : Nat, Met l y ws rm (va_Pc a (fun U => U.heap.size = sz ∧ wB G M U)) (va_Qi (fun r' (_ : Unit) => r' = r) (fun _ t => va_P (gD G) vwCl (wl G M1) t.heap) (wA G sz)) 0 0 (wA G sz)
def mL (l : Launch) (y : MethodName) (ws : List Cond) (rm : Room) (G : wG) (a : List Value) (M : wM) (r : Int64) (M1 : wM) : Prop := ∀ sz : Nat, Met l y ws rm (va_Pc a (fun U => U.heap.size = sz ∧ wB G M U)) (va_Ql (fun r' (_ : Unit) => r' = r) (fun _ t => va_P (gD G) vwCl (wl G M1) t.heap) (wA G sz)) 0 0 (wA G sz)
def mV (l : Launch) (y : MethodName) (ws : List Cond) (rm : Room) (G : wG) (a : List Value) (M : wM) (M1 : wM) : Prop := ∀ sz : Nat, Met l y ws rm (va_Pc a (fun U => U.heap.size = sz ∧ wB G M U)) (va_Qv (fun _ : Unit => True) (fun _ t => va_P (gD G) vwCl (wl G M1) t.heap) (wA G sz)) 0 0 (wA G sz)
def mR (l : Launch) (y : MethodName) (ws : List Cond) (rm : Room) (G : wG) (a : List Value) (M : wM) (j : Nat) (M1 : wM) : Prop := ∀ sz : Nat, Met l y ws rm (va_Pc a (fun U => U.heap.size = sz ∧ wB G M U)) (va_Qr (fun _ : Unit => True) (fun _ ra t => ra = ga G j ∧ va_P (gD G) vwCl (wl G M1) t.heap) (wA G sz)) 0 0 (wA G sz)
def qI (below : List Frame) (args : Array Value) (s : State) (G : wG) (r : Int32) (M1 : wM) : State → Prop := MQ below (va_Qi (fun r' (_ : Unit) => r' = r) (fun _ t => va_P (gD G) vwCl (wl G M1) t.heap) (wA G s.heap.size)) args s 0 0 (wA G s.heap.size)
def qL (below : List Frame) (args : Array Value) (s : State) (G : wG) (r : Int64) (M1 : wM) : State → Prop := MQ below (va_Ql (fun r' (_ : Unit) => r' = r) (fun _ t => va_P (gD G) vwCl (wl G M1) t.heap) (wA G s.heap.size)) args s 0 0 (wA G s.heap.size)
def qV (below : List Frame) (args : Array Value) (s : State) (G : wG) (M1 : wM) : State → Prop := MQ below (va_Qv (fun _ : Unit => True) (fun _ t => va_P (gD G) vwCl (wl G M1) t.heap) (wA G s.heap.size)) args s 0 0 (wA G s.heap.size)
def qR (below : List Frame) (args : Array Value) (s : State) (G : wG) (j : Nat) (M1 : wM) : State → Prop := MQ below (va_Qr (fun _ : Unit => True) (fun _ ra t => ra = ga G j ∧ va_P (gD G) vwCl (wl G M1) t.heap) (wA G s.heap.size)) args s 0 0 (wA G s.heap.size)

end WW2
section WW2B
variable {p : Program} {l : Launch} {e : Env} {s : State} {m : MethodId} {args : Array Value} {below : List Frame} {meth : Method} {c : Code}
/-- Met.ofW, for a method that is plain by its name and descriptor (java.lang.Math's own) -/
theorem wMetF {y : MethodName} {ws ws' : List Cond} {rm : Room} {Pc : Array Value → State → Prop} {Qc : Array Value → State → Outcome → State → Prop} {mc ms : Nat} {free : Addr → Prop} {cc : ByteArray} {maxL : Nat} {ret : Option FieldType}
    (hy : plainFor y = true) (hw : ws = Cond.code y cc maxL ret :: ws')
    (body : ∀ p e s m args below meth c s₁, BodyLoose p l y (headSpec ws rm) cc maxL ret e s m args below meth c s₁ → c.maxLocals = maxL → Pc args s →
      W p l e (headSpec ws rm).room s m args below meth c s.heap [] 0 0 (MQ below Qc args s mc ms free) (entryFrame m args maxL)) : Met l y ws rm Pc Qc mc ms free := by
  refine MetFree.of_bodySF (code := cc) (maxLocals := maxL) (ret := ret) hy ?_ ?_
  · intro args s m h hn
    obtain ⟨meth, c, h1, h2, h3, h4, h5, h6, -, -⟩ := Cond.code_spec hn (atoms_spec (ws := ws) h _ (by rw [hw]; exact List.mem_cons_self))
    exact ⟨meth, c, h1, h2, h3, h4, h5, h6⟩
  · intro p e s m args below meth c s₁ B hml hP _
    have hh0 : s₁.heap = s.heap := by rw [B.state]; rfl
    obtain ⟨t, a1, o, b1, b2, b3⟩ := body p e s m args below meth c s₁ B hml hP s₁ hh0 (Stand.of_body B)
    exact ⟨t, o, a1, b1, b2, ⟨b3.1, b3.2⟩⟩
end WW2B
section WW2C
variable {p : Program} {l : Launch} {e : Env} {R : Room} {s : State} {m : MethodId} {args : Array Value} {below : List Frame} {meth : Method} {c : Code} {Q : State → Prop} {cc : ByteArray} {nL : Nat} {Ts : List Cond} {own : String} {G : wG} {M M1 : wM} {pc : Nat} {lv lv' : List (Nat × Value)} {rest : List Value}
theorem mI.of {y : MethodName} {ws ws' : List Cond} {rm : Room} {cc : ByteArray} {nL : Nat} {ret : Option FieldType} {a : List Value} {own : String} {r : Int32} (hy : plainFor y = true) (hw : ws = Cond.code y cc nL ret :: ws') (hown : y.cls = own) (hlen : (lg_sl a).length ≤ nL) {lv : List (Nat × Value)} (hlv : lv_args 0 a = lv)
    (body : ∀ (p : Program) (e : Env) (s : State) (m : MethodId) (args : Array Value) (below : List Frame) (meth : Method) (c : Code), wC p m c cc nL s args ws own G → meth.sig.returnType = ret → meth.locks = false → wAt p l e rm s m args below meth c (qI below args s G r M1) nL G M 0 lv []) : mI l y ws rm G a M r M1 := by
  intro sz
  refine wMetF (cc := cc) (maxL := nL) (ret := ret) hy hw ?_
  intro p e s m args below meth c s₁ B hml0 hv
  obtain ⟨rfl, hsz, hP, hK, hgi, hN⟩ := hv
  subst hsz
  have hown0 : s.vm.findClass own = some m.cls := by rw [← hown]; exact findClass_of_methodNamed B.named
  have hC : wC p m c cc nL s a.toArray ws own G := ⟨⟨B.exec, B.bytes, hml0, hown0, atoms_spec (ws := ws) B.pre⟩, hK, hgi, hN⟩
  have hl := lv_entry a (n := nL) hlen
  rw [lg_entry_eq]
  rw [hlv] at hl
  exact body p e s m a.toArray below meth c hC B.returns B.notSynchronized s.heap [] _ hl ⟨hP, va_S.rf⟩
theorem mL.of {y : MethodName} {ws ws' : List Cond} {rm : Room} {cc : ByteArray} {nL : Nat} {ret : Option FieldType} {a : List Value} {own : String} {r : Int64} (hy : plainFor y = true) (hw : ws = Cond.code y cc nL ret :: ws') (hown : y.cls = own) (hlen : (lg_sl a).length ≤ nL) {lv : List (Nat × Value)} (hlv : lv_args 0 a = lv)
    (body : ∀ (p : Program) (e : Env) (s : State) (m : MethodId) (args : Array Value) (below : List Frame) (meth : Method) (c : Code), wC p m c cc nL s args ws own G → meth.sig.returnType = ret → meth.locks = false → wAt p l e rm s m args below meth c (qL below args s G r M1) nL G M 0 lv []) : mL l y ws rm G a M r M1 := by
  intro sz
  refine wMetF (cc := cc) (maxL := nL) (ret := ret) hy hw ?_
  intro p e s m args below meth c s₁ B hml0 hv
  obtain ⟨rfl, hsz, hP, hK, hgi, hN⟩ := hv
  subst hsz
  have hown0 : s.vm.findClass own = some m.cls := by rw [← hown]; exact findClass_of_methodNamed B.named
  have hC : wC p m c cc nL s a.toArray ws own G := ⟨⟨B.exec, B.bytes, hml0, hown0, atoms_spec (ws := ws) B.pre⟩, hK, hgi, hN⟩
  have hl := lv_entry a (n := nL) hlen
  rw [lg_entry_eq]
  rw [hlv] at hl
  exact body p e s m a.toArray below meth c hC B.returns B.notSynchronized s.heap [] _ hl ⟨hP, va_S.rf⟩
theorem mV.of {y : MethodName} {ws ws' : List Cond} {rm : Room} {cc : ByteArray} {nL : Nat} {ret : Option FieldType} {a : List Value} {own : String}  (hy : plainFor y = true) (hw : ws = Cond.code y cc nL ret :: ws') (hown : y.cls = own) (hlen : (lg_sl a).length ≤ nL) {lv : List (Nat × Value)} (hlv : lv_args 0 a = lv)
    (body : ∀ (p : Program) (e : Env) (s : State) (m : MethodId) (args : Array Value) (below : List Frame) (meth : Method) (c : Code), wC p m c cc nL s args ws own G → meth.sig.returnType = ret → meth.locks = false → wAt p l e rm s m args below meth c (qV below args s G M1) nL G M 0 lv []) : mV l y ws rm G a M M1 := by
  intro sz
  refine wMetF (cc := cc) (maxL := nL) (ret := ret) hy hw ?_
  intro p e s m args below meth c s₁ B hml0 hv
  obtain ⟨rfl, hsz, hP, hK, hgi, hN⟩ := hv
  subst hsz
  have hown0 : s.vm.findClass own = some m.cls := by rw [← hown]; exact findClass_of_methodNamed B.named
  have hC : wC p m c cc nL s a.toArray ws own G := ⟨⟨B.exec, B.bytes, hml0, hown0, atoms_spec (ws := ws) B.pre⟩, hK, hgi, hN⟩
  have hl := lv_entry a (n := nL) hlen
  rw [lg_entry_eq]
  rw [hlv] at hl
  exact body p e s m a.toArray below meth c hC B.returns B.notSynchronized s.heap [] _ hl ⟨hP, va_S.rf⟩
theorem mR.of {y : MethodName} {ws ws' : List Cond} {rm : Room} {cc : ByteArray} {nL : Nat} {ret : Option FieldType} {a : List Value} {own : String} {j : Nat} (hy : plainFor y = true) (hw : ws = Cond.code y cc nL ret :: ws') (hown : y.cls = own) (hlen : (lg_sl a).length ≤ nL) {lv : List (Nat × Value)} (hlv : lv_args 0 a = lv)
    (body : ∀ (p : Program) (e : Env) (s : State) (m : MethodId) (args : Array Value) (below : List Frame) (meth : Method) (c : Code), wC p m c cc nL s args ws own G → meth.sig.returnType = ret → meth.locks = false → wAt p l e rm s m args below meth c (qR below args s G j M1) nL G M 0 lv []) : mR l y ws rm G a M j M1 := by
  intro sz
  refine wMetF (cc := cc) (maxL := nL) (ret := ret) hy hw ?_
  intro p e s m args below meth c s₁ B hml0 hv
  obtain ⟨rfl, hsz, hP, hK, hgi, hN⟩ := hv
  subst hsz
  have hown0 : s.vm.findClass own = some m.cls := by rw [← hown]; exact findClass_of_methodNamed B.named
  have hC : wC p m c cc nL s a.toArray ws own G := ⟨⟨B.exec, B.bytes, hml0, hown0, atoms_spec (ws := ws) B.pre⟩, hK, hgi, hN⟩
  have hl := lv_entry a (n := nL) hlen
  rw [lg_entry_eq]
  rw [hlv] at hl
  exact body p e s m a.toArray below meth c hC B.returns B.notSynchronized s.heap [] _ hl ⟨hP, va_S.rf⟩
theorem wa_iret (hC : wC p m c cc nL s args Ts own G) (hlk : meth.locks = false) (hr : meth.sig.returnType = some .int) {v r : Int32} (hv : v = r) (hM : M = M1) (hdg : decode cc pc = .ok (.ireturn, 1)) : wAt p l e R s m args below meth c (qI below args s G r M1) nL G M pc lv [.int v] := fun H locs ls hl hR => W.iret hC.1.1 hC.1.2.1 hr (fun t ht hW => ⟨⟨v, (), rfl, hv, by show va_P (gD G) vwCl (wl G M1) t.heap; rw [ht, ← hM]; exact hR.1⟩, hR.2.F ht⟩) hR.2.2.2 hdg hlk
def b2 (b : Bool) : Int32 := if b then 1 else 0
theorem b2_nar (b : Bool) : narrow .boolean (.int (b2 b)) = .int (b2 b) := by cases b <;> rfl
theorem wa_zret (hC : wC p m c cc nL s args Ts own G) (hlk : meth.locks = false) (hr : meth.sig.returnType = some .boolean) {v : Int32} {b : Bool} (hv : v = b2 b) (hM : M = M1) (hdg : decode cc pc = .ok (.ireturn, 1)) : wAt p l e R s m args below meth c (qI below args s G (b2 b) M1) nL G M pc lv [.int v] := fun H locs ls hl hR => W.zret hC.1.1 hC.1.2.1 hr (by rw [hv]; exact b2_nar b) (fun t ht hW => ⟨⟨v, (), rfl, hv, by show va_P (gD G) vwCl (wl G M1) t.heap; rw [ht, ← hM]; exact hR.1⟩, hR.2.F ht⟩) hR.2.2.2 hdg hlk
theorem wa_lret (hC : wC p m c cc nL s args Ts own G) (hlk : meth.locks = false) (hr : meth.sig.returnType = some .long) {v r : Int64} (hv : v = r) (hM : M = M1) (hdg : decode cc pc = .ok (.lreturn, 1)) : wAt p l e R s m args below meth c (qL below args s G r M1) nL G M pc lv [.long v] := fun H locs ls hl hR => W.lret hC.1.1 hC.1.2.1 hr (fun t ht hW => ⟨⟨v, (), rfl, hv, by show va_P (gD G) vwCl (wl G M1) t.heap; rw [ht, ← hM]; exact hR.1⟩, hR.2.F ht⟩) hR.2.2.2 hdg hlk
theorem wa_vret (hC : wC p m c cc nL s args Ts own G) (hlk : meth.locks = false) (hr : meth.sig.returnType = none) (hM : M = M1) (hdg : decode cc pc = .ok (.return_, 1)) : wAt p l e R s m args below meth c (qV below args s G M1) nL G M pc lv [] := fun H locs ls hl hR => W.vret hC.1.1 hC.1.2.1 hr (fun t ht hW => ⟨⟨(), rfl, trivial, by show va_P (gD G) vwCl (wl G M1) t.heap; rw [ht, ← hM]; exact hR.1⟩, hR.2.F ht⟩) hR.2.2.2 hdg hlk
theorem wa_aret (hC : wC p m c cc nL s args Ts own G) (hlk : meth.locks = false) {nm : String} (hr : meth.sig.returnType = some (.object nm)) {i j : Nat} (hv : i = j) (hM : M = M1) (hdg : decode cc pc = .ok (.areturn, 1)) : wAt p l e R s m args below meth c (qR below args s G j M1) nL G M pc lv [.ref (ga G i)] := fun H locs ls hl hR => W.aret hC.1.1 hC.1.2.1 hr (Or.inl ⟨nm, rfl⟩) (Or.inr ⟨_, rfl⟩) (fun t ht hW => ⟨⟨(), ga G i, rfl, trivial, by rw [hv], by rw [ht, ← hM]; exact hR.1⟩, hR.2.F ht⟩) hR.2.2.2 hdg hlk
theorem wA_in {H : Heap} {locs : List Loc} (hR : wR G M s H locs) : (∀ q, q < H.size → wA G H.size q → wA G s.heap.size q) ∧ ∀ q, wA G H.size q → wA G s.heap.size q := ⟨fun q h1 h => h.elim Or.inl (fun h2 => absurd h2 (Nat.not_le.mpr h1)), fun q h => h.elim Or.inl (fun h2 => Or.inr (Nat.le_trans hR.2.1 h2))⟩
theorem wa_calli {st0 : List Value} {a : Array Value} {r : Int32} (hr : ∀ (H : Heap) (locs : List Loc) (ls : Array Slot), lv_has ls nL lv → wR G M s H locs → va_Run p l e R s m args below meth c H locs 0 0 0 0 (F0 m pc ls st0) rest (va_Qi (fun r' (_ : Unit) => r' = r) (fun _ t => va_P (gD G) vwCl (wl G M1) t.heap) (wA G H.size) a) (wA G H.size)) (k : wAt p l e R s m args below meth c Q nL G M1 (pc + 3) lv (.int r :: rest)) : wAt p l e R s m args below meth c Q nL G M pc lv st0 := fun H locs ls hl hR => va_calli (hr H locs ls hl hR) hR.2 (wA_in hR).1 (wA_in hR).2 (fun r' u t H1 locs1 ht hvm hw hB hz hk hS => by
    subst hw
    exact k H1 locs1 ls hl ⟨by rw [← ht]; exact hB, hS⟩)
theorem wa_calll {st0 : List Value} {a : Array Value} {r : Int64} (hr : ∀ (H : Heap) (locs : List Loc) (ls : Array Slot), lv_has ls nL lv → wR G M s H locs → va_Run p l e R s m args below meth c H locs 0 0 0 0 (F0 m pc ls st0) rest (va_Ql (fun r' (_ : Unit) => r' = r) (fun _ t => va_P (gD G) vwCl (wl G M1) t.heap) (wA G H.size) a) (wA G H.size)) (k : wAt p l e R s m args below meth c Q nL G M1 (pc + 3) lv (.long r :: rest)) : wAt p l e R s m args below meth c Q nL G M pc lv st0 := fun H locs ls hl hR => va_calll (hr H locs ls hl hR) hR.2 (wA_in hR).1 (wA_in hR).2 (fun r' u t H1 locs1 ht hvm hw hB hz hk hS => by
    subst hw
    exact k H1 locs1 ls hl ⟨by rw [← ht]; exact hB, hS⟩)
theorem wa_callv {st0 : List Value} {a : Array Value} (hr : ∀ (H : Heap) (locs : List Loc) (ls : Array Slot), lv_has ls nL lv → wR G M s H locs → va_Run p l e R s m args below meth c H locs 0 0 0 0 (F0 m pc ls st0) rest (va_Qv (fun _ : Unit => True) (fun _ t => va_P (gD G) vwCl (wl G M1) t.heap) (wA G H.size) a) (wA G H.size)) (k : wAt p l e R s m args below meth c Q nL G M1 (pc + 3) lv rest) : wAt p l e R s m args below meth c Q nL G M pc lv st0 := fun H locs ls hl hR => va_callv (hr H locs ls hl hR) hR.2 (wA_in hR).1 (wA_in hR).2 (fun u t H1 locs1 ht hvm hw hB hz hk hS => k H1 locs1 ls hl ⟨by rw [← ht]; exact hB, hS⟩)
theorem wa_callr {st0 : List Value} {a : Array Value} {j : Nat} (hr : ∀ (H : Heap) (locs : List Loc) (ls : Array Slot), lv_has ls nL lv → wR G M s H locs → va_Run p l e R s m args below meth c H locs 0 0 0 0 (F0 m pc ls st0) rest (va_Qr (fun _ : Unit => True) (fun _ ra t => ra = ga G j ∧ va_P (gD G) vwCl (wl G M1) t.heap) (wA G H.size) a) (wA G H.size)) (k : wAt p l e R s m args below meth c Q nL G M1 (pc + 3) lv (.ref (ga G j) :: rest)) : wAt p l e R s m args below meth c Q nL G M pc lv st0 := fun H locs ls hl hR => va_callr (hr H locs ls hl hR) hR.2 (wA_in hR).1 (wA_in hR).2 (fun u ra t H1 locs1 ht hvm hw hB hz hk hS => by
    obtain ⟨e1, hB⟩ := hB
    subst e1
    exact k H1 locs1 ls hl ⟨by rw [← ht]; exact hB, hS⟩)
theorem wr_V {cc : ByteArray} {C : String} {index n ci maxL i : Nat} {y : MethodName} {bytes : ByteArray} {ret : Option FieldType} {ws : List Cond} {rm : Room} {As : List Value} {Qc : Nat → Array Value → State → Outcome → State → Prop} {st0 : List Value} {fs : List Value} {q : vw_C} (hC : wC p m c cc nL s args Ts own G) (hM : ∀ sz : Nat, Met l y ws rm (va_Pc (.ref (ga G i) :: As) (fun U => U.heap.size = sz ∧ wB G M U)) (Qc sz) 0 0 (wA G sz)) (cw : CallW R s args own C index y bytes maxL ret ws rm 0 0 n) (hi : kd i = ci) (h99 : ci < 99) (he : cellOf G M i = .inr (ci, fs)) (hc : vwCl[ci]? = some q) (hq : q.1 = C) (hn : As.length = n) (hstack : st0 = As.reverse ++ .ref (ga G i) :: rest) (hroom : (rest.map fun v => v.category).sum ≤ 8) (hdg : decode cc pc = .ok (.invokevirtual index, 3)) : ∀ (H : Heap) (locs : List Loc) (ls : Array Slot), lv_has ls nL lv → wR G M s H locs → va_Run p l e R s m args below meth c H locs 0 0 0 0 (F0 m pc ls st0) rest (Qc H.size (Value.ref (ga G i) :: As).toArray) (wA G H.size) := fun H locs ls hl hR => va_runV hC.1 (hM H.size) cw ⟨fun a U g mk q => ⟨q.1, q.2.1, q.2.2.blind⟩, by rw [← hq]; exact va_recv hC.2.1 hR.1 hc (wl_at2 hi h99 he), fun U hU hW => ⟨rfl, by rw [hU], by rw [hU]; exact hR.1, va_K.moved hW.alike hC.2.1, hC.2.2.1, hC.2.2.2.warm hW⟩⟩ rfl hn hl.1 hstack (lv_room hroom) hdg ⟨Nat.zero_le _, Nat.zero_le _⟩
theorem wr_S {cc : ByteArray} {index n maxL : Nat} {y : MethodName} {bytes : ByteArray} {ret : Option FieldType} {ws : List Cond} {rm : Room} {As : List Value} {Qc : Nat → Array Value → State → Outcome → State → Prop} {st0 : List Value} (hC : wC p m c cc nL s args Ts own G) (hM : ∀ sz : Nat, Met l y ws rm (va_Pc As (fun U => U.heap.size = sz ∧ wB G M U)) (Qc sz) 0 0 (wA G sz)) (cw : CallB R s args own index y bytes maxL ret ws rm 0 0 n ∧ (Cond.static y).before args s = true) (hn : As.length = n) (hstack : st0 = As.reverse ++ rest) (hroom : (rest.map fun v => v.category).sum ≤ 8) (hdg : decode cc pc = .ok (.invokestatic index, 3)) : ∀ (H : Heap) (locs : List Loc) (ls : Array Slot), lv_has ls nL lv → wR G M s H locs → va_Run p l e R s m args below meth c H locs 0 0 0 0 (F0 m pc ls st0) rest (Qc H.size As.toArray) (wA G H.size) := fun H locs ls hl hR => va_runS hC.1 (hM H.size) cw ⟨fun a U g mk q => ⟨q.1, q.2.1, q.2.2.blind⟩, fun U hU hW => ⟨rfl, by rw [hU], by rw [hU]; exact hR.1, va_K.moved hW.alike hC.2.1, hC.2.2.1, hC.2.2.2.warm hW⟩⟩ rfl hn hl.1 hstack (lv_room hroom) hdg ⟨Nat.zero_le _, Nat.zero_le _⟩
theorem wr_SN {cc : ByteArray} {host : String} {index n maxL : Nat} {y : MethodName} {bytes : ByteArray} {ret : Option FieldType} {ws : List Cond} {rm : Room} {As : List Value} {Qc : Nat → Array Value → State → Outcome → State → Prop} {st0 : List Value} (hC : wC p m c cc nL s args Ts own G) (hM : ∀ sz : Nat, Met l y ws rm (va_Pc As (fun U => U.heap.size = sz ∧ wB G M U)) (Qc sz) 0 0 (wA G sz)) (cw : va_CN R s args own index y host bytes maxL ret ws rm 0 0 n ∧ (Cond.static y).before args s = true ∧ True) (hn : As.length = n) (hstack : st0 = As.reverse ++ rest) (hroom : (rest.map fun v => v.category).sum ≤ 8) (hdg : decode cc pc = .ok (.invokestatic index, 3)) : ∀ (H : Heap) (locs : List Loc) (ls : Array Slot), lv_has ls nL lv → wR G M s H locs → va_Run p l e R s m args below meth c H locs 0 0 0 0 (F0 m pc ls st0) rest (Qc H.size As.toArray) (wA G H.size) := fun H locs ls hl hR => va_runSN hC.1 (hM H.size) cw ⟨fun a U g mk q => ⟨q.1, q.2.1, q.2.2.blind⟩, fun U hU hW => ⟨rfl, by rw [hU], by rw [hU]; exact hR.1, va_K.moved hW.alike hC.2.1, hC.2.2.1, hC.2.2.2.warm hW⟩⟩ rfl hn hl.1 hstack (lv_room hroom) hdg ⟨Nat.zero_le _, Nat.zero_le _⟩
theorem wa_min (hC : wC p m c cc nL s args Ts own G) {index : Nat} (h1 : Cond.methodLink own index Lib.Math.min.name ∈ Ts) (h2 : Cond.static Lib.Math.min.name ∈ Ts) (h3 : Cond.initialized "java/lang/Math" ∈ Ts) (h4 : Cond.code Lib.Math.min.name Lib.Math.min.code 2 (some .int) ∈ Ts) (hf : 1 ≤ R.frames) (hl0 : (rest.map fun v => v.category).sum + 13 ≤ R.locals) {x y : Int32} (hdg : decode cc pc = .ok (.invokestatic index, 3)) (k : wAt p l e R s m args below meth c Q nL G M (pc + 3) lv (.int (if y < x then y else x) :: rest)) : wAt p l e R s m args below meth c Q nL G M pc lv (.int y :: .int x :: rest) := fun H locs ls hl hR => va_mmin hC.1.1 hC.1.2.1 (hC.1.2.2.1.trans hl.1.symm) hC.1.2.2.2.1 (hC.1.2.2.2.2 _ h1) (hC.1.2.2.2.2 _ h2) (hC.1.2.2.2.2 _ h3) (hC.1.2.2.2.2 _ h4) hf hl0 (Nat.zero_le _) (Nat.zero_le _) hdg (k H locs ls hl hR)
theorem wa_max (hC : wC p m c cc nL s args Ts own G) {index : Nat} (h1 : Cond.methodLink own index Lib.Math.max.name ∈ Ts) (h2 : Cond.static Lib.Math.max.name ∈ Ts) (h3 : Cond.initialized "java/lang/Math" ∈ Ts) (h4 : Cond.code Lib.Math.max.name Lib.Math.max.code 2 (some .int) ∈ Ts) (hf : 1 ≤ R.frames) (hl0 : (rest.map fun v => v.category).sum + 13 ≤ R.locals) {x y : Int32} (hdg : decode cc pc = .ok (.invokestatic index, 3)) (k : wAt p l e R s m args below meth c Q nL G M (pc + 3) lv (.int (if x < y then y else x) :: rest)) : wAt p l e R s m args below meth c Q nL G M pc lv (.int y :: .int x :: rest) := fun H locs ls hl hR => va_mmax hC.1.1 hC.1.2.1 (hC.1.2.2.1.trans hl.1.symm) hC.1.2.2.2.1 (hC.1.2.2.2.2 _ h1) (hC.1.2.2.2.2 _ h2) (hC.1.2.2.2.2 _ h3) (hC.1.2.2.2.2 _ h4) hf hl0 (Nat.zero_le _) (Nat.zero_le _) hdg (k H locs ls hl hR)
theorem wa_abs (hC : wC p m c cc nL s args Ts own G) {index : Nat} (h1 : Cond.methodLink own index Lib.Math.abs.name ∈ Ts) (h2 : Cond.static Lib.Math.abs.name ∈ Ts) (h3 : Cond.initialized "java/lang/Math" ∈ Ts) (h4 : Cond.code Lib.Math.abs.name Lib.Math.abs.code 1 (some .int) ∈ Ts) (hf : 1 ≤ R.frames) (hl0 : (rest.map fun v => v.category).sum + 13 ≤ R.locals) {x : Int32} (hdg : decode cc pc = .ok (.invokestatic index, 3)) (k : wAt p l e R s m args below meth c Q nL G M (pc + 3) lv (.int (if 0 ≤ x then x else 0 - x) :: rest)) : wAt p l e R s m args below meth c Q nL G M pc lv (.int x :: rest) := fun H locs ls hl hR => va_mabs hC.1.1 hC.1.2.1 (hC.1.2.2.1.trans hl.1.symm) hC.1.2.2.2.1 (hC.1.2.2.2.2 _ h1) (hC.1.2.2.2.2 _ h2) (hC.1.2.2.2.2 _ h3) (hC.1.2.2.2.2 _ h4) hf hl0 (Nat.zero_le _) (Nat.zero_le _) hdg (k H locs ls hl hR)
theorem wa_copy (hC : wC p m c cc nL s args Ts own G) {index : Nat} (h1 : Cond.methodLink own index arraycopyName ∈ Ts) (h2 : Cond.native arraycopyName ∈ Ts) (h3 : Cond.static arraycopyName ∈ Ts) (h4 : Cond.initialized "java/lang/System" ∈ Ts) {i0 i1 : Nat} (hi0 : kd i0 = 20) (hi1 : kd i1 = 20) {n : Int32} (hn0 : ¬ n < 0) (hn1 : n.toNatClampNeg ≤ ln i0) (hn2 : n.toNatClampNeg ≤ ln i1) (hf : 1 ≤ R.frames) (hl0 : (rest.map fun v => v.category).sum + (nativeFrameWords "java/lang/System" "arraycopy" 5 + 11) ≤ R.locals) (hdg : decode cc pc = .ok (.invokestatic index, 3)) (k : wAt p l e R s m args below meth c Q nL G (cpM M i0 i1 n.toNatClampNeg) (pc + 3) lv rest) : wAt p l e R s m args below meth c Q nL G M pc lv (.int n :: .int 0 :: .ref (ga G i1) :: .int 0 :: .ref (ga G i0) :: rest) := fun H locs ls hl hR => va_copyi hC.1.1 hC.1.2.1 (hC.1.2.2.1.trans hl.1.symm) hC.1.2.2.2.1 (hC.1.2.2.2.2 _ h1) (hC.1.2.2.2.2 _ h2) (hC.1.2.2.2.2 _ h3) (hC.1.2.2.2.2 _ h4) hC.2.1 hR.1 (wA_D hC.2.2.1) hR.2 i0 i1 0 0 (wl_at2 hi0 (by decide) (ce20 hi0)) (wl_at2 hi1 (by decide) (ce20 hi1)) rfl rfl rfl (by decide) (by decide) hn0 (by rw [show (0 : Int32).toNatClampNeg = 0 from by decide]; omega) (by rw [show (0 : Int32).toNatClampNeg = 0 from by decide]; omega) (fun _ _ => rfl) hf hl0 hdg (fun H1 locs1 hP hD hS => k H1 locs1 ls hl ⟨by
    rw [show (0 : Int32).toNatClampNeg = 0 from by decide, wl_set (M' := cpM M i0 i1 n.toNatClampNeg) (kdlt hi1 (by decide)) (fun j hj => ce_cpM hj) (by rw [ce20 hi1]; congr 4; funext b; simp [cpM])] at hP
    exact hP, hS⟩)
end WW2C
/-! the words in which methods are told as functions -/
def FU : Nat := 100000
def ix (j : Int32) (n : Nat) : Option Nat := if j < 0 ∨ n ≤ j.toNatClampNeg then none else some j.toNatClampNeg
theorem ix_some {j : Int32} {n k : Nat} (h : ix j n = some k) : vp_in j n ∧ k = j.toNatClampNeg := by
  unfold ix at h
  split at h
  · cases h
  · next q => exact ⟨q, (Option.some.inj h).symm⟩
def dvI (x y : Int32) : Option Int32 := if y = 0 then none else some (x / y)
def rmI (x y : Int32) : Option Int32 := if y = 0 then none else some (x - x / y * y)
def dvL (x y : Int64) : Option Int64 := if y = 0 then none else some (x / y)
def rmL (x y : Int64) : Option Int64 := if y = 0 then none else some (x - x / y * y)
theorem dvI_some {x y v : Int32} (h : dvI x y = some v) : ¬ y = 0 ∧ v = x / y := by
  unfold dvI at h
  split at h
  · cases h
  · next q => exact ⟨q, (Option.some.inj h).symm⟩
theorem rmI_some {x y v : Int32} (h : rmI x y = some v) : ¬ y = 0 ∧ v = x - x / y * y := by
  unfold rmI at h
  split at h
  · cases h
  · next q => exact ⟨q, (Option.some.inj h).symm⟩
theorem dvL_some {x y v : Int64} (h : dvL x y = some v) : ¬ y = 0 ∧ v = x / y := by
  unfold dvL at h
  split at h
  · cases h
  · next q => exact ⟨q, (Option.some.inj h).symm⟩
theorem rmL_some {x y v : Int64} (h : rmL x y = some v) : ¬ y = 0 ∧ v = x - x / y * y := by
  unfold rmL at h
  split at h
  · cases h
  · next q => exact ⟨q, (Option.some.inj h).symm⟩
def cpG (n : Int32) (a b : Nat) : Option Nat := if n < 0 ∨ a < n.toNatClampNeg ∨ b < n.toNatClampNeg then none else some n.toNatClampNeg
theorem cpG_some {n : Int32} {a b k : Nat} (h : cpG n a b = some k) : ¬ n < 0 ∧ n.toNatClampNeg ≤ a ∧ n.toNatClampNeg ≤ b ∧ k = n.toNatClampNeg := by
  unfold cpG at h
  split at h
  · cases h
  · next q => exact ⟨fun z => q (Or.inl z), Nat.le_of_not_lt (fun z => q (Or.inr (Or.inl z))), Nat.le_of_not_lt (fun z => q (Or.inr (Or.inr z))), (Option.some.inj h).symm⟩
def bz (x : Int32) : Option Bool := if x = 0 then some false else if x = 1 then some true else none
theorem bz_some {x : Int32} {b : Bool} (h : bz x = some b) : x = b2 b := by
  unfold bz at h
  split at h
  · next q => cases h; exact q
  · split at h
    · next q => cases h; exact q
    · cases h
/-- a reference's kind, where it comes out of a call -/
def gk (j k : Nat) : Option Unit := if kd j = k then some () else none
theorem gk_some {j k : Nat} {u : Unit} (h : gk j k = some u) : kd j = k := by
  unfold gk at h
  split at h
  · next q => exact q
  · cases h
theorem bd {α β : Type} {o : Option α} {f : α → Option β} {r : β} (h : o.bind f = some r) : ∃ a, o = some a ∧ f a = some r := Option.bind_eq_some_iff.mp h
theorem ite_t {α : Type} {c : Prop} [Decidable c] {a b r : α} (h : ite c a b = r) (hc : c) : a = r := by rwa [if_pos hc] at h
theorem ite_f {α : Type} {c : Prop} [Decidable c] {a b r : α} (h : ite c a b = r) (hc : ¬ c) : b = r := by rwa [if_neg hc] at h
theorem ite_e {α : Type} {c : Prop} [Decidable c] {a b r : α} {P : Prop} (h : ite c a b = r) (t : c → a = r → P) (f : ¬ c → b = r → P) : P := by
  by_cases hc : c
  · exact t hc (ite_t h hc)
  · exact f hc (ite_f h hc)
theorem so_inj {α : Type} {a b : α} (h : some a = some b) : a = b := Option.some.inj h
theorem ti_ne {x k : Int32} {a : Int} (h : ¬ x = k) (hk : k.toInt = a) : x.toInt ≠ a := fun q => h (Int32.toInt_inj.mp (q.trans hk.symm))
end
section
/-! the methods as functions of the world's ints and longs (written by program from the bytecode) -/
def fX0_place (i : Nat) (x1 : Int32) (M0 : wM) : Option Nat :=
  (rmI ((M0.1 i 1) + x1) (5 : Int32)).bind (fun v1 => if v1 < (0 : Int32) then none
    else if (5 : Int32) ≤ v1 then none
    else (ix v1 5).bind (fun k4 => some ((i + 1) + 1 + 9 * k4)))
def fX5_copyFrom (i : Nat) (j1 : Nat) (M0 : wM) : Option wM :=
  (cpG (if (nI (ln (i + 1))) < (nI (ln (j1 + 1))) then (nI (ln (i + 1))) else (nI (ln (j1 + 1)))) (ln (j1 + 1)) (ln (i + 1))).bind (fun k1 => some (st (cpM M0 (j1 + 1) (i + 1) k1) i 2 ((cpM M0 (j1 + 1) (i + 1) k1).1 j1 2)))
def fX2_copyFrom (i : Nat) (j1 : Nat) (M0 : wM) : Option wM :=
  (fX5_copyFrom (i + 1) (j1 + 1) M0).bind (fun M1 => (fX5_copyFrom (i + 3) (j1 + 3) M1).bind (fun M2 => (fX5_copyFrom (i + 5) (j1 + 5) M2).bind (fun M3 => (fX5_copyFrom (i + 7) (j1 + 7) M3).bind (fun M4 => some (st (st (st M4 i 4 (M4.1 j1 4)) i 5 ((st M4 i 4 (M4.1 j1 4)).1 j1 5)) i 6 ((st (st M4 i 4 (M4.1 j1 4)) i 5 ((st M4 i 4 (M4.1 j1 4)).1 j1 5)).1 j1 6))))))
def fX0_keep_J30 (i : Nat) (j1 : Nat)   (M0 : wM) : Option wM :=
  (fX0_place i (M0.1 i 2) M0).bind (fun v1 => (gk v1 2).bind (fun _ => (fX2_copyFrom v1 j1 M0).bind (fun M3 => some (st M3 i 2 ((M3.1 i 2) + (1 : Int32))))))
def fX0_keep (i : Nat) (j1 : Nat) (M0 : wM) : Option wM :=
  if (M0.1 i 2) < (5 : Int32) then fX0_keep_J30 i j1 M0
    else (rmI ((M0.1 i 1) + (1 : Int32)) (5 : Int32)).bind (fun v5 => fX0_keep_J30 i j1 (st (st M0 i 1 v5) i 2 (((st M0 i 1 v5).1 i 2) - (1 : Int32))))
def fX0_giveBack (i : Nat) (j1 : Nat) (M0 : wM) : Option wM :=
  (fX0_place i ((M0.1 i 2) - (1 : Int32)) M0).bind (fun v1 => (gk v1 2).bind (fun _ => (fX2_copyFrom j1 v1 M0).bind (fun M3 => some (st M3 i 2 ((M3.1 i 2) - (1 : Int32))))))
def fX1_clear (i : Nat) (M0 : wM) : Option wM :=
  some (st (stL M0 i (0 : Int64)) i 1 (0 : Int32))
def fX1_add_J43 (i : Nat) (x1 : Int32)  (s1 : Int32) (M0 : wM) : Option wM :=
  some (st (stL (st M0 i 3 s1) i (((st M0 i 3 s1).2 i) + x1.toInt64)) i 1 (((stL (st M0 i 3 s1) i (((st M0 i 3 s1).2 i) + x1.toInt64)).1 i 1) + (1 : Int32)))
def fX1_add_J20 (i : Nat) (x1 : Int32)  (s1 : Int32) (M0 : wM) : Option wM :=
  if ((st M0 i 2 s1).1 i 1) = (0 : Int32) then fX1_add_J43 i x1 x1 (st M0 i 2 s1)
    else fX1_add_J43 i x1 (if ((st M0 i 2 s1).1 i 3) < x1 then x1 else ((st M0 i 2 s1).1 i 3)) (st M0 i 2 s1)
def fX1_add (i : Nat) (x1 : Int32) (M0 : wM) : Option wM :=
  if (M0.1 i 1) = (0 : Int32) then fX1_add_J20 i x1 x1 M0
    else fX1_add_J20 i x1 (if x1 < (M0.1 i 2) then x1 else (M0.1 i 2)) M0
def fJ9_floorDiv_f86c9_J27 (x0 : Int64) (x2 : Int64) (M0 : wM)  (x4 : Int64) : Option Int64 :=
  some x4
def fJ9_floorDiv_f86c9 (x0 : Int64) (x2 : Int64) (M0 : wM) : Option Int64 :=
  (dvL x0 x2).bind (fun v1 => if (0 : Int32) ≤ (lg_cmp (x0 ^^^ x2) (0 : Int64)) then fJ9_floorDiv_f86c9_J27 x0 x2 M0 v1
    else if (lg_cmp (v1 * x2) x0) = (0 : Int32) then fJ9_floorDiv_f86c9_J27 x0 x2 M0 v1
    else some (v1 - (1 : Int64)))
def fX6_divideDown (x0 : Int64) (x2 : Int64) (M0 : wM) : Option Int64 :=
  if (lg_cmp x2 (0 : Int64)) = (0 : Int32) then some (0 : Int64)
    else (fJ9_floorDiv_f86c9 x0 x2 M0).bind (fun v2 => some v2)
def fX1_height (i : Nat) (M0 : wM) : Option Int32 :=
  (fX6_divideDown (M0.2 i) ((M0.1 i 1).toInt64) M0).bind (fun v1 => some v1.toInt32)
def fX1_spread (i : Nat) (M0 : wM) : Option Int32 :=
  some ((M0.1 i 3) - (M0.1 i 2))
def fX2_track (i : Nat) (x1 : Int32) (M0 : wM) : Option Nat :=
  if x1 = (0 : Int32) then some (i + 3)
    else if x1 = (1 : Int32) then some (i + 5)
    else if x1 = (2 : Int32) then some (i + 7)
    else some (i + 1)
def fX2_setting (i : Nat) (x1 : Int32) (M0 : wM) : Option Int32 :=
  if x1 = (0 : Int32) then some (M0.1 i 4)
    else if x1 = (1 : Int32) then some (M0.1 i 5)
    else some (M0.1 i 6)
def fX2_putSetting (i : Nat) (x1 : Int32) (x2 : Int32) (M0 : wM) : Option wM :=
  if x1 = (0 : Int32) then some (st M0 i 4 x2)
    else if x1 = (1 : Int32) then some (st M0 i 5 x2)
    else some (st M0 i 6 x2)
def fX6_at (j0 : Nat) (x1 : Int32) (M0 : wM) : Option Int32 :=
  if x1 < (0 : Int32) then some (0 : Int32)
    else if (nI (ln j0)) ≤ x1 then some (0 : Int32)
    else (ix x1 (ln j0)).bind (fun k3 => some (M0.1 j0 k3))
def fX5_value (i : Nat) (x1 : Int32) (x2 : Int32) (M0 : wM) : Option Int32 :=
  (fX6_at (i + 1) ((x1 * (4 : Int32)) + x2) M0).bind (fun v1 => some v1)
def fX2_baseValue_J32 (i : Nat) (x1 : Int32) (x2 : Int32) (M0 : wM)  (x3 : Int32) : Option Int32 :=
  if x3 < (M0.1 (i + 1) 2) then (fX5_value (i + 1) x3 (0 : Int32) M0).bind (fun v2 => (fX5_value (i + 1) x3 x2 M0).bind (fun v3 => if v2 = x1 then some v3
    else if x3 = (0 : Int32) then some (-2000000004 : Int32)
    else (fX5_value (i + 1) (x3 - (1 : Int32)) (0 : Int32) M0).bind (fun v6 => (fX5_value (i + 1) (x3 - (1 : Int32)) x2 M0).bind (fun v7 => (fX6_divideDown (((v3 - v7).toInt64) * ((x1 - v6).toInt64)) ((v2 - v6).toInt64) M0).bind (fun v8 => some ((v7.toInt64 + v8).toInt32))))))
    else some (-2000000004 : Int32)
def fX2_baseValue_B2 (i : Nat) (x1 : Int32) (x2 : Int32) (M0 : wM) (bk2 : Int32 → Option Int32) (x3 : Int32) : Option Int32 :=
  if (M0.1 (i + 1) 2) ≤ x3 then fX2_baseValue_J32 i x1 x2 M0 x3
    else (fX5_value (i + 1) x3 (0 : Int32) M0).bind (fun v10 => if x1 ≤ v10 then fX2_baseValue_J32 i x1 x2 M0 x3
    else bk2 (x3 + (1 : Int32)))
def fX2_baseValue_L2 (i : Nat) (x1 : Int32) (x2 : Int32) (M0 : wM)  : Nat → Int32 → Option Int32
  | 0 => fun _ => none
  | n + 1 => fX2_baseValue_B2 i x1 x2 M0  (fX2_baseValue_L2 i x1 x2 M0  n)
def fX2_baseValue (i : Nat) (x1 : Int32) (x2 : Int32) (M0 : wM) : Option Int32 :=
  fX2_baseValue_L2 i x1 x2 M0 FU (0 : Int32)
def fJ9_floorDiv_7cf53 (x0 : Int32) (x1 : Int32) (M0 : wM) : Option Int32 :=
  (dvI x0 x1).bind (fun v1 => if (0 : Int32) ≤ (x0 ^^^ x1) then some v1
    else if (v1 * x1) = x0 then some v1
    else some (v1 - (1 : Int32)))
def fX2_heightAt (i : Nat) (x1 : Int32) (x2 : Int32) (x3 : Int32) (M0 : wM) : Option Int32 :=
  (fX2_baseValue i x1 (1 : Int32) M0).bind (fun v1 => if v1 = (-2000000004 : Int32) then some (-2000000004 : Int32)
    else (fX2_baseValue i x1 (2 : Int32) M0).bind (fun v3 => (fJ9_floorDiv_7cf53 (v3 + x3) (2 : Int32) M0).bind (fun v4 => (fJ9_floorDiv_7cf53 (v1 + x2) (2 : Int32) M0).bind (fun v5 => (fX6_divideDown (((2930 : Int64) * (((2732 : Int32) + v4).toInt64)) * ((v1 - x2).toInt64)) v5.toInt64 M0).bind (fun v6 => some ((((M0.1 i 4).toInt64) + v6).toInt32))))))
def fX2_isStepEnd (i : Nat) (x1 : Int32) (M0 : wM) : Option Bool :=
  (fX5_value (i + 1) x1 (2 : Int32) M0).bind (fun v1 => (fX5_value (i + 1) (x1 - (1 : Int32)) (2 : Int32) M0).bind (fun v2 => if (if (0 : Int32) ≤ (v1 - v2) then (v1 - v2) else 0 - (v1 - v2)) < (M0.1 i 6) then some false
    else some true))
def fX2_steps_B4 (i : Nat) (M0 : wM) (bk4 : Int32 → Int32 → Option Int32) (x1 : Int32) (x2 : Int32) : Option Int32 :=
  if (M0.1 (i + 1) 2) ≤ x2 then some x1
    else (fX2_isStepEnd i x2 M0).bind (fun v2 => if (b2 v2) = (0 : Int32) then bk4 (x1 + (0 : Int32)) (x2 + (1 : Int32))
    else bk4 (x1 + (1 : Int32)) (x2 + (1 : Int32)))
def fX2_steps_L4 (i : Nat) (M0 : wM)  : Nat → Int32 → Int32 → Option Int32
  | 0 => fun _ _ => none
  | n + 1 => fX2_steps_B4 i M0  (fX2_steps_L4 i M0  n)
def fX2_steps (i : Nat) (M0 : wM) : Option Int32 :=
  fX2_steps_L4 i M0 FU (0 : Int32) (1 : Int32)
def fX6_put (j0 : Nat) (x1 : Int32) (x2 : Int32) (M0 : wM) : Option wM :=
  if x1 < (0 : Int32) then some M0
    else if (nI (ln j0)) ≤ x1 then some M0
    else (ix x1 (ln j0)).bind (fun k3 => some (st M0 j0 k3 x2))
def fX5_standsOut_J59 (i : Nat) (x1 : Int32) (x2 : Int32) (M0 : wM)  (x4 : Int32) (x5 : Int32) : Option Bool :=
  if (-x2) ≤ x4 then some false
    else if (-x2) ≤ x5 then some false
    else some true
def fX5_standsOut (i : Nat) (x1 : Int32) (x2 : Int32) (M0 : wM) : Option Bool :=
  if x1 ≤ (0 : Int32) then some false
    else if x1 < ((M0.1 i 2) - (1 : Int32)) then (fX5_value i x1 (1 : Int32) M0).bind (fun v5 => (fX5_value i (x1 - (1 : Int32)) (1 : Int32) M0).bind (fun v6 => (fX5_value i (x1 + (1 : Int32)) (1 : Int32) M0).bind (fun v7 => if (v5 - v6) ≤ x2 then fX5_standsOut_J59 i x1 x2 M0 (v5 - v6) (v5 - v7)
    else if x2 < (v5 - v7) then some true
    else fX5_standsOut_J59 i x1 x2 M0 (v5 - v6) (v5 - v7))))
    else some false
def fX3_isGust (i : Nat) (x1 : Int32) (M0 : wM) : Option Bool :=
  (fX6_at (i + 4) x1 M0).bind (fun v1 => if v1 = (1 : Int32) then some true
    else some false)
def fX3_isGood (i : Nat) (x1 : Int32) (M0 : wM) : Option Bool :=
  (fX6_at (i + 3) x1 M0).bind (fun v1 => if v1 = (-2000000004 : Int32) then some false
    else (fX6_at (i + 4) x1 M0).bind (fun v3 => if v3 = (0 : Int32) then some true
    else some false))
def fX3_countKinds_J60 (i : Nat) (bk12 : Int32 → wM → Option wM) (x1 : Int32) (s1 : Int32) (s2 : Int32) (M0 : wM) : Option wM :=
  bk12 (x1 + (1 : Int32)) (st M0 i 10 (s1 + s2))
def fX3_countKinds_J38 (i : Nat) (bk12 : Int32 → wM → Option wM) (x1 : Int32) (s1 : Int32) (s2 : Int32) (M0 : wM) : Option wM :=
  (fX3_isGood i x1 (st M0 i 9 (s1 + s2))).bind (fun v1 => if (b2 v1) = (0 : Int32) then fX3_countKinds_J60 i bk12 x1 ((st M0 i 9 (s1 + s2)).1 i 10) (0 : Int32) (st M0 i 9 (s1 + s2))
    else fX3_countKinds_J60 i bk12 x1 ((st M0 i 9 (s1 + s2)).1 i 10) (1 : Int32) (st M0 i 9 (s1 + s2)))
def fX3_countKinds_B12 (i : Nat) (bk12 : Int32 → wM → Option wM) (x1 : Int32) (M0 : wM) : Option wM :=
  if (M0.1 i 8) ≤ x1 then some M0
    else (fX3_isGust i x1 M0).bind (fun v4 => if (b2 v4) = (0 : Int32) then fX3_countKinds_J38 i bk12 x1 (M0.1 i 9) (0 : Int32) M0
    else fX3_countKinds_J38 i bk12 x1 (M0.1 i 9) (1 : Int32) M0)
def fX3_countKinds_L12 (i : Nat)  : Nat → Int32 → wM → Option wM
  | 0 => fun _ _ => none
  | n + 1 => fX3_countKinds_B12 i  (fX3_countKinds_L12 i  n)
def fX3_countKinds (i : Nat) (M0 : wM) : Option wM :=
  fX3_countKinds_L12 i FU (0 : Int32) (st (st M0 i 9 (0 : Int32)) i 10 (0 : Int32))
def fX3_lastVisit_B13 (i : Nat) (x1 : Int32) (M0 : wM) (bk13 : Int32 → Int32 → Option Int32) (x2 : Int32) (x3 : Int32) : Option Int32 :=
  if x3 < (0 : Int32) then some (-1 : Int32)
    else (fX3_isGood i x3 M0).bind (fun v2 => if (b2 v2) = (0 : Int32) then bk13 x2 (x3 + (-1 : Int32))
    else (fX6_at (i + 2) x3 M0).bind (fun v4 => if v4 = x2 then some x3
    else bk13 x2 (x3 + (-1 : Int32))))
def fX3_lastVisit_L13 (i : Nat) (x1 : Int32) (M0 : wM)  : Nat → Int32 → Int32 → Option Int32
  | 0 => fun _ _ => none
  | n + 1 => fX3_lastVisit_B13 i x1 M0  (fX3_lastVisit_L13 i x1 M0  n)
def fX3_lastVisit (i : Nat) (x1 : Int32) (M0 : wM) : Option Int32 :=
  (fX6_at (i + 2) x1 M0).bind (fun v6 => fX3_lastVisit_L13 i x1 M0 FU v6 (x1 - (1 : Int32)))
def fX3_findLoops_J32 (i : Nat) (bk7 : Int32 → wM → Option wM) (x1 : Int32) (s0 : Int32) (M0 : wM) : Option wM :=
  if s0 = (-1 : Int32) then bk7 (x1 + (1 : Int32)) M0
    else (fX6_put (i + 7) (M0.1 i 11) s0 M0).bind (fun M2 => (fX6_put (i + 8) (M2.1 i 11) x1 M2).bind (fun M3 => bk7 (x1 + (1 : Int32)) (st M3 i 11 ((M3.1 i 11) + (1 : Int32)))))
def fX3_findLoops_B7 (i : Nat) (bk7 : Int32 → wM → Option wM) (x1 : Int32) (M0 : wM) : Option wM :=
  if (M0.1 i 8) ≤ x1 then some M0
    else (fX3_isGood i x1 M0).bind (fun v5 => if (b2 v5) = (0 : Int32) then fX3_findLoops_J32 i bk7 x1 (-1 : Int32) M0
    else (fX3_lastVisit i x1 M0).bind (fun v7 => fX3_findLoops_J32 i bk7 x1 v7 M0))
def fX3_findLoops_L7 (i : Nat)  : Nat → Int32 → wM → Option wM
  | 0 => fun _ _ => none
  | n + 1 => fX3_findLoops_B7 i  (fX3_findLoops_L7 i  n)
def fX3_findLoops (i : Nat) (M0 : wM) : Option wM :=
  fX3_findLoops_L7 i FU (0 : Int32) (st M0 i 11 (0 : Int32))
def fX3_begin (i : Nat) (x1 : Int32) (M0 : wM) : Option Int32 :=
  (fX6_at (i + 7) x1 M0).bind (fun v1 => some v1)
def fX3_end (i : Nat) (x1 : Int32) (M0 : wM) : Option Int32 :=
  (fX6_at (i + 8) x1 M0).bind (fun v1 => some v1)
def fX3_minutes (i : Nat) (x1 : Int32) (M0 : wM) : Option Int32 :=
  (fX3_end i x1 M0).bind (fun v1 => (fX6_at (i + 1) v1 M0).bind (fun v2 => (fX3_begin i x1 M0).bind (fun v3 => (fX6_at (i + 1) v3 M0).bind (fun v4 => some (v2 - v4)))))
def fX3_shortestLoop_J45 (i : Nat) (x1 : Int32) (M0 : wM) (bk14 : Int32 → Int32 → Option Int32) (x2 : Int32) (x3 : Int32) (s0 : Int32) : Option Int32 :=
  if s0 = (0 : Int32) then bk14 x2 (x3 + (1 : Int32))
    else if x2 = (-1 : Int32) then bk14 x3 (x3 + (1 : Int32))
    else (fX3_minutes i x3 M0).bind (fun v3 => (fX3_minutes i x2 M0).bind (fun v4 => if v4 ≤ v3 then bk14 x2 (x3 + (1 : Int32))
    else bk14 x3 (x3 + (1 : Int32))))
def fX3_shortestLoop_B14 (i : Nat) (x1 : Int32) (M0 : wM) (bk14 : Int32 → Int32 → Option Int32) (x2 : Int32) (x3 : Int32) : Option Int32 :=
  if (M0.1 i 11) ≤ x3 then some x2
    else (fX3_begin i x3 M0).bind (fun v7 => if x1 < v7 then fX3_shortestLoop_J45 i x1 M0 bk14 x2 x3 (0 : Int32)
    else (fX3_end i x3 M0).bind (fun v9 => if v9 < x1 then fX3_shortestLoop_J45 i x1 M0 bk14 x2 x3 (0 : Int32)
    else fX3_shortestLoop_J45 i x1 M0 bk14 x2 x3 (1 : Int32)))
def fX3_shortestLoop_L14 (i : Nat) (x1 : Int32) (M0 : wM)  : Nat → Int32 → Int32 → Option Int32
  | 0 => fun _ _ => none
  | n + 1 => fX3_shortestLoop_B14 i x1 M0  (fX3_shortestLoop_L14 i x1 M0  n)
def fX3_shortestLoop (i : Nat) (x1 : Int32) (M0 : wM) : Option Int32 :=
  (fX3_isGood i x1 M0).bind (fun v11 => if (b2 v11) = (0 : Int32) then some (-1 : Int32)
    else fX3_shortestLoop_L14 i x1 M0 FU (-1 : Int32) (0 : Int32))
def fX3_openLoopOf (i : Nat) (x1 : Int32) (M0 : wM) : Option Int32 :=
  (fX6_at (i + 5) x1 M0).bind (fun v1 => some v1)
def fX3_rawHeight (i : Nat) (x1 : Int32) (M0 : wM) : Option Int32 :=
  (fX6_at (i + 3) x1 M0).bind (fun v1 => some v1)
def fX3_misclosure (i : Nat) (x1 : Int32) (M0 : wM) : Option Int32 :=
  (fX3_end i x1 M0).bind (fun v1 => (fX3_rawHeight i v1 M0).bind (fun v2 => (fX3_begin i x1 M0).bind (fun v3 => (fX3_rawHeight i v3 M0).bind (fun v4 => some (v2 - v4)))))
def fX3_withoutDrift (i : Nat) (x1 : Int32) (M0 : wM) : Option Int32 :=
  (fX3_isGood i x1 M0).bind (fun v1 => if (b2 v1) = (0 : Int32) then some (-2000000004 : Int32)
    else (fX3_openLoopOf i x1 M0).bind (fun v3 => if v3 = (-1 : Int32) then (fX3_rawHeight i x1 M0).bind (fun v12 => some v12)
    else (fX6_at (i + 1) x1 M0).bind (fun v5 => (fX3_begin i v3 M0).bind (fun v6 => (fX6_at (i + 1) v6 M0).bind (fun v7 => (fX3_rawHeight i x1 M0).bind (fun v8 => (fX3_misclosure i v3 M0).bind (fun v9 => (fX3_minutes i v3 M0).bind (fun v10 => (fX6_divideDown (v9.toInt64 * ((v5 - v7).toInt64)) v10.toInt64 M0).bind (fun v11 => some ((v8.toInt64 - v11).toInt32))))))))))
def fX3_workOut_B143 (i : Nat) (j1 : Nat) (x2 : Int32) (bk143 : Int32 → wM → Option wM) (x4 : Int32) (M0 : wM) : Option wM :=
  if (M0.1 i 8) ≤ x4 then some M0
    else (fX3_shortestLoop i x4 M0).bind (fun v2 => (fX6_put (i + 5) x4 v2 M0).bind (fun M3 => (fX3_withoutDrift i x4 M3).bind (fun v4 => (fX6_put (i + 6) x4 v4 M3).bind (fun M5 => bk143 (x4 + (1 : Int32)) M5))))
def fX3_workOut_L143 (i : Nat) (j1 : Nat) (x2 : Int32)  : Nat → Int32 → wM → Option wM
  | 0 => fun _ _ => none
  | n + 1 => fX3_workOut_B143 i j1 x2  (fX3_workOut_L143 i j1 x2  n)
def fX3_workOut_J123 (i : Nat) (j1 : Nat) (x2 : Int32) (bk17 : Nat → Int32 → wM → Option wM) (j3 : Nat) (x4 : Int32) (q0 : Nat) (s1 : Int32) (s2 : Int32) (M0 : wM) : Option wM :=
  (fX6_put q0 s1 s2 M0).bind (fun M6 => bk17 j3 (x4 + (1 : Int32)) M6)
def fX3_workOut_B17 (i : Nat) (j1 : Nat) (x2 : Int32) (bk17 : Nat → Int32 → wM → Option wM) (j3 : Nat) (x4 : Int32) (M0 : wM) : Option wM :=
  if (M0.1 i 8) ≤ x4 then (fX3_countKinds i M0).bind (fun M8 => (fX3_findLoops i M8).bind (fun M9 => fX3_workOut_L143 i j1 x2 FU (0 : Int32) M9))
    else (fX5_value j3 x4 (0 : Int32) M0).bind (fun v10 => (fX5_value j3 x4 (1 : Int32) M0).bind (fun v11 => (fX5_value j3 x4 (2 : Int32) M0).bind (fun v12 => (fX6_put (i + 1) x4 v10 M0).bind (fun M13 => (fX5_value j3 x4 (3 : Int32) M13).bind (fun v14 => (fX6_put (i + 2) x4 v14 M13).bind (fun M15 => (fX2_heightAt j1 v10 v11 v12 M15).bind (fun v16 => (fX6_put (i + 3) x4 v16 M15).bind (fun M17 => (fX5_standsOut j3 x4 (M17.1 j1 5) M17).bind (fun v18 => if (b2 v18) = (0 : Int32) then fX3_workOut_J123 i j1 x2 bk17 j3 x4 (i + 4) x4 (0 : Int32) M17
    else fX3_workOut_J123 i j1 x2 bk17 j3 x4 (i + 4) x4 (1 : Int32) M17)))))))))
def fX3_workOut_L17 (i : Nat) (j1 : Nat) (x2 : Int32)  : Nat → Nat → Int32 → wM → Option wM
  | 0 => fun _ _ _ => none
  | n + 1 => fX3_workOut_B17 i j1 x2  (fX3_workOut_L17 i j1 x2  n)
def fX3_workOut (i : Nat) (j1 : Nat) (x2 : Int32) (M0 : wM) : Option wM :=
  (fX2_track j1 x2 M0).bind (fun v20 => (gk v20 5).bind (fun _ => fX3_workOut_L17 i j1 x2 FU v20 (0 : Int32) (st M0 i 8 (M0.1 v20 2))))
def fX3_correctedHeight (i : Nat) (x1 : Int32) (M0 : wM) : Option Int32 :=
  (fX6_at (i + 6) x1 M0).bind (fun v1 => some v1)
def fX3_misclosureBySteps_B21 (i : Nat) (x1 : Int32) (M0 : wM) (bk21 : Int32 → Int32 → Int32 → Option Int32) (x2 : Int32) (x3 : Int32) (x4 : Int32) : Option Int32 :=
  (fX3_end i x1 M0).bind (fun v1 => if v1 < x4 then some x2
    else if (M0.1 i 8) ≤ x4 then some x2
    else (fX3_isGood i x4 M0).bind (fun v4 => if (b2 v4) = (0 : Int32) then bk21 x2 x3 (x4 + (1 : Int32))
    else (fX3_rawHeight i x4 M0).bind (fun v6 => (fX3_rawHeight i x4 M0).bind (fun v7 => bk21 (x2 + (v6 - x3)) v7 (x4 + (1 : Int32))))))
def fX3_misclosureBySteps_L21 (i : Nat) (x1 : Int32) (M0 : wM)  : Nat → Int32 → Int32 → Int32 → Option Int32
  | 0 => fun _ _ _ => none
  | n + 1 => fX3_misclosureBySteps_B21 i x1 M0  (fX3_misclosureBySteps_L21 i x1 M0  n)
def fX3_misclosureBySteps (i : Nat) (x1 : Int32) (M0 : wM) : Option Int32 :=
  (fX3_begin i x1 M0).bind (fun v8 => (fX3_rawHeight i v8 M0).bind (fun v9 => (fX3_begin i x1 M0).bind (fun v10 => fX3_misclosureBySteps_L21 i x1 M0 FU (0 : Int32) v9 (v10 + (1 : Int32)))))
def fX3_endsOpenLoop (i : Nat) (x1 : Int32) (M0 : wM) : Option Bool :=
  (fX3_openLoopOf i x1 M0).bind (fun v1 => if v1 = (-1 : Int32) then some false
    else (fX3_end i v1 M0).bind (fun v3 => if v3 = x1 then some true
    else some false))
def fX3_addTo_B2 (i : Nat) (j1 : Nat) (x2 : Int32) (bk2 : Int32 → wM → Option wM) (x3 : Int32) (M0 : wM) : Option wM :=
  if (M0.1 i 8) ≤ x3 then some M0
    else (fX3_isGood i x3 M0).bind (fun v2 => if (b2 v2) = (0 : Int32) then bk2 (x3 + (1 : Int32)) M0
    else (fX6_at (i + 2) x3 M0).bind (fun v4 => if v4 = x2 then (fX3_endsOpenLoop i x3 M0).bind (fun v6 => if (b2 v6) = (0 : Int32) then (fX3_correctedHeight i x3 M0).bind (fun v8 => (fX1_add j1 v8 M0).bind (fun M9 => bk2 (x3 + (1 : Int32)) M9))
    else bk2 (x3 + (1 : Int32)) M0)
    else bk2 (x3 + (1 : Int32)) M0))
def fX3_addTo_L2 (i : Nat) (j1 : Nat) (x2 : Int32)  : Nat → Int32 → wM → Option wM
  | 0 => fun _ _ => none
  | n + 1 => fX3_addTo_B2 i j1 x2  (fX3_addTo_L2 i j1 x2  n)
def fX3_addTo (i : Nat) (j1 : Nat) (x2 : Int32) (M0 : wM) : Option wM :=
  fX3_addTo_L2 i j1 x2 FU (0 : Int32) M0
def fX5_isFull (i : Nat) (M0 : wM) : Option Bool :=
  if (M0.1 i 2) < (M0.1 i 1) then some false
    else some true
def fX5_hasTime_B2 (i : Nat) (x1 : Int32) (M0 : wM) (bk2 : Int32 → Option Bool) (x2 : Int32) : Option Bool :=
  if (M0.1 i 2) ≤ x2 then some false
    else (fX5_value i x2 (0 : Int32) M0).bind (fun v2 => if v2 = x1 then some true
    else bk2 (x2 + (1 : Int32)))
def fX5_hasTime_L2 (i : Nat) (x1 : Int32) (M0 : wM)  : Nat → Int32 → Option Bool
  | 0 => fun _ => none
  | n + 1 => fX5_hasTime_B2 i x1 M0  (fX5_hasTime_L2 i x1 M0  n)
def fX5_hasTime (i : Nat) (x1 : Int32) (M0 : wM) : Option Bool :=
  fX5_hasTime_L2 i x1 M0 FU (0 : Int32)
def fX5_move_B2 (i : Nat) (x1 : Int32) (x2 : Int32) (bk2 : Int32 → wM → Option wM) (x3 : Int32) (M0 : wM) : Option wM :=
  if (4 : Int32) ≤ x3 then some M0
    else (fX5_value i x1 x3 M0).bind (fun v2 => (fX6_put (i + 1) ((x2 * (4 : Int32)) + x3) v2 M0).bind (fun M3 => bk2 (x3 + (1 : Int32)) M3))
def fX5_move_L2 (i : Nat) (x1 : Int32) (x2 : Int32)  : Nat → Int32 → wM → Option wM
  | 0 => fun _ _ => none
  | n + 1 => fX5_move_B2 i x1 x2  (fX5_move_L2 i x1 x2  n)
def fX5_move (i : Nat) (x1 : Int32) (x2 : Int32) (M0 : wM) : Option wM :=
  fX5_move_L2 i x1 x2 FU (0 : Int32) M0
def fX5_insert_J40 (i : Nat) (x1 : Int32) (x2 : Int32) (x3 : Int32) (x4 : Int32)  (x5 : Int32) (M0 : wM) : Option (Int32 × wM) :=
  (fX6_put (i + 1) ((x5 * (4 : Int32)) + (0 : Int32)) x2 M0).bind (fun M1 => (fX6_put (i + 1) ((x5 * (4 : Int32)) + (1 : Int32)) x3 M1).bind (fun M2 => (fX6_put (i + 1) ((x5 * (4 : Int32)) + (2 : Int32)) x4 M2).bind (fun M3 => (fX6_put (i + 1) ((x5 * (4 : Int32)) + (3 : Int32)) x1 M3).bind (fun M4 => some (x5, (st M4 i 2 ((M4.1 i 2) + (1 : Int32))))))))
def fX5_insert_B6 (i : Nat) (x1 : Int32) (x2 : Int32) (x3 : Int32) (x4 : Int32) (bk6 : Int32 → wM → Option (Int32 × wM)) (x5 : Int32) (M0 : wM) : Option (Int32 × wM) :=
  if x5 ≤ (0 : Int32) then fX5_insert_J40 i x1 x2 x3 x4 x5 M0
    else (fX5_value i (x5 - (1 : Int32)) (0 : Int32) M0).bind (fun v6 => if v6 ≤ x2 then fX5_insert_J40 i x1 x2 x3 x4 x5 M0
    else (fX5_move i (x5 - (1 : Int32)) x5 M0).bind (fun M8 => bk6 (x5 + (-1 : Int32)) M8))
def fX5_insert_L6 (i : Nat) (x1 : Int32) (x2 : Int32) (x3 : Int32) (x4 : Int32)  : Nat → Int32 → wM → Option (Int32 × wM)
  | 0 => fun _ _ => none
  | n + 1 => fX5_insert_B6 i x1 x2 x3 x4  (fX5_insert_L6 i x1 x2 x3 x4  n)
def fX5_insert (i : Nat) (x1 : Int32) (x2 : Int32) (x3 : Int32) (x4 : Int32) (M0 : wM) : Option (Int32 × wM) :=
  fX5_insert_L6 i x1 x2 x3 x4 FU (M0.1 i 2) M0
def fX5_remove_B4 (i : Nat) (x1 : Int32) (bk4 : Int32 → wM → Option wM) (x2 : Int32) (M0 : wM) : Option wM :=
  if (M0.1 i 2) ≤ x2 then some (st M0 i 2 ((M0.1 i 2) - (1 : Int32)))
    else (fX5_move i x2 (x2 - (1 : Int32)) M0).bind (fun M2 => bk4 (x2 + (1 : Int32)) M2)
def fX5_remove_L4 (i : Nat) (x1 : Int32)  : Nat → Int32 → wM → Option wM
  | 0 => fun _ _ => none
  | n + 1 => fX5_remove_B4 i x1  (fX5_remove_L4 i x1  n)
def fX5_remove (i : Nat) (x1 : Int32) (M0 : wM) : Option wM :=
  fX5_remove_L4 i x1 FU (x1 + (1 : Int32)) M0
def fX6_within (x0 : Int32) (x1 : Int32) (x2 : Int32) (M0 : wM) : Option Bool :=
  if x0 < x1 then some false
    else if x2 < x0 then some false
    else some true
def fX6_isSetting (x0 : Int32) (x1 : Int32) (M0 : wM) : Option Bool :=
  if x0 = (0 : Int32) then (fX6_within x1 (-500000 : Int32) (9000000 : Int32) M0).bind (fun v2 => some v2)
    else if x0 = (1 : Int32) then (fX6_within x1 (1 : Int32) (5000 : Int32) M0).bind (fun v4 => some v4)
    else if x0 = (2 : Int32) then (fX6_within x1 (1 : Int32) (500 : Int32) M0).bind (fun v6 => some v6)
    else some false
def fX6_record  (M0 : wM) : Option wM :=
  (fX0_keep 19 1 M0).bind (fun M1 => some (st M1 0 8 (1 : Int32)))
def fX6_set (x1 : Int32) (x2 : Int32) (M0 : wM) : Option (Int32 × wM) :=
  (fX6_isSetting x1 x2 M0).bind (fun v1 => if (b2 v1) = (0 : Int32) then some ((-2000000001 : Int32), M0)
    else (fX6_record M0).bind (fun M3 => (fX2_setting 1 x1 M3).bind (fun v4 => (fX2_putSetting 1 x1 x2 M3).bind (fun M5 => some (v4, M5)))))
def fX6_isTime (x0 : Int32) (M0 : wM) : Option Bool :=
  (fX6_within x0 (0 : Int32) (10000 : Int32) M0).bind (fun v1 => some v1)
def fX6_isTemperature (x0 : Int32) (M0 : wM) : Option Bool :=
  (fX6_within x0 (-300 : Int32) (500 : Int32) M0).bind (fun v1 => some v1)
def fX6_isReading (x0 : Int32) (x1 : Int32) (x2 : Int32) (M0 : wM) : Option Bool :=
  (fX6_isTime x0 M0).bind (fun v1 => if (b2 v1) = (0 : Int32) then some false
    else (fX6_within x1 (50000 : Int32) (110000 : Int32) M0).bind (fun v3 => if (b2 v3) = (0 : Int32) then some false
    else (fX6_isTemperature x2 M0).bind (fun v5 => if (b2 v5) = (0 : Int32) then some false
    else some true)))
def fX6_take (x1 : Int32) (x2 : Int32) (x3 : Int32) (x4 : Int32) (x5 : Int32) (M0 : wM) : Option (Int32 × wM) :=
  (fX2_track 1 x1 M0).bind (fun v1 => (gk v1 5).bind (fun _ => (fX5_hasTime v1 x3 M0).bind (fun v3 => if (b2 v3) = (0 : Int32) then (fX5_isFull v1 M0).bind (fun v5 => if (b2 v5) = (0 : Int32) then (fX6_record M0).bind (fun M7 => (fX5_insert v1 x2 x3 x4 x5 M7).bind (fun p8 => some (p8.1, p8.2)))
    else some ((-2000000003 : Int32), M0))
    else some ((-2000000002 : Int32), M0))))
def fX6_base (x1 : Int32) (x2 : Int32) (x3 : Int32) (M0 : wM) : Option (Int32 × wM) :=
  (fX6_isReading x1 x2 x3 M0).bind (fun v1 => if (b2 v1) = (0 : Int32) then some ((-2000000001 : Int32), M0)
    else (fX6_take (-1 : Int32) (0 : Int32) x1 x2 x3 M0).bind (fun p3 => some (p3.1, p3.2)))
def fX6_isCell (x0 : Int32) (M0 : wM) : Option Bool :=
  (fX6_within x0 (0 : Int32) (2 : Int32) M0).bind (fun v1 => some v1)
def fX6_isPoint (x0 : Int32) (M0 : wM) : Option Bool :=
  (fX6_within x0 (0 : Int32) (9 : Int32) M0).bind (fun v1 => some v1)
def fX6_read (x1 : Int32) (x2 : Int32) (x3 : Int32) (x4 : Int32) (x5 : Int32) (M0 : wM) : Option (Int32 × wM) :=
  (fX6_isCell x1 M0).bind (fun v1 => if (b2 v1) = (0 : Int32) then some ((-2000000001 : Int32), M0)
    else (fX6_isPoint x2 M0).bind (fun v3 => if (b2 v3) = (0 : Int32) then some ((-2000000001 : Int32), M0)
    else (fX6_isReading x3 x4 x5 M0).bind (fun v5 => if (b2 v5) = (0 : Int32) then some ((-2000000001 : Int32), M0)
    else (fX6_take x1 x2 x3 x4 x5 M0).bind (fun p7 => some (p7.1, p7.2)))))
def fX6_isReadingOf_J12 (x1 : Int32) (x2 : Int32) (M0 : wM)   : Option Bool :=
  (fX2_track 1 x1 M0).bind (fun v1 => (gk v1 5).bind (fun _ => (fX6_within x2 (0 : Int32) ((M0.1 v1 2) - (1 : Int32)) M0).bind (fun v3 => if (b2 v3) = (0 : Int32) then some false
    else some true)))
def fX6_isReadingOf (x1 : Int32) (x2 : Int32) (M0 : wM) : Option Bool :=
  if x1 = (-1 : Int32) then fX6_isReadingOf_J12 x1 x2 M0
    else (fX6_isCell x1 M0).bind (fun v6 => if (b2 v6) = (0 : Int32) then some false
    else fX6_isReadingOf_J12 x1 x2 M0)
def fX6_drop (x1 : Int32) (x2 : Int32) (M0 : wM) : Option (Int32 × wM) :=
  (fX6_isReadingOf x1 x2 M0).bind (fun v1 => if (b2 v1) = (0 : Int32) then some ((-2000000001 : Int32), M0)
    else (fX6_record M0).bind (fun M3 => (fX2_track 1 x1 M3).bind (fun v4 => (gk v4 5).bind (fun _ => (fX5_remove v4 x2 M3).bind (fun M6 => some (M6.1 v4 2, M6))))))
def fX6_refresh  (M0 : wM) : Option wM :=
  if (M0.1 0 8) = (0 : Int32) then some M0
    else (fX3_workOut 66 1 (0 : Int32) M0).bind (fun M2 => (fX3_workOut 75 1 (1 : Int32) M2).bind (fun M3 => (fX3_workOut 84 1 (2 : Int32) M3).bind (fun M4 => some (st M4 0 8 (0 : Int32)))))
def fX6_surveyOf (x1 : Int32) (M0 : wM) : Option Nat :=
  if x1 = (0 : Int32) then some 66
    else if x1 = (1 : Int32) then some 75
    else some 84
def fX6_reading_J34 (x1 : Int32) (x2 : Int32) (x3 : Int32)   (M0 : wM) : Option (Int32 × wM) :=
  (fX6_refresh M0).bind (fun M1 => if x3 = (4 : Int32) then (fX6_surveyOf x1 M1).bind (fun v3 => (gk v3 3).bind (fun _ => (fX3_isGust v3 x2 M1).bind (fun v5 => if (b2 v5) = (0 : Int32) then some ((0 : Int32), M1)
    else some ((1 : Int32), M1))))
    else if x3 = (5 : Int32) then (fX6_surveyOf x1 M1).bind (fun v8 => (gk v8 3).bind (fun _ => (fX3_isGood v8 x2 M1).bind (fun v10 => if (b2 v10) = (0 : Int32) then some ((0 : Int32), M1)
    else some ((1 : Int32), M1))))
    else (fX2_track 1 x1 M1).bind (fun v12 => (gk v12 5).bind (fun _ => (fX5_value v12 x2 x3 M1).bind (fun v14 => some (v14, M1)))))
def fX6_reading (x1 : Int32) (x2 : Int32) (x3 : Int32) (M0 : wM) : Option (Int32 × wM) :=
  (fX6_isReadingOf x1 x2 M0).bind (fun v15 => if (b2 v15) = (0 : Int32) then some ((-2000000001 : Int32), M0)
    else (fX6_within x3 (0 : Int32) (5 : Int32) M0).bind (fun v17 => if (b2 v17) = (0 : Int32) then some ((-2000000001 : Int32), M0)
    else if x1 = (-1 : Int32) then if x3 < (3 : Int32) then fX6_reading_J34 x1 x2 x3 M0
    else some ((-2000000004 : Int32), M0)
    else fX6_reading_J34 x1 x2 x3 M0))
def fX6_gather_B9 (x1 : Int32) (bk9 : Int32 → wM → Option wM) (x2 : Int32) (M0 : wM) : Option wM :=
  if (3 : Int32) ≤ x2 then some M0
    else (fX6_surveyOf x2 M0).bind (fun v2 => (gk v2 3).bind (fun _ => (fX3_addTo v2 93 x1 M0).bind (fun M4 => bk9 (x2 + (1 : Int32)) M4)))
def fX6_gather_L9 (x1 : Int32)  : Nat → Int32 → wM → Option wM
  | 0 => fun _ _ => none
  | n + 1 => fX6_gather_B9 x1  (fX6_gather_L9 x1  n)
def fX6_gather (x1 : Int32) (M0 : wM) : Option wM :=
  (fX1_clear 93 M0).bind (fun M5 => fX6_gather_L9 x1 FU (0 : Int32) M5)
def fX6_pointsWithHeight_B4  (bk4 : Int32 → Int32 → wM → Option (Int32 × wM)) (x1 : Int32) (x2 : Int32) (M0 : wM) : Option (Int32 × wM) :=
  if (10 : Int32) ≤ x2 then some (x1, M0)
    else (fX6_gather x2 M0).bind (fun M2 => if (M2.1 93 1) ≤ (0 : Int32) then bk4 (x1 + (0 : Int32)) (x2 + (1 : Int32)) M2
    else bk4 (x1 + (1 : Int32)) (x2 + (1 : Int32)) M2)
def fX6_pointsWithHeight_L4   : Nat → Int32 → Int32 → wM → Option (Int32 × wM)
  | 0 => fun _ _ _ => none
  | n + 1 => fX6_pointsWithHeight_B4   (fX6_pointsWithHeight_L4   n)
def fX6_pointsWithHeight  (M0 : wM) : Option (Int32 × wM) :=
  fX6_pointsWithHeight_L4 FU (0 : Int32) (0 : Int32) M0
def fX6_count_J167 (x1 : Int32)   (M0 : wM) : Option (Int32 × wM) :=
  (fX2_setting 1 (x1 - (10 : Int32)) M0).bind (fun v1 => some (v1, M0))
def fX6_count_J76 (x1 : Int32)   (M0 : wM) : Option (Int32 × wM) :=
  (fX2_track 1 (x1 - (1 : Int32)) M0).bind (fun v2 => (gk v2 5).bind (fun _ => some (M0.1 v2 2, M0)))
def fX6_count (x1 : Int32) (M0 : wM) : Option (Int32 × wM) :=
  (fX6_refresh M0).bind (fun M4 => if x1 = (0 : Int32) then fX6_count_J76 x1 M4
    else if x1 = (1 : Int32) then fX6_count_J76 x1 M4
    else if x1 = (2 : Int32) then fX6_count_J76 x1 M4
    else if x1 = (3 : Int32) then fX6_count_J76 x1 M4
    else if x1 = (4 : Int32) then some (((M4.1 66 9) + (M4.1 75 9)) + (M4.1 84 9), M4)
    else if x1 = (5 : Int32) then some (((M4.1 66 11) + (M4.1 75 11)) + (M4.1 84 11), M4)
    else if x1 = (6 : Int32) then (fX2_steps 1 M4).bind (fun v12 => some (v12, M4))
    else if x1 = (7 : Int32) then (fX6_pointsWithHeight M4).bind (fun p14 => some (p14.1, p14.2))
    else if x1 = (8 : Int32) then some (M4.1 19 2, M4)
    else if x1 = (9 : Int32) then some (M4.1 94 1, M4)
    else if x1 = (10 : Int32) then fX6_count_J167 x1 M4
    else if x1 = (11 : Int32) then fX6_count_J167 x1 M4
    else if x1 = (12 : Int32) then fX6_count_J167 x1 M4
    else if x1 = (13 : Int32) then some (((M4.1 66 10) + (M4.1 75 10)) + (M4.1 84 10), M4)
    else some ((-2000000001 : Int32), M4))
def fX6_undo  (M0 : wM) : Option (Int32 × wM) :=
  if (M0.1 19 2) = (0 : Int32) then some ((-2000000002 : Int32), M0)
    else (fX0_giveBack 19 1 M0).bind (fun M2 => some ((st M2 0 8 (1 : Int32)).1 19 2, (st M2 0 8 (1 : Int32))))
def fX6_baseAt_J33 (x1 : Int32) (x2 : Int32) (M0 : wM)  (s1 : Int32) (s2 : Int32) : Option Int32 :=
  (fX2_baseValue 1 s1 s2 M0).bind (fun v1 => some v1)
def fX6_baseAt (x1 : Int32) (x2 : Int32) (M0 : wM) : Option Int32 :=
  (fX6_isTime x1 M0).bind (fun v2 => if (b2 v2) = (0 : Int32) then some (-2000000001 : Int32)
    else (fX6_within x2 (0 : Int32) (1 : Int32) M0).bind (fun v4 => if (b2 v4) = (0 : Int32) then some (-2000000001 : Int32)
    else if x2 = (0 : Int32) then fX6_baseAt_J33 x1 x2 M0 x1 (1 : Int32)
    else fX6_baseAt_J33 x1 x2 M0 x1 (2 : Int32)))
def fX6_raw (x1 : Int32) (x2 : Int32) (M0 : wM) : Option (Int32 × wM) :=
  (fX6_isCell x1 M0).bind (fun v1 => if (b2 v1) = (0 : Int32) then some ((-2000000001 : Int32), M0)
    else (fX6_isReadingOf x1 x2 M0).bind (fun v3 => if (b2 v3) = (0 : Int32) then some ((-2000000001 : Int32), M0)
    else (fX6_refresh M0).bind (fun M5 => (fX6_surveyOf x1 M5).bind (fun v6 => (gk v6 3).bind (fun _ => (fX3_rawHeight v6 x2 M5).bind (fun v8 => some (v8, M5)))))))
def fX6_would (x1 : Int32) (x2 : Int32) (x3 : Int32) (M0 : wM) : Option Int32 :=
  (fX6_isReading x1 x2 x3 M0).bind (fun v1 => if (b2 v1) = (0 : Int32) then some (-2000000001 : Int32)
    else (fX2_heightAt 1 x1 x2 x3 M0).bind (fun v3 => some v3))
def fX6_loops (x1 : Int32) (M0 : wM) : Option (Int32 × wM) :=
  (fX6_isCell x1 M0).bind (fun v1 => if (b2 v1) = (0 : Int32) then some ((-2000000001 : Int32), M0)
    else (fX6_refresh M0).bind (fun M3 => (fX6_surveyOf x1 M3).bind (fun v4 => (gk v4 3).bind (fun _ => some (M3.1 v4 11, M3)))))
def fX6_loop (x1 : Int32) (x2 : Int32) (x3 : Int32) (M0 : wM) : Option (Int32 × wM) :=
  (fX6_isCell x1 M0).bind (fun v1 => if (b2 v1) = (0 : Int32) then some ((-2000000001 : Int32), M0)
    else (fX6_refresh M0).bind (fun M3 => (fX6_surveyOf x1 M3).bind (fun v4 => (gk v4 3).bind (fun _ => (fX6_within x2 (0 : Int32) ((M3.1 v4 11) - (1 : Int32)) M3).bind (fun v6 => if (b2 v6) = (0 : Int32) then some ((-2000000001 : Int32), M3)
    else if x3 = (0 : Int32) then (fX3_begin v4 x2 M3).bind (fun v9 => some (v9, M3))
    else if x3 = (1 : Int32) then (fX3_end v4 x2 M3).bind (fun v11 => some (v11, M3))
    else if x3 = (2 : Int32) then (fX3_misclosure v4 x2 M3).bind (fun v13 => some (v13, M3))
    else if x3 = (3 : Int32) then (fX3_misclosureBySteps v4 x2 M3).bind (fun v15 => some (v15, M3))
    else if x3 = (4 : Int32) then (fX3_minutes v4 x2 M3).bind (fun v17 => some (v17, M3))
    else some ((-2000000001 : Int32), M3))))))
def fX6_openLoop (x1 : Int32) (x2 : Int32) (M0 : wM) : Option (Int32 × wM) :=
  (fX6_isCell x1 M0).bind (fun v1 => if (b2 v1) = (0 : Int32) then some ((-2000000001 : Int32), M0)
    else (fX6_isReadingOf x1 x2 M0).bind (fun v3 => if (b2 v3) = (0 : Int32) then some ((-2000000001 : Int32), M0)
    else (fX6_refresh M0).bind (fun M5 => (fX6_surveyOf x1 M5).bind (fun v6 => (gk v6 3).bind (fun _ => (fX3_openLoopOf v6 x2 M5).bind (fun v8 => if v8 = (-1 : Int32) then some ((-2000000004 : Int32), M5)
    else some (v8, M5)))))))
def fX6_corrected (x1 : Int32) (x2 : Int32) (M0 : wM) : Option (Int32 × wM) :=
  (fX6_isCell x1 M0).bind (fun v1 => if (b2 v1) = (0 : Int32) then some ((-2000000001 : Int32), M0)
    else (fX6_isReadingOf x1 x2 M0).bind (fun v3 => if (b2 v3) = (0 : Int32) then some ((-2000000001 : Int32), M0)
    else (fX6_refresh M0).bind (fun M5 => (fX6_surveyOf x1 M5).bind (fun v6 => (gk v6 3).bind (fun _ => (fX3_correctedHeight v6 x2 M5).bind (fun v8 => some (v8, M5)))))))
def fX6_point (x1 : Int32) (x2 : Int32) (M0 : wM) : Option (Int32 × wM) :=
  (fX6_isPoint x1 M0).bind (fun v1 => if (b2 v1) = (0 : Int32) then some ((-2000000001 : Int32), M0)
    else (fX6_within x2 (0 : Int32) (2 : Int32) M0).bind (fun v3 => if (b2 v3) = (0 : Int32) then some ((-2000000001 : Int32), M0)
    else (fX6_refresh M0).bind (fun M5 => (fX6_gather x1 M5).bind (fun M6 => if x2 = (2 : Int32) then some (M6.1 93 1, M6)
    else if (M6.1 93 1) = (0 : Int32) then some ((-2000000004 : Int32), M6)
    else if x2 = (0 : Int32) then (fX1_height 93 M6).bind (fun v11 => some (v11, M6))
    else (fX1_spread 93 M6).bind (fun v10 => some (v10, M6))))))
def fL_holds_J463   (x1 : Int32) (x2 : Int32) (M0 : wM) : Option (Bool × wM) :=
  if x1 = (0 : Int32) then some (false, M0)
    else (fX6_count (13 : Int32) M0).bind (fun p2 => if p2.1 < x2 then some (false, p2.2)
    else (fX6_count (13 : Int32) p2.2).bind (fun p4 => (fX6_count (5 : Int32) p4.2).bind (fun p5 => if x2 < (p4.1 - p5.1) then some (false, p5.2)
    else some (true, p5.2))))
def fL_holds_B395  (bk395 : Int32 → Int32 → Int32 → wM → Option (Bool × wM)) (x1 : Int32) (x2 : Int32) (x3 : Int32) (M0 : wM) : Option (Bool × wM) :=
  if (10 : Int32) ≤ x3 then fL_holds_J463 x1 x2 M0
    else if x1 = (0 : Int32) then fL_holds_J463 x1 x2 M0
    else (fX6_point x3 (2 : Int32) M0).bind (fun p9 => (fX6_point x3 (2 : Int32) p9.2).bind (fun p10 => if p10.1 = (0 : Int32) then bk395 (1 : Int32) (x2 + p9.1) (x3 + (1 : Int32)) p10.2
    else (fX6_point x3 (1 : Int32) p10.2).bind (fun p12 => if p12.1 < (0 : Int32) then bk395 (0 : Int32) (x2 + p9.1) (x3 + (1 : Int32)) p12.2
    else (fX6_point x3 (2 : Int32) p12.2).bind (fun p14 => if (1 : Int32) < p14.1 then bk395 (1 : Int32) (x2 + p9.1) (x3 + (1 : Int32)) p14.2
    else (fX6_point x3 (1 : Int32) p14.2).bind (fun p16 => if p16.1 = (0 : Int32) then bk395 (1 : Int32) (x2 + p9.1) (x3 + (1 : Int32)) p16.2
    else bk395 (0 : Int32) (x2 + p9.1) (x3 + (1 : Int32)) p16.2)))))
def fL_holds_L395   : Nat → Int32 → Int32 → Int32 → wM → Option (Bool × wM)
  | 0 => fun _ _ _ _ => none
  | n + 1 => fL_holds_B395   (fL_holds_L395   n)
def fL_holds_J341  (bk83 : Int32 → Int32 → wM → Option (Bool × wM)) (bk276 : Int32 → Int32 → Int32 → wM → Option (Bool × wM)) (x2 : Int32) (x3 : Int32) (x4 : Int32) (s0 : Int32) (s1 : Int32) (M0 : wM) : Option (Bool × wM) :=
  if s0 = s1 then if x4 < (0 : Int32) then bk276 (1 : Int32) x2 (x3 + (1 : Int32)) M0
    else (fX6_loop x2 x4 (0 : Int32) M0).bind (fun p20 => if x3 < p20.1 then bk276 (0 : Int32) x2 (x3 + (1 : Int32)) p20.2
    else (fX6_loop x2 x4 (1 : Int32) p20.2).bind (fun p22 => if p22.1 < x3 then bk276 (0 : Int32) x2 (x3 + (1 : Int32)) p22.2
    else bk276 (1 : Int32) x2 (x3 + (1 : Int32)) p22.2))
    else bk276 (0 : Int32) x2 (x3 + (1 : Int32)) M0
def fL_holds_J315  (bk83 : Int32 → Int32 → wM → Option (Bool × wM)) (bk276 : Int32 → Int32 → Int32 → wM → Option (Bool × wM)) (x2 : Int32) (x3 : Int32) (x4 : Int32) (s0 : Int32) (M0 : wM) : Option (Bool × wM) :=
  (fX6_reading x2 x3 (4 : Int32) M0).bind (fun p24 => if p24.1 = (0 : Int32) then (fX6_raw x2 x3 p24.2).bind (fun p26 => if p26.1 = (-2000000004 : Int32) then fL_holds_J341 bk83 bk276 x2 x3 x4 s0 (0 : Int32) p26.2
    else fL_holds_J341 bk83 bk276 x2 x3 x4 s0 (1 : Int32) p26.2)
    else fL_holds_J341 bk83 bk276 x2 x3 x4 s0 (0 : Int32) p24.2)
def fL_holds_B276  (bk83 : Int32 → Int32 → wM → Option (Bool × wM)) (bk276 : Int32 → Int32 → Int32 → wM → Option (Bool × wM)) (x1 : Int32) (x2 : Int32) (x3 : Int32) (M0 : wM) : Option (Bool × wM) :=
  (fX6_count ((1 : Int32) + x2) M0).bind (fun p28 => if p28.1 ≤ x3 then bk83 x1 (x2 + (1 : Int32)) p28.2
    else if x1 = (0 : Int32) then bk83 x1 (x2 + (1 : Int32)) p28.2
    else (fX6_openLoop x2 x3 p28.2).bind (fun p31 => (fX6_reading x2 x3 (5 : Int32) p31.2).bind (fun p32 => if p32.1 = (1 : Int32) then fL_holds_J315 bk83 bk276 x2 x3 p31.1 (1 : Int32) p32.2
    else fL_holds_J315 bk83 bk276 x2 x3 p31.1 (0 : Int32) p32.2)))
def fL_holds_L276  (bk83 : Int32 → Int32 → wM → Option (Bool × wM)) : Nat → Int32 → Int32 → Int32 → wM → Option (Bool × wM)
  | 0 => fun _ _ _ _ => none
  | n + 1 => fL_holds_B276  bk83 (fL_holds_L276  bk83 n)
def fL_holds_J201  (bk83 : Int32 → Int32 → wM → Option (Bool × wM)) (bk94 : Int32 → Int32 → Int32 → wM → Option (Bool × wM)) (x2 : Int32) (x3 : Int32) (x4 : Int32) (x5 : Int32) (s0 : Int32) (M0 : wM) : Option (Bool × wM) :=
  if s0 = (0 : Int32) then bk94 (0 : Int32) x2 (x3 + (1 : Int32)) M0
    else (fX6_openLoop x2 x4 M0).bind (fun p35 => if p35.1 = x3 then (fX6_openLoop x2 x5 p35.2).bind (fun p37 => if p37.1 = x3 then (fX6_corrected x2 x4 p37.2).bind (fun p39 => (fX6_corrected x2 x5 p39.2).bind (fun p40 => if p39.1 = p40.1 then (fX6_corrected x2 x4 p40.2).bind (fun p42 => (fX6_raw x2 x4 p42.2).bind (fun p43 => if p42.1 = p43.1 then bk94 (1 : Int32) x2 (x3 + (1 : Int32)) p43.2
    else bk94 (0 : Int32) x2 (x3 + (1 : Int32)) p43.2))
    else bk94 (0 : Int32) x2 (x3 + (1 : Int32)) p40.2))
    else bk94 (1 : Int32) x2 (x3 + (1 : Int32)) p37.2)
    else bk94 (1 : Int32) x2 (x3 + (1 : Int32)) p35.2)
def fL_holds_B94  (bk83 : Int32 → Int32 → wM → Option (Bool × wM)) (bk94 : Int32 → Int32 → Int32 → wM → Option (Bool × wM)) (x1 : Int32) (x2 : Int32) (x3 : Int32) (M0 : wM) : Option (Bool × wM) :=
  (fX6_loops x2 M0).bind (fun p45 => if p45.1 ≤ x3 then fL_holds_L276 bk83 FU x1 x2 (0 : Int32) p45.2
    else if x1 = (0 : Int32) then fL_holds_L276 bk83 FU x1 x2 (0 : Int32) p45.2
    else (fX6_loop x2 x3 (0 : Int32) p45.2).bind (fun p48 => (fX6_loop x2 x3 (1 : Int32) p48.2).bind (fun p49 => if p49.1 ≤ p48.1 then fL_holds_J201 bk83 bk94 x2 x3 p48.1 p49.1 (0 : Int32) p49.2
    else (fX6_reading x2 p48.1 (3 : Int32) p49.2).bind (fun p51 => (fX6_reading x2 p49.1 (3 : Int32) p51.2).bind (fun p52 => if p51.1 = p52.1 then (fX6_loop x2 x3 (2 : Int32) p52.2).bind (fun p54 => (fX6_loop x2 x3 (3 : Int32) p54.2).bind (fun p55 => if p54.1 = p55.1 then (fX6_loop x2 x3 (4 : Int32) p55.2).bind (fun p57 => if p57.1 ≤ (0 : Int32) then fL_holds_J201 bk83 bk94 x2 x3 p48.1 p49.1 (0 : Int32) p57.2
    else if x3 = (0 : Int32) then fL_holds_J201 bk83 bk94 x2 x3 p48.1 p49.1 (1 : Int32) p57.2
    else (fX6_loop x2 (x3 - (1 : Int32)) (1 : Int32) p57.2).bind (fun p60 => if p49.1 ≤ p60.1 then fL_holds_J201 bk83 bk94 x2 x3 p48.1 p49.1 (0 : Int32) p60.2
    else fL_holds_J201 bk83 bk94 x2 x3 p48.1 p49.1 (1 : Int32) p60.2))
    else fL_holds_J201 bk83 bk94 x2 x3 p48.1 p49.1 (0 : Int32) p55.2))
    else fL_holds_J201 bk83 bk94 x2 x3 p48.1 p49.1 (0 : Int32) p52.2)))))
def fL_holds_L94  (bk83 : Int32 → Int32 → wM → Option (Bool × wM)) : Nat → Int32 → Int32 → Int32 → wM → Option (Bool × wM)
  | 0 => fun _ _ _ _ => none
  | n + 1 => fL_holds_B94  bk83 (fL_holds_L94  bk83 n)
def fL_holds_B83  (bk83 : Int32 → Int32 → wM → Option (Bool × wM)) (x1 : Int32) (x2 : Int32) (M0 : wM) : Option (Bool × wM) :=
  if (3 : Int32) ≤ x2 then fL_holds_L395 FU x1 (0 : Int32) (0 : Int32) M0
    else if x1 = (0 : Int32) then fL_holds_L395 FU x1 (0 : Int32) (0 : Int32) M0
    else fL_holds_L94 bk83 FU x1 x2 (0 : Int32) M0
def fL_holds_L83   : Nat → Int32 → Int32 → wM → Option (Bool × wM)
  | 0 => fun _ _ _ => none
  | n + 1 => fL_holds_B83   (fL_holds_L83   n)
def fL_holds_B29  (bk18 : Int32 → Int32 → wM → Option (Bool × wM)) (bk29 : Int32 → Int32 → Int32 → wM → Option (Bool × wM)) (x1 : Int32) (x2 : Int32) (x3 : Int32) (M0 : wM) : Option (Bool × wM) :=
  (fX6_count ((1 : Int32) + x2) M0).bind (fun p64 => if p64.1 ≤ x3 then bk18 x1 (x2 + (1 : Int32)) p64.2
    else if x1 = (0 : Int32) then bk29 (0 : Int32) x2 (x3 + (1 : Int32)) p64.2
    else (fX6_reading x2 x3 (0 : Int32) p64.2).bind (fun p67 => (fX6_reading x2 (x3 - (1 : Int32)) (0 : Int32) p67.2).bind (fun p68 => if p67.1 ≤ p68.1 then bk29 (0 : Int32) x2 (x3 + (1 : Int32)) p68.2
    else bk29 (1 : Int32) x2 (x3 + (1 : Int32)) p68.2)))
def fL_holds_L29  (bk18 : Int32 → Int32 → wM → Option (Bool × wM)) : Nat → Int32 → Int32 → Int32 → wM → Option (Bool × wM)
  | 0 => fun _ _ _ _ => none
  | n + 1 => fL_holds_B29  bk18 (fL_holds_L29  bk18 n)
def fL_holds_B18  (bk18 : Int32 → Int32 → wM → Option (Bool × wM)) (x1 : Int32) (x2 : Int32) (M0 : wM) : Option (Bool × wM) :=
  if (3 : Int32) ≤ x2 then fL_holds_L83 FU x1 (0 : Int32) M0
    else if x1 = (0 : Int32) then fL_holds_L83 FU x1 (0 : Int32) M0
    else fL_holds_L29 bk18 FU x1 x2 (1 : Int32) M0
def fL_holds_L18   : Nat → Int32 → Int32 → wM → Option (Bool × wM)
  | 0 => fun _ _ _ => none
  | n + 1 => fL_holds_B18   (fL_holds_L18   n)
def fL_holds  (M0 : wM) : Option (Bool × wM) :=
  (fX6_count (0 : Int32) M0).bind (fun p72 => if (12 : Int32) < p72.1 then fL_holds_L18 FU (0 : Int32) (-1 : Int32) p72.2
    else fL_holds_L18 FU (1 : Int32) (-1 : Int32) p72.2)
def fL_level_B4  (bk4 : Int32 → Int32 → wM → Option (Bool × wM)) (x1 : Int32) (x2 : Int32) (M0 : wM) : Option (Bool × wM) :=
  (fX6_count (0 : Int32) M0).bind (fun p1 => if p1.1 ≤ x2 then (bz x1).bind (fun b3 => some (b3, p1.2))
    else if x1 = (0 : Int32) then (bz x1).bind (fun b5 => some (b5, p1.2))
    else (fX6_reading (-1 : Int32) x2 (0 : Int32) p1.2).bind (fun p6 => (fX6_baseAt p6.1 (0 : Int32) p6.2).bind (fun v7 => (fX6_reading (-1 : Int32) x2 (1 : Int32) p6.2).bind (fun p8 => if v7 = p8.1 then (fX6_baseAt p6.1 (1 : Int32) p8.2).bind (fun v10 => (fX6_reading (-1 : Int32) x2 (2 : Int32) p8.2).bind (fun p11 => if v10 = p11.1 then (fX6_reading (-1 : Int32) x2 (1 : Int32) p11.2).bind (fun p13 => (fX6_reading (-1 : Int32) x2 (2 : Int32) p13.2).bind (fun p14 => (fX6_would p6.1 p13.1 p14.1 p14.2).bind (fun v15 => (fX6_count (10 : Int32) p14.2).bind (fun p16 => if v15 = p16.1 then bk4 (1 : Int32) (x2 + (1 : Int32)) p16.2
    else bk4 (0 : Int32) (x2 + (1 : Int32)) p16.2))))
    else bk4 (0 : Int32) (x2 + (1 : Int32)) p11.2))
    else bk4 (0 : Int32) (x2 + (1 : Int32)) p8.2))))
def fL_level_L4   : Nat → Int32 → Int32 → wM → Option (Bool × wM)
  | 0 => fun _ _ _ => none
  | n + 1 => fL_level_B4   (fL_level_L4   n)
def fL_level  (M0 : wM) : Option (Bool × wM) :=
  fL_level_L4 FU (1 : Int32) (0 : Int32) M0
end
section
/-! pure facts: numbers, rows, and the readings of one track in the class and in the reference -/
theorem bs {α β : Type} {a : α} {f : α → Option β} : (some a).bind f = f a := rfl
theorem b2_t : b2 true = 1 := rfl
theorem b2_f : b2 false = 0 := rfl
theorem b2_0 (b : Bool) : (b2 b = 0) ↔ b = false := by cases b <;> decide
theorem b2_1 (b : Bool) : (b2 b = 1) ↔ b = true := by cases b <;> decide
theorem nIm1 {k : Nat} (h : 0 < k) : nI k - (1 : Int32) = nI (k - 1) := by
  have e := pk_sub (a := k) (b := 1) h
  exact e
theorem nIp1 (k : Nat) : nI k + (1 : Int32) = nI (k + 1) := nI_1 k
theorem nId1 {k : Nat} (h : 0 < k) : nI k + (-1 : Int32) = nI (k - 1) := by
  obtain ⟨j, rfl⟩ : ∃ j, k = j + 1 := ⟨k - 1, by omega⟩
  exact pk_m1 j
theorem ln_lt (a : Nat) : ln a < 2000 := by
  rcases Nat.lt_or_ge a 96 with h | h
  · have key : ∀ j, j < 96 → ln j < 2000 := by decide +kernel
    exact key a h
  · have e0 : lnL[a]? = none := List.getElem?_eq_none (by have e : lnL.length = 96 := rfl; omega)
    show (lnL[a]?).getD 0 < 2000
    rw [e0]; decide
theorem ix_in {k n : Nat} (h : k < n) (hn : n < 2 ^ 31) : ix (nI k) n = some k := by
  unfold ix
  rw [nI_clamp (by omega), if_neg (fun q => q.elim (nI_pos (by omega)) (fun q => absurd h (by omega)))]
theorem at_in {a k : Nat} {M : wM} (h : k < ln a) : fX6_at a (nI k) M = some (M.1 a k) := by
  have hl := ln_lt a
  unfold fX6_at
  rw [if_neg (nI_pos (by omega)), if_neg (by rw [nI_leI (by omega) (by omega)]; omega), ix_in h (by omega)]
  rfl
theorem put_in {a k : Nat} {v : Int32} {M : wM} (h : k < ln a) : fX6_put a (nI k) v M = some (st M a k v) := by
  have hl := ln_lt a
  unfold fX6_put
  rw [if_neg (nI_pos (by omega)), if_neg (by rw [nI_leI (by omega) (by omega)]; omega), ix_in h (by omega)]
  rfl
theorem ix4 (r f : Nat) : nI r * (4 : Int32) + nI f = nI (4 * r + f) := by
  rw [show (4 : Int32) = nI 4 from rfl, pk_mul, nI_add, Nat.mul_comm]
/-! searching and folding upward, with the count of places left -/
def anyF (p : Nat → Bool) : Nat → Nat → Bool
  | _, 0 => false
  | k, c + 1 => p k || anyF p (k + 1) c
theorem anyF_iff {p : Nat → Bool} : ∀ {c k : Nat}, anyF p k c = true ↔ ∃ j, k ≤ j ∧ j < k + c ∧ p j = true
  | 0, k => by simp [anyF]; omega
  | c + 1, k => by
    simp only [anyF, Bool.or_eq_true, anyF_iff (c := c) (k := k + 1)]
    constructor
    · rintro (h | ⟨j, h1, h2, h3⟩)
      · exact ⟨k, by omega, by omega, h⟩
      · exact ⟨j, by omega, by omega, h3⟩
    · rintro ⟨j, h1, h2, h3⟩
      rcases Nat.eq_or_lt_of_le h1 with rfl | h
      · exact Or.inl h3
      · exact Or.inr ⟨j, by omega, by omega, h3⟩
theorem anyF_cong {p q : Nat → Bool} : ∀ {c k : Nat}, (∀ j, k ≤ j → j < k + c → p j = q j) → anyF p k c = anyF q k c
  | 0, k, _ => rfl
  | c + 1, k, h => by
    rw [anyF, anyF, h k (by omega) (by omega), anyF_cong (c := c) (k := k + 1) (fun j h1 h2 => h j (by omega) (by omega))]
/-- the first place from k on that passes, else the end -/
def fstF (p : Nat → Bool) : Nat → Nat → Nat
  | k, 0 => k
  | k, c + 1 => if p k then k else fstF p (k + 1) c
def foldF {σ : Type} (g : σ → Nat → σ) : Nat → Nat → σ → σ
  | _, 0, s => s
  | k, c + 1, s => foldF g (k + 1) c (g s k)
/-- the last place below k that passes -/
def dnF (p : Nat → Bool) : Nat → Option Nat
  | 0 => none
  | k + 1 => if p k then some k else dnF p k
theorem dnF_lt {p : Nat → Bool} : ∀ {k j : Nat}, dnF p k = some j → j < k ∧ p j = true
  | 0, j, h => by cases h
  | k + 1, j, h => by
    unfold dnF at h
    split at h
    · next q => cases h; exact ⟨by omega, q⟩
    · have := dnF_lt h; exact ⟨by omega, this.2⟩
/-! one track: n readings, room cp; d f r is the f-th number (time, pressure, temperature, point) of reading r -/
def RT (t : Nat) (M : wM) (n cp : Nat) (d : Nat → Nat → Int32) : Prop := M.1 t 2 = nI n ∧ M.1 t 1 = nI cp ∧ ∀ r f, r < n → f < 4 → M.1 (t + 1) (4 * r + f) = d f r
theorem tv_raw {t r f : Nat} {M : wM} (hk : kd t = 5) (hr : r < 20) (hf : f < 4) : fX5_value t (nI r) (nI f) M = some (M.1 (t + 1) (4 * r + f)) := by
  unfold fX5_value
  rw [ix4, at_in (by rw [lkf5_0 hk]; omega)]
  rfl
section TR
variable {t n cp : Nat} {M : wM} {d : Nat → Nat → Int32} (hk : kd t = 5) (hR : RT t M n cp d) (hn : n ≤ 20)
theorem tv {r f : Nat} (hk : kd t = 5) (hR : RT t M n cp d) (hn : n ≤ 20) (hr : r < n) (hf : f < 4) : fX5_value t (nI r) (nI f) M = some (d f r) := by
  rw [tv_raw hk (by omega) hf, hR.2.2 r f hr hf]
theorem tv0 {r : Nat} (hk : kd t = 5) (hR : RT t M n cp d) (hn : n ≤ 20) (hr : r < n) : fX5_value t (nI r) (0 : Int32) M = some (d 0 r) := tv (f := 0) hk hR hn hr (by omega)
theorem tv1 {r : Nat} (hk : kd t = 5) (hR : RT t M n cp d) (hn : n ≤ 20) (hr : r < n) : fX5_value t (nI r) (1 : Int32) M = some (d 1 r) := tv (f := 1) hk hR hn hr (by omega)
theorem tv2 {r : Nat} (hk : kd t = 5) (hR : RT t M n cp d) (hn : n ≤ 20) (hr : r < n) : fX5_value t (nI r) (2 : Int32) M = some (d 2 r) := tv (f := 2) hk hR hn hr (by omega)
theorem tv3 {r : Nat} (hk : kd t = 5) (hR : RT t M n cp d) (hn : n ≤ 20) (hr : r < n) : fX5_value t (nI r) (3 : Int32) M = some (d 3 r) := tv (f := 3) hk hR hn hr (by omega)
theorem hasTime_L {x : Int32} (hk : kd t = 5) (hR : RT t M n cp d) (hn : n ≤ 20) : ∀ (c k fu : Nat), k + c = n → c < fu → fX5_hasTime_L2 t x M fu (nI k) = some (anyF (fun r => decide (d 0 r = x)) k c)
  | 0, k, fu, hkc, hfu => by
    obtain ⟨fu, rfl⟩ : ∃ z, fu = z + 1 := ⟨fu - 1, by omega⟩
    show fX5_hasTime_B2 t x M _ (nI k) = _
    unfold fX5_hasTime_B2
    rw [hR.1, if_pos ((nI_leI (by omega) (by omega)).mpr (by omega))]
    rfl
  | c + 1, k, fu, hkc, hfu => by
    obtain ⟨fu, rfl⟩ : ∃ z, fu = z + 1 := ⟨fu - 1, by omega⟩
    show fX5_hasTime_B2 t x M _ (nI k) = _
    unfold fX5_hasTime_B2
    rw [hR.1, if_neg (by rw [nI_leI (by omega) (by omega)]; omega), tv0 hk hR hn (by omega), bs, nIp1, hasTime_L hk hR hn c (k + 1) fu (by omega) (by omega), anyF]
    by_cases h : d 0 k = x
    · rw [if_pos h, decide_eq_true h, Bool.true_or]
    · rw [if_neg h, decide_eq_false h, Bool.false_or]
theorem hasTime_t {x : Int32} (hk : kd t = 5) (hR : RT t M n cp d) (hn : n ≤ 20) : fX5_hasTime t x M = some (anyF (fun r => decide (d 0 r = x)) 0 n) := hasTime_L hk hR hn n 0 FU (by omega) (by unfold FU; omega)
theorem isFull_t (hR : RT t M n cp d) (hn : n ≤ 20) (hc : cp ≤ 20) : fX5_isFull t M = some (decide (cp ≤ n)) := by
  unfold fX5_isFull
  rw [hR.1, hR.2.1]
  by_cases h : cp ≤ n
  · rw [if_neg (by rw [nI_ltI (by omega) (by omega)]; omega), decide_eq_true h]
  · rw [if_pos ((nI_ltI (by omega) (by omega)).mpr (by omega)), decide_eq_false h]
/-- a gust, by the numbers -/
def gustF (n : Nat) (d : Nat → Nat → Int32) (g : Int32) (r : Nat) : Bool :=
  if r = 0 ∨ n ≤ r + 1 then false else
  (decide (g < d 1 r - d 1 (r - 1)) && decide (g < d 1 r - d 1 (r + 1))) || (decide (d 1 r - d 1 (r - 1) < -g) && decide (d 1 r - d 1 (r + 1) < -g))
theorem standsOut_t {g : Int32} {r : Nat} (hk : kd t = 5) (hR : RT t M n cp d) (hn : n ≤ 20) (hr : r < n) : fX5_standsOut t (nI r) g M = some (gustF n d g r) := by
  unfold fX5_standsOut gustF
  by_cases h0 : r = 0
  · subst h0
    rw [if_pos (show nI 0 ≤ (0 : Int32) from by decide), if_pos (Or.inl rfl)]
  rw [if_neg (show ¬ nI r ≤ (0 : Int32) from nI_nle (by omega) (by omega)), hR.1, nIm1 (by omega)]
  by_cases h1 : n ≤ r + 1
  · rw [if_neg (by rw [nI_ltI (by omega) (by omega)]; omega), if_pos (Or.inr h1)]
  rw [if_pos ((nI_ltI (by omega) (by omega)).mpr (by omega)), if_neg (by omega), nIm1 (by omega), nIp1, tv1 hk hR hn hr, tv1 hk hR hn (by omega), tv1 hk hR hn (by omega)]
  simp only [bs]
  generalize d 1 r - d 1 (r - 1) = u
  generalize d 1 r - d 1 (r + 1) = v
  have hle : ∀ a b : Int32, (a ≤ b) = ¬ (b < a) := fun a b => propext Int32.not_lt.symm
  unfold fX5_standsOut_J59
  simp only [hle]
  by_cases a1 : g < u <;> by_cases a2 : g < v <;> by_cases a3 : u < -g <;> by_cases a4 : v < -g <;> simp [a1, a2, a3, a4]
end TR
end
section
/-! what stays: all cells but those of P -/
def Fr (P : Nat → Prop) (M M' : wM) : Prop := ∀ i, ¬ P i → M'.1 i = M.1 i ∧ M'.2 i = M.2 i
theorem Fr.rf {P : Nat → Prop} {M : wM} : Fr P M M := fun _ _ => ⟨rfl, rfl⟩
theorem Fr.tr {P : Nat → Prop} {M M' M'' : wM} (h : Fr P M M') (h2 : Fr P M' M'') : Fr P M M'' := fun i hi => ⟨(h2 i hi).1.trans (h i hi).1, (h2 i hi).2.trans (h i hi).2⟩
theorem Fr.mono {P Q : Nat → Prop} {M M' : wM} (h : Fr P M M') (hPQ : ∀ i, P i → Q i) : Fr Q M M' := fun i hi => h i (fun q => hi (hPQ i q))
theorem Fr.st {P : Nat → Prop} {M : wM} {a k : Nat} {v : Int32} (h : P a) : Fr P M (st M a k v) := fun i hi => ⟨st_row (fun q => hi (q ▸ h)), rfl⟩
theorem Fr.stL {P : Nat → Prop} {M : wM} {a : Nat} {v : Int64} (h : P a) : Fr P M (stL M a v) := fun i hi => ⟨rfl, stL_ne (fun q => hi (q ▸ h))⟩
theorem Fr.at {P : Nat → Prop} {M M' : wM} (h : Fr P M M') {i : Nat} (hi : ¬ P i) (j : Nat) : M'.1 i j = M.1 i j := by rw [(h i hi).1]
theorem FU_succ {c : Nat} (h : c < 100000) : ∃ z, FU = z + (c + 1) := ⟨99999 - c, by unfold FU; omega⟩
/-! Track.move, insert, remove -/
theorem move_L {t a b : Nat} (hk : kd t = 5) (ha : a < 20) (hb : b < 20) (hab : a ≠ b) : ∀ (c k fu : Nat) (N : wM), k + c = 4 → c < fu → ∃ M', fX5_move_L2 t (nI a) (nI b) fu (nI k) N = some M' ∧ Fr (fun i => i = t + 1) N M' ∧ (∀ j, (j < 4 * b + k ∨ 4 * b + 4 ≤ j) → M'.1 (t + 1) j = N.1 (t + 1) j) ∧ ∀ f, k ≤ f → f < 4 → M'.1 (t + 1) (4 * b + f) = N.1 (t + 1) (4 * a + f)
  | 0, k, fu, N, hkc, hfu => by
    obtain ⟨fu, rfl⟩ : ∃ z, fu = z + 1 := ⟨fu - 1, by omega⟩
    refine ⟨N, ?_, Fr.rf, fun _ _ => rfl, fun f h1 h2 => absurd h1 (by omega)⟩
    show fX5_move_B2 t _ _ _ (nI k) N = _
    unfold fX5_move_B2
    rw [if_pos (show (4 : Int32) ≤ nI k from (nI_leI (a := 4) (by omega) (by omega)).mpr (by omega))]
  | c + 1, k, fu, N, hkc, hfu => by
    obtain ⟨fu, rfl⟩ : ∃ z, fu = z + 1 := ⟨fu - 1, by omega⟩
    obtain ⟨M', h1, h2, h3, h4⟩ := move_L hk ha hb hab c (k + 1) fu (st N (t + 1) (4 * b + k) (N.1 (t + 1) (4 * a + k))) (by omega) (by omega)
    refine ⟨M', ?_, (Fr.st (P := fun i => i = t + 1) rfl).tr h2, fun j hj => ?_, fun f hf1 hf2 => ?_⟩
    · show fX5_move_B2 t _ _ _ (nI k) N = _
      unfold fX5_move_B2
      rw [if_neg (show ¬ (4 : Int32) ≤ nI k from fun q => absurd ((nI_leI (a := 4) (by omega) (by omega)).mp q) (by omega)), tv_raw hk ha (by omega), bs, ix4, put_in (by rw [lkf5_0 hk]; omega), bs, nIp1]
      exact h1
    · rw [h3 j (by omega), st_col (by omega)]
    · rcases Nat.eq_or_lt_of_le hf1 with rfl | hlt
      · rw [h3 _ (by omega), st_same]
      · rw [h4 f (by omega) hf2, st_col (by omega)]
theorem move_t {t a b : Nat} (hk : kd t = 5) (ha : a < 20) (hb : b < 20) (hab : a ≠ b) (N : wM) : ∃ M', fX5_move t (nI a) (nI b) N = some M' ∧ Fr (fun i => i = t + 1) N M' ∧ (∀ j, (j < 4 * b ∨ 4 * b + 4 ≤ j) → M'.1 (t + 1) j = N.1 (t + 1) j) ∧ ∀ f, f < 4 → M'.1 (t + 1) (4 * b + f) = N.1 (t + 1) (4 * a + f) := by
  obtain ⟨M', h1, h2, h3, h4⟩ := move_L hk ha hb hab 4 0 FU N (by omega) (by unfold FU; omega)
  exact ⟨M', h1, h2, h3, fun f hf => h4 f (by omega) hf⟩
/-- where a reading of time x comes to stand -/
def insK (d0 : Nat → Int32) (x : Int32) : Nat → Nat
  | 0 => 0
  | k + 1 => if x < d0 k then insK d0 x k else k + 1
theorem insK_le {d0 : Nat → Int32} {x : Int32} : ∀ n, insK d0 x n ≤ n
  | 0 => Nat.le_refl _
  | n + 1 => by
    unfold insK
    split
    · exact Nat.le_succ_of_le (insK_le n)
    · exact Nat.le_refl _
def insD (d : Nat → Nat → Int32) (k : Nat) (v : Nat → Int32) : Nat → Nat → Int32 := fun f r => if r < k then d f r else if r = k then v f else d f (r - 1)
def remD (d : Nat → Nat → Int32) (k : Nat) : Nat → Nat → Int32 := fun f r => if r < k then d f r else d f (r + 1)
/-- the four numbers of a reading, in the order of their fields -/
def rd4 (ti p c pt : Int32) : Nat → Int32 := fun f => if f = 0 then ti else if f = 1 then p else if f = 2 then c else pt
theorem insert_J {t k n : Nat} {ti p c pt : Int32} {N : wM} (hk : kd t = 5) (hkn : k < 20) (h2 : N.1 t 2 = nI n) : ∃ M', fX5_insert_J40 t pt ti p c (nI k) N = some (nI k, M') ∧ Fr (fun i => i = t ∨ i = t + 1) N M' ∧ M'.1 t 2 = nI (n + 1) ∧ (∀ j, j ≠ 2 → M'.1 t j = N.1 t j) ∧ (∀ j, (j < 4 * k ∨ 4 * k + 4 ≤ j) → M'.1 (t + 1) j = N.1 (t + 1) j) ∧ ∀ f, f < 4 → M'.1 (t + 1) (4 * k + f) = rd4 ti p c pt f := by
  have e0 : nI k * (4 : Int32) + (0 : Int32) = nI (4 * k + 0) := ix4 k 0
  have e1 : nI k * (4 : Int32) + (1 : Int32) = nI (4 * k + 1) := ix4 k 1
  have e2 : nI k * (4 : Int32) + (2 : Int32) = nI (4 * k + 2) := ix4 k 2
  have e3 : nI k * (4 : Int32) + (3 : Int32) = nI (4 * k + 3) := ix4 k 3
  have hln : ln (t + 1) = 80 := lkf5_0 hk
  unfold fX5_insert_J40
  rw [e0, e1, e2, e3, put_in (by omega), bs, put_in (by omega), bs, put_in (by omega), bs, put_in (by omega), bs]
  refine ⟨_, rfl, ?_, ?_, ?_, ?_, ?_⟩
  · exact (((((Fr.st (Or.inr rfl)).tr (Fr.st (Or.inr rfl))).tr (Fr.st (Or.inr rfl))).tr (Fr.st (Or.inr rfl))).tr (Fr.st (Or.inl rfl)))
  · rw [st_same]
    simp only [st_row (show t ≠ t + 1 by omega), h2]
    exact nIp1 n
  · intro j hj
    rw [st_col hj]
    simp only [st_row (show t ≠ t + 1 by omega)]
  · intro j hj
    rw [st_row (show t + 1 ≠ t by omega)]
    rw [st_col (by omega), st_col (by omega), st_col (by omega), st_col (by omega)]
  · intro f hf
    rw [st_row (show t + 1 ≠ t by omega)]
    rcases (show f = 0 ∨ f = 1 ∨ f = 2 ∨ f = 3 by omega) with rfl | rfl | rfl | rfl
    · rw [st_col (by omega), st_col (by omega), st_col (by omega), st_same]; rfl
    · rw [st_col (by omega), st_col (by omega), st_same]; rfl
    · rw [st_col (by omega), st_same]; rfl
    · rw [st_same]; rfl
theorem insert_L {t n : Nat} {ti p c pt : Int32} {d : Nat → Nat → Int32} (hk : kd t = 5) (hn : n < 20) : ∀ (k fu : Nat) (N : wM), k ≤ n → k < fu → N.1 t 2 = nI n → (∀ r f, f < 4 → r < k → N.1 (t + 1) (4 * r + f) = d f r) → (∀ r f, f < 4 → k < r → r ≤ n → N.1 (t + 1) (4 * r + f) = d f (r - 1)) →
    ∃ M', fX5_insert_L6 t pt ti p c fu (nI k) N = some (nI (insK (d 0) ti k), M') ∧ Fr (fun i => i = t ∨ i = t + 1) N M' ∧ M'.1 t 2 = nI (n + 1) ∧ (∀ j, j ≠ 2 → M'.1 t j = N.1 t j) ∧ ∀ r f, r < n + 1 → f < 4 → M'.1 (t + 1) (4 * r + f) = insD d (insK (d 0) ti k) (rd4 ti p c pt) f r
  | k, fu, N, hkn, hfu, h2, hlo, hhi => by
    obtain ⟨fu, rfl⟩ : ∃ z, fu = z + 1 := ⟨fu - 1, by omega⟩
    have fin : ∃ M', fX5_insert_J40 t pt ti p c (nI k) N = some (nI k, M') ∧ Fr (fun i => i = t ∨ i = t + 1) N M' ∧ M'.1 t 2 = nI (n + 1) ∧ (∀ j, j ≠ 2 → M'.1 t j = N.1 t j) ∧ ∀ r f, r < n + 1 → f < 4 → M'.1 (t + 1) (4 * r + f) = insD d k (rd4 ti p c pt) f r := by
      obtain ⟨M', a1, a2, a3, a4, a5, a6⟩ := insert_J (ti := ti) (p := p) (c := c) (pt := pt) hk (show k < 20 by omega) h2
      refine ⟨M', a1, a2, a3, a4, fun r f hr hf => ?_⟩
      unfold insD
      rcases Nat.lt_trichotomy r k with h | h | h
      · rw [a5 _ (by omega), hlo r f hf h, if_pos h]
      · subst h
        rw [a6 f hf, if_neg (by omega), if_pos rfl]
      · rw [a5 _ (by omega), hhi r f hf h (by omega), if_neg (by omega), if_neg (by omega)]
    show ∃ M', fX5_insert_B6 t pt ti p c _ (nI k) N = _ ∧ _
    unfold fX5_insert_B6
    cases k with
    | zero =>
      rw [if_pos (show nI 0 ≤ (0 : Int32) from by decide)]
      exact fin
    | succ k =>
      have ev : fX5_value t (nI k) (0 : Int32) N = some (d 0 k) := by
        rw [show (0 : Int32) = nI 0 from rfl, tv_raw hk (by omega) (by omega), hlo k 0 (by omega) (by omega)]
      rw [if_neg (show ¬ nI (k + 1) ≤ (0 : Int32) from nI_nle (by omega) (by omega)), nIm1 (by omega), nId1 (by omega), Nat.add_sub_cancel, ev, bs]
      unfold insK
      by_cases hlt : ti < d 0 k
      · rw [if_neg (Int32.not_le.mpr hlt)]
        simp only [if_pos hlt]
        obtain ⟨N1, b1, b2, b3, b4⟩ := move_t hk (show k < 20 by omega) (show k + 1 < 20 by omega) (by omega) N
        rw [b1, bs]
        obtain ⟨M', c1, c2, c3, c4, c5⟩ := insert_L (ti := ti) (p := p) (c := c) (pt := pt) (d := d) hk hn k fu N1 (by omega) (by omega) (by rw [b2.at (show ¬ t = t + 1 by omega), h2]) (fun r f hf hr => by rw [b3 _ (by omega), hlo r f hf (by omega)]) (fun r f hf hr1 hr2 => by
          rcases Nat.eq_or_lt_of_le (show k + 1 ≤ r from hr1) with rfl | h
          · rw [b4 f hf, hlo k f hf (by omega), Nat.add_sub_cancel]
          · rw [b3 _ (by omega), hhi r f hf h hr2])
        exact ⟨M', c1, (b2.mono (fun i hi => Or.inr hi)).tr c2, c3, fun j hj => by rw [c4 j hj, b2.at (show ¬ t = t + 1 by omega)], c5⟩
      · rw [if_pos (Int32.not_lt.mp hlt)]
        simp only [if_neg hlt]
        exact fin
  termination_by k => k
theorem insert_t {t n cp : Nat} {ti p c pt : Int32} {d : Nat → Nat → Int32} {N : wM} (hk : kd t = 5) (hR : RT t N n cp d) (hn : n < 20) :
    ∃ M', fX5_insert t pt ti p c N = some (nI (insK (d 0) ti n), M') ∧ Fr (fun i => i = t ∨ i = t + 1) N M' ∧ RT t M' (n + 1) cp (insD d (insK (d 0) ti n) (rd4 ti p c pt)) := by
  obtain ⟨M', a1, a2, a3, a4, a5⟩ := insert_L (ti := ti) (p := p) (c := c) (pt := pt) (d := d) hk hn n FU N (Nat.le_refl _) (by unfold FU; omega) hR.1 (fun r f hf hr => hR.2.2 r f hr hf) (fun r f hf h1 h2 => absurd h1 (by omega))
  refine ⟨M', ?_, a2, a3, by rw [a4 1 (by omega)]; exact hR.2.1, a5⟩
  unfold fX5_insert
  rw [hR.1]
  exact a1
theorem remove_L {t n x : Nat} {d : Nat → Nat → Int32} (hk : kd t = 5) (hn : n ≤ 20) (hx : x < n) : ∀ (c k fu : Nat) (N : wM), k + c = n → x < k → c < fu → N.1 t 2 = nI n → (∀ r f, f < 4 → r + 1 < k → N.1 (t + 1) (4 * r + f) = remD d x f r) → (∀ r f, f < 4 → k ≤ r → r < n → N.1 (t + 1) (4 * r + f) = d f r) →
    ∃ M', fX5_remove_L4 t (nI x) fu (nI k) N = some M' ∧ Fr (fun i => i = t ∨ i = t + 1) N M' ∧ M'.1 t 2 = nI (n - 1) ∧ (∀ j, j ≠ 2 → M'.1 t j = N.1 t j) ∧ ∀ r f, r < n - 1 → f < 4 → M'.1 (t + 1) (4 * r + f) = remD d x f r
  | 0, k, fu, N, hkc, hxk, hfu, h2, hlo, hhi => by
    obtain ⟨fu, rfl⟩ : ∃ z, fu = z + 1 := ⟨fu - 1, by omega⟩
    refine ⟨st N t 2 (nI n - 1), ?_, Fr.st (Or.inl rfl), ?_, fun j hj => st_col hj, fun r f hr hf => ?_⟩
    · show fX5_remove_B4 t _ _ (nI k) N = _
      unfold fX5_remove_B4
      rw [h2, if_pos ((nI_leI (by omega) (by omega)).mpr (by omega))]
    · rw [st_same]; exact nIm1 (by omega)
    · rw [st_row (by omega), hlo r f hf (by omega)]
  | c + 1, k, fu, N, hkc, hxk, hfu, h2, hlo, hhi => by
    obtain ⟨fu, rfl⟩ : ∃ z, fu = z + 1 := ⟨fu - 1, by omega⟩
    obtain ⟨N1, b1, b2, b3, b4⟩ := move_t hk (show k < 20 by omega) (show k - 1 < 20 by omega) (by omega) N
    obtain ⟨M', c1, c2, c3, c4, c5⟩ := remove_L (d := d) hk hn hx c (k + 1) fu N1 (by omega) (by omega) (by omega) (by rw [b2.at (show ¬ t = t + 1 by omega), h2]) (fun r f hf hr => by
        rcases Nat.eq_or_lt_of_le (show r ≤ k - 1 by omega) with h | h
        · subst h
          rw [b4 f hf, hhi k f hf (by omega) (by omega)]
          unfold remD
          rw [if_neg (by omega), Nat.sub_add_cancel (by omega)]
        · rw [b3 _ (by omega), hlo r f hf (by omega)]) (fun r f hf h1 h2 => by rw [b3 _ (by omega), hhi r f hf (by omega) h2])
    refine ⟨M', ?_, (b2.mono (fun i hi => Or.inr hi)).tr c2, c3, fun j hj => by rw [c4 j hj, b2.at (show ¬ t = t + 1 by omega)], c5⟩
    show fX5_remove_B4 t _ _ (nI k) N = _
    unfold fX5_remove_B4
    rw [h2, if_neg (by rw [nI_leI (by omega) (by omega)]; omega), nIm1 (by omega), b1, bs, nIp1]
    exact c1
theorem remove_t {t n cp x : Nat} {d : Nat → Nat → Int32} {N : wM} (hk : kd t = 5) (hR : RT t N n cp d) (hn : n ≤ 20) (hx : x < n) :
    ∃ M', fX5_remove t (nI x) N = some M' ∧ Fr (fun i => i = t ∨ i = t + 1) N M' ∧ RT t M' (n - 1) cp (remD d x) := by
  obtain ⟨M', a1, a2, a3, a4, a5⟩ := remove_L (d := d) hk hn hx (n - (x + 1)) (x + 1) FU N (by omega) (by omega) (by unfold FU; omega) hR.1 (fun r f hf hr => by
    unfold remD; rw [if_pos (by omega)]; exact hR.2.2 r f (by omega) hf) (fun r f hf h1 h2 => hR.2.2 r f h2 hf)
  refine ⟨M', ?_, a2, a3, by rw [a4 1 (by omega)]; exact hR.2.1, a5⟩
  unfold fX5_remove
  rw [nIp1]
  exact a1
/-! copies -/
theorem copyT_t {t u : Nat} {M : wM} (hk : kd t = 5) (hu : kd u = 5) : fX5_copyFrom t u M = some (st (cpM M (u + 1) (t + 1) 80) t 2 (M.1 u 2)) := by
  unfold fX5_copyFrom
  have h1 : ln (t + 1) = 80 := lkf5_0 hk
  have h2 : ln (u + 1) = 80 := lkf5_0 hu
  have hkd : kd (t + 1) = 20 := kf5_0 hk
  rw [h1, h2, if_neg (show ¬ nI 80 < nI 80 from by decide), show cpG (nI 80) 80 80 = some 80 from by decide, bs]
  have e : (cpM M (u + 1) (t + 1) 80).1 u 2 = M.1 u 2 := by
    have hne : u ≠ t + 1 := fun q => by rw [q, hkd] at hu; exact absurd hu (by decide)
    simp [cpM, hne]
  rw [e]
theorem cpM_row {M : wM} {a b n i : Nat} (h : i ≠ b) : (cpM M a b n).1 i = M.1 i := by funext j; simp [cpM, h]
theorem cpM_in {M : wM} {a b n j : Nat} (h : j < n) : (cpM M a b n).1 b j = M.1 a j := by simp [cpM, va_cpy, h]
theorem copyT_RT {t u n cp cp2 : Nat} {M : wM} {d : Nat → Nat → Int32} (hk : kd t = 5) (hu : kd u = 5) (hR : RT u M n cp d) (hn : n ≤ 20) (hc : M.1 t 1 = nI cp2) :
    ∃ M', fX5_copyFrom t u M = some M' ∧ Fr (fun i => i = t ∨ i = t + 1) M M' ∧ RT t M' n cp2 d := by
  refine ⟨_, copyT_t hk hu, fun i hi => ⟨?_, rfl⟩, ?_, ?_, fun r f hr hf => ?_⟩
  · rw [st_row (fun q => hi (Or.inl q)), cpM_row (fun q => hi (Or.inr q))]
  · rw [st_same]; exact hR.1
  · rw [st_col (by omega), cpM_row (by omega)]; exact hc
  · rw [st_row (by omega), cpM_in (by omega)]; exact hR.2.2 r f hr hf
end
section
/-! the readings of one track in the reference: w counts from 0, the base -/
theorem oix (w a r : Nat) : (((7 : Int32) + ((80 : Int32) * nI w)) + nI a) + nI r = nI (7 + 80 * w + a + r) := by
  rw [show (7 : Int32) = nI 7 from rfl, show (80 : Int32) = nI 80 from rfl, pk_mul, nI_add, nI_add, nI_add]
theorem cix (w : Nat) : (3 : Int32) + nI w = nI (3 + w) := by rw [show (3 : Int32) = nI 3 from rfl, nI_add]
def cap (w : Nat) : Nat := if w = 0 then 12 else 20
theorem cap_le (w : Nat) : cap w ≤ 20 := by unfold cap; split <;> omega
end
section
/-! views: settings, counts, readings (of the base: 0, of the cells: 1 to 3) -/
abbrev wV : Type := (Nat → Int32) × (Nat → Nat) × (Nat → Nat → Nat → Int32)
def tk (s w : Nat) : Nat := s + 1 + 2 * w
/-- a state of the class shows V -/
def RC (V : wV) (s : Nat) (M : wM) : Prop := (∀ k, k < 3 → M.1 s (4 + k) = V.1 k) ∧ ∀ w, w < 4 → RT (tk s w) M (V.2.1 w) (cap w) (V.2.2 w)
def OkV (V : wV) : Prop := ((-500000 : Int32) ≤ V.1 0 ∧ V.1 0 ≤ 9000000 ∧ (1 : Int32) ≤ V.1 1 ∧ V.1 1 ≤ 5000 ∧ (1 : Int32) ≤ V.1 2 ∧ V.1 2 ≤ 500) ∧ ∀ w, w < 4 → V.2.1 w ≤ cap w ∧ (∀ r, r < V.2.1 w → ((0 : Int32) ≤ V.2.2 w 0 r ∧ V.2.2 w 0 r ≤ 10000 ∧ (50000 : Int32) ≤ V.2.2 w 1 r ∧ V.2.2 w 1 r ≤ 110000 ∧ (-300 : Int32) ≤ V.2.2 w 2 r ∧ V.2.2 w 2 r ≤ 500 ∧ (0 : Int32) ≤ V.2.2 w 3 r ∧ V.2.2 w 3 r ≤ 9)) ∧ ∀ r r', r < r' → r' < V.2.1 w → V.2.2 w 0 r < V.2.2 w 0 r'
theorem OkV.n {V : wV} (h : OkV V) {w : Nat} (hw : w < 4) : V.2.1 w ≤ 20 := Nat.le_trans (h.2 w hw).1 (cap_le w)
theorem RC.keep {V : wV} {s : Nat} {M M2 : wM} (h : RC V s M) (hf : ∀ i, s ≤ i → i < s + 9 → M2.1 i = M.1 i) : RC V s M2 := by
  refine ⟨fun k hk => by rw [hf s (by omega) (by omega)]; exact h.1 k hk, fun w hw => ?_⟩
  have e1 := hf (tk s w) (by unfold tk; omega) (by unfold tk; omega)
  have e2 := hf (tk s w + 1) (by unfold tk; omega) (by unfold tk; omega)
  obtain ⟨a, b, c⟩ := h.2 w hw
  exact ⟨by rw [e1]; exact a, by rw [e1]; exact b, fun r f hr hf => by rw [e2]; exact c r f hr hf⟩
theorem kd_tk {s w : Nat} (hs : kd s = 2) (hw : w < 4) : kd (tk s w) = 5 := by
  rcases (show w = 0 ∨ w = 1 ∨ w = 2 ∨ w = 3 by omega) with rfl | rfl | rfl | rfl
  · exact kf2_0 hs
  · exact kf2_1 hs
  · exact kf2_2 hs
  · exact kf2_3 hs
theorem kd2_apart {a b : Nat} (ha : kd a = 2) (hb : kd b = 2) (h : a ≠ b) : a + 9 ≤ b ∨ b + 9 ≤ a := by
  have key : ∀ x, x < 96 → ∀ y, y < 96 → kd x = 2 → kd y = 2 → (x = y ∨ x + 9 ≤ y ∨ y + 9 ≤ x) := by decide +kernel
  exact (key a (kdlt ha (by decide)) b (kdlt hb (by decide)) ha hb).resolve_left h
theorem gk_ok {v k : Nat} (h : kd v = k) : gk v k = some () := if_pos h
theorem track_c {s c : Nat} {M : wM} (hc : c < 3) : fX2_track s (nI c) M = some (tk s (c + 1)) := by
  unfold fX2_track
  rcases (show c = 0 ∨ c = 1 ∨ c = 2 by omega) with rfl | rfl | rfl <;> rfl
theorem track_b {s : Nat} {M : wM} : fX2_track s (-1 : Int32) M = some (tk s 0) := rfl
/-- the rooms of a state's tracks -/
def Rooms (s : Nat) (M : wM) : Prop := ∀ w, w < 4 → M.1 (tk s w) 1 = nI (cap w)
theorem RC.rooms {V : wV} {s : Nat} {M : wM} (h : RC V s M) : Rooms s M := fun w hw => (h.2 w hw).2.1
theorem Rooms.keep {s : Nat} {M M2 : wM} (h : Rooms s M) (hf : ∀ i, s ≤ i → i < s + 9 → M2.1 i = M.1 i) : Rooms s M2 := fun w hw => by
  rw [hf (tk s w) (by unfold tk; omega) (by unfold tk; omega)]; exact h w hw
def inS (s i : Nat) : Prop := s ≤ i ∧ i < s + 9
theorem copyS {V : wV} {a b : Nat} {M : wM} (ha : kd a = 2) (hb : kd b = 2) (hab : a ≠ b) (hV : OkV V) (hR : RC V b M) (hr : Rooms a M) : ∃ M', fX2_copyFrom a b M = some M' ∧ Fr (inS a) M M' ∧ RC V a M' := by
  have hap := kd2_apart ha hb hab
  have step : ∀ (w : Nat) (N : wM), w < 4 → RC V b N → Rooms a N → ∃ N', fX5_copyFrom (tk a w) (tk b w) N = some N' ∧ Fr (fun i => i = tk a w ∨ i = tk a w + 1) N N' ∧ RT (tk a w) N' (V.2.1 w) (cap w) (V.2.2 w) := fun w N hw h1 h2 => copyT_RT (kd_tk ha hw) (kd_tk hb hw) (h1.2 w hw) (hV.n hw) (h2 w hw)
  have fB : ∀ {w : Nat} {N N' : wM}, w < 4 → Fr (fun i => i = tk a w ∨ i = tk a w + 1) N N' → ∀ i, b ≤ i → i < b + 9 → N'.1 i = N.1 i := fun hw h i h1 h2 => (h i (fun q => by unfold tk at q; omega)).1
  have fR : ∀ {w : Nat} {N N' : wM}, w < 4 → Fr (fun i => i = tk a w ∨ i = tk a w + 1) N N' → RT (tk a w) N' (V.2.1 w) (cap w) (V.2.2 w) → Rooms a N → Rooms a N' := fun {w N N'} hw h hT h0 u hu => by
    by_cases e : u = w
    · rw [e]; exact hT.2.1
    · rw [(h (tk a u) (fun q => by unfold tk at q; omega)).1]; exact h0 u hu
  have fT : ∀ {w u : Nat} {N N' : wM}, w < 4 → u < 4 → u ≠ w → Fr (fun i => i = tk a w ∨ i = tk a w + 1) N N' → RT (tk a u) N (V.2.1 u) (cap u) (V.2.2 u) → RT (tk a u) N' (V.2.1 u) (cap u) (V.2.2 u) := fun {w u N N'} hw hu hne h hT => by
    have e1 := (h (tk a u) (fun q => by unfold tk at q; omega)).1
    have e2 := (h (tk a u + 1) (fun q => by unfold tk at q; omega)).1
    exact ⟨by rw [e1]; exact hT.1, by rw [e1]; exact hT.2.1, fun r f hr hf => by rw [e2]; exact hT.2.2 r f hr hf⟩
  obtain ⟨M1, a1, a2, a3⟩ := step 0 M (by omega) hR hr
  have b1 := hR.keep (fB (by omega) a2)
  have r1 := fR (by omega) a2 a3 hr
  obtain ⟨M2, c1, c2, c3⟩ := step 1 M1 (by omega) b1 r1
  have b2 := b1.keep (fB (by omega) c2)
  have r2 := fR (by omega) c2 c3 r1
  obtain ⟨M3, d1, d2, d3⟩ := step 2 M2 (by omega) b2 r2
  have b3 := b2.keep (fB (by omega) d2)
  have r3 := fR (by omega) d2 d3 r2
  obtain ⟨M4, e1, e2, e3⟩ := step 3 M3 (by omega) b3 r3
  have b4 := b3.keep (fB (by omega) e2)
  have fS : ∀ {w : Nat} {N N' : wM}, w < 4 → Fr (fun i => i = tk a w ∨ i = tk a w + 1) N N' → Fr (inS a) N N' := fun hw h => h.mono (fun i q => by unfold tk at q; unfold inS; omega)
  have t0 := fT (w := 3) (u := 0) (by omega) (by omega) (by omega) e2 (fT (w := 2) (by omega) (by omega) (by omega) d2 (fT (w := 1) (by omega) (by omega) (by omega) c2 a3))
  have t1 := fT (w := 3) (u := 1) (by omega) (by omega) (by omega) e2 (fT (w := 2) (by omega) (by omega) (by omega) d2 c3)
  have t2 := fT (w := 3) (u := 2) (by omega) (by omega) (by omega) e2 d3
  have hne : b ≠ a := fun q => hab q.symm
  refine ⟨st (st (st M4 a 4 (M4.1 b 4)) a 5 (M4.1 b 5)) a 6 (M4.1 b 6), ?_, ?_, ?_, ?_⟩
  · unfold fX2_copyFrom
    rw [show a + 1 = tk a 0 from rfl, show b + 1 = tk b 0 from rfl, show a + 3 = tk a 1 from rfl, show b + 3 = tk b 1 from rfl, show a + 5 = tk a 2 from rfl, show b + 5 = tk b 2 from rfl, show a + 7 = tk a 3 from rfl, show b + 7 = tk b 3 from rfl, a1, bs, c1, bs, d1, bs, e1, bs]
    simp only [st_row hne]
  · have hia : inS a a := by unfold inS; omega
    exact ((((((fS (by omega) a2).tr (fS (by omega) c2)).tr (fS (by omega) d2)).tr (fS (by omega) e2)).tr (Fr.st hia)).tr (Fr.st hia)).tr (Fr.st hia)
  · intro k hk
    rcases (show k = 0 ∨ k = 1 ∨ k = 2 by omega) with rfl | rfl | rfl
    · rw [st_col (by omega), st_col (by omega), st_same]; exact b4.1 0 (by omega)
    · rw [st_col (by omega), st_same]; exact b4.1 1 (by omega)
    · rw [st_same]; exact b4.1 2 (by omega)
  · intro w hw
    have key : RT (tk a w) M4 (V.2.1 w) (cap w) (V.2.2 w) := by
      rcases (show w = 0 ∨ w = 1 ∨ w = 2 ∨ w = 3 by omega) with rfl | rfl | rfl | rfl
      · exact t0
      · exact t1
      · exact t2
      · exact e3
    have q1 : tk a w ≠ a := by unfold tk; omega
    have q2 : tk a w + 1 ≠ a := by unfold tk; omega
    exact ⟨by rw [st_row q1, st_row q1, st_row q1]; exact key.1, by rw [st_row q1, st_row q1, st_row q1]; exact key.2.1, fun r f hr hf => by rw [st_row q2, st_row q2, st_row q2]; exact key.2.2 r f hr hf⟩
/-! the history of the class -/
def pl (o k : Nat) : Nat := 21 + 9 * ((o + k) % 5)
theorem kd_pl (o k : Nat) : kd (pl o k) = 2 := by
  have h : (o + k) % 5 < 5 := Nat.mod_lt _ (by omega)
  unfold pl
  generalize (o + k) % 5 = j at h
  rcases (show j = 0 ∨ j = 1 ∨ j = 2 ∨ j = 3 ∨ j = 4 by omega) with rfl | rfl | rfl | rfl | rfl <;> rfl
theorem rm5 {a : Nat} (h : a < 2 ^ 31) : rmI (nI a) (5 : Int32) = some (nI (a % 5)) := by
  unfold rmI
  rw [if_neg (by decide), show (5 : Int32) = nI 5 from rfl, pk_rem h (by omega) (by omega)]
theorem place_h {o k : Nat} {M : wM} (h1 : M.1 19 1 = nI o) (ho : o < 5) (hk : k < 5) : fX0_place 19 (nI k) M = some (pl o k) := by
  have hm : (o + k) % 5 < 5 := Nat.mod_lt _ (by omega)
  unfold fX0_place
  rw [h1, nI_add, rm5 (by omega), bs, if_neg (nI_pos (by omega)), if_neg (show ¬ (5 : Int32) ≤ nI ((o + k) % 5) from fun q => absurd ((nI_leI (a := 5) (by omega) (by omega)).mp q) (by omega)), ix_in hm (by omega), bs]
  rfl
/-- the class's history: o the oldest place, hs the states, the oldest first -/
def RHo (o : Nat) (hs : List wV) (M : wM) : Prop := o < 5 ∧ M.1 19 1 = nI o ∧ M.1 19 2 = nI hs.length ∧ hs.length ≤ 5 ∧ (∀ k V, hs[k]? = some V → OkV V ∧ RC V (pl o k) M) ∧ ∀ j, j < 5 → Rooms (21 + 9 * j) M
theorem pl_ne {o k k2 : Nat} (ho : o < 5) (hk : k < 5) (hk2 : k2 < 5) (h : k ≠ k2) : pl o k ≠ pl o k2 := by unfold pl; omega
theorem pl_add (o k : Nat) : pl ((o + 1) % 5) k = pl o (k + 1) := by unfold pl; omega
theorem rooms_pl {o k : Nat} {M : wM} (h : ∀ j, j < 5 → Rooms (21 + 9 * j) M) : Rooms (pl o k) M := h _ (Nat.mod_lt _ (by omega))
/-- the history's list after a change -/
def push5 (hs : List wV) (V : wV) : List wV := (if hs.length = 5 then hs.tail else hs) ++ [V]
theorem push5_len {hs : List wV} {V : wV} (h : hs.length ≤ 5) : (push5 hs V).length ≤ 5 := by
  unfold push5
  split
  · simp; omega
  · simp; omega
def inH (i : Nat) : Prop := 19 ≤ i ∧ i < 66
theorem keep_J {o : Nat} {hs : List wV} {V : wV} {M : wM} (hl : hs.length < 5) (hH : RHo o hs M) (hV : OkV V) (hR : RC V 1 M) : ∃ M', fX0_keep_J30 19 1 M = some M' ∧ Fr inH M M' ∧ RHo o (hs ++ [V]) M' := by
  obtain ⟨ho, h1, h2, h3, h4, h5⟩ := hH
  have hne : pl o hs.length ≠ 1 := by unfold pl; omega
  obtain ⟨M', a1, a2, a3⟩ := copyS (kd_pl o hs.length) (show kd 1 = 2 from rfl) hne hV hR (rooms_pl h5)
  have p1 : 21 ≤ pl o hs.length := by unfold pl; omega
  have p2 : pl o hs.length + 9 ≤ 66 := by unfold pl; omega
  have n19 : ¬ inS (pl o hs.length) 19 := by unfold inS; omega
  refine ⟨st M' 19 2 (M'.1 19 2 + 1), ?_, (a2.mono (fun i q => by unfold inS at q; unfold inH; omega)).tr (Fr.st (by unfold inH; omega)), ho, ?_, ?_, ?_, ?_, ?_⟩
  · unfold fX0_keep_J30
    rw [h2, place_h h1 ho hl, bs, gk_ok (kd_pl o hs.length), bs, a1, bs]
  · rw [st_col (by omega), a2.at n19, h1]
  · rw [st_same, a2.at n19, h2, List.length_append]; exact nIp1 _
  · rw [List.length_append]; simp; omega
  · intro k U hU
    have keepst : ∀ {U : wV} {s : Nat}, 20 ≤ s → RC U s M' → RC U s (st M' 19 2 (M'.1 19 2 + 1)) := fun hs0 h => h.keep (fun i h1 h2 => st_row (by omega))
    rcases Nat.lt_or_ge k hs.length with hk | hk
    · rw [List.getElem?_append_left hk] at hU
      obtain ⟨q1, q2⟩ := h4 k U hU
      have hpp := pl_ne (o := o) ho (show k < 5 by omega) hl (by omega)
      refine ⟨q1, keepst (by unfold pl; omega) (q2.keep (fun i g1 g2 => ?_))⟩
      have hap := kd2_apart (kd_pl o k) (kd_pl o hs.length) hpp
      exact (a2 i (by unfold inS; omega)).1
    · rw [List.getElem?_append_right hk] at hU
      have e : k - hs.length = 0 := by
        rcases Nat.eq_zero_or_pos (k - hs.length) with q | q
        · exact q
        · rw [List.getElem?_eq_none (by simp; omega)] at hU; cases hU
      rw [e] at hU
      cases hU
      have e2 : k = hs.length := by omega
      subst e2
      exact ⟨hV, keepst (by omega) a3⟩
  · intro j hj
    have hrr : Rooms (21 + 9 * j) M' := by
      by_cases e : 21 + 9 * j = pl o hs.length
      · rw [e]; exact a3.rooms
      · have hkj : kd (21 + 9 * j) = 2 := by
          rcases (show j = 0 ∨ j = 1 ∨ j = 2 ∨ j = 3 ∨ j = 4 by omega) with rfl | rfl | rfl | rfl | rfl <;> rfl
        have hap := kd2_apart hkj (kd_pl o hs.length) e
        exact (h5 j hj).keep (fun i g1 g2 => (a2 i (by unfold inS; omega)).1)
    exact hrr.keep (fun i h1 h2 => st_row (by omega))
theorem keep_h {o : Nat} {hs : List wV} {V : wV} {M : wM} (hH : RHo o hs M) (hV : OkV V) (hR : RC V 1 M) : ∃ o' M', fX0_keep 19 1 M = some M' ∧ Fr inH M M' ∧ RHo o' (push5 hs V) M' := by
  unfold fX0_keep push5
  have hH0 := hH
  obtain ⟨ho, h1, h2, h3, h4, h5⟩ := hH
  rw [h2]
  by_cases hl : hs.length = 5
  · have e5 : nI hs.length = nI 5 := by rw [hl]
    rw [if_neg (show ¬ nI hs.length < (5 : Int32) from by rw [e5]; decide), h1, nIp1, rm5 (by omega), bs, if_pos hl]
    have hm : (o + 1) % 5 < 5 := Nat.mod_lt _ (by omega)
    have f0 : Fr inH M (st (st M 19 1 (nI ((o + 1) % 5))) 19 2 ((st M 19 1 (nI ((o + 1) % 5))).1 19 2 - 1)) := (Fr.st (by unfold inH; omega)).tr (Fr.st (by unfold inH; omega))
    have keep2 : ∀ i, 20 ≤ i → (st (st M 19 1 (nI ((o + 1) % 5))) 19 2 ((st M 19 1 (nI ((o + 1) % 5))).1 19 2 - 1)).1 i = M.1 i := fun i hi => by rw [st_row (by omega), st_row (by omega)]
    have hH1 : RHo ((o + 1) % 5) hs.tail (st (st M 19 1 (nI ((o + 1) % 5))) 19 2 ((st M 19 1 (nI ((o + 1) % 5))).1 19 2 - 1)) := by
      refine ⟨hm, ?_, ?_, ?_, ?_, ?_⟩
      · rw [st_col (by omega), st_same]
      · rw [st_same, st_col (by omega), h2, List.length_tail, nIm1 (by omega)]
      · rw [List.length_tail]; omega
      · intro k U hU
        rw [List.getElem?_tail] at hU
        obtain ⟨q1, q2⟩ := h4 (k + 1) U hU
        rw [pl_add]
        exact ⟨q1, q2.keep (fun i g1 g2 => keep2 i (by unfold pl at g1; omega))⟩
      · intro j hj
        exact (h5 j hj).keep (fun i g1 g2 => keep2 i (by omega))
    obtain ⟨M', a1, a2, a3⟩ := keep_J (by rw [List.length_tail]; omega) hH1 hV (hR.keep (fun i g1 g2 => by rw [st_row (by omega), st_row (by omega)]))
    exact ⟨_, M', a1, f0.tr a2, a3⟩
  · rw [if_pos (show nI hs.length < (5 : Int32) from (nI_ltI (b := 5) (by omega) (by omega)).mpr (by omega)), if_neg hl]
    obtain ⟨M', a1, a2, a3⟩ := keep_J (by omega) hH0 hV hR
    exact ⟨_, M', a1, a2, a3⟩
theorem giveBack_h {o : Nat} {hs : List wV} {V : wV} {M : wM} (hH : RHo o (hs ++ [V]) M) (hr : Rooms 1 M) : ∃ M', fX0_giveBack 19 1 M = some M' ∧ Fr (fun i => inS 1 i ∨ i = 19) M M' ∧ RHo o hs M' ∧ RC V 1 M' ∧ OkV V := by
  obtain ⟨ho, h1, h2, h3, h4, h5⟩ := hH
  have hlen : (hs ++ [V]).length = hs.length + 1 := by simp
  rw [hlen] at h2 h3
  have hV := h4 hs.length V (by simp)
  have hne : (1 : Nat) ≠ pl o hs.length := by unfold pl; omega
  obtain ⟨M', a1, a2, a3⟩ := copyS (show kd 1 = 2 from rfl) (kd_pl o hs.length) hne hV.1 hV.2 hr
  have n19 : ¬ inS 1 19 := by unfold inS; omega
  have kp : ∀ i, 20 ≤ i → (st M' 19 2 (M'.1 19 2 - 1)).1 i = M.1 i := fun i hi => by rw [st_row (by omega)]; exact (a2 i (by unfold inS; omega)).1
  refine ⟨st M' 19 2 (M'.1 19 2 - 1), ?_, (a2.mono (fun i q => Or.inl q)).tr (Fr.st (Or.inr rfl)), ⟨ho, ?_, ?_, by omega, ?_, ?_⟩, a3.keep (fun i g1 g2 => st_row (by omega)), hV.1⟩
  · unfold fX0_giveBack
    rw [h2, nIm1 (by omega), Nat.add_sub_cancel, place_h h1 ho (by omega), bs, gk_ok (kd_pl o hs.length), bs, a1, bs]
  · rw [st_col (by omega), a2.at n19, h1]
  · rw [st_same, a2.at n19, h2, nIm1 (by omega), Nat.add_sub_cancel]
  · intro k U hU
    have hk : k < hs.length := by
      rcases Nat.lt_or_ge k hs.length with q | q
      · exact q
      · rw [List.getElem?_eq_none q] at hU; cases hU
    obtain ⟨q1, q2⟩ := h4 k U (by rw [List.getElem?_append_left hk]; exact hU)
    exact ⟨q1, q2.keep (fun i g1 g2 => kp i (by unfold pl at g1; omega))⟩
  · intro j hj
    exact (h5 j hj).keep (fun i g1 g2 => kp i (by omega))
end
section
/-! the history of the reference -/
theorem wix (b k : Nat) : ((327 : Int32) * nI b) + nI k = nI (327 * b + k) := by rw [show (327 : Int32) = nI 327 from rfl, pk_mul, nI_add]
/-! ranges -/
def inR (x a b : Int32) : Bool := decide (a ≤ x) && decide (x ≤ b)
theorem inR_iff {x a b : Int32} : inR x a b = true ↔ a ≤ x ∧ x ≤ b := by simp [inR]
theorem within_c {x a b : Int32} {M : wM} : fX6_within x a b M = some (inR x a b) := by
  unfold fX6_within inR
  by_cases h1 : x < a
  · rw [if_pos h1, decide_eq_false (Int32.not_le.mpr h1), Bool.false_and]
  · rw [if_neg h1, decide_eq_true (Int32.not_lt.mp h1), Bool.true_and]
    by_cases h2 : b < x
    · rw [if_pos h2, decide_eq_false (Int32.not_le.mpr h2)]
    · rw [if_neg h2, decide_eq_true (Int32.not_lt.mp h2)]
theorem b2i {α : Type} {b : Bool} {A B : α} : (if b2 b = (0 : Int32) then A else B) = if b then B else A := by cases b <;> rfl
def okR (t p c : Int32) : Bool := inR t 0 10000 && inR p 50000 110000 && inR c (-300) 500
theorem isReading_c {t p c : Int32} {M : wM} : fX6_isReading t p c M = some (okR t p c) := by
  unfold fX6_isReading fX6_isTime fX6_isTemperature okR
  simp only [within_c, bs, b2i]
  cases inR t 0 10000 <;> cases inR p 50000 110000 <;> cases inR c (-300) 500 <;> rfl
theorem isCell_c {x : Int32} {M : wM} : fX6_isCell x M = some (inR x 0 2) := by
  unfold fX6_isCell
  simp only [within_c, bs]
theorem isPoint_c {x : Int32} {M : wM} : fX6_isPoint x M = some (inR x 0 9) := by
  unfold fX6_isPoint
  simp only [within_c, bs]
def okS (k v : Int32) : Bool := if k = 0 then inR v (-500000) 9000000 else if k = 1 then inR v 1 5000 else if k = 2 then inR v 1 500 else false
theorem isSetting_c {k v : Int32} {M : wM} : fX6_isSetting k v M = some (okS k v) := by
  unfold fX6_isSetting okS
  simp only [within_c, bs]
  split
  · rfl
  · split
    · rfl
    · split <;> rfl
theorem cell_of {x : Int32} (h : inR x 0 2 = true) : ∃ c : Nat, c < 3 ∧ x = nI c := by
  obtain ⟨h1, h2⟩ := inR_iff.mp h
  obtain ⟨j, hj, e⟩ := nI_of2 (x := x) (M := 2) (n := 2) (by decide) (Int32.not_lt.mpr h1) h2
  exact ⟨j, by omega, e⟩
end
section
/-! plain facts of numbers (out of the kit's COUNTS.to-paste) -/
theorem fb_rng (x : Int32) : -2147483648 ≤ x.toInt ∧ x.toInt < 2147483648 := by
  have h1 := Int32.le_toInt x
  have h2 := Int32.toInt_lt x
  omega
theorem fb_bmod {z : Int} (h1 : -2147483648 ≤ z) (h2 : z < 2147483648) : z.bmod (2 ^ 32) = z := by
  rw [Int.bmod_eq_of_le (by omega) (by omega)]
theorem fb_addI {x y : Int32} (h1 : -2147483648 ≤ x.toInt + y.toInt) (h2 : x.toInt + y.toInt < 2147483648) : (x + y).toInt = x.toInt + y.toInt := by
  rw [Int32.toInt_add, fb_bmod h1 h2]
theorem fb_subI {x y : Int32} (h1 : -2147483648 ≤ x.toInt - y.toInt) (h2 : x.toInt - y.toInt < 2147483648) : (x - y).toInt = x.toInt - y.toInt := by
  rw [Int32.toInt_sub, fb_bmod h1 h2]
theorem fb_mulI {x y : Int32} (h1 : -2147483648 ≤ x.toInt * y.toInt) (h2 : x.toInt * y.toInt < 2147483648) : (x * y).toInt = x.toInt * y.toInt := by
  rw [Int32.toInt_mul, fb_bmod h1 h2]
theorem fb_negI {x : Int32} (h : x.toInt ≠ -2147483648) : (-x).toInt = -x.toInt := by
  have := fb_rng x
  rw [Int32.toInt_neg, fb_bmod (by omega) (by omega)]
theorem fb_ofI {z : Int} (h1 : -2147483648 ≤ z) (h2 : z < 2147483648) : (Int32.ofInt z).toInt = z := by
  rw [Int32.toInt_ofInt, fb_bmod h1 h2]
theorem fb_asI (x : Int32) : Int32.ofInt x.toInt = x := Int32.ofInt_toInt x
theorem fb_rngL (x : Int64) : -9223372036854775808 ≤ x.toInt ∧ x.toInt < 9223372036854775808 := by
  have h1 := Int64.le_toInt x
  have h2 := Int64.toInt_lt x
  omega
theorem fb_bmodL {z : Int} (h1 : -9223372036854775808 ≤ z) (h2 : z < 9223372036854775808) : z.bmod (2 ^ 64) = z := by
  rw [Int.bmod_eq_of_le (by omega) (by omega)]
theorem fb_addL {x y : Int64} (h1 : -9223372036854775808 ≤ x.toInt + y.toInt) (h2 : x.toInt + y.toInt < 9223372036854775808) : (x + y).toInt = x.toInt + y.toInt := by
  rw [Int64.toInt_add, fb_bmodL h1 h2]
theorem fb_subL {x y : Int64} (h1 : -9223372036854775808 ≤ x.toInt - y.toInt) (h2 : x.toInt - y.toInt < 9223372036854775808) : (x - y).toInt = x.toInt - y.toInt := by
  rw [Int64.toInt_sub, fb_bmodL h1 h2]
theorem fb_mulL {x y : Int64} (h1 : -9223372036854775808 ≤ x.toInt * y.toInt) (h2 : x.toInt * y.toInt < 9223372036854775808) : (x * y).toInt = x.toInt * y.toInt := by
  rw [Int64.toInt_mul, fb_bmodL h1 h2]
/-! floor division of longs: the class's and the reference's -/
def dn (x y : Int64) : Int64 := Int64.ofInt (x.toInt / y.toInt)
theorem fb_ofL {z : Int} (h1 : -9223372036854775808 ≤ z) (h2 : z < 9223372036854775808) : (Int64.ofInt z).toInt = z := by
  rw [Int64.toInt_ofInt, fb_bmodL h1 h2]
theorem ediv_b {X Y : Int} (hY : 0 < Y) (h1 : -9223372036854775808 ≤ X) (h2 : X < 9223372036854775808) : -9223372036854775808 ≤ X / Y ∧ X / Y < 9223372036854775808 := by
  constructor
  · rw [Int.le_ediv_iff_mul_le hY]; omega
  · rw [Int.ediv_lt_iff_lt_mul hY]; omega
theorem dn_toInt {x y : Int64} (hy : 0 < y.toInt) : (dn x y).toInt = x.toInt / y.toInt := by
  have hb := fb_rngL x
  have h := ediv_b hy hb.1 hb.2
  exact fb_ofL h.1 h.2
theorem dn_of {x y z : Int64} (h : z.toInt = x.toInt / y.toInt) : z = dn x y := by
  unfold dn
  rw [← h, Int64.ofInt_toInt]
theorem quo {x y : Int64} (hy : 0 < y.toInt) : (x / y).toInt = x.toInt / y.toInt + if 0 ≤ x.toInt ∨ x.toInt % y.toInt = 0 then 0 else 1 := by
  have h1 : y ≠ -1 := fun q => by rw [q] at hy; exact absurd hy (by decide)
  rw [Int64.toInt_div_of_ne_right _ _ h1, Int.tdiv_eq_ediv]
  have h2 : (y.toInt ∣ x.toInt) ↔ x.toInt % y.toInt = 0 := Int.dvd_iff_emod_eq_zero
  have h3 : y.toInt.sign = 1 := Int.sign_eq_one_of_pos hy
  rw [h3]
  congr 1
  by_cases a : 0 ≤ x.toInt
  · rw [if_pos (Or.inl a), if_pos (Or.inl a)]
  · by_cases b : x.toInt % y.toInt = 0
    · rw [if_pos (Or.inr (h2.mpr b)), if_pos (Or.inr b)]
    · rw [if_neg (fun q => q.elim a (fun q => b (h2.mp q))), if_neg (fun q => q.elim a b)]
theorem quoMul {x y : Int64} (hy : 0 < y.toInt) : (x / y * y).toInt = x.toInt - x.toInt % y.toInt + if 0 ≤ x.toInt ∨ x.toInt % y.toInt = 0 then 0 else y.toInt := by
  have hb := fb_rngL x
  have hby := fb_rngL y
  have e := Int.mul_ediv_add_emod x.toInt y.toInt
  have r1 := Int.emod_nonneg x.toInt (show y.toInt ≠ 0 by omega)
  have r2 := Int.emod_lt_of_pos x.toInt hy
  have hd := ediv_b hy hb.1 hb.2
  have em : (x / y).toInt * y.toInt = x.toInt - x.toInt % y.toInt + if 0 ≤ x.toInt ∨ x.toInt % y.toInt = 0 then 0 else y.toInt := by
    rw [quo hy, Int.add_mul, Int.mul_comm (x.toInt / y.toInt)]
    split <;> omega
  rw [fb_mulL]
  · exact em
  · rw [em]; split <;> omega
  · rw [em]; split
    · omega
    · next h => omega
theorem xorS {x y : Int64} (hy : 0 < y.toInt) : (0 : Int32) ≤ lg_cmp (x ^^^ y) (0 : Int64) ↔ 0 ≤ x.toInt := by
  rw [lg_cmp_ge, Int64.le_iff_toInt_le]
  have h0 : (0 : Int64).toInt = 0 := by decide
  rw [h0]
  have m : ∀ z : Int64, (0 ≤ z.toInt) ↔ z.toBitVec.msb = false := fun z => by
    rw [← Int64.toInt_toBitVec, BitVec.msb_eq_toInt, decide_eq_false_iff_not, Int.not_lt]
  rw [m, m, Int64.toBitVec_xor, BitVec.msb_xor, (m y).mp (by omega), Bool.xor_false]
theorem dd_c {x y : Int64} {M : wM} (hy : 0 < y.toInt) : fX6_divideDown x y M = some (dn x y) := by
  have y0 : ¬ y = 0 := fun q => by rw [q] at hy; exact absurd hy (by decide)
  have hb := fb_rngL x
  have hby := fb_rngL y
  have h1 : (1 : Int64).toInt = 1 := by decide
  have r1 := Int.emod_nonneg x.toInt (show y.toInt ≠ 0 by omega)
  have r2 := Int.emod_lt_of_pos x.toInt hy
  have hq := quo (x := x) hy
  have hd := ediv_b hy hb.1 hb.2
  unfold fX6_divideDown
  rw [if_neg (by rw [lg_cmp_eq]; exact y0)]
  unfold fJ9_floorDiv_f86c9 fJ9_floorDiv_f86c9_J27
  rw [show dvL x y = some (x / y) from if_neg y0]
  simp only [bs, lg_cmp_eq]
  by_cases hx : 0 ≤ x.toInt
  · rw [if_pos ((xorS hy).mpr hx), bs]
    rw [if_pos (Or.inl hx)] at hq
    exact congrArg some (dn_of (by omega))
  · rw [if_neg (fun q => hx ((xorS hy).mp q))]
    by_cases hr : x.toInt % y.toInt = 0
    · rw [if_pos (Int64.toInt_inj.mp (by rw [quoMul hy, if_pos (Or.inr hr)]; omega)), bs]
      rw [if_pos (Or.inr hr)] at hq
      exact congrArg some (dn_of (by omega))
    · have hne : ¬ (0 ≤ x.toInt ∨ x.toInt % y.toInt = 0) := fun q => q.elim hx hr
      rw [if_neg (fun q => by
        have q2 := congrArg Int64.toInt q
        rw [quoMul hy, if_neg hne] at q2
        omega), bs]
      rw [if_neg hne] at hq
      refine congrArg some (dn_of ?_)
      rw [fb_subL (by rw [hq]; omega) (by rw [hq]; omega), hq]
      omega
/-- floor division of an int by 2, as the class does it -/
theorem fl2 {x : Int32} {M : wM} : ∃ r : Int32, fJ9_floorDiv_7cf53 x (2 : Int32) M = some r ∧ r.toInt = x.toInt / 2 := by
  have h2 : (2 : Int32).toInt = 2 := by decide
  have h1 : (1 : Int32).toInt = 1 := by decide
  have h0 : (0 : Int32).toInt = 0 := by decide
  have hb := fb_rng x
  have hq : (x / 2).toInt = x.toInt / 2 + if 0 ≤ x.toInt ∨ x.toInt % 2 = 0 then 0 else 1 := by
    rw [Int32.toInt_div_of_ne_right _ _ (by decide), h2, Int.tdiv_eq_ediv]
    have h3 : ((2 : Int) ∣ x.toInt) ↔ x.toInt % 2 = 0 := Int.dvd_iff_emod_eq_zero
    congr 1
    by_cases a : 0 ≤ x.toInt
    · rw [if_pos (Or.inl a), if_pos (Or.inl a)]
    · by_cases b : x.toInt % 2 = 0
      · rw [if_pos (Or.inr (h3.mpr b)), if_pos (Or.inr b)]
      · rw [if_neg (fun q => q.elim a (fun q => b (h3.mp q))), if_neg (fun q => q.elim a b)]; rfl
  have hx : (0 : Int32) ≤ (x ^^^ 2) ↔ 0 ≤ x.toInt := by
    rw [Int32.le_iff_toInt_le, h0]
    have m : ∀ z : Int32, (0 ≤ z.toInt) ↔ z.toBitVec.msb = false := fun z => by
      rw [← Int32.toInt_toBitVec, BitVec.msb_eq_toInt, decide_eq_false_iff_not, Int.not_lt]
    rw [m, m, Int32.toBitVec_xor, BitVec.msb_xor, (m 2).mp (by decide), Bool.xor_false]
  have hm : (x / 2 * 2).toInt = (x.toInt / 2 + if 0 ≤ x.toInt ∨ x.toInt % 2 = 0 then 0 else 1) * 2 := by
    rw [fb_mulI, hq, h2]
    · rw [hq, h2]; split <;> omega
    · rw [hq, h2]; split <;> omega
  unfold fJ9_floorDiv_7cf53
  rw [show dvI x 2 = some (x / 2) from if_neg (by decide), bs]
  by_cases a : 0 ≤ x.toInt
  · rw [if_pos (hx.mpr a)]
    rw [if_pos (Or.inl a)] at hq
    exact ⟨_, rfl, by omega⟩
  · rw [if_neg (fun q => a (hx.mp q))]
    by_cases b : x.toInt % 2 = 0
    · rw [if_pos (Int32.toInt_inj.mp (by rw [hm, if_pos (Or.inr b)]; omega))]
      rw [if_pos (Or.inr b)] at hq
      exact ⟨_, rfl, by omega⟩
    · have hne : ¬ (0 ≤ x.toInt ∨ x.toInt % 2 = 0) := fun q => q.elim a b
      rw [if_neg (fun q => by
        have q2 := congrArg Int32.toInt q
        rw [hm, if_neg hne] at q2
        omega)]
      rw [if_neg hne] at hq
      refine ⟨_, rfl, ?_⟩
      rw [fb_subI (by rw [hq]; omega) (by rw [hq]; omega), hq]
      omega
end
section
/-! the base at a time; raw heights -/
theorem le_lit {x : Int32} {a : Int32} {z : Int} (h : a ≤ x) (ha : a.toInt = z) : z ≤ x.toInt := by rw [← ha]; exact Int32.le_iff_toInt_le.mp h
theorem lit_le {x : Int32} {a : Int32} {z : Int} (h : x ≤ a) (ha : a.toInt = z) : x.toInt ≤ z := by rw [← ha]; exact Int32.le_iff_toInt_le.mp h
theorem OkV.r {V : wV} (h : OkV V) {w r : Nat} (hw : w < 4) (hr : r < V.2.1 w) : (0 ≤ (V.2.2 w 0 r).toInt ∧ (V.2.2 w 0 r).toInt ≤ 10000) ∧ (50000 ≤ (V.2.2 w 1 r).toInt ∧ (V.2.2 w 1 r).toInt ≤ 110000) ∧ (-300 ≤ (V.2.2 w 2 r).toInt ∧ (V.2.2 w 2 r).toInt ≤ 500) := by
  obtain ⟨h1, h2, h3, h4, h5, h6, -, -⟩ := (h.2 w hw).2.1 r hr
  exact ⟨⟨le_lit h1 (by decide), lit_le h2 (by decide)⟩, ⟨le_lit h3 (by decide), lit_le h4 (by decide)⟩, le_lit h5 (by decide), lit_le h6 (by decide)⟩
theorem OkV.s {V : wV} (h : OkV V) : (-500000 ≤ (V.1 0).toInt ∧ (V.1 0).toInt ≤ 9000000) ∧ (1 ≤ (V.1 1).toInt ∧ (V.1 1).toInt ≤ 5000) ∧ (1 ≤ (V.1 2).toInt ∧ (V.1 2).toInt ≤ 500) := by
  obtain ⟨h1, h2, h3, h4, h5, h6⟩ := h.1
  exact ⟨⟨le_lit h1 (by decide), lit_le h2 (by decide)⟩, ⟨le_lit h3 (by decide), lit_le h4 (by decide)⟩, le_lit h5 (by decide), lit_le h6 (by decide)⟩
theorem OkV.t {V : wV} (h : OkV V) {w r r' : Nat} (hw : w < 4) (h1 : r < r') (h2 : r' < V.2.1 w) : (V.2.2 w 0 r).toInt < (V.2.2 w 0 r').toInt := Int32.lt_iff_toInt_lt.mp ((h.2 w hw).2.2 r r' h1 h2)
def interpZ (a b t t1 t2 : Int) : Int := a + (b - a) * (t - t1) / (t2 - t1)
theorem part_b {D x y : Int} (h1 : 0 ≤ x) (h2 : x ≤ y) (h3 : 0 < y) : (0 ≤ D → 0 ≤ D * x / y ∧ D * x / y ≤ D) ∧ (D ≤ 0 → D ≤ D * x / y ∧ D * x / y ≤ 0) := by
  refine ⟨fun hD => ⟨?_, ?_⟩, fun hD => ⟨?_, ?_⟩⟩
  · rw [Int.le_ediv_iff_mul_le h3]
    have := Int.mul_nonneg hD h1
    omega
  · rw [Int.ediv_le_iff_le_mul h3]
    have := Int.mul_le_mul_of_nonneg_left h2 hD
    omega
  · rw [Int.le_ediv_iff_mul_le h3]
    exact Int.mul_le_mul_of_nonpos_left hD h2
  · rw [Int.ediv_le_iff_le_mul h3]
    have := Int.mul_nonneg (show 0 ≤ -D by omega) h1
    rw [Int.neg_mul] at this
    omega
theorem interp_b {a b t t1 t2 lo hi : Int} (h1 : t1 ≤ t) (h2 : t ≤ t2) (h3 : t1 < t2) (ha : lo ≤ a ∧ a ≤ hi) (hb : lo ≤ b ∧ b ≤ hi) : lo ≤ interpZ a b t t1 t2 ∧ interpZ a b t t1 t2 ≤ hi := by
  have p := part_b (D := b - a) (x := t - t1) (y := t2 - t1) (by omega) (by omega) (by omega)
  unfold interpZ
  rcases Int.le_total 0 (b - a) with h | h
  · have := p.1 h; omega
  · have := p.2 h; omega
theorem toI64 (x : Int32) : x.toInt64.toInt = x.toInt := Int32.toInt_toInt64 x
theorem l2i_b {x : Int64} (h1 : -2147483648 ≤ x.toInt) (h2 : x.toInt < 2147483648) : x.toInt32.toInt = x.toInt := by rw [Int64.toInt_toInt32, fb_bmod h1 h2]
theorem interp_q {a b t t1 t2 : Int32} (ha : -300 ≤ a.toInt ∧ a.toInt ≤ 110000) (hb : -300 ≤ b.toInt ∧ b.toInt ≤ 110000) (h0 : 0 ≤ t1.toInt) (h1 : t1.toInt ≤ t.toInt) (h2 : t.toInt ≤ t2.toInt) (h3 : t1.toInt < t2.toInt) (h4 : t2.toInt ≤ 10000) :
    0 < ((t2 - t1).toInt64).toInt ∧ (a.toInt64 + dn (((b - a).toInt64) * ((t - t1).toInt64)) ((t2 - t1).toInt64)).toInt32 = Int32.ofInt (interpZ a.toInt b.toInt t.toInt t1.toInt t2.toInt) ∧ a + (dn (((b - a).toInt64) * ((t - t1).toInt64)) ((t2 - t1).toInt64)).toInt32 = Int32.ofInt (interpZ a.toInt b.toInt t.toInt t1.toInt t2.toInt) := by
  have e1 : (b - a).toInt = b.toInt - a.toInt := fb_subI (by omega) (by omega)
  have e2 : (t - t1).toInt = t.toInt - t1.toInt := fb_subI (by omega) (by omega)
  have e3 : (t2 - t1).toInt = t2.toInt - t1.toInt := fb_subI (by omega) (by omega)
  have p := part_b (D := b.toInt - a.toInt) (x := t.toInt - t1.toInt) (y := t2.toInt - t1.toInt) (by omega) (by omega) (by omega)
  have pb : -110300 * 10000 ≤ (b.toInt - a.toInt) * (t.toInt - t1.toInt) ∧ (b.toInt - a.toInt) * (t.toInt - t1.toInt) ≤ 110300 * 10000 := by
    have x0 : 0 ≤ t.toInt - t1.toInt := by omega
    have x1 : t.toInt - t1.toInt ≤ 10000 := by omega
    have m1 := Int.mul_le_mul_of_nonneg_right (show b.toInt - a.toInt ≤ 110300 by omega) x0
    have m2 := Int.mul_le_mul_of_nonneg_right (show -110300 ≤ b.toInt - a.toInt by omega) x0
    omega
  have em : (((b - a).toInt64) * ((t - t1).toInt64)).toInt = (b.toInt - a.toInt) * (t.toInt - t1.toInt) := by
    rw [fb_mulL (by rw [toI64, toI64, e1, e2]; omega) (by rw [toI64, toI64, e1, e2]; omega), toI64, toI64, e1, e2]
  have hy : 0 < ((t2 - t1).toInt64).toInt := by rw [toI64, e3]; omega
  have eq : (dn (((b - a).toInt64) * ((t - t1).toInt64)) ((t2 - t1).toInt64)).toInt = (b.toInt - a.toInt) * (t.toInt - t1.toInt) / (t2.toInt - t1.toInt) := by
    rw [dn_toInt hy, em, toI64, e3]
  generalize dn (((b - a).toInt64) * ((t - t1).toInt64)) ((t2 - t1).toInt64) = q at eq ⊢
  have qb : -110300 ≤ q.toInt ∧ q.toInt ≤ 110300 := by
    rw [eq]
    rcases Int.le_total 0 (b.toInt - a.toInt) with h | h
    · have := p.1 h; omega
    · have := p.2 h; omega
  have ez : interpZ a.toInt b.toInt t.toInt t1.toInt t2.toInt = a.toInt + q.toInt := by unfold interpZ; rw [eq]
  refine ⟨hy, Int32.toInt_inj.mp ?_, Int32.toInt_inj.mp ?_⟩
  · rw [ez, fb_ofI (by omega) (by omega)]
    have s1 : (a.toInt64 + q).toInt = a.toInt + q.toInt := by rw [fb_addL (by rw [toI64]; omega) (by rw [toI64]; omega), toI64]
    rw [l2i_b (by rw [s1]; omega) (by rw [s1]; omega), s1]
  · rw [ez, fb_ofI (by omega) (by omega)]
    have s2 := l2i_b (x := q) (by omega) (by omega)
    rw [fb_addI (by rw [s2]; omega) (by rw [s2]; omega), s2]
/-- the first base reading that isn't earlier than t -/
def bk (V : wV) (t : Int32) : Nat := fstF (fun r => decide (t ≤ V.2.2 0 0 r)) 0 (V.2.1 0)
theorem fstF_spec {p : Nat → Bool} : ∀ {c k : Nat}, k ≤ fstF p k c ∧ fstF p k c ≤ k + c ∧ (∀ j, k ≤ j → j < fstF p k c → p j = false) ∧ (fstF p k c < k + c → p (fstF p k c) = true)
  | 0, k => by simp only [fstF]; exact ⟨Nat.le_refl _, Nat.le_refl _, fun j h1 h2 => absurd h1 (by omega), fun h => absurd h (by omega)⟩
  | c + 1, k => by
    simp only [fstF]
    split
    · next h => exact ⟨Nat.le_refl _, by omega, fun j h1 h2 => absurd h1 (by omega), fun _ => h⟩
    · next h =>
      obtain ⟨a1, a2, a3, a4⟩ := fstF_spec (p := p) (c := c) (k := k + 1)
      refine ⟨by omega, by omega, fun j h1 h2 => ?_, fun h2 => a4 (by omega)⟩
      rcases Nat.eq_or_lt_of_le h1 with rfl | hlt
      · simpa using h
      · exact a3 j hlt h2
def hasB (V : wV) (t : Int32) : Bool := decide (bk V t < V.2.1 0) && (decide (V.2.2 0 0 (bk V t) = t) || decide (0 < bk V t))
def bv (V : wV) (f : Nat) (t : Int32) : Int := if V.2.2 0 0 (bk V t) = t then (V.2.2 0 f (bk V t)).toInt else interpZ (V.2.2 0 f (bk V t - 1)).toInt (V.2.2 0 f (bk V t)).toInt t.toInt (V.2.2 0 0 (bk V t - 1)).toInt (V.2.2 0 0 (bk V t)).toInt
theorem hasB_iff {V : wV} {t : Int32} : hasB V t = true ↔ bk V t < V.2.1 0 ∧ (V.2.2 0 0 (bk V t) = t ∨ 0 < bk V t) := by simp [hasB]
/-- what lies around a time at which the base has something, not exactly at a reading -/
theorem bk_around {V : wV} {t : Int32} (hV : OkV V) (h1 : bk V t < V.2.1 0) (h2 : ¬ V.2.2 0 0 (bk V t) = t) (h3 : 0 < bk V t) : (V.2.2 0 0 (bk V t - 1)).toInt < t.toInt ∧ t.toInt < (V.2.2 0 0 (bk V t)).toInt ∧ 0 ≤ (V.2.2 0 0 (bk V t - 1)).toInt ∧ (V.2.2 0 0 (bk V t)).toInt ≤ 10000 := by
  obtain ⟨a1, a2, a3, a4⟩ := fstF_spec (p := fun r => decide (t ≤ V.2.2 0 0 r)) (c := V.2.1 0) (k := 0)
  rw [show fstF (fun r => decide (t ≤ V.2.2 0 0 r)) 0 (V.2.1 0) = bk V t from rfl] at a1 a2 a3 a4
  have b1 : t ≤ V.2.2 0 0 (bk V t) := of_decide_eq_true (a4 (by omega))
  have b2 : ¬ t ≤ V.2.2 0 0 (bk V t - 1) := of_decide_eq_false (a3 (bk V t - 1) (by omega) (by omega))
  have c1 := Int32.le_iff_toInt_le.mp b1
  have c2 : ¬ t.toInt ≤ (V.2.2 0 0 (bk V t - 1)).toInt := fun q => b2 (Int32.le_iff_toInt_le.mpr q)
  have c3 : t.toInt ≠ (V.2.2 0 0 (bk V t)).toInt := fun q => h2 (Int32.toInt_inj.mp q.symm)
  have d1 := hV.r (w := 0) (by omega) h1
  have d2 := hV.r (w := 0) (r := bk V t - 1) (by omega) (by omega)
  omega
theorem bv_b {V : wV} {t : Int32} (hV : OkV V) (h : hasB V t = true) : (50000 ≤ bv V 1 t ∧ bv V 1 t ≤ 110000) ∧ (-300 ≤ bv V 2 t ∧ bv V 2 t ≤ 500) := by
  obtain ⟨h1, h2⟩ := hasB_iff.mp h
  have d1 := hV.r (w := 0) (by omega) h1
  unfold bv
  by_cases e : V.2.2 0 0 (bk V t) = t
  · rw [if_pos e, if_pos e]; omega
  · rw [if_neg e, if_neg e]
    have h3 : 0 < bk V t := h2.resolve_left e
    have ha := bk_around hV h1 e h3
    have d2 := hV.r (w := 0) (r := bk V t - 1) (by omega) (by omega)
    exact ⟨interp_b (by omega) (by omega) (by omega) (by omega) (by omega), interp_b (by omega) (by omega) (by omega) (by omega) (by omega)⟩
section BASE
variable {V : wV} {s : Nat} {M : wM} {t : Int32}
theorem baseValue_J {f : Nat} (hs : kd s = 2) (hV : OkV V) (hR : RC V s M) (hf : f < 3) : fX2_baseValue_J32 s t (nI f) M (nI (bk V t)) = some (if hasB V t then Int32.ofInt (bv V f t) else -2000000004) := by
  have hT := hR.2 0 (by omega)
  have hk := kd_tk hs (w := 0) (by omega)
  have hn := hV.n (w := 0) (by omega)
  have hle := (fstF_spec (p := fun r => decide (t ≤ V.2.2 0 0 r)) (c := V.2.1 0) (k := 0)).2.1
  rw [show fstF (fun r => decide (t ≤ V.2.2 0 0 r)) 0 (V.2.1 0) = bk V t from rfl] at hle
  unfold fX2_baseValue_J32
  rw [show s + 1 = tk s 0 from rfl, hT.1]
  by_cases h1 : bk V t < V.2.1 0
  · rw [if_pos ((nI_ltI (by omega) (by omega)).mpr h1), tv0 hk hT hn h1, bs, tv hk hT hn h1 (by omega), bs]
    by_cases e : V.2.2 0 0 (bk V t) = t
    · rw [if_pos e, if_pos (hasB_iff.mpr ⟨h1, Or.inl e⟩)]
      unfold bv
      rw [if_pos e, fb_asI]
    · rw [if_neg e]
      by_cases h3 : bk V t = 0
      · rw [if_pos (show nI (bk V t) = (0 : Int32) by rw [h3]; rfl), if_neg (fun q => by
          have := (hasB_iff.mp q).2.resolve_left e
          omega)]
      · have hb : hasB V t = true := hasB_iff.mpr ⟨h1, Or.inr (by omega)⟩
        have ha := bk_around hV h1 e (by omega)
        have d1 := hV.r (w := 0) (by omega) h1
        have d2 := hV.r (w := 0) (r := bk V t - 1) (by omega) (by omega)
        rw [if_neg (nI_ne0 (by omega) (by omega)), nIm1 (by omega), tv0 hk hT hn (by omega), bs, tv hk hT hn (by omega) (by omega), bs, if_pos hb]
        have fb : ∀ r, r < V.2.1 0 → -300 ≤ (V.2.2 0 f r).toInt ∧ (V.2.2 0 f r).toInt ≤ 110000 := fun r hr => by
          have d := hV.r (w := 0) (by omega) hr
          rcases (show f = 0 ∨ f = 1 ∨ f = 2 by omega) with rfl | rfl | rfl <;> omega
        obtain ⟨q1, q2, -⟩ := interp_q (a := V.2.2 0 f (bk V t - 1)) (b := V.2.2 0 f (bk V t)) (t := t) (t1 := V.2.2 0 0 (bk V t - 1)) (t2 := V.2.2 0 0 (bk V t)) (fb _ (by omega)) (fb _ h1) (by omega) (by omega) (by omega) (by omega) (by omega)
        rw [dd_c q1, bs, q2]
        unfold bv
        rw [if_neg e]
  · rw [if_neg (fun q => h1 ((nI_ltI (by omega) (by omega)).mp q)), if_neg (fun q => h1 (hasB_iff.mp q).1)]
theorem baseValue_L {f : Nat} (hs : kd s = 2) (hV : OkV V) (hR : RC V s M) : ∀ (c k fu : Nat), k + c = V.2.1 0 → c < fu → fX2_baseValue_L2 s t (nI f) M fu (nI k) = fX2_baseValue_J32 s t (nI f) M (nI (fstF (fun r => decide (t ≤ V.2.2 0 0 r)) k c))
  | 0, k, fu, hkc, hfu => by
    have hn := hV.n (w := 0) (by omega)
    obtain ⟨fu, rfl⟩ : ∃ z, fu = z + 1 := ⟨fu - 1, by omega⟩
    show fX2_baseValue_B2 s t (nI f) M _ (nI k) = _
    unfold fX2_baseValue_B2
    rw [show s + 1 = tk s 0 from rfl, (hR.2 0 (by omega)).1, if_pos ((nI_leI (by omega) (by omega)).mpr (by omega))]
    rfl
  | c + 1, k, fu, hkc, hfu => by
    have hn := hV.n (w := 0) (by omega)
    obtain ⟨fu, rfl⟩ : ∃ z, fu = z + 1 := ⟨fu - 1, by omega⟩
    show fX2_baseValue_B2 s t (nI f) M _ (nI k) = _
    unfold fX2_baseValue_B2
    rw [show s + 1 = tk s 0 from rfl, (hR.2 0 (by omega)).1, if_neg (by rw [nI_leI (by omega) (by omega)]; omega), tv0 (kd_tk hs (by omega)) (hR.2 0 (by omega)) hn (by omega), bs, nIp1]
    unfold fstF
    by_cases h : t ≤ V.2.2 0 0 k
    · rw [if_pos h, if_pos (decide_eq_true h)]
    · rw [if_neg h, if_neg (by rw [decide_eq_false h]; decide), baseValue_L hs hV hR c (k + 1) fu (by omega) (by omega)]
theorem baseValue_s {f : Nat} (hs : kd s = 2) (hV : OkV V) (hR : RC V s M) (hf : f < 3) : fX2_baseValue s t (nI f) M = some (if hasB V t then Int32.ofInt (bv V f t) else -2000000004) := by
  have h := baseValue_L (t := t) (f := f) hs hV hR (V.2.1 0) 0 FU (by omega) (by have := hV.n (w := 0) (by omega); unfold FU; omega)
  exact h.trans (baseValue_J hs hV hR hf)
end BASE
end
section
/-! raw heights -/
def rawZ (h bp bt p c : Int) : Int := h + 2930 * (2732 + (bt + c) / 2) * (bp - p) / ((bp + p) / 2)
def hgt (V : wV) (t p c : Int32) : Option Int := if hasB V t then some (rawZ (V.1 0).toInt (bv V 1 t) (bv V 2 t) p.toInt c.toInt) else none
def hI (o : Option Int) : Int32 := match o with
  | some z => Int32.ofInt z
  | none => -2000000004
theorem raw_num {bp bt p c : Int} (h1 : 50000 ≤ bp ∧ bp ≤ 110000) (h2 : -300 ≤ bt ∧ bt ≤ 500) (h3 : 50000 ≤ p ∧ p ≤ 110000) (h4 : -300 ≤ c ∧ c ≤ 500) : (-600000000000 ≤ 2930 * (2732 + (bt + c) / 2) * (bp - p) ∧ 2930 * (2732 + (bt + c) / 2) * (bp - p) ≤ 600000000000) ∧ (-12000000 ≤ 2930 * (2732 + (bt + c) / 2) * (bp - p) / ((bp + p) / 2) ∧ 2930 * (2732 + (bt + c) / 2) * (bp - p) / ((bp + p) / 2) ≤ 12000000) := by
  have w1 : 0 ≤ 2930 * (2732 + (bt + c) / 2) := by omega
  have w2 : 2930 * (2732 + (bt + c) / 2) ≤ 9469760 := by omega
  have m1 := Int.mul_le_mul_of_nonneg_left (show bp - p ≤ 60000 by omega) w1
  have m2 := Int.mul_le_mul_of_nonneg_left (show -60000 ≤ bp - p by omega) w1
  have n : -600000000000 ≤ 2930 * (2732 + (bt + c) / 2) * (bp - p) ∧ 2930 * (2732 + (bt + c) / 2) * (bp - p) ≤ 600000000000 := by omega
  refine ⟨n, ?_, ?_⟩
  · rw [Int.le_ediv_iff_mul_le (by omega)]; omega
  · rw [Int.ediv_le_iff_le_mul (by omega)]; omega
theorem rawZ_b {h bp bt p c : Int} (h0 : -500000 ≤ h ∧ h ≤ 9000000) (h1 : 50000 ≤ bp ∧ bp ≤ 110000) (h2 : -300 ≤ bt ∧ bt ≤ 500) (h3 : 50000 ≤ p ∧ p ≤ 110000) (h4 : -300 ≤ c ∧ c ≤ 500) : -12500000 ≤ rawZ h bp bt p c ∧ rawZ h bp bt p c ≤ 21000000 := by
  have n := (raw_num h1 h2 h3 h4).2
  unfold rawZ
  omega
theorem hgt_b {V : wV} {t p c : Int32} {z : Int} (hV : OkV V) (h3 : 50000 ≤ p.toInt ∧ p.toInt ≤ 110000) (h4 : -300 ≤ c.toInt ∧ c.toInt ≤ 500) (h : hgt V t p c = some z) : -12500000 ≤ z ∧ z ≤ 21000000 := by
  unfold hgt at h
  split at h
  · next q =>
    cases h
    exact rawZ_b hV.s.1 (bv_b hV q).1 (bv_b hV q).2 h3 h4
  · cases h
/-- both ways to the same number: w the warmth, d the middle pressure, as longs -/
theorem raw_fin {h bp bt p c : Int32} {W D : Int64} (h0 : -500000 ≤ h.toInt ∧ h.toInt ≤ 9000000) (h1 : 50000 ≤ bp.toInt ∧ bp.toInt ≤ 110000) (h2 : -300 ≤ bt.toInt ∧ bt.toInt ≤ 500) (h3 : 50000 ≤ p.toInt ∧ p.toInt ≤ 110000) (h4 : -300 ≤ c.toInt ∧ c.toInt ≤ 500) (hW : W.toInt = 2732 + (bt.toInt + c.toInt) / 2) (hD : D.toInt = (bp.toInt + p.toInt) / 2) :
    0 < D.toInt ∧ (h.toInt64 + dn (((2930 : Int64) * W) * ((bp - p).toInt64)) D).toInt32 = Int32.ofInt (rawZ h.toInt bp.toInt bt.toInt p.toInt c.toInt) ∧ h + (dn (((2930 : Int64) * W) * ((bp - p).toInt64)) D).toInt32 = Int32.ofInt (rawZ h.toInt bp.toInt bt.toInt p.toInt c.toInt) := by
  have n := raw_num h1 h2 h3 h4
  have k : (2930 : Int64).toInt = 2930 := by decide
  have e1 : (bp - p).toInt = bp.toInt - p.toInt := fb_subI (by omega) (by omega)
  have e2 : ((2930 : Int64) * W).toInt = 2930 * (2732 + (bt.toInt + c.toInt) / 2) := by
    rw [fb_mulL (by rw [k, hW]; omega) (by rw [k, hW]; omega), k, hW]
  have e3 : (((2930 : Int64) * W) * ((bp - p).toInt64)).toInt = 2930 * (2732 + (bt.toInt + c.toInt) / 2) * (bp.toInt - p.toInt) := by
    rw [fb_mulL (by rw [e2, toI64, e1]; omega) (by rw [e2, toI64, e1]; omega), e2, toI64, e1]
  have hy : 0 < D.toInt := by omega
  have e4 : (dn (((2930 : Int64) * W) * ((bp - p).toInt64)) D).toInt = 2930 * (2732 + (bt.toInt + c.toInt) / 2) * (bp.toInt - p.toInt) / ((bp.toInt + p.toInt) / 2) := by
    rw [dn_toInt hy, e3, hD]
  generalize dn (((2930 : Int64) * W) * ((bp - p).toInt64)) D = q at e4 ⊢
  have ez : rawZ h.toInt bp.toInt bt.toInt p.toInt c.toInt = h.toInt + q.toInt := by unfold rawZ; rw [e4]
  rw [← e4] at n
  refine ⟨hy, Int32.toInt_inj.mp ?_, Int32.toInt_inj.mp ?_⟩
  · rw [ez, fb_ofI (by omega) (by omega)]
    have s1 : (h.toInt64 + q).toInt = h.toInt + q.toInt := by rw [fb_addL (by rw [toI64]; omega) (by rw [toI64]; omega), toI64]
    rw [l2i_b (by rw [s1]; omega) (by rw [s1]; omega), s1]
  · rw [ez, fb_ofI (by omega) (by omega)]
    have s2 := l2i_b (x := q) (by omega) (by omega)
    rw [fb_addI (by rw [s2]; omega) (by rw [s2]; omega), s2]
theorem heightAt_s {V : wV} {s : Nat} {M : wM} {t p c : Int32} (hs : kd s = 2) (hV : OkV V) (hR : RC V s M) (h3 : 50000 ≤ p.toInt ∧ p.toInt ≤ 110000) (h4 : -300 ≤ c.toInt ∧ c.toInt ≤ 500) : fX2_heightAt s t p c M = some (hI (hgt V t p c)) := by
  unfold fX2_heightAt
  rw [show (1 : Int32) = nI 1 from rfl, baseValue_s hs hV hR (by omega), bs]
  unfold hgt
  by_cases hb : hasB V t
  · rw [if_pos hb, if_pos hb]
    obtain ⟨b1, b2⟩ := bv_b hV hb
    have t1 : (Int32.ofInt (bv V 1 t)).toInt = bv V 1 t := fb_ofI (by omega) (by omega)
    have t2 : (Int32.ofInt (bv V 2 t)).toInt = bv V 2 t := fb_ofI (by omega) (by omega)
    have hne : ¬ Int32.ofInt (bv V 1 t) = -2000000004 := fun q => by
      have q2 := congrArg Int32.toInt q
      rw [t1, show (-2000000004 : Int32).toInt = -2000000004 from by decide] at q2
      omega
    rw [if_neg hne, show (2 : Int32) = nI 2 from rfl, baseValue_s hs hV hR (by omega), bs, if_pos hb, show nI 2 = (2 : Int32) from rfl]
    obtain ⟨v4, f4, g4⟩ := fl2 (x := Int32.ofInt (bv V 2 t) + c) (M := M)
    obtain ⟨v5, f5, g5⟩ := fl2 (x := Int32.ofInt (bv V 1 t) + p) (M := M)
    rw [f4, bs, f5, bs]
    have a4 : (Int32.ofInt (bv V 2 t) + c).toInt = bv V 2 t + c.toInt := by rw [fb_addI (by rw [t2]; omega) (by rw [t2]; omega), t2]
    have a5 : (Int32.ofInt (bv V 1 t) + p).toInt = bv V 1 t + p.toInt := by rw [fb_addI (by rw [t1]; omega) (by rw [t1]; omega), t1]
    rw [a4] at g4
    rw [a5] at g5
    have k : (2732 : Int32).toInt = 2732 := by decide
    have hW : (((2732 : Int32) + v4).toInt64).toInt = 2732 + ((Int32.ofInt (bv V 2 t)).toInt + c.toInt) / 2 := by
      rw [toI64, fb_addI (by rw [k, g4]; omega) (by rw [k, g4]; omega), k, g4, t2]
    have hD : (v5.toInt64).toInt = ((Int32.ofInt (bv V 1 t)).toInt + p.toInt) / 2 := by rw [toI64, g5, t1]
    have h0 := hR.1 0 (by omega)
    rw [show 4 + 0 = 4 from rfl] at h0
    obtain ⟨q1, q2, -⟩ := raw_fin (h := V.1 0) (bp := Int32.ofInt (bv V 1 t)) (bt := Int32.ofInt (bv V 2 t)) (p := p) (c := c) hV.s.1 (by omega) (by omega) h3 h4 hW hD
    rw [dd_c q1, bs, h0, q2, t1, t2]
    rfl
  · rw [if_neg hb, if_neg hb, if_pos rfl]
    rfl
/-! the reference -/
end
section
/-! what follows for one cell (w: 1 to 3) from the view -/
def hh (V : wV) (w r : Nat) : Option Int := hgt V (V.2.2 w 0 r) (V.2.2 w 1 r) (V.2.2 w 2 r)
def gu (V : wV) (w r : Nat) : Bool := gustF (V.2.1 w) (V.2.2 w) (V.1 1) r
def go (V : wV) (w r : Nat) : Bool := (hh V w r).isSome && !gu V w r
def lastV (V : wV) (w r : Nat) : Option Nat := dnF (fun b => go V w b && decide (V.2.2 w 3 b = V.2.2 w 3 r)) r
def lpAt (V : wV) (w r : Nat) : List (Nat × Nat) := if go V w r then (match lastV V w r with
  | some b => [(b, r)]
  | none => []) else []
def lps (V : wV) (w : Nat) : Nat → List (Nat × Nat)
  | 0 => []
  | r + 1 => lps V w r ++ lpAt V w r
def cntF (p : Nat → Bool) : Nat → Nat
  | 0 => 0
  | k + 1 => cntF p k + (if p k then 1 else 0)
theorem cntF_le {p : Nat → Bool} : ∀ k, cntF p k ≤ k
  | 0 => Nat.le_refl _
  | k + 1 => by
    have := cntF_le (p := p) k
    unfold cntF
    split <;> omega
theorem lpAt_mem {V : wV} {w r : Nat} {L : Nat × Nat} (h : L ∈ lpAt V w r) : L.2 = r ∧ L.1 < r ∧ go V w L.1 = true ∧ go V w r = true := by
  unfold lpAt at h
  split at h
  · next hg =>
    cases e : lastV V w r with
    | none => rw [e] at h; cases h
    | some b =>
      rw [e] at h
      simp at h
      subst h
      have q := dnF_lt e
      simp at q
      exact ⟨rfl, q.1, q.2.1, hg⟩
  · cases h
theorem lpAt_len {V : wV} {w r : Nat} : (lpAt V w r).length ≤ 1 := by
  unfold lpAt
  split
  · split <;> simp
  · simp
theorem lps_len {V : wV} {w : Nat} : ∀ r, (lps V w r).length ≤ r
  | 0 => Nat.le_refl _
  | r + 1 => by
    have h1 := lps_len (V := V) (w := w) r
    have h2 := lpAt_len (V := V) (w := w) (r := r)
    unfold lps
    rw [List.length_append]
    omega
theorem lps_mem {V : wV} {w : Nat} {L : Nat × Nat} : ∀ {r}, L ∈ lps V w r → L.1 < L.2 ∧ L.2 < r ∧ go V w L.1 = true ∧ go V w L.2 = true
  | 0, h => by cases h
  | r + 1, h => by
    unfold lps at h
    rcases List.mem_append.mp h with h | h
    · obtain ⟨a, b, c, d⟩ := lps_mem h
      exact ⟨a, by omega, c, d⟩
    · obtain ⟨a, b, c, d⟩ := lpAt_mem h
      rw [a]
      exact ⟨b, by omega, c, d⟩
def lpL (V : wV) (w : Nat) : List (Nat × Nat) := lps V w (V.2.1 w)
/-- the k-th loop; begin and end -/
def lb (V : wV) (w k : Nat) : Nat := ((lpL V w).getD k (0, 0)).1
def le2 (V : wV) (w k : Nat) : Nat := ((lpL V w).getD k (0, 0)).2
def mn (V : wV) (w k : Nat) : Int32 := V.2.2 w 0 (le2 V w k) - V.2.2 w 0 (lb V w k)
theorem lpL_k {V : wV} {w k : Nat} (h : k < (lpL V w).length) : (lpL V w)[k]? = some (lb V w k, le2 V w k) := by
  unfold lb le2
  rw [List.getD_eq_getElem?_getD, List.getElem?_eq_getElem h]
  rfl
theorem lpL_in {V : wV} {w k : Nat} (h : k < (lpL V w).length) : lb V w k < le2 V w k ∧ le2 V w k < V.2.1 w ∧ go V w (lb V w k) = true ∧ go V w (le2 V w k) = true := lps_mem (L := (lb V w k, le2 V w k)) (List.mem_of_getElem? (lpL_k h))
theorem lpL_len {V : wV} {w : Nat} : (lpL V w).length ≤ V.2.1 w := lps_len _
/-- the open loop at r: the shortest, of several the first -/
def opS (V : wV) (w r : Nat) (best : Option Nat) (k : Nat) : Option Nat := if (decide (lb V w k ≤ r) && decide (r ≤ le2 V w k) && (match best with
  | none => true
  | some j => decide (mn V w k < mn V w j))) = true then some k else best
def opn (V : wV) (w r : Nat) : Option Nat := foldF (opS V w r) 0 (lpL V w).length none
def oI (o : Option Nat) : Int32 := match o with
  | none => -1
  | some k => nI k
def mis (V : wV) (w k : Nat) : Int32 := hI (hh V w (le2 V w k)) - hI (hh V w (lb V w k))
def cor (V : wV) (w r : Nat) : Int32 := match opn V w r with
  | none => hI (hh V w r)
  | some k => hI (hh V w r) - (dn ((mis V w k).toInt64 * (V.2.2 w 0 r - V.2.2 w 0 (lb V w k)).toInt64) (mn V w k).toInt64).toInt32
theorem hh_b {V : wV} {w r : Nat} {z : Int} (hV : OkV V) (hw : w < 4) (hr : r < V.2.1 w) (h : hh V w r = some z) : -12500000 ≤ z ∧ z ≤ 21000000 := by
  have d := hV.r hw hr
  exact hgt_b hV d.2.1 d.2.2 h
theorem hI_nf {V : wV} {w r : Nat} (hV : OkV V) (hw : w < 4) (hr : r < V.2.1 w) : (hI (hh V w r) = -2000000004) ↔ (hh V w r).isSome = false := by
  cases e : hh V w r with
  | none => simp [hI]
  | some z =>
    have hb := hh_b hV hw hr e
    simp only [Option.isSome_some, hI]
    constructor
    · intro q
      have q2 := congrArg Int32.toInt q
      rw [fb_ofI (by omega) (by omega), show (-2000000004 : Int32).toInt = -2000000004 from by decide] at q2
      omega
    · intro q; cases q
theorem mn_pos {V : wV} {w k : Nat} (hV : OkV V) (hw : w < 4) (hk : k < (lpL V w).length) : 0 < (mn V w k).toInt := by
  obtain ⟨h1, h2, -, -⟩ := lpL_in hk
  have t := hV.t hw h1 h2
  have a := (hV.r hw (show lb V w k < V.2.1 w by omega)).1
  have b := (hV.r hw h2).1
  unfold mn
  rw [fb_subI (by omega) (by omega)]
  omega
theorem ite_or {α : Type} {c : Prop} [Decidable c] {a b : α} : (ite c a b = a) ∨ (ite c a b = b) := by
  by_cases h : c
  · exact Or.inl (if_pos h)
  · exact Or.inr (if_neg h)
theorem opS_or {V : wV} {w r k : Nat} {best : Option Nat} : opS V w r best k = some k ∨ opS V w r best k = best := by
  unfold opS
  exact ite_or
theorem opS_lt {V : wV} {w r m : Nat} : ∀ {c k : Nat} {best : Option Nat}, k + c ≤ m → (∀ j, best = some j → j < m) → ∀ j, foldF (opS V w r) k c best = some j → j < m
  | 0, k, best, _, hb, j, h => hb j h
  | c + 1, k, best, hkc, hb, j, h => by
    refine opS_lt (c := c) (k := k + 1) (best := opS V w r best k) (by omega) (fun i hi => ?_) j h
    rcases opS_or (V := V) (w := w) (r := r) (best := best) (k := k) with e | e
    · rw [e] at hi; cases hi; omega
    · rw [e] at hi; exact hb i hi
theorem opn_lt {V : wV} {w r j : Nat} (h : opn V w r = some j) : j < (lpL V w).length := opS_lt (m := (lpL V w).length) (by omega) (fun j h => by cases h) j h
/-! a survey of the class: its cell v, its rows v + 1 to v + 8 -/
def inV (v i : Nat) : Prop := v ≤ i ∧ i < v + 9
def rows1 (V : wV) (w v k : Nat) (M : wM) : Prop := ∀ r, r < k → M.1 (v + 1) r = V.2.2 w 0 r ∧ M.1 (v + 2) r = V.2.2 w 3 r ∧ M.1 (v + 3) r = hI (hh V w r) ∧ M.1 (v + 4) r = b2 (gu V w r)
def SV1 (V : wV) (w v : Nat) (M : wM) : Prop := M.1 v 8 = nI (V.2.1 w) ∧ rows1 V w v (V.2.1 w) M
theorem SV1.keep {V : wV} {w v : Nat} {M M2 : wM} (h : SV1 V w v M) (h8 : M2.1 v 8 = M.1 v 8) (hf : ∀ i, v + 1 ≤ i → i < v + 5 → M2.1 i = M.1 i) : SV1 V w v M2 := by
  refine ⟨by rw [h8]; exact h.1, fun r hr => ?_⟩
  rw [hf (v + 1) (by omega) (by omega), hf (v + 2) (by omega) (by omega), hf (v + 3) (by omega) (by omega), hf (v + 4) (by omega) (by omega)]
  exact h.2 r hr
section SV
variable {V : wV} {w v : Nat} {M : wM}
theorem isGust_v {r : Nat} (hk : kd v = 3) (h : rows1 V w v (V.2.1 w) M) (hn : V.2.1 w ≤ 20) (hr : r < V.2.1 w) : fX3_isGust v (nI r) M = some (gu V w r) := by
  unfold fX3_isGust
  rw [at_in (by rw [lkf3_3 hk]; omega), bs, (h r hr).2.2.2]
  cases gu V w r <;> rfl
theorem isGood_v {r : Nat} (hk : kd v = 3) (hV : OkV V) (hw : w < 4) (h : rows1 V w v (V.2.1 w) M) (hr : r < V.2.1 w) : fX3_isGood v (nI r) M = some (go V w r) := by
  have hn := hV.n hw
  unfold fX3_isGood go
  rw [at_in (by rw [lkf3_2 hk]; omega), bs, (h r hr).2.2.1]
  by_cases e : (hh V w r).isSome = false
  · rw [if_pos ((hI_nf hV hw hr).mpr e), e, Bool.false_and]
  · rw [if_neg (fun q => e ((hI_nf hV hw hr).mp q)), at_in (by rw [lkf3_3 hk]; omega), bs, (h r hr).2.2.2, Bool.not_eq_false _ |>.mp e, Bool.true_and]
    cases gu V w r <;> rfl
theorem count_L (hk : kd v = 3) (hV : OkV V) (hw : w < 4) : ∀ (c k fu : Nat) (N : wM), k + c = V.2.1 w → c < fu → SV1 V w v N → N.1 v 9 = nI (cntF (gu V w) k) → N.1 v 10 = nI (cntF (go V w) k) → ∃ M', fX3_countKinds_L12 v fu (nI k) N = some M' ∧ Fr (fun i => i = v) N M' ∧ (∀ j, j ≠ 9 → j ≠ 10 → M'.1 v j = N.1 v j) ∧ M'.1 v 9 = nI (cntF (gu V w) (V.2.1 w)) ∧ M'.1 v 10 = nI (cntF (go V w) (V.2.1 w))
  | 0, k, fu, N, hkc, hfu, hS, h9, h10 => by
    obtain ⟨fu, rfl⟩ : ∃ z, fu = z + 1 := ⟨fu - 1, by omega⟩
    have hn := hV.n hw
    have ek : k = V.2.1 w := by omega
    subst ek
    refine ⟨N, ?_, Fr.rf, fun _ _ _ => rfl, h9, h10⟩
    show fX3_countKinds_B12 v _ (nI _) N = _
    unfold fX3_countKinds_B12
    rw [hS.1, if_pos ((nI_leI (by omega) (by omega)).mpr (Nat.le_refl _))]
  | c + 1, k, fu, N, hkc, hfu, hS, h9, h10 => by
    obtain ⟨fu, rfl⟩ : ∃ z, fu = z + 1 := ⟨fu - 1, by omega⟩
    have hn := hV.n hw
    have hc1 := cntF_le (p := gu V w) k
    have hc2 := cntF_le (p := go V w) k
    have s1 : ∀ x : Int32, SV1 V w v (st N v 9 x) := fun x => hS.keep (st_col (by omega)) (fun i h1 h2 => st_row (by omega))
    have step : ∀ (x y : Int32), x = nI (cntF (gu V w) (k + 1)) → y = nI (cntF (go V w) (k + 1)) → ∃ M', fX3_countKinds_L12 v fu (nI (k + 1)) (st (st N v 9 x) v 10 y) = some M' ∧ Fr (fun i => i = v) N M' ∧ (∀ j, j ≠ 9 → j ≠ 10 → M'.1 v j = N.1 v j) ∧ M'.1 v 9 = nI (cntF (gu V w) (V.2.1 w)) ∧ M'.1 v 10 = nI (cntF (go V w) (V.2.1 w)) := fun x y hx hy => by
      obtain ⟨M', a1, a2, a3, a4, a5⟩ := count_L hk hV hw c (k + 1) fu (st (st N v 9 x) v 10 y) (by omega) (by omega) ((s1 x).keep (st_col (by omega)) (fun i h1 h2 => st_row (by omega))) (by rw [st_col (by omega), st_same, hx]) (by rw [st_same, hy])
      exact ⟨M', a1, ((Fr.st (P := fun i => i = v) rfl).tr (Fr.st rfl)).tr a2, fun j h1 h2 => by rw [a3 j h1 h2, st_col h2, st_col h1], a4, a5⟩
    have e9 : ∀ b : Bool, b = gu V w k → nI (cntF (gu V w) k) + b2 b = nI (cntF (gu V w) (k + 1)) := fun b hb => by
      rw [show cntF (gu V w) (k + 1) = cntF (gu V w) k + (if gu V w k then 1 else 0) from rfl, ← hb]
      cases b
      · exact nI_add _ 0
      · exact nI_add _ 1
    have e10 : ∀ b : Bool, b = go V w k → nI (cntF (go V w) k) + b2 b = nI (cntF (go V w) (k + 1)) := fun b hb => by
      rw [show cntF (go V w) (k + 1) = cntF (go V w) k + (if go V w k then 1 else 0) from rfl, ← hb]
      cases b
      · exact nI_add _ 0
      · exact nI_add _ 1
    show ∃ M', fX3_countKinds_B12 v _ (nI k) N = _ ∧ _
    unfold fX3_countKinds_B12
    rw [hS.1, if_neg (by rw [nI_leI (by omega) (by omega)]; omega), isGust_v hk hS.2 hn (by omega), bs, h9]
    have gs : ∀ x : Int32, fX3_isGood v (nI k) (st N v 9 x) = some (go V w k) := fun x => isGood_v hk hV hw (s1 x).2 (by omega)
    have e10' : ∀ x : Int32, (st N v 9 x).1 v 10 = nI (cntF (go V w) k) := fun x => by rw [st_col (by omega), h10]
    cases hg : gu V w k
    · rw [if_pos (show b2 false = 0 from rfl)]
      unfold fX3_countKinds_J38
      rw [gs, bs, e10']
      cases ho : go V w k
      · rw [if_pos (show b2 false = 0 from rfl)]
        unfold fX3_countKinds_J60
        rw [nIp1]
        exact step _ _ (e9 false hg.symm) (e10 false ho.symm)
      · rw [if_neg (show ¬ b2 true = 0 from by decide)]
        unfold fX3_countKinds_J60
        rw [nIp1]
        exact step _ _ (e9 false hg.symm) (e10 true ho.symm)
    · rw [if_neg (show ¬ b2 true = 0 from by decide)]
      unfold fX3_countKinds_J38
      rw [gs, bs, e10']
      cases ho : go V w k
      · rw [if_pos (show b2 false = 0 from rfl)]
        unfold fX3_countKinds_J60
        rw [nIp1]
        exact step _ _ (e9 true hg.symm) (e10 false ho.symm)
      · rw [if_neg (show ¬ b2 true = 0 from by decide)]
        unfold fX3_countKinds_J60
        rw [nIp1]
        exact step _ _ (e9 true hg.symm) (e10 true ho.symm)
theorem last_L {r : Nat} (hk : kd v = 3) (hV : OkV V) (hw : w < 4) (hR : rows1 V w v (V.2.1 w) M) (hr : r < V.2.1 w) {x1 : Int32} : ∀ (k fu : Nat), k ≤ r → k < fu → fX3_lastVisit_L13 v x1 M fu (V.2.2 w 3 r) (nI k - 1) = some (oI (dnF (fun b => go V w b && decide (V.2.2 w 3 b = V.2.2 w 3 r)) k))
  | 0, fu, hkr, hfu => by
    obtain ⟨fu, rfl⟩ : ∃ z, fu = z + 1 := ⟨fu - 1, by omega⟩
    show fX3_lastVisit_B13 v x1 M _ _ _ = _
    unfold fX3_lastVisit_B13
    rw [if_pos (show nI 0 - 1 < (0 : Int32) from by decide)]
    rfl
  | k + 1, fu, hkr, hfu => by
    obtain ⟨fu, rfl⟩ : ∃ z, fu = z + 1 := ⟨fu - 1, by omega⟩
    have hn := hV.n hw
    show fX3_lastVisit_B13 v x1 M _ _ _ = _
    unfold fX3_lastVisit_B13
    rw [nIm1 (by omega), Nat.add_sub_cancel, if_neg (nI_pos (by omega)), isGood_v hk hV hw hR (by omega), bs]
    have hd : nI k + (-1 : Int32) = nI k - 1 := by
      rcases Nat.eq_zero_or_pos k with rfl | h
      · decide
      · rw [nId1 h, nIm1 h]
    unfold dnF
    cases hg : go V w k
    · rw [if_pos (show b2 false = 0 from rfl), hd, last_L hk hV hw hR hr k fu (by omega) (by omega)]
      simp
    · rw [if_neg (show ¬ b2 true = 0 from by decide), at_in (by rw [lkf3_1 hk]; omega), bs, (hR k (by omega)).2.1]
      by_cases e : V.2.2 w 3 k = V.2.2 w 3 r
      · rw [if_pos e]
        simp [e, oI]
      · rw [if_neg e, hd, last_L hk hV hw hR hr k fu (by omega) (by omega)]
        simp [e]
theorem last_v {r : Nat} (hk : kd v = 3) (hV : OkV V) (hw : w < 4) (hR : rows1 V w v (V.2.1 w) M) (hr : r < V.2.1 w) : fX3_lastVisit v (nI r) M = some (oI (lastV V w r)) := by
  have hn := hV.n hw
  unfold fX3_lastVisit
  rw [at_in (by rw [lkf3_1 hk]; omega), bs, (hR r hr).2.1]
  exact last_L hk hV hw hR hr r FU (Nat.le_refl _) (by unfold FU; omega)
/-- the loops that lie in the rows -/
def lpRows (L : List (Nat × Nat)) (a b : Nat) (M : wM) : Prop := ∀ k x, L[k]? = some x → M.1 a k = nI x.1 ∧ M.1 b k = nI x.2
theorem lpRows_add {L : List (Nat × Nat)} {a b : Nat} {M M2 : wM} {x : Nat × Nat} (h : lpRows L a b M) (h1 : M2.1 a L.length = nI x.1) (h2 : M2.1 b L.length = nI x.2) (h3 : ∀ j, j ≠ L.length → M2.1 a j = M.1 a j ∧ M2.1 b j = M.1 b j) : lpRows (L ++ [x]) a b M2 := by
  intro k y hy
  rcases Nat.lt_or_ge k L.length with hk | hk
  · rw [List.getElem?_append_left hk] at hy
    obtain ⟨q1, q2⟩ := h3 k (by omega)
    rw [q1, q2]
    exact h k y hy
  · rw [List.getElem?_append_right hk] at hy
    have e : k - L.length = 0 := by
      rcases Nat.eq_zero_or_pos (k - L.length) with q | q
      · exact q
      · rw [List.getElem?_eq_none (by simp; omega)] at hy; cases hy
    rw [e] at hy
    cases hy
    have e2 : k = L.length := by omega
    subst e2
    exact ⟨h1, h2⟩
theorem find_L (hk : kd v = 3) (hV : OkV V) (hw : w < 4) : ∀ (c k fu : Nat) (N : wM), k + c = V.2.1 w → c < fu → SV1 V w v N → N.1 v 11 = nI (lps V w k).length → lpRows (lps V w k) (v + 7) (v + 8) N → ∃ M', fX3_findLoops_L7 v fu (nI k) N = some M' ∧ Fr (fun i => i = v ∨ i = v + 7 ∨ i = v + 8) N M' ∧ (∀ j, j ≠ 11 → M'.1 v j = N.1 v j) ∧ M'.1 v 11 = nI (lpL V w).length ∧ lpRows (lpL V w) (v + 7) (v + 8) M'
  | 0, k, fu, N, hkc, hfu, hS, h11, hL => by
    obtain ⟨fu, rfl⟩ : ∃ z, fu = z + 1 := ⟨fu - 1, by omega⟩
    have hn := hV.n hw
    have ek : k = V.2.1 w := by omega
    subst ek
    refine ⟨N, ?_, Fr.rf, fun _ _ => rfl, h11, hL⟩
    show fX3_findLoops_B7 v _ (nI _) N = _
    unfold fX3_findLoops_B7
    rw [hS.1, if_pos ((nI_leI (by omega) (by omega)).mpr (Nat.le_refl _))]
  | c + 1, k, fu, N, hkc, hfu, hS, h11, hL => by
    obtain ⟨fu, rfl⟩ : ∃ z, fu = z + 1 := ⟨fu - 1, by omega⟩
    have hn := hV.n hw
    have hlen := lps_len (V := V) (w := w) k
    have skip : lpAt V w k = [] → ∃ M', fX3_findLoops_L7 v fu (nI (k + 1)) N = some M' ∧ Fr (fun i => i = v ∨ i = v + 7 ∨ i = v + 8) N M' ∧ (∀ j, j ≠ 11 → M'.1 v j = N.1 v j) ∧ M'.1 v 11 = nI (lpL V w).length ∧ lpRows (lpL V w) (v + 7) (v + 8) M' := fun e => by
      have e2 : lps V w (k + 1) = lps V w k := by unfold lps; rw [e, List.append_nil]; cases k <;> rfl
      exact find_L hk hV hw c (k + 1) fu N (by omega) (by omega) hS (by rw [e2]; exact h11) (by rw [e2]; exact hL)
    show ∃ M', fX3_findLoops_B7 v _ (nI k) N = _ ∧ _
    unfold fX3_findLoops_B7
    rw [hS.1, if_neg (by rw [nI_leI (by omega) (by omega)]; omega), isGood_v hk hV hw hS.2 (by omega), bs]
    cases hg : go V w k
    · rw [if_pos (show b2 false = 0 from rfl)]
      unfold fX3_findLoops_J32
      rw [if_pos rfl, nIp1]
      exact skip (by unfold lpAt; rw [hg]; rfl)
    · rw [if_neg (show ¬ b2 true = 0 from by decide), last_v hk hV hw hS.2 (by omega), bs]
      unfold fX3_findLoops_J32
      cases hl : lastV V w k with
      | none =>
        rw [if_pos (show oI none = -1 from rfl), nIp1]
        exact skip (by unfold lpAt; rw [hg, hl]; rfl)
      | some b =>
        have hb := dnF_lt hl
        have e1 : lpAt V w k = [(b, k)] := by unfold lpAt; rw [hg, hl]; rfl
        have e2 : lps V w (k + 1) = lps V w k ++ [(b, k)] := by rw [← e1]; rfl
        rw [if_neg (show ¬ oI (some b) = -1 from fun q => by
          have q2 : nI b = -1 := q
          have q3 := congrArg Int32.toInt q2
          rw [nI_toInt (by omega), show (-1 : Int32).toInt = -1 from by decide] at q3
          omega), h11, put_in (by rw [lkf3_6 hk]; omega), bs, st_row (show v ≠ v + 7 by omega), h11, put_in (by rw [lkf3_7 hk]; omega), bs, st_row (show v ≠ v + 8 by omega), st_row (show v ≠ v + 7 by omega), h11, nIp1, nIp1, show oI (some b) = nI b from rfl]
        have kp : ∀ i, i ≠ v → i ≠ v + 7 → i ≠ v + 8 → (st (st (st N (v + 7) (lps V w k).length (nI b)) (v + 8) (lps V w k).length (nI k)) v 11 (nI ((lps V w k).length + 1))).1 i = N.1 i := fun i h1 h2 h3 => by rw [st_row h1, st_row h3, st_row h2]
        obtain ⟨M', a1, a2, a3, a4, a5⟩ := find_L hk hV hw c (k + 1) fu _ (by omega) (by omega) (hS.keep (M2 := st (st (st N (v + 7) (lps V w k).length (nI b)) (v + 8) (lps V w k).length (nI k)) v 11 (nI ((lps V w k).length + 1))) (by rw [st_col (by omega), st_row (by omega), st_row (by omega)]) (fun i h1 h2 => kp i (by omega) (by omega) (by omega))) (by rw [st_same, e2]; simp) (by
          rw [e2]
          refine lpRows_add hL ?_ ?_ (fun j hj => ⟨?_, ?_⟩)
          · rw [st_row (by omega), st_row (by omega), st_same]
          · rw [st_row (by omega), st_same]
          · rw [st_row (by omega), st_row (by omega), st_col hj]
          · rw [st_row (by omega), st_col hj, st_row (by omega)])
        exact ⟨M', a1, (((Fr.st (P := fun i => i = v ∨ i = v + 7 ∨ i = v + 8) (Or.inr (Or.inl rfl))).tr (Fr.st (Or.inr (Or.inr rfl)))).tr (Fr.st (Or.inl rfl))).tr a2, fun j hj => by rw [a3 j hj, st_col hj, st_row (by omega), st_row (by omega)], a4, a5⟩
end SV
end
section
def SV3 (V : wV) (w v : Nat) (M : wM) : Prop := SV1 V w v M ∧ M.1 v 11 = nI (lpL V w).length ∧ lpRows (lpL V w) (v + 7) (v + 8) M
def oV (V : wV) (w r : Nat) : Int32 := if go V w r then oI (opn V w r) else -1
def cV (V : wV) (w r : Nat) : Int32 := if go V w r then cor V w r else -2000000004
def SVF (V : wV) (w v : Nat) (M : wM) : Prop := SV3 V w v M ∧ M.1 v 9 = nI (cntF (gu V w) (V.2.1 w)) ∧ M.1 v 10 = nI (cntF (go V w) (V.2.1 w)) ∧ ∀ r, r < V.2.1 w → M.1 (v + 5) r = oV V w r ∧ M.1 (v + 6) r = cV V w r
theorem SV3.keep {V : wV} {w v : Nat} {M M2 : wM} (h : SV3 V w v M) (h8 : M2.1 v = M.1 v) (hf : ∀ i, v + 1 ≤ i → i < v + 5 → M2.1 i = M.1 i) (h7 : M2.1 (v + 7) = M.1 (v + 7)) (h7b : M2.1 (v + 8) = M.1 (v + 8)) : SV3 V w v M2 :=
  ⟨h.1.keep (by rw [h8]) hf, by rw [h8]; exact h.2.1, fun k x hx => by rw [h7, h7b]; exact h.2.2 k x hx⟩
section SW
variable {V : wV} {w v : Nat} {M : wM}
theorem begin_v {k : Nat} (hk : kd v = 3) (hn : V.2.1 w ≤ 20) (hS : SV3 V w v M) (h : k < (lpL V w).length) : fX3_begin v (nI k) M = some (nI (lb V w k)) := by
  have hl := lpL_len (V := V) (w := w)
  unfold fX3_begin
  rw [at_in (by rw [lkf3_6 hk]; omega), bs, (hS.2.2 k _ (lpL_k h)).1]
theorem end_v {k : Nat} (hk : kd v = 3) (hn : V.2.1 w ≤ 20) (hS : SV3 V w v M) (h : k < (lpL V w).length) : fX3_end v (nI k) M = some (nI (le2 V w k)) := by
  have hl := lpL_len (V := V) (w := w)
  unfold fX3_end
  rw [at_in (by rw [lkf3_7 hk]; omega), bs, (hS.2.2 k _ (lpL_k h)).2]
theorem raw_v {r : Nat} (hk : kd v = 3) (hn : V.2.1 w ≤ 20) (hS : SV1 V w v M) (h : r < V.2.1 w) : fX3_rawHeight v (nI r) M = some (hI (hh V w r)) := by
  unfold fX3_rawHeight
  rw [at_in (by rw [lkf3_2 hk]; omega), bs, (hS.2 r h).2.2.1]
theorem time_v {r : Nat} (hk : kd v = 3) (hn : V.2.1 w ≤ 20) (hS : SV1 V w v M) (h : r < V.2.1 w) : fX6_at (v + 1) (nI r) M = some (V.2.2 w 0 r) := by
  rw [at_in (by rw [lkf3_0 hk]; omega), (hS.2 r h).1]
theorem minutes_v {k : Nat} (hk : kd v = 3) (hn : V.2.1 w ≤ 20) (hS : SV3 V w v M) (h : k < (lpL V w).length) : fX3_minutes v (nI k) M = some (mn V w k) := by
  obtain ⟨h1, h2, -, -⟩ := lpL_in h
  unfold fX3_minutes
  rw [end_v hk hn hS h, bs, time_v hk hn hS.1 h2, bs, begin_v hk hn hS h, bs, time_v hk hn hS.1 (by omega), bs]
  rfl
theorem mis_v {k : Nat} (hk : kd v = 3) (hn : V.2.1 w ≤ 20) (hS : SV3 V w v M) (h : k < (lpL V w).length) : fX3_misclosure v (nI k) M = some (mis V w k) := by
  obtain ⟨h1, h2, -, -⟩ := lpL_in h
  unfold fX3_misclosure
  rw [end_v hk hn hS h, bs, raw_v hk hn hS.1 h2, bs, begin_v hk hn hS h, bs, raw_v hk hn hS.1 (by omega), bs]
  rfl
theorem oI_ne {j : Nat} (h : j < 2 ^ 31) : ¬ oI (some j) = -1 := fun q => by
  have q3 := congrArg Int32.toInt (show nI j = -1 from q)
  rw [nI_toInt h, show (-1 : Int32).toInt = -1 from by decide] at q3
  omega
theorem short_L {r : Nat} (hk : kd v = 3) (hn : V.2.1 w ≤ 20) (hS : SV3 V w v M) (hr : r < V.2.1 w) : ∀ (c k fu : Nat) (best : Option Nat), k + c = (lpL V w).length → c < fu → (∀ j, best = some j → j < k) → fX3_shortestLoop_L14 v (nI r) M fu (oI best) (nI k) = some (oI (foldF (opS V w r) k c best))
  | 0, k, fu, best, hkc, hfu, hb => by
    obtain ⟨fu, rfl⟩ : ∃ z, fu = z + 1 := ⟨fu - 1, by omega⟩
    have hl := lpL_len (V := V) (w := w)
    show fX3_shortestLoop_B14 v (nI r) M _ _ _ = _
    unfold fX3_shortestLoop_B14
    rw [hS.2.1, if_pos ((nI_leI (by omega) (by omega)).mpr (by omega))]
    rfl
  | c + 1, k, fu, best, hkc, hfu, hb => by
    obtain ⟨fu, rfl⟩ : ∃ z, fu = z + 1 := ⟨fu - 1, by omega⟩
    have hl := lpL_len (V := V) (w := w)
    have hkl : k < (lpL V w).length := by omega
    obtain ⟨h1, h2, -, -⟩ := lpL_in hkl
    have ih := fun (b2 : Option Nat) (hb2 : ∀ j, b2 = some j → j < k + 1) => short_L hk hn hS hr c (k + 1) fu b2 (by omega) (by omega) hb2
    show fX3_shortestLoop_B14 v (nI r) M _ _ _ = _
    unfold fX3_shortestLoop_B14
    rw [hS.2.1, if_neg (by rw [nI_leI (by omega) (by omega)]; omega), begin_v hk hn hS hkl, bs]
    unfold fX3_shortestLoop_J45
    simp only [nIp1]
    rw [show foldF (opS V w r) k (c + 1) best = foldF (opS V w r) (k + 1) c (opS V w r best k) from rfl]
    have keepB : ∀ j, best = some j → j < k + 1 := fun j hj => by have := hb j hj; omega
    by_cases c1 : r < lb V w k
    · have e : opS V w r best k = best := by
        unfold opS
        rw [decide_eq_false (show ¬ lb V w k ≤ r by omega)]
        simp
      rw [if_pos ((nI_ltI (by omega) (by omega)).mpr c1), if_pos trivial, ih best keepB, e]
    · rw [if_neg (by rw [nI_ltI (by omega) (by omega)]; exact c1), end_v hk hn hS hkl, bs]
      by_cases c2 : le2 V w k < r
      · have e : opS V w r best k = best := by
          unfold opS
          rw [decide_eq_false (show ¬ r ≤ le2 V w k by omega)]
          simp
        rw [if_pos ((nI_ltI (by omega) (by omega)).mpr c2), if_pos trivial, ih best keepB, e]
      · rw [if_neg (by rw [nI_ltI (by omega) (by omega)]; exact c2), if_neg (show ¬ (1 : Int32) = 0 from by decide)]
        cases best with
        | none =>
          have e : opS V w r none k = some k := by
            unfold opS
            rw [decide_eq_true (show lb V w k ≤ r by omega), decide_eq_true (show r ≤ le2 V w k by omega)]
            simp
          rw [if_pos (show oI none = -1 from rfl), show nI k = oI (some k) from rfl, ih (some k) (fun j hj => by cases hj; omega), e]
        | some j =>
          have hj := hb j rfl
          rw [if_neg (oI_ne (by omega)), minutes_v hk hn hS hkl, bs, show oI (some j) = nI j from rfl, minutes_v hk hn hS (by omega), bs]
          by_cases c3 : mn V w k < mn V w j
          · have e : opS V w r (some j) k = some k := by
              unfold opS
              rw [decide_eq_true (show lb V w k ≤ r by omega), decide_eq_true (show r ≤ le2 V w k by omega)]
              simp [c3]
            rw [if_neg (Int32.not_le.mpr c3), show nI k = oI (some k) from rfl, ih (some k) (fun j hj => by cases hj; omega), e]
          · have e : opS V w r (some j) k = some j := by
              unfold opS
              rw [decide_eq_true (show lb V w k ≤ r by omega), decide_eq_true (show r ≤ le2 V w k by omega)]
              simp [c3]
            rw [if_pos (Int32.not_lt.mp c3), show nI j = oI (some j) from rfl, ih (some j) keepB, e]
theorem short_v {r : Nat} (hk : kd v = 3) (hV : OkV V) (hw : w < 4) (hS : SV3 V w v M) (hr : r < V.2.1 w) : fX3_shortestLoop v (nI r) M = some (oV V w r) := by
  have hn := hV.n hw
  have hl := lpL_len (V := V) (w := w)
  unfold fX3_shortestLoop oV
  rw [isGood_v hk hV hw hS.1.2 hr, bs]
  cases hg : go V w r
  · rfl
  · rw [if_neg (show ¬ b2 true = 0 from by decide), if_pos rfl, show (-1 : Int32) = oI none from rfl]
    exact short_L hk hn hS hr (lpL V w).length 0 FU none (by omega) (by unfold FU; omega) (fun j hj => by cases hj)
theorem sub_i (x : Int32) (q : Int64) : (x.toInt64 - q).toInt32 = x - q.toInt32 := by
  rw [Int64.toInt32_sub, Int32.toInt32_toInt64]
theorem drift_v {r : Nat} (hk : kd v = 3) (hV : OkV V) (hw : w < 4) (hS : SV3 V w v M) (hr : r < V.2.1 w) (ho : M.1 (v + 5) r = oV V w r) : fX3_withoutDrift v (nI r) M = some (cV V w r) := by
  have hn := hV.n hw
  have hl := lpL_len (V := V) (w := w)
  unfold fX3_withoutDrift cV
  rw [isGood_v hk hV hw hS.1.2 hr, bs]
  cases hg : go V w r
  · rfl
  · rw [if_neg (show ¬ b2 true = 0 from by decide), if_pos rfl]
    unfold fX3_openLoopOf cor
    rw [at_in (by rw [lkf3_4 hk]; omega), bs, ho, bs]
    unfold oV
    rw [hg, if_pos rfl]
    cases e : opn V w r with
    | none =>
      rw [if_pos (show oI none = -1 from rfl), raw_v hk hn hS.1 hr, bs]
    | some k =>
      have hkl := opn_lt e
      obtain ⟨h1, h2, -, -⟩ := lpL_in hkl
      rw [if_neg (oI_ne (by omega)), time_v hk hn hS.1 hr, bs, show oI (some k) = nI k from rfl, begin_v hk hn hS hkl, bs, time_v hk hn hS.1 (by omega), bs, raw_v hk hn hS.1 hr, bs, mis_v hk hn hS hkl, bs, minutes_v hk hn hS hkl, bs, dd_c (by rw [toI64]; exact mn_pos hV hw hkl), bs, sub_i]
theorem work4_L {j1 : Nat} {x2 : Int32} (hk : kd v = 3) (hV : OkV V) (hw : w < 4) : ∀ (c k fu : Nat) (N : wM), k + c = V.2.1 w → c < fu → SV3 V w v N → (∀ r, r < k → N.1 (v + 5) r = oV V w r ∧ N.1 (v + 6) r = cV V w r) → ∃ M', fX3_workOut_L143 v j1 x2 fu (nI k) N = some M' ∧ Fr (fun i => i = v + 5 ∨ i = v + 6) N M' ∧ ∀ r, r < V.2.1 w → M'.1 (v + 5) r = oV V w r ∧ M'.1 (v + 6) r = cV V w r
  | 0, k, fu, N, hkc, hfu, hS, h56 => by
    obtain ⟨fu, rfl⟩ : ∃ z, fu = z + 1 := ⟨fu - 1, by omega⟩
    have hn := hV.n hw
    refine ⟨N, ?_, Fr.rf, fun r hr => h56 r (by omega)⟩
    show fX3_workOut_B143 v j1 x2 _ (nI k) N = _
    unfold fX3_workOut_B143
    rw [hS.1.1, if_pos ((nI_leI (by omega) (by omega)).mpr (by omega))]
  | c + 1, k, fu, N, hkc, hfu, hS, h56 => by
    obtain ⟨fu, rfl⟩ : ∃ z, fu = z + 1 := ⟨fu - 1, by omega⟩
    have hn := hV.n hw
    have hS1 : SV3 V w v (st N (v + 5) k (oV V w k)) := hS.keep (st_row (by omega)) (fun i h1 h2 => st_row (by omega)) (st_row (by omega)) (st_row (by omega))
    obtain ⟨M', a1, a2, a3⟩ := work4_L (j1 := j1) (x2 := x2) hk hV hw c (k + 1) fu (st (st N (v + 5) k (oV V w k)) (v + 6) k (cV V w k)) (by omega) (by omega) (hS1.keep (st_row (by omega)) (fun i h1 h2 => st_row (by omega)) (st_row (by omega)) (st_row (by omega))) (fun r hr => by
      rw [st_row (show v + 5 ≠ v + 6 by omega)]
      rcases Nat.eq_or_lt_of_le (show r ≤ k by omega) with rfl | h
      · rw [st_same, st_same]; exact ⟨rfl, rfl⟩
      · rw [st_col (by omega), st_col (by omega), st_row (by omega)]
        exact h56 r h)
    refine ⟨M', ?_, ((Fr.st (P := fun i => i = v + 5 ∨ i = v + 6) (Or.inl rfl)).tr (Fr.st (Or.inr rfl))).tr a2, a3⟩
    show fX3_workOut_B143 v j1 x2 _ (nI k) N = _
    unfold fX3_workOut_B143
    rw [hS.1.1, if_neg (by rw [nI_leI (by omega) (by omega)]; omega), short_v hk hV hw hS (by omega), bs, put_in (by rw [lkf3_4 hk]; omega), bs, drift_v hk hV hw hS1 (by omega) (by rw [st_same]), bs, put_in (by rw [lkf3_5 hk]; omega), bs, nIp1]
    exact a1
theorem work1_L {x2 : Int32} (hk : kd v = 3) (hv : 10 ≤ v) (hV : OkV V) (hw : w < 4) : ∀ (c k fu : Nat) (N : wM), k + c = V.2.1 w → c < fu → RC V 1 N → N.1 v 8 = nI (V.2.1 w) → rows1 V w v k N → ∃ M', fX3_workOut_L17 v 1 x2 fu (tk 1 w) (nI k) N = (fX3_countKinds v M').bind (fun M8 => (fX3_findLoops v M8).bind (fun M9 => fX3_workOut_L143 v 1 x2 FU (0 : Int32) M9)) ∧ Fr (fun i => v + 1 ≤ i ∧ i < v + 5) N M' ∧ SV1 V w v M'
  | 0, k, fu, N, hkc, hfu, hR, h8, h1 => by
    obtain ⟨fu, rfl⟩ : ∃ z, fu = z + 1 := ⟨fu - 1, by omega⟩
    have hn := hV.n hw
    have ek : k = V.2.1 w := by omega
    subst ek
    refine ⟨N, ?_, Fr.rf, h8, h1⟩
    show fX3_workOut_B17 v 1 x2 _ _ (nI _) N = _
    unfold fX3_workOut_B17
    rw [h8, if_pos ((nI_leI (by omega) (by omega)).mpr (Nat.le_refl _))]
  | c + 1, k, fu, N, hkc, hfu, hR, h8, h1 => by
    obtain ⟨fu, rfl⟩ : ∃ z, fu = z + 1 := ⟨fu - 1, by omega⟩
    have hn := hV.n hw
    have hkt := kd_tk (show kd 1 = 2 from rfl) hw
    have d := hV.r hw (show k < V.2.1 w by omega)
    have kp : ∀ {A : wM} {a b : Nat} {x : Int32}, v + 1 ≤ a → RC V 1 A → RC V 1 (st A a b x) := fun ha hA => hA.keep (fun i h1 h2 => st_row (by omega))
    have R1 := kp (a := v + 1) (b := k) (x := V.2.2 w 0 k) (by omega) hR
    have R2 := kp (a := v + 2) (b := k) (x := V.2.2 w 3 k) (by omega) R1
    have R3 := kp (a := v + 3) (b := k) (x := hI (hh V w k)) (by omega) R2
    have R4 := kp (a := v + 4) (b := k) (x := b2 (gu V w k)) (by omega) R3
    have row : ∀ r, r < k + 1 → (st (st (st (st N (v + 1) k (V.2.2 w 0 k)) (v + 2) k (V.2.2 w 3 k)) (v + 3) k (hI (hh V w k))) (v + 4) k (b2 (gu V w k))).1 (v + 1) r = V.2.2 w 0 r ∧ (st (st (st (st N (v + 1) k (V.2.2 w 0 k)) (v + 2) k (V.2.2 w 3 k)) (v + 3) k (hI (hh V w k))) (v + 4) k (b2 (gu V w k))).1 (v + 2) r = V.2.2 w 3 r ∧ (st (st (st (st N (v + 1) k (V.2.2 w 0 k)) (v + 2) k (V.2.2 w 3 k)) (v + 3) k (hI (hh V w k))) (v + 4) k (b2 (gu V w k))).1 (v + 3) r = hI (hh V w r) ∧ (st (st (st (st N (v + 1) k (V.2.2 w 0 k)) (v + 2) k (V.2.2 w 3 k)) (v + 3) k (hI (hh V w k))) (v + 4) k (b2 (gu V w k))).1 (v + 4) r = b2 (gu V w r) := fun r hr => by
      have pick : ∀ (A : wM) (a : Nat) (x y : Int32), (r = k → x = y) → (r < k → A.1 a r = y) → (st A a k x).1 a r = y := fun A a x y h2 h3 => by
        rcases Nat.eq_or_lt_of_le (show r ≤ k by omega) with e | h
        · rw [e, st_same]; exact h2 e
        · rw [st_col (by omega)]; exact h3 h
      refine ⟨?_, ?_, ?_, ?_⟩
      · rw [st_row (show v + 1 ≠ v + 4 by omega), st_row (show v + 1 ≠ v + 3 by omega), st_row (show v + 1 ≠ v + 2 by omega)]
        exact pick _ _ _ _ (fun e => by rw [e]) (fun h => (h1 r h).1)
      · rw [st_row (show v + 2 ≠ v + 4 by omega), st_row (show v + 2 ≠ v + 3 by omega)]
        exact pick _ _ _ _ (fun e => by rw [e]) (fun h => by rw [st_row (by omega)]; exact (h1 r h).2.1)
      · rw [st_row (show v + 3 ≠ v + 4 by omega)]
        exact pick _ _ _ _ (fun e => by rw [e]) (fun h => by rw [st_row (by omega), st_row (by omega)]; exact (h1 r h).2.2.1)
      · exact pick _ _ _ _ (fun e => by rw [e]) (fun h => by rw [st_row (by omega), st_row (by omega), st_row (by omega)]; exact (h1 r h).2.2.2)
    obtain ⟨M', a1, a2, a3⟩ := work1_L (x2 := x2) hk hv hV hw c (k + 1) fu _ (by omega) (by omega) R4 (by rw [st_row (by omega), st_row (by omega), st_row (by omega), st_row (by omega), h8]) row
    refine ⟨M', ?_, ((((Fr.st (P := fun i => v + 1 ≤ i ∧ i < v + 5) (by omega)).tr (Fr.st (by omega))).tr (Fr.st (by omega))).tr (Fr.st (by omega))).tr a2, a3⟩
    show fX3_workOut_B17 v 1 x2 _ _ (nI k) N = _
    unfold fX3_workOut_B17
    have hg5 : (st (st (st N (v + 1) k (V.2.2 w 0 k)) (v + 2) k (V.2.2 w 3 k)) (v + 3) k (hI (hh V w k))).1 1 5 = V.1 1 := R3.1 1 (by omega)
    rw [h8, if_neg (by rw [nI_leI (by omega) (by omega)]; omega), tv0 hkt (hR.2 w hw) hn (by omega), bs, tv1 hkt (hR.2 w hw) hn (by omega), bs, tv2 hkt (hR.2 w hw) hn (by omega), bs, put_in (by rw [lkf3_0 hk]; omega), bs, tv3 hkt (R1.2 w hw) hn (by omega), bs, put_in (by rw [lkf3_1 hk]; omega), bs, heightAt_s (show kd 1 = 2 from rfl) hV R2 d.2.1 d.2.2, bs, put_in (by rw [lkf3_2 hk]; omega), bs, show hI (hgt V (V.2.2 w 0 k) (V.2.2 w 1 k) (V.2.2 w 2 k)) = hI (hh V w k) from rfl, hg5, standsOut_t hkt (R3.2 w hw) hn (by omega), bs]
    unfold fX3_workOut_J123
    rw [show gustF (V.2.1 w) (V.2.2 w) (V.1 1) k = gu V w k from rfl]
    cases hg : gu V w k
    · rw [hg] at a1
      rw [if_pos (show b2 false = 0 from rfl), put_in (by rw [lkf3_3 hk]; omega), bs, nIp1]
      exact a1
    · rw [hg] at a1
      rw [if_neg (show ¬ b2 true = 0 from by decide), put_in (by rw [lkf3_3 hk]; omega), bs, nIp1]
      exact a1
theorem workOut_v {x2 : Int32} (hk : kd v = 3) (hv : 10 ≤ v) (hV : OkV V) (hw : w < 4) (hR : RC V 1 M) (ht : fX2_track 1 x2 M = some (tk 1 w)) : ∃ M', fX3_workOut v 1 x2 M = some M' ∧ Fr (inV v) M M' ∧ SVF V w v M' := by
  have hn := hV.n hw
  have hkt := kd_tk (show kd 1 = 2 from rfl) hw
  obtain ⟨M1, a1, a2, a3⟩ := work1_L (x2 := x2) hk hv hV hw (V.2.1 w) 0 FU (st M v 8 (M.1 (tk 1 w) 2)) (by omega) (by unfold FU; omega) (hR.keep (fun i h1 h2 => st_row (by omega))) (by rw [st_same]; exact (hR.2 w hw).1) (fun r hr => absurd hr (by omega))
  obtain ⟨M2, b1, b2, b3, b4, b5⟩ := count_L hk hV hw (V.2.1 w) 0 FU (st (st M1 v 9 0) v 10 0) (by omega) (by unfold FU; omega) ((a3.keep (M2 := st M1 v 9 0) (st_col (by omega)) (fun i h1 h2 => st_row (by omega))).keep (st_col (by omega)) (fun i h1 h2 => st_row (by omega))) (by rw [st_col (by omega), st_same]; rfl) (by rw [st_same]; rfl)
  have S2 : SV1 V w v M2 := ((a3.keep (M2 := st M1 v 9 0) (st_col (by omega)) (fun i h1 h2 => st_row (by omega))).keep (M2 := st (st M1 v 9 0) v 10 0) (st_col (by omega)) (fun i h1 h2 => st_row (by omega))).keep (b3 8 (by omega) (by omega)) (fun i h1 h2 => (b2 i (by omega)).1)
  obtain ⟨M3, c1, c2, c3, c4, c5⟩ := find_L hk hV hw (V.2.1 w) 0 FU (st M2 v 11 0) (by omega) (by unfold FU; omega) (S2.keep (st_col (by omega)) (fun i h1 h2 => st_row (by omega))) (by rw [st_same]; rfl) (fun k x hx => by cases hx)
  have S3 : SV3 V w v M3 := ⟨(S2.keep (M2 := st M2 v 11 0) (st_col (by omega)) (fun i h1 h2 => st_row (by omega))).keep (c3 8 (by omega)) (fun i h1 h2 => (c2 i (by omega)).1), c4, c5⟩
  obtain ⟨M4, d1, d2, d3⟩ := work4_L (j1 := 1) (x2 := x2) hk hV hw (V.2.1 w) 0 FU M3 (by omega) (by unfold FU; omega) S3 (fun r hr => absurd hr (by omega))
  have e9 : M4.1 v 9 = nI (cntF (gu V w) (V.2.1 w)) := by rw [(d2 v (by omega)).1, c3 9 (by omega), st_col (by omega), b4]
  have e10 : M4.1 v 10 = nI (cntF (go V w) (V.2.1 w)) := by rw [(d2 v (by omega)).1, c3 10 (by omega), st_col (by omega), b5]
  have iv : ∀ {P : Nat → Prop} {A B : wM}, Fr P A B → (∀ i, P i → inV v i) → Fr (inV v) A B := fun h hP => h.mono hP
  have hvv : inV v v := by unfold inV; omega
  refine ⟨M4, ?_, ?_, S3.keep (d2 v (by omega)).1 (fun i h1 h2 => (d2 i (by omega)).1) (d2 (v + 7) (by omega)).1 (d2 (v + 8) (by omega)).1, e9, e10, d3⟩
  · unfold fX3_workOut
    rw [ht, bs, gk_ok hkt, bs, show (0 : Int32) = nI 0 from rfl, a1]
    unfold fX3_countKinds fX3_findLoops
    rw [show (0 : Int32) = nI 0 from rfl]
    rw [show (0 : Int32) = nI 0 from rfl] at b1 c1
    rw [b1, bs, c1, bs]
    exact d1
  · refine (((((Fr.st (P := inV v) hvv).tr (iv a2 (fun i q => by unfold inV; omega))).tr ((Fr.st hvv).tr (Fr.st hvv))).tr (iv b2 (fun i q => by unfold inV; omega))).tr ((Fr.st hvv).tr (iv c2 (fun i q => by unfold inV; omega)))).tr (iv d2 (fun i q => by unfold inV; omega))
end SW
end
section
/-! looks: the same for the reference -/
theorem isSome_hgt {V : wV} {t p c : Int32} : (hgt V t p c).isSome = hasB V t := by
  unfold hgt
  cases hasB V t <;> rfl
def gR (V : wV) (w r : Nat) : Int32 := if go V w r then hI (hh V w r) else 0
section LKS
variable {V : wV} {w : Nat}
end LKS
end
section
/-! the reference: open loops, corrected heights, the second way -/
section OM
variable {V : wV} {w : Nat} {M : wM}
def stS (V : wV) (w : Nat) (a : Int32 × Nat) (r : Nat) : Int32 × Nat := if go V w r then (a.1 + (hI (hh V w r) - hI (hh V w a.2)), r) else a
def bySt (V : wV) (w k : Nat) : Int32 := (foldF (stS V w) (lb V w k + 1) (le2 V w k - lb V w k) (0, lb V w k)).1
end OM
/-! the class: the second way; sums of points -/
section OC
variable {V : wV} {w v : Nat} {M : wM}
theorem byS_Lc {k : Nat} (hkd : kd v = 3) (hV : OkV V) (hw : w < 4) (hS : SV3 V w v M) (hk : k < (lpL V w).length) : ∀ (c r fu : Nat) (a : Int32 × Nat), r + c = le2 V w k + 1 → c < fu → fX3_misclosureBySteps_L21 v (nI k) M fu a.1 (hI (hh V w a.2)) (nI r) = some (foldF (stS V w) r c a).1
  | 0, r, fu, a, hrc, hfu => by
    obtain ⟨fu, rfl⟩ : ∃ z, fu = z + 1 := ⟨fu - 1, by omega⟩
    have hn := hV.n hw
    obtain ⟨g1, g2, -, -⟩ := lpL_in hk
    show fX3_misclosureBySteps_B21 v (nI k) M _ _ _ _ = _
    unfold fX3_misclosureBySteps_B21
    rw [end_v hkd hn hS hk, bs, if_pos ((nI_ltI (by omega) (by omega)).mpr (by omega))]
    rfl
  | c + 1, r, fu, a, hrc, hfu => by
    obtain ⟨fu, rfl⟩ : ∃ z, fu = z + 1 := ⟨fu - 1, by omega⟩
    have hn := hV.n hw
    obtain ⟨g1, g2, -, -⟩ := lpL_in hk
    have hr : r < V.2.1 w := by omega
    show fX3_misclosureBySteps_B21 v (nI k) M _ _ _ _ = _
    unfold fX3_misclosureBySteps_B21
    rw [end_v hkd hn hS hk, bs, if_neg (by rw [nI_ltI (by omega) (by omega)]; omega), hS.1.1, if_neg (by rw [nI_leI (by omega) (by omega)]; omega), isGood_v hkd hV hw hS.1.2 hr, bs, nIp1]
    rw [show foldF (stS V w) r (c + 1) a = foldF (stS V w) (r + 1) c (stS V w a r) from rfl]
    cases hg : go V w r
    · have e : stS V w a r = a := by unfold stS; rw [hg]; rfl
      rw [if_pos (show b2 false = 0 from rfl), byS_Lc hkd hV hw hS hk c (r + 1) fu a (by omega) (by omega), e]
    · have e : stS V w a r = (a.1 + (hI (hh V w r) - hI (hh V w a.2)), r) := by unfold stS; rw [hg]; rfl
      rw [if_neg (show ¬ b2 true = 0 from by decide), raw_v hkd hn hS.1 hr, bs, bs, e]
      exact byS_Lc hkd hV hw hS hk c (r + 1) fu (a.1 + (hI (hh V w r) - hI (hh V w a.2)), r) (by omega) (by omega)
theorem byS_v {k : Nat} (hkd : kd v = 3) (hV : OkV V) (hw : w < 4) (hS : SV3 V w v M) (hk : k < (lpL V w).length) : fX3_misclosureBySteps v (nI k) M = some (bySt V w k) := by
  have hn := hV.n hw
  obtain ⟨g1, g2, g3, -⟩ := lpL_in hk
  unfold fX3_misclosureBySteps
  rw [begin_v hkd hn hS hk, bs, raw_v hkd hn hS.1 (by omega), bs, bs, nIp1]
  exact byS_Lc hkd hV hw hS hk (le2 V w k - lb V w k) (lb V w k + 1) FU (0, lb V w k) (by omega) (by unfold FU; omega)
end OC
abbrev wT : Type := Int64 × Nat × Int32 × Int32
def adS (s : wT) (h : Int32) : wT := (s.1 + h.toInt64, s.2.1 + 1, if s.2.1 = 0 then h else if h < s.2.2.1 then h else s.2.2.1, if s.2.1 = 0 then h else if s.2.2.2 < h then h else s.2.2.2)
def endsO (V : wV) (w r : Nat) : Bool := match opn V w r with
  | none => false
  | some k => decide (le2 V w k = r)
def inP (V : wV) (w : Nat) (p : Int32) (r : Nat) : Bool := go V w r && decide (V.2.2 w 3 r = p) && !endsO V w r
def ptS (V : wV) (w : Nat) (p : Int32) (s : wT) (r : Nat) : wT := if inP V w p r then adS s (cor V w r) else s
def ptW (V : wV) (p : Int32) (w : Nat) (s : wT) : wT := foldF (ptS V w p) 0 (V.2.1 w) s
def ptA (V : wV) (p : Int32) : wT := ptW V p 3 (ptW V p 2 (ptW V p 1 (0, 0, 0, 0)))
theorem ptS_num {V : wV} {w : Nat} {p : Int32} {s : wT} {r : Nat} : (ptS V w p s r).2.1 ≤ s.2.1 + 1 := by
  unfold ptS
  rcases ite_or (c := inP V w p r = true) (a := adS s (cor V w r)) (b := s) with e | e
  · rw [e]; exact Nat.le_refl _
  · rw [e]; omega
theorem ptF_num {V : wV} {w : Nat} {p : Int32} : ∀ {c k : Nat} {s : wT}, (foldF (ptS V w p) k c s).2.1 ≤ s.2.1 + c
  | 0, k, s => Nat.le_refl _
  | c + 1, k, s => by
    have h1 := ptF_num (V := V) (w := w) (p := p) (c := c) (k := k + 1) (s := ptS V w p s k)
    have h2 := ptS_num (V := V) (w := w) (p := p) (s := s) (r := k)
    rw [show foldF (ptS V w p) k (c + 1) s = foldF (ptS V w p) (k + 1) c (ptS V w p s k) from rfl]
    omega
def PSc (s : wT) (M : wM) : Prop := M.2 93 = s.1 ∧ M.1 93 1 = nI s.2.1 ∧ (0 < s.2.1 → M.1 93 2 = s.2.2.1 ∧ M.1 93 3 = s.2.2.2)
theorem add_c {s : wT} {h : Int32} {M : wM} (hP : PSc s M) (hn : s.2.1 < 1000) : ∃ M', fX1_add 93 h M = some M' ∧ Fr (fun i => i = 93) M M' ∧ PSc (adS s h) M' := by
  obtain ⟨h1, h2, h3⟩ := hP
  have fin : ∀ a b : Int32, a = (adS s h).2.2.1 → b = (adS s h).2.2.2 → ∃ M', some (st (stL (st (st M 93 2 a) 93 3 b) 93 (((st (st M 93 2 a) 93 3 b).2 93) + h.toInt64)) 93 1 (((stL (st (st M 93 2 a) 93 3 b) 93 (((st (st M 93 2 a) 93 3 b).2 93) + h.toInt64)).1 93 1) + (1 : Int32))) = some M' ∧ Fr (fun i => i = 93) M M' ∧ PSc (adS s h) M' := fun a b ha hb => by
    refine ⟨_, rfl, (((Fr.st (P := fun i => i = 93) rfl).tr (Fr.st rfl)).tr (Fr.stL rfl)).tr (Fr.st rfl), ?_, ?_, fun _ => ⟨?_, ?_⟩⟩
    · show (stL (st (st M 93 2 a) 93 3 b) 93 (M.2 93 + h.toInt64)).2 93 = _
      rw [stL_same, h1]; rfl
    · rw [st_same, stL_1, st_col (by omega), st_col (by omega), h2]; exact nIp1 _
    · rw [st_col (by omega), stL_1, st_col (by omega), st_same]; exact ha
    · rw [st_col (by omega), stL_1, st_same]; exact hb
  unfold fX1_add
  by_cases e : s.2.1 = 0
  · rw [if_pos (show M.1 93 1 = (0 : Int32) by rw [h2, e]; rfl)]
    unfold fX1_add_J20
    rw [st_col (by omega), if_pos (show M.1 93 1 = (0 : Int32) by rw [h2, e]; rfl)]
    unfold fX1_add_J43
    exact fin h h (by unfold adS; simp [e]) (by unfold adS; simp [e])
  · have e1 : ¬ M.1 93 1 = (0 : Int32) := by rw [h2]; exact nI_ne0 (by omega) (by omega)
    obtain ⟨g1, g2⟩ := h3 (by omega)
    rw [if_neg e1]
    unfold fX1_add_J20
    rw [st_col (by omega), if_neg e1, st_col (by omega), g1, g2]
    unfold fX1_add_J43
    exact fin _ _ (by unfold adS; simp [e]) (by unfold adS; simp [e])
end
section
/-! points: the class -/
theorem SVF.keep {V : wV} {w v : Nat} {M M2 : wM} (h : SVF V w v M) (hf : ∀ i, v ≤ i → i < v + 9 → M2.1 i = M.1 i) : SVF V w v M2 := by
  refine ⟨h.1.keep (hf v (by omega) (by omega)) (fun i h1 h2 => hf i (by omega) (by omega)) (hf _ (by omega) (by omega)) (hf _ (by omega) (by omega)), ?_, ?_, ?_⟩
  · rw [hf v (by omega) (by omega)]; exact h.2.1
  · rw [hf v (by omega) (by omega)]; exact h.2.2.1
  · rw [hf (v + 5) (by omega) (by omega), hf (v + 6) (by omega) (by omega)]; exact h.2.2.2
section PC
variable {V : wV} {w v : Nat} {M : wM}
theorem openOf_v {r : Nat} (hk : kd v = 3) (hn : V.2.1 w ≤ 20) (hS : SVF V w v M) (hr : r < V.2.1 w) : fX3_openLoopOf v (nI r) M = some (oV V w r) := by
  unfold fX3_openLoopOf
  rw [at_in (by rw [lkf3_4 hk]; omega), bs, (hS.2.2.2 r hr).1]
theorem corrH_v {r : Nat} (hk : kd v = 3) (hn : V.2.1 w ≤ 20) (hS : SVF V w v M) (hr : r < V.2.1 w) : fX3_correctedHeight v (nI r) M = some (cV V w r) := by
  unfold fX3_correctedHeight
  rw [at_in (by rw [lkf3_5 hk]; omega), bs, (hS.2.2.2 r hr).2]
theorem ends_v {r : Nat} (hk : kd v = 3) (hn : V.2.1 w ≤ 20) (hS : SVF V w v M) (hr : r < V.2.1 w) (hg : go V w r = true) : fX3_endsOpenLoop v (nI r) M = some (endsO V w r) := by
  have hl := lpL_len (V := V) (w := w)
  unfold fX3_endsOpenLoop endsO
  rw [openOf_v hk hn hS hr, bs]
  unfold oV
  rw [hg, if_pos rfl]
  cases e : opn V w r with
  | none => rw [if_pos (show oI none = -1 from rfl)]
  | some k =>
    have hkl := opn_lt e
    obtain ⟨h1, h2, -, -⟩ := lpL_in hkl
    rw [if_neg (oI_ne (by omega)), show oI (some k) = nI k from rfl, end_v hk hn hS.1 hkl, bs]
    show _ = some (decide (le2 V w k = r))
    by_cases c : le2 V w k = r
    · rw [if_pos ((nI_eq (by omega) (by omega)).mpr c), decide_eq_true c]
    · rw [if_neg (by rw [nI_eq (by omega) (by omega)]; exact c), decide_eq_false c]
theorem addTo_L {p : Int32} (hk : kd v = 3) (hv : v + 9 ≤ 93) (hV : OkV V) (hw : w < 4) : ∀ (c k fu : Nat) (N : wM) (s : wT), k + c = V.2.1 w → c < fu → SVF V w v N → PSc s N → s.2.1 + c < 900 → ∃ M', fX3_addTo_L2 v 93 p fu (nI k) N = some M' ∧ Fr (fun i => i = 93) N M' ∧ PSc (foldF (ptS V w p) k c s) M'
  | 0, k, fu, N, s, hkc, hfu, hS, hP, hs => by
    obtain ⟨fu, rfl⟩ : ∃ z, fu = z + 1 := ⟨fu - 1, by omega⟩
    have hn := hV.n hw
    refine ⟨N, ?_, Fr.rf, hP⟩
    show fX3_addTo_B2 v 93 p _ _ N = _
    unfold fX3_addTo_B2
    rw [hS.1.1.1, if_pos ((nI_leI (by omega) (by omega)).mpr (by omega))]
  | c + 1, k, fu, N, s, hkc, hfu, hS, hP, hs => by
    obtain ⟨fu, rfl⟩ : ∃ z, fu = z + 1 := ⟨fu - 1, by omega⟩
    have hn := hV.n hw
    have hkn : k < V.2.1 w := by omega
    have num := ptS_num (V := V) (w := w) (p := p) (s := s) (r := k)
    have skip : ptS V w p s k = s → ∃ M', fX3_addTo_L2 v 93 p fu (nI (k + 1)) N = some M' ∧ Fr (fun i => i = 93) N M' ∧ PSc (foldF (ptS V w p) k (c + 1) s) M' := fun e => by
      rw [show foldF (ptS V w p) k (c + 1) s = foldF (ptS V w p) (k + 1) c (ptS V w p s k) from rfl, e]
      exact addTo_L hk hv hV hw c (k + 1) fu N s (by omega) (by omega) hS hP (by omega)
    show ∃ M', fX3_addTo_B2 v 93 p _ _ N = _ ∧ _
    unfold fX3_addTo_B2
    rw [hS.1.1.1, if_neg (by rw [nI_leI (by omega) (by omega)]; omega), isGood_v hk hV hw hS.1.1.2 hkn, bs, nIp1]
    cases hg : go V w k
    · rw [if_pos (show b2 false = 0 from rfl)]
      exact skip (by unfold ptS inP; rw [hg]; rfl)
    · rw [if_neg (show ¬ b2 true = 0 from by decide), at_in (by rw [lkf3_1 hk]; omega), bs, (hS.1.1.2 k hkn).2.1]
      by_cases e : V.2.2 w 3 k = p
      · rw [if_pos e, ends_v hk hn hS hkn hg, bs]
        cases he : endsO V w k
        · rw [if_pos (show b2 false = 0 from rfl), corrH_v hk hn hS hkn, bs]
          have ecv : cV V w k = cor V w k := by unfold cV; rw [hg, if_pos rfl]
          have es : ptS V w p s k = adS s (cor V w k) := by unfold ptS inP; rw [hg, he, decide_eq_true e]; rfl
          obtain ⟨N1, a1, a2, a3⟩ := add_c (h := cV V w k) hP (by omega)
          rw [a1, bs]
          obtain ⟨M', b1, b2, b3⟩ := addTo_L hk hv hV hw c (k + 1) fu N1 (ptS V w p s k) (by omega) (by omega) (hS.keep (fun i h1 h2 => (a2 i (by omega)).1)) (by rw [es, ← ecv]; exact a3) (by omega)
          exact ⟨M', b1, a2.tr b2, b3⟩
        · rw [if_neg (show ¬ b2 true = 0 from by decide)]
          exact skip (by unfold ptS inP; rw [hg, he]; simp)
      · rw [if_neg e]
        exact skip (by unfold ptS inP; rw [hg, decide_eq_false e]; simp)
end PC
def sv (c : Nat) : Nat := 66 + 9 * c
theorem surveyOf_c {c : Nat} {M : wM} (hc : c < 3) : fX6_surveyOf (nI c) M = some (sv c) := by
  unfold fX6_surveyOf
  rcases (show c = 0 ∨ c = 1 ∨ c = 2 by omega) with rfl | rfl | rfl <;> rfl
theorem kd_sv {c : Nat} (hc : c < 3) : kd (sv c) = 3 := by
  rcases (show c = 0 ∨ c = 1 ∨ c = 2 by omega) with rfl | rfl | rfl <;> rfl
/-- all three surveys are worked out -/
def SVA (V : wV) (M : wM) : Prop := ∀ c, c < 3 → SVF V (c + 1) (sv c) M
theorem SVA.keep {V : wV} {M M2 : wM} (h : SVA V M) (hf : ∀ i, 66 ≤ i → i < 93 → M2.1 i = M.1 i) : SVA V M2 := fun c hc => (h c hc).keep (fun i h1 h2 => hf i (by unfold sv at h1; omega) (by unfold sv at h2; omega))
theorem gather_c {V : wV} {p : Int32} {M : wM} (hV : OkV V) (hS : SVA V M) : ∃ M', fX6_gather p M = some M' ∧ Fr (fun i => i = 93) M M' ∧ PSc (ptA V p) M' := by
  have step : ∀ (c fu : Nat) (N : wM) (s : wT), c < 3 → SVA V N → PSc s N → s.2.1 ≤ 20 * c → ∃ N', fX6_gather_L9 p (fu + 1) (nI c) N = fX6_gather_L9 p fu (nI (c + 1)) N' ∧ Fr (fun i => i = 93) N N' ∧ PSc (ptW V p (c + 1) s) N' ∧ SVA V N' ∧ (ptW V p (c + 1) s).2.1 ≤ 20 * (c + 1) := fun c fu N s hc hS hP hs => by
    have hn := hV.n (w := c + 1) (by omega)
    obtain ⟨N', a1, a2, a3⟩ := addTo_L (p := p) (kd_sv hc) (by unfold sv; omega) hV (w := c + 1) (by omega) (V.2.1 (c + 1)) 0 FU N s (by omega) (by unfold FU; omega) (hS c hc) hP (by omega)
    have num := ptF_num (V := V) (w := c + 1) (p := p) (c := V.2.1 (c + 1)) (k := 0) (s := s)
    refine ⟨N', ?_, a2, a3, hS.keep (fun i h1 h2 => (a2 i (by omega)).1), by unfold ptW; omega⟩
    show fX6_gather_B9 p _ (nI c) N = _
    unfold fX6_gather_B9
    rw [if_neg (show ¬ (3 : Int32) ≤ nI c from fun q => absurd ((nI_leI (a := 3) (by omega) (by omega)).mp q) (by omega)), surveyOf_c hc, bs, gk_ok (kd_sv hc), bs, nIp1]
    unfold fX3_addTo
    rw [show (0 : Int32) = nI 0 from rfl, a1, bs]
  have f0 : Fr (fun i => i = 93) M (st (stL M 93 0) 93 1 0) := (Fr.stL (P := fun i => i = 93) rfl).tr (Fr.st rfl)
  have p0 : PSc (0, 0, 0, 0) (st (stL M 93 0) 93 1 0) := ⟨by show (stL M 93 0).2 93 = 0; rw [stL_same], by rw [st_same]; rfl, fun q => absurd q (by decide)⟩
  obtain ⟨N1, a1, a2, a3, a4, a5⟩ := step 0 99999 _ (0, 0, 0, 0) (by omega) (hS.keep (fun i h1 h2 => (f0 i (by omega)).1)) p0 (by decide)
  obtain ⟨N2, b1, b2, b3, b4, b5⟩ := step 1 99998 N1 _ (by omega) a4 a3 a5
  obtain ⟨N3, c1, c2, c3, c4, c5⟩ := step 2 99997 N2 _ (by omega) b4 b3 b5
  refine ⟨N3, ?_, ((f0.tr a2).tr b2).tr c2, c3⟩
  unfold fX6_gather fX1_clear
  rw [bs]
  have e : fX6_gather_L9 p FU (0 : Int32) (st (stL M 93 0) 93 1 0) = fX6_gather_L9 p 99997 (nI 3) N3 := by
    rw [show FU = 99999 + 1 from rfl, show (0 : Int32) = nI 0 from rfl]
    exact a1.trans (b1.trans c1)
  rw [e]
  show fX6_gather_B9 p _ (nI 3) N3 = _
  unfold fX6_gather_B9
  rw [if_pos (show (3 : Int32) ≤ nI 3 from by decide)]
/-! points: the reference -/
section PM
variable {V : wV} {w : Nat}
end PM
end
section
/-! the two sides of the invariant: hs the history, tl and tx the text -/
def IC (V : wV) (hs : List wV) (tl : Nat) (tx : Nat → Int32) (M : wM) : Prop := OkV V ∧ RC V 1 M ∧ (∃ o, RHo o hs M) ∧ Rooms 10 M ∧ M.1 94 1 = nI tl ∧ (∀ k, k < tl → M.1 95 k = tx k) ∧ (M.1 0 8 = 1 ∨ (M.1 0 8 = 0 ∧ SVA V M))
def FrC (M M' : wM) : Prop := Fr (fun i => i < 96) M M'
theorem RHo.keep {o : Nat} {hs : List wV} {M M2 : wM} (h : RHo o hs M) (hf : ∀ i, 19 ≤ i → i < 66 → M2.1 i = M.1 i) : RHo o hs M2 := by
  obtain ⟨ho, h1, h2, h3, h4, h5⟩ := h
  refine ⟨ho, by rw [hf 19 (by omega) (by omega)]; exact h1, by rw [hf 19 (by omega) (by omega)]; exact h2, h3, fun k V hV => ?_, fun j hj => (h5 j hj).keep (fun i g1 g2 => hf i (by omega) (by omega))⟩
  obtain ⟨q1, q2⟩ := h4 k V hV
  exact ⟨q1, q2.keep (fun i g1 g2 => hf i (by unfold pl at g1; omega) (by unfold pl at g2; omega))⟩
theorem IC.keepR {V : wV} {hs : List wV} {tl : Nat} {tx : Nat → Int32} {M M2 : wM} (h : IC V hs tl tx M) (e : ∀ i, i < 96 → i ≠ 93 → M2.1 i = M.1 i) : IC V hs tl tx M2 := by
  obtain ⟨a, b, ⟨o, c⟩, d, g, k, s⟩ := h
  refine ⟨a, b.keep (fun i h1 h2 => e i (by omega) (by omega)), ⟨o, c.keep (fun i h1 h2 => e i (by omega) (by omega))⟩, d.keep (fun i h1 h2 => e i (by omega) (by omega)), by rw [e 94 (by omega) (by omega)]; exact g, fun j hj => by rw [e 95 (by omega) (by omega)]; exact k j hj, ?_⟩
  rw [e 0 (by omega) (by omega)]
  rcases s with s | ⟨s1, s2⟩
  · exact Or.inl s
  · exact Or.inr ⟨s1, s2.keep (fun i h1 h2 => e i (by omega) (by omega))⟩
section N1
variable {V : wV} {hs : List wV} {tl : Nat} {tx : Nat → Int32} {M : wM}
theorem refresh_c (h : IC V hs tl tx M) : ∃ M', fX6_refresh M = some M' ∧ FrC M M' ∧ IC V hs tl tx M' ∧ SVA V M' := by
  obtain ⟨a, b, ⟨o, c⟩, d, g, k, s⟩ := id h
  rcases s with s | ⟨s1, s2⟩
  · have tr : ∀ (c : Nat) (N : wM), c < 3 → RC V 1 N → ∃ N', fX3_workOut (sv c) 1 (nI c) N = some N' ∧ Fr (inV (sv c)) N N' ∧ SVF V (c + 1) (sv c) N' := fun c N hc hR => workOut_v (kd_sv hc) (by unfold sv; omega) a (by omega) hR (track_c hc)
    obtain ⟨N0, a1, a2, a3⟩ := tr 0 M (by omega) b
    have b1 := b.keep (M2 := N0) (fun i h1 h2 => (a2 i (by unfold inV sv; omega)).1)
    obtain ⟨N1, c1, c2, c3⟩ := tr 1 N0 (by omega) b1
    have b2' := b1.keep (M2 := N1) (fun i h1 h2 => (c2 i (by unfold inV sv; omega)).1)
    obtain ⟨N2, d1, d2, d3⟩ := tr 2 N1 (by omega) b2'
    have kp : ∀ i, (i < 66 ∨ 93 ≤ i) → N2.1 i = M.1 i ∧ N2.2 i = M.2 i := fun i hi => by
      have q0 := a2 i (by unfold inV sv; omega)
      have q1 := c2 i (by unfold inV sv; omega)
      have q2 := d2 i (by unfold inV sv; omega)
      exact ⟨q2.1.trans (q1.1.trans q0.1), q2.2.trans (q1.2.trans q0.2)⟩
    have S : SVA V N2 := fun j hj => by
      rcases (show j = 0 ∨ j = 1 ∨ j = 2 by omega) with rfl | rfl | rfl
      · exact (a3.keep (fun i h1 h2 => (c2 i (by unfold inV; unfold sv at *; omega)).1)).keep (fun i h1 h2 => (d2 i (by unfold inV; unfold sv at *; omega)).1)
      · exact c3.keep (fun i h1 h2 => (d2 i (by unfold inV; unfold sv at *; omega)).1)
      · exact d3
    have S2 : SVA V (st N2 0 8 0) := S.keep (fun i h1 h2 => st_row (by omega))
    refine ⟨st N2 0 8 0, ?_, fun i hi => ⟨by rw [st_row (by omega)]; exact (kp i (by omega)).1, (kp i (by omega)).2⟩, ⟨a, b.keep (fun i h1 h2 => by rw [st_row (by omega)]; exact (kp i (by omega)).1), ⟨o, c.keep (fun i h1 h2 => by rw [st_row (by omega)]; exact (kp i (by omega)).1)⟩, d.keep (fun i h1 h2 => by rw [st_row (by omega)]; exact (kp i (by omega)).1), by rw [st_row (by omega), (kp 94 (by omega)).1]; exact g, fun j hj => by rw [st_row (by omega), (kp 95 (by omega)).1]; exact k j hj, Or.inr ⟨st_same, S2⟩⟩, S2⟩
    unfold fX6_refresh
    rw [if_neg (show ¬ M.1 0 8 = 0 by rw [s]; decide)]
    have e0 : fX3_workOut 66 1 (0 : Int32) M = some N0 := a1
    have e1 : fX3_workOut 75 1 (1 : Int32) N0 = some N1 := c1
    have e2 : fX3_workOut 84 1 (2 : Int32) N1 = some N2 := d1
    rw [e0, bs, e1, bs, e2, bs]
  · refine ⟨M, ?_, Fr.rf, h, s2⟩
    unfold fX6_refresh
    rw [if_pos s1]
/-- before a change: the state goes to the history, what was worked out is stale -/
theorem record_c (h : IC V hs tl tx M) : ∃ M', fX6_record M = some M' ∧ FrC M M' ∧ IC V (push5 hs V) tl tx M' ∧ M'.1 0 8 = 1 := by
  obtain ⟨a, b, ⟨o, c⟩, d, g, k, s⟩ := h
  obtain ⟨o', M1, e1, e2, e3⟩ := keep_h c a b
  have kp : ∀ i, (i < 19 ∨ 66 ≤ i) → M1.1 i = M.1 i ∧ M1.2 i = M.2 i := fun i hi => e2 i (by unfold inH; omega)
  refine ⟨st M1 0 8 1, by unfold fX6_record; rw [e1, bs], fun i hi => ⟨by rw [st_row (by omega)]; exact (kp i (by omega)).1, (kp i (by omega)).2⟩, ⟨a, b.keep (fun i h1 h2 => by rw [st_row (by omega)]; exact (kp i (by omega)).1), ⟨o', e3.keep (fun i h1 h2 => st_row (by omega))⟩, d.keep (fun i h1 h2 => by rw [st_row (by omega)]; exact (kp i (by omega)).1), by rw [st_row (by omega), (kp 94 (by omega)).1]; exact g, fun j hj => by rw [st_row (by omega), (kp 95 (by omega)).1]; exact k j hj, Or.inl st_same⟩, st_same⟩
/-- a state that shows another view behind a change of the state's own cells -/
theorem IC.change {V2 : wV} {M2 : wM} (h : IC V hs tl tx M) (h8 : M.1 0 8 = 1) (hV : OkV V2) (hR : RC V2 1 M2) (e : ∀ i, (i < 1 ∨ 10 ≤ i) → M2.1 i = M.1 i) : IC V2 hs tl tx M2 := by
  obtain ⟨a, b, ⟨o, c⟩, d, g, k, s⟩ := h
  exact ⟨hV, hR, ⟨o, c.keep (fun i h1 h2 => e i (by omega))⟩, d.keep (fun i h1 h2 => e i (by omega)), by rw [e 94 (by omega)]; exact g, fun j hj => by rw [e 95 (by omega)]; exact k j hj, Or.inl (by rw [e 0 (by omega)]; exact h8)⟩
/-! set -/
def setV (V : wV) (k : Nat) (v : Int32) : wV := (fun j => if j = k then v else V.1 j, V.2)
theorem setV_ok {k : Nat} {v : Int32} (hV : OkV V) (hk : k < 3) (h : okS (nI k) v = true) : OkV (setV V k v) := by
  refine ⟨?_, hV.2⟩
  obtain ⟨a1, a2, a3, a4, a5, a6⟩ := hV.1
  unfold okS at h
  rcases (show k = 0 ∨ k = 1 ∨ k = 2 by omega) with rfl | rfl | rfl
  · rw [if_pos (by decide)] at h
    obtain ⟨h1, h2⟩ := inR_iff.mp h
    exact ⟨h1, h2, a3, a4, a5, a6⟩
  · rw [if_neg (by decide), if_pos (by decide)] at h
    obtain ⟨h1, h2⟩ := inR_iff.mp h
    exact ⟨a1, a2, h1, h2, a5, a6⟩
  · rw [if_neg (by decide), if_neg (by decide), if_pos (by decide)] at h
    obtain ⟨h1, h2⟩ := inR_iff.mp h
    exact ⟨a1, a2, a3, a4, h1, h2⟩
theorem okS_k {x v : Int32} (h : okS x v = true) : ∃ k : Nat, k < 3 ∧ x = nI k := by
  unfold okS at h
  by_cases h0 : x = 0
  · exact ⟨0, by omega, h0⟩
  · rw [if_neg h0] at h
    by_cases h1 : x = 1
    · exact ⟨1, by omega, h1⟩
    · rw [if_neg h1] at h
      by_cases h2 : x = 2
      · exact ⟨2, by omega, h2⟩
      · rw [if_neg h2] at h; cases h
theorem set_c0 {x v : Int32} (hb : okS x v = false) : fX6_set x v M = some (-2000000001, M) := by
  unfold fX6_set
  rw [isSetting_c, bs, hb]
  rfl
theorem set_c {k : Nat} {v : Int32} (h : IC V hs tl tx M) (hk : k < 3) (hb : okS (nI k) v = true) : ∃ M', fX6_set (nI k) v M = some (V.1 k, M') ∧ FrC M M' ∧ IC (setV V k v) (push5 hs V) tl tx M' := by
  obtain ⟨M1, a1, a2, a3, a4⟩ := record_c h
  have hR := a3.2.1
  have e1 : fX2_setting 1 (nI k) M1 = some (V.1 k) := by
    unfold fX2_setting
    rw [← hR.1 k hk]
    rcases (show k = 0 ∨ k = 1 ∨ k = 2 by omega) with rfl | rfl | rfl <;> rfl
  have e2 : fX2_putSetting 1 (nI k) v M1 = some (st M1 1 (4 + k) v) := by
    unfold fX2_putSetting
    rcases (show k = 0 ∨ k = 1 ∨ k = 2 by omega) with rfl | rfl | rfl <;> rfl
  refine ⟨st M1 1 (4 + k) v, ?_, a2.tr (Fr.st (by omega)), a3.change a4 (setV_ok h.1 hk hb) ⟨fun j hj => ?_, fun w hw => ?_⟩ (fun i hi => st_row (by omega))⟩
  · unfold fX6_set
    rw [isSetting_c, bs, hb, if_neg (show ¬ b2 true = 0 from by decide), a1, bs, e1, bs, e2, bs]
  · unfold setV
    by_cases e : j = k
    · subst e; rw [st_same]; simp
    · rw [st_col (by omega)]
      show _ = if j = k then v else V.1 j
      rw [if_neg e]
      exact hR.1 j hj
  · obtain ⟨p, q, r⟩ := hR.2 w hw
    have n1 : tk 1 w ≠ 1 := by unfold tk; omega
    have n2 : tk 1 w + 1 ≠ 1 := by unfold tk; omega
    exact ⟨by rw [st_row n1]; exact p, by rw [st_row n1]; exact q, fun r' f hr hf => by rw [st_row n2]; exact r r' f hr hf⟩
end N1
end
section
/-! readings come and go -/
def hasT (V : wV) (w : Nat) (t : Int32) : Bool := anyF (fun r => decide (V.2.2 w 0 r = t)) 0 (V.2.1 w)
def putV (V : wV) (w n : Nat) (d : Nat → Nat → Int32) : wV := (V.1, fun u => if u = w then n else V.2.1 u, fun u => if u = w then d else V.2.2 u)
theorem putV_n {V : wV} {w n : Nat} {d : Nat → Nat → Int32} : (putV V w n d).2.1 w = n ∧ (putV V w n d).2.2 w = d := by simp [putV]
theorem putV_o {V : wV} {w n u : Nat} {d : Nat → Nat → Int32} (h : u ≠ w) : (putV V w n d).2.1 u = V.2.1 u ∧ (putV V w n d).2.2 u = V.2.2 u := by simp [putV, h]
def insV (V : wV) (w : Nat) (ti p c pt : Int32) : wV := putV V w (V.2.1 w + 1) (insD (V.2.2 w) (insK (V.2.2 w 0) ti (V.2.1 w)) (rd4 ti p c pt))
def remV (V : wV) (w r : Nat) : wV := putV V w (V.2.1 w - 1) (remD (V.2.2 w) r)
theorem insK_hi {d0 : Nat → Int32} {x : Int32} : ∀ {n r : Nat}, insK d0 x n ≤ r → r < n → x < d0 r
  | 0, r, h1, h2 => absurd h2 (by omega)
  | n + 1, r, h1, h2 => by
    unfold insK at h1
    by_cases c : x < d0 n
    · rw [if_pos c] at h1
      rcases Nat.eq_or_lt_of_le (show r ≤ n by omega) with rfl | h
      · exact c
      · exact insK_hi h1 h
    · rw [if_neg c] at h1; omega
theorem insK_lo {d0 : Nat → Int32} {x : Int32} : ∀ {n : Nat}, 0 < insK d0 x n → d0 (insK d0 x n - 1) ≤ x
  | 0, h => absurd h (by unfold insK; omega)
  | n + 1, h => by
    unfold insK at h ⊢
    by_cases c : x < d0 n
    · rw [if_pos c] at h ⊢; exact insK_lo h
    · rw [if_neg c] at h ⊢
      rw [Nat.add_sub_cancel]
      exact Int32.not_lt.mp c
def okP (x : Int32) : Prop := (0 : Int32) ≤ x ∧ x ≤ 9
theorem insV_ok {V : wV} {w : Nat} {ti p c pt : Int32} (hV : OkV V) (hw : w < 4) (hc : V.2.1 w < cap w) (h : okR ti p c = true) (hp : okP pt) (hT : hasT V w ti = false) : OkV (insV V w ti p c pt) := by
  have hn := hV.n hw
  have hk := insK_le (d0 := V.2.2 w 0) (x := ti) (V.2.1 w)
  unfold okR at h
  simp only [Bool.and_eq_true] at h
  obtain ⟨⟨q1, q2⟩, q3⟩ := h
  obtain ⟨t1, t2⟩ := inR_iff.mp q1
  obtain ⟨p1, p2⟩ := inR_iff.mp q2
  obtain ⟨c1, c2⟩ := inR_iff.mp q3
  have ne : ∀ r, r < V.2.1 w → ¬ V.2.2 w 0 r = ti := fun r hr e => by
    have : hasT V w ti = true := anyF_iff.mpr ⟨r, by omega, by omega, decide_eq_true e⟩
    rw [hT] at this; cases this
  refine ⟨hV.1, fun u hu => ?_⟩
  by_cases e : u = w
  · subst e
    obtain ⟨e1, e2⟩ := putV_n (V := V) (w := u) (n := V.2.1 u + 1) (d := insD (V.2.2 u) (insK (V.2.2 u 0) ti (V.2.1 u)) (rd4 ti p c pt))
    unfold insV
    rw [e1, e2]
    have hi : ∀ r, insK (V.2.2 u 0) ti (V.2.1 u) ≤ r → r < V.2.1 u → ti < V.2.2 u 0 r := fun r h1 h2 => insK_hi h1 h2
    have hlo : 0 < insK (V.2.2 u 0) ti (V.2.1 u) → V.2.2 u 0 (insK (V.2.2 u 0) ti (V.2.1 u) - 1) ≤ ti := fun h => insK_lo h
    generalize insK (V.2.2 u 0) ti (V.2.1 u) = k at hk hi hlo ⊢
    have srt := (hV.2 u hu).2.2
    have lo : ∀ r, r < k → V.2.2 u 0 r < ti := fun r hr => by
      have a : V.2.2 u 0 (k - 1) < ti := by
        rcases Int32.lt_or_eq_of_le (hlo (by omega)) with h | h
        · exact h
        · exact absurd h (ne _ (by omega))
      rcases Nat.eq_or_lt_of_le (show r ≤ k - 1 by omega) with rfl | h
      · exact a
      · exact Int32.lt_trans (srt r (k - 1) h (by omega)) a
    refine ⟨by omega, fun r hr => ?_, fun r r' h1 h2 => ?_⟩
    · unfold insD
      rcases Nat.lt_trichotomy r k with h | h | h
      · simp only [if_pos h]
        exact (hV.2 u hu).2.1 r (by omega)
      · simp only [if_neg (show ¬ r < k by omega), if_pos h]
        exact ⟨t1, t2, p1, p2, c1, c2, hp.1, hp.2⟩
      · simp only [if_neg (show ¬ r < k by omega), if_neg (show ¬ r = k by omega)]
        exact (hV.2 u hu).2.1 (r - 1) (by omega)
    · unfold insD
      rcases Nat.lt_trichotomy r k with a | a | a <;> rcases Nat.lt_trichotomy r' k with b | b | b
      · rw [if_pos a, if_pos b]; exact srt r r' h1 (by omega)
      · rw [if_pos a, if_neg (show ¬ r' < k by omega), if_pos b]; exact lo r a
      · rw [if_pos a, if_neg (show ¬ r' < k by omega), if_neg (show ¬ r' = k by omega)]; exact srt r (r' - 1) (by omega) (by omega)
      · omega
      · omega
      · rw [if_neg (show ¬ r < k by omega), if_pos a, if_neg (show ¬ r' < k by omega), if_neg (show ¬ r' = k by omega)]
        exact hi (r' - 1) (by omega) (by omega)
      · omega
      · omega
      · rw [if_neg (show ¬ r < k by omega), if_neg (show ¬ r = k by omega), if_neg (show ¬ r' < k by omega), if_neg (show ¬ r' = k by omega)]
        exact srt (r - 1) (r' - 1) (by omega) (by omega)
  · obtain ⟨e1, e2⟩ := putV_o (V := V) (w := w) (n := V.2.1 w + 1) (u := u) (d := insD (V.2.2 w) (insK (V.2.2 w 0) ti (V.2.1 w)) (rd4 ti p c pt)) e
    unfold insV
    rw [e1, e2]
    exact hV.2 u hu
theorem remV_ok {V : wV} {w x : Nat} (hV : OkV V) (hw : w < 4) (hx : x < V.2.1 w) : OkV (remV V w x) := by
  refine ⟨hV.1, fun u hu => ?_⟩
  by_cases e : u = w
  · subst e
    obtain ⟨e1, e2⟩ := putV_n (V := V) (w := u) (n := V.2.1 u - 1) (d := remD (V.2.2 u) x)
    unfold remV
    rw [e1, e2]
    have h0 := hV.2 u hu
    refine ⟨by omega, fun r hr => ?_, fun r r' h1 h2 => ?_⟩
    · unfold remD
      by_cases h : r < x
      · simp only [if_pos h]; exact h0.2.1 r (by omega)
      · simp only [if_neg h]; exact h0.2.1 (r + 1) (by omega)
    · unfold remD
      by_cases a : r < x <;> by_cases b : r' < x
      · rw [if_pos a, if_pos b]; exact h0.2.2 r r' h1 (by omega)
      · rw [if_pos a, if_neg b]; exact h0.2.2 r (r' + 1) (by omega) (by omega)
      · omega
      · rw [if_neg a, if_neg b]; exact h0.2.2 (r + 1) (r' + 1) (by omega) (by omega)
  · obtain ⟨e1, e2⟩ := putV_o (V := V) (w := w) (n := V.2.1 w - 1) (u := u) (d := remD (V.2.2 w) x) e
    unfold remV
    rw [e1, e2]
    exact hV.2 u hu
/-- one track of a state is changed -/
theorem RC.putT {V : wV} {s w n : Nat} {d : Nat → Nat → Int32} {M M2 : wM} (hs : kd s = 2) (hw : w < 4) (hR : RC V s M) (hT : RT (tk s w) M2 n (cap w) d) (f : Fr (fun i => i = tk s w ∨ i = tk s w + 1) M M2) : RC (putV V w n d) s M2 := by
  refine ⟨fun k hk => by rw [(f s (by unfold tk; omega)).1]; exact hR.1 k hk, fun u hu => ?_⟩
  by_cases e : u = w
  · subst e
    obtain ⟨e1, e2⟩ := putV_n (V := V) (w := u) (n := n) (d := d)
    rw [e1, e2]
    exact hT
  · obtain ⟨e1, e2⟩ := putV_o (V := V) (w := w) (n := n) (u := u) (d := d) e
    rw [e1, e2]
    have a1 := (f (tk s u) (by unfold tk; omega)).1
    have a2 := (f (tk s u + 1) (by unfold tk; omega)).1
    obtain ⟨p, q, r⟩ := hR.2 u hu
    exact ⟨by rw [a1]; exact p, by rw [a1]; exact q, fun r' f hr hf => by rw [a2]; exact r r' f hr hf⟩
section TAKE
variable {V : wV} {hs : List wV} {tl : Nat} {tx : Nat → Int32} {M : wM}
def takeA (V : wV) (w : Nat) (t : Int32) : Int32 := if hasT V w t then -2000000002 else if cap w ≤ V.2.1 w then -2000000003 else nI (insK (V.2.2 w 0) t (V.2.1 w))
def takeOk (V : wV) (w : Nat) (t : Int32) : Bool := !hasT V w t && !decide (cap w ≤ V.2.1 w)
theorem take_c {x : Int32} {w : Nat} {pt t p c : Int32} (h : IC V hs tl tx M) (hw : w < 4) (ht : ∀ N : wM, fX2_track 1 x N = some (tk 1 w)) (hr : okR t p c = true) (hp : okP pt) : (takeOk V w t = false → fX6_take x pt t p c M = some (takeA V w t, M)) ∧ (takeOk V w t = true → ∃ M', fX6_take x pt t p c M = some (takeA V w t, M') ∧ FrC M M' ∧ IC (insV V w t p c pt) (push5 hs V) tl tx M') := by
  have hn := h.1.n hw
  have hk := kd_tk (show kd 1 = 2 from rfl) hw
  have hT := h.2.1.2 w hw
  have e1 := hasTime_t (x := t) hk hT hn
  have e2 := isFull_t hT hn (cap_le w)
  have eh : anyF (fun r => decide (V.2.2 w 0 r = t)) 0 (V.2.1 w) = hasT V w t := rfl
  unfold takeOk takeA
  constructor
  · intro hk0
    unfold fX6_take
    rw [ht M, bs, gk_ok hk, bs, e1, bs, eh]
    cases a : hasT V w t
    · rw [a] at hk0
      have b : cap w ≤ V.2.1 w := by simpa using hk0
      rw [if_pos (show b2 false = 0 from rfl), e2, bs, decide_eq_true b, if_neg (show ¬ b2 true = 0 from by decide), if_neg (by decide), if_pos b]
    · rw [if_neg (show ¬ b2 true = 0 from by decide), if_pos rfl]
  · intro hk0
    simp only [Bool.and_eq_true, Bool.not_eq_true', decide_eq_false_iff_not] at hk0
    obtain ⟨a, b⟩ := hk0
    obtain ⟨M1, r1, r2, r3, r4⟩ := record_c h
    obtain ⟨M2, i1, i2, i3⟩ := insert_t (ti := t) (p := p) (c := c) (pt := pt) hk (r3.2.1.2 w hw) (by have := cap_le w; omega)
    refine ⟨M2, ?_, r2.tr (i2.mono (fun i q => by unfold tk at q; omega)), r3.change r4 (insV_ok h.1 hw (by omega) hr hp a) (RC.putT (show kd 1 = 2 from rfl) hw r3.2.1 i3 i2) (fun i hi => (i2 i (by unfold tk; omega)).1)⟩
    unfold fX6_take
    rw [ht M, bs, gk_ok hk, bs, e1, bs, eh, a, if_pos (show b2 false = 0 from rfl), e2, bs, decide_eq_false b, if_pos (show b2 false = 0 from rfl), r1, bs, i1, bs, if_neg (by decide), if_neg b]
/-! drop -/
def wOf (x : Int32) : Nat := (x + 1).toNatClampNeg
def rk (V : wV) (x r : Int32) : Bool := inR x (-1) 2 && inR r 0 (nI (V.2.1 (wOf x)) - 1)
theorem cell4 {x : Int32} (h : inR x (-1) 2 = true) : wOf x < 4 ∧ x + 1 = nI (wOf x) ∧ ((x = -1 ∧ wOf x = 0) ∨ ∃ c : Nat, c < 3 ∧ x = nI c ∧ wOf x = c + 1) := by
  by_cases e : x = -1
  · subst e
    exact ⟨by decide, by decide, Or.inl ⟨rfl, by decide⟩⟩
  · obtain ⟨h1, h2⟩ := inR_iff.mp h
    have h0 : (0 : Int32) ≤ x := by
      rw [Int32.le_iff_toInt_le, show (0 : Int32).toInt = 0 from by decide]
      have a := Int32.le_iff_toInt_le.mp h1
      rw [show (-1 : Int32).toInt = -1 from by decide] at a
      have b : x.toInt ≠ -1 := fun q => e (Int32.toInt_inj.mp (q.trans (by decide)))
      omega
    obtain ⟨c, hc, rfl⟩ := cell_of (inR_iff.mpr ⟨h0, h2⟩)
    have ew : wOf (nI c) = c + 1 := by
      unfold wOf
      rw [nIp1, nI_clamp (by omega)]
    refine ⟨by omega, by rw [ew, nIp1], Or.inr ⟨c, hc, rfl, ew⟩⟩
theorem track_w {x : Int32} {M : wM} (h : inR x (-1) 2 = true) : fX2_track 1 x M = some (tk 1 (wOf x)) := by
  obtain ⟨-, -, q⟩ := cell4 h
  rcases q with ⟨rfl, e⟩ | ⟨c, hc, rfl, e⟩
  · rw [e]; exact track_b
  · rw [e]; exact track_c hc
theorem rd_of {n : Nat} {r : Int32} (hn : n ≤ 20) (h : inR r 0 (nI n - 1) = true) : ∃ j : Nat, j < n ∧ r = nI j := by
  obtain ⟨h1, h2⟩ := inR_iff.mp h
  rcases Nat.eq_zero_or_pos n with rfl | hp
  · exfalso
    have a := Int32.le_iff_toInt_le.mp h1
    have b := Int32.le_iff_toInt_le.mp h2
    rw [show (0 : Int32).toInt = 0 from by decide] at a
    rw [show (nI 0 - 1).toInt = -1 from by decide] at b
    omega
  · rw [nIm1 hp] at h2
    obtain ⟨j, hj, e⟩ := nI_of2 (x := r) (M := nI (n - 1)) (n := n - 1) (nI_toInt (by omega)) (Int32.not_lt.mpr h1) h2
    exact ⟨j, by omega, e⟩
theorem rk_of {x r : Int32} (hV : OkV V) (h : rk V x r = true) : inR x (-1) 2 = true ∧ wOf x < 4 ∧ ∃ j : Nat, j < V.2.1 (wOf x) ∧ r = nI j := by
  unfold rk at h
  simp only [Bool.and_eq_true] at h
  have hw := (cell4 h.1).1
  exact ⟨h.1, hw, rd_of (hV.n hw) h.2⟩
theorem isReadingOf_c {x r : Int32} (h : IC V hs tl tx M) : fX6_isReadingOf x r M = some (rk V x r) := by
  have hJ : inR x (-1) 2 = true → fX6_isReadingOf_J12 x r M = some (rk V x r) := fun hx => by
    have hw := (cell4 hx).1
    unfold fX6_isReadingOf_J12 rk
    rw [track_w hx, bs, gk_ok (kd_tk (show kd 1 = 2 from rfl) hw), bs, (h.2.1.2 _ hw).1, within_c, bs, hx, Bool.true_and]
    cases inR r 0 (nI (V.2.1 (wOf x)) - 1) <;> rfl
  unfold fX6_isReadingOf
  by_cases e : x = -1
  · rw [if_pos e]
    exact hJ (by rw [e]; decide)
  · rw [if_neg e, isCell_c, bs]
    cases hc : inR x 0 2
    · rw [if_pos (show b2 false = 0 from rfl)]
      have : inR x (-1) 2 = false := by
        cases hx : inR x (-1) 2
        · rfl
        · exfalso
          obtain ⟨-, -, q⟩ := cell4 hx
          rcases q with ⟨q, -⟩ | ⟨c, hc3, q, -⟩
          · exact e q
          · rw [q] at hc
            rcases (show c = 0 ∨ c = 1 ∨ c = 2 by omega) with rfl | rfl | rfl <;> exact absurd hc (by decide)
      unfold rk
      rw [this]; rfl
    · rw [if_neg (show ¬ b2 true = 0 from by decide)]
      obtain ⟨c, hc3, q⟩ := cell_of hc
      exact hJ (by rw [q]; rcases (show c = 0 ∨ c = 1 ∨ c = 2 by omega) with rfl | rfl | rfl <;> decide)
theorem drop_c0 {x r : Int32} (h : IC V hs tl tx M) (hk : rk V x r = false) : fX6_drop x r M = some (-2000000001, M) := by
  unfold fX6_drop
  rw [isReadingOf_c h, bs, hk]; rfl
theorem drop_c {x : Int32} {j : Nat} (h : IC V hs tl tx M) (hx : inR x (-1) 2 = true) (hj : j < V.2.1 (wOf x)) (hk : rk V x (nI j) = true) : ∃ M', fX6_drop x (nI j) M = some (nI (V.2.1 (wOf x) - 1), M') ∧ FrC M M' ∧ IC (remV V (wOf x) j) (push5 hs V) tl tx M' := by
  have hw := (cell4 hx).1
  have hn := h.1.n hw
  have hkt := kd_tk (show kd 1 = 2 from rfl) hw
  obtain ⟨M1, r1, r2, r3, r4⟩ := record_c h
  obtain ⟨M2, i1, i2, i3⟩ := remove_t hkt (r3.2.1.2 _ hw) hn hj
  refine ⟨M2, ?_, r2.tr (i2.mono (fun i q => by unfold tk at q; omega)), r3.change r4 (remV_ok h.1 hw hj) (RC.putT (show kd 1 = 2 from rfl) hw r3.2.1 i3 i2) (fun i hi => (i2 i (by unfold tk; omega)).1)⟩
  unfold fX6_drop
  rw [isReadingOf_c h, bs, hk, if_neg (show ¬ b2 true = 0 from by decide), r1, bs, track_w hx, bs, gk_ok hkt, bs, i1, bs, i3.1]
/-! undo -/
theorem undo_c0 (h : IC V [] tl tx M) : fX6_undo M = some (-2000000002, M) := by
  obtain ⟨o, ho, h1, h2, -⟩ := h.2.2.1
  unfold fX6_undo
  rw [if_pos (show M.1 19 2 = 0 from h2)]
theorem undo_c {W : wV} (h : IC V (hs ++ [W]) tl tx M) : ∃ M', fX6_undo M = some (nI hs.length, M') ∧ FrC M M' ∧ IC W hs tl tx M' := by
  obtain ⟨a, b, ⟨o, c⟩, d, g, k, s⟩ := h
  obtain ⟨M1, e1, e2, e3, e4, e5⟩ := giveBack_h c b.rooms
  have hl := c.2.2.1
  have hlen : (hs ++ [W]).length = hs.length + 1 := by simp
  have kp : ∀ i, (i < 1 ∨ 10 ≤ i) → i ≠ 19 → M1.1 i = M.1 i ∧ M1.2 i = M.2 i := fun i hi h19 => e2 i (by unfold inS; omega)
  refine ⟨st M1 0 8 1, ?_, fun i hi => ⟨by rw [st_row (by omega)]; exact (kp i (by omega) (by omega)).1, (kp i (by omega) (by omega)).2⟩, e5, e4.keep (fun i h1 h2 => st_row (by omega)), ⟨o, e3.keep (fun i h1 h2 => st_row (by omega))⟩, d.keep (fun i h1 h2 => by rw [st_row (by omega)]; exact (kp i (by omega) (by omega)).1), by rw [st_row (by omega), (kp 94 (by omega) (by omega)).1]; exact g, fun j hj => by rw [st_row (by omega), (kp 95 (by omega) (by omega)).1]; exact k j hj, Or.inl st_same⟩
  unfold fX6_undo
  rw [hl, if_neg (show ¬ nI (hs ++ [W]).length = 0 by have := c.2.2.2.1; rw [hlen] at *; exact nI_ne0 (by omega) (by omega)), e1, bs, st_row (show (19 : Nat) ≠ 0 by decide), e3.2.2.1]
end TAKE
end
section
/-! questions: the same answer on both sides, the views stay -/
def TXo (tl : Nat) (tx : Nat → Int32) : Prop := tl ≤ 100 ∧ ∀ k, k < tl → (32 : Int32) ≤ tx k ∧ tx k ≤ 126
def pw (f : wM → Option Int32) (M : wM) : Option (Int32 × wM) := (f M).bind (fun v => some (v, M))
def pu (f : wM → Option wM) (M : wM) : Option (Int32 × wM) := (f M).bind (fun M2 => some (0, M2))
theorem hI_hgt_nf {V : wV} {t p c : Int32} (h : hasB V t = false) : hI (hgt V t p c) = -2000000004 := by
  unfold hgt
  rw [if_neg (by rw [h]; decide)]
  rfl
theorem okR_b {t p c : Int32} (h : okR t p c = true) : (50000 ≤ p.toInt ∧ p.toInt ≤ 110000) ∧ (-300 ≤ c.toInt ∧ c.toInt ≤ 500) := by
  unfold okR at h
  simp only [Bool.and_eq_true] at h
  obtain ⟨⟨-, q2⟩, q3⟩ := h
  obtain ⟨p1, p2⟩ := inR_iff.mp q2
  obtain ⟨c1, c2⟩ := inR_iff.mp q3
  exact ⟨⟨le_lit p1 (by decide), lit_le p2 (by decide)⟩, le_lit c1 (by decide), lit_le c2 (by decide)⟩
section Q1
variable {V : wV} {hs : List wV} {tl : Nat} {tx : Nat → Int32}
theorem isC {x : Int32} {c : Nat} (hc : c < 3) : inR (nI c) 0 2 = true := by
  rcases (show c = 0 ∨ c = 1 ∨ c = 2 by omega) with rfl | rfl | rfl <;> decide
theorem wOf_c {c : Nat} (hc : c < 3) : wOf (nI c) = c + 1 := by unfold wOf; rw [nIp1, nI_clamp (by omega)]
/-- a question for a reading of a cell: ok, or not -/
theorem rd_cell {x r : Int32} (hV : OkV V) (h1 : inR x 0 2 = true) (h2 : rk V x r = true) : ∃ c j : Nat, c < 3 ∧ x = nI c ∧ r = nI j ∧ j < V.2.1 (c + 1) ∧ x + 1 = nI (c + 1) := by
  obtain ⟨c, hc, rfl⟩ := cell_of h1
  obtain ⟨-, -, j, hj, rfl⟩ := rk_of hV h2
  rw [wOf_c hc] at hj
  exact ⟨c, j, hc, rfl, rfl, hj, nIp1 c⟩
theorem lp_of {n : Nat} {x : Int32} (hn : n ≤ 20) (h : inR x 0 (nI n - 1) = true) : ∃ j : Nat, j < n ∧ x = nI j := rd_of hn h
end Q1
end
section
/-! reading, point, worst, step -/
theorem ptA_num {V : wV} {p : Int32} (hV : OkV V) : (ptA V p).2.1 ≤ 60 := by
  have n1 := hV.n (w := 1) (by omega)
  have n2 := hV.n (w := 2) (by omega)
  have n3 := hV.n (w := 3) (by omega)
  have a1 : (foldF (ptS V 1 p) 0 (V.2.1 1) (0, 0, 0, 0)).2.1 ≤ 0 + V.2.1 1 := ptF_num (V := V) (w := 1) (p := p) (c := V.2.1 1) (k := 0) (s := (0, 0, 0, 0))
  have a2 := ptF_num (V := V) (w := 2) (p := p) (c := V.2.1 2) (k := 0) (s := ptW V p 1 (0, 0, 0, 0))
  have a3 := ptF_num (V := V) (w := 3) (p := p) (c := V.2.1 3) (k := 0) (s := ptW V p 2 (ptW V p 1 (0, 0, 0, 0)))
  unfold ptW at a2 a3
  unfold ptA ptW
  omega
theorem num5 {y : Int32} (h : inR y 0 5 = true) : ∃ f : Nat, f ≤ 5 ∧ y = nI f := by
  obtain ⟨a, b⟩ := inR_iff.mp h
  exact nI_of2 (x := y) (M := 5) (n := 5) (by decide) (Int32.not_lt.mpr a) b
section Q2
variable {V : wV} {hs : List wV} {tl : Nat} {tx : Nat → Int32}
def ptR (s : wT) (y : Int32) : Int32 := if y = 2 then nI s.2.1 else if s.2.1 = 0 then -2000000004 else if y = 0 then (dn s.1 (nI s.2.1).toInt64).toInt32 else s.2.2.2 - s.2.2.1
/-! worst -/
def absI (x : Int32) : Int32 := if (0 : Int32) ≤ x then x else 0 - x
abbrev wB3 : Type := Int32 × Option (Nat × Nat)
def wS (V : wV) (w : Nat) (a : wB3) (k : Nat) : wB3 := if a.1 < absI (mis V w k) then (absI (mis V w k), some (w - 1, k)) else a
def wW (V : wV) (w : Nat) (a : wB3) : wB3 := foldF (wS V w) 0 (lpL V w).length a
def wAll (V : wV) : wB3 := wW V 3 (wW V 2 (wW V 1 (-1, none)))
def cI (o : Option (Nat × Nat)) : Int32 := match o with
  | none => -2000000004
  | some x => nI x.1
def kI (o : Option (Nat × Nat)) : Int32 := match o with
  | none => -2000000004
  | some x => nI x.2
def fI (o : Option (Nat × Nat)) : Int32 := match o with
  | none => -1
  | some x => nI (20 * x.1 + x.2)
/-- the worst one's numbers are small -/
def wOk (a : wB3) : Prop := ∀ x, a.2 = some x → x.1 < 3 ∧ x.2 < 20
theorem wS_ok {w : Nat} (hw0 : 0 < w) (hw : w < 4) (hV : OkV V) : ∀ {n k : Nat} {a : wB3}, k + n = (lpL V w).length → wOk a → wOk (foldF (wS V w) k n a)
  | 0, k, a, _, h => h
  | n + 1, k, a, hkn, h => by
    have hl := lpL_len (V := V) (w := w)
    have hn := hV.n hw
    refine wS_ok hw0 hw hV (n := n) (k := k + 1) (by omega) ?_
    unfold wS
    rcases ite_or (c := a.1 < absI (mis V w k)) (a := (absI (mis V w k), some (w - 1, k))) (b := a) with e | e
    · rw [e]
      intro x hx
      cases hx
      have hm : k < (lpL V w).length := by omega
      obtain ⟨g1, g2, -, -⟩ := lpL_in hm
      refine ⟨by omega, ?_⟩
      show k < 20
      omega
    · rw [e]; exact h
end Q2
end
section
/-! steps -/
def kthF (p : Nat → Bool) : Nat → Nat → Nat → Option Nat
  | _, _, 0 => none
  | left, r, c + 1 => if p r then (if left = 0 then some r else kthF p (left - 1) (r + 1) c) else kthF p left (r + 1) c
def cntR (p : Nat → Bool) : Nat → Nat → Nat
  | _, 0 => 0
  | r, c + 1 => (if p r then 1 else 0) + cntR p (r + 1) c
theorem cntR_le {p : Nat → Bool} : ∀ {c r : Nat}, cntR p r c ≤ c
  | 0, r => Nat.le_refl _
  | c + 1, r => by
    have := cntR_le (p := p) (c := c) (r := r + 1)
    unfold cntR
    split <;> omega
theorem kthF_none {p : Nat → Bool} : ∀ {c r left : Nat}, kthF p left r c = none ↔ cntR p r c ≤ left
  | 0, r, left => by simp [kthF, cntR]
  | c + 1, r, left => by
    unfold kthF cntR
    cases h : p r
    · simp only [Bool.false_eq_true, if_false, Nat.zero_add]
      exact kthF_none
    · simp only [if_true]
      by_cases e : left = 0
      · rw [if_pos e]
        constructor
        · intro q; cases q
        · intro q; omega
      · rw [if_neg e, kthF_none]
        omega
theorem kthF_lt {p : Nat → Bool} : ∀ {c r left j : Nat}, kthF p left r c = some j → j < r + c
  | 0, r, left, j, h => by cases h
  | c + 1, r, left, j, h => by
    unfold kthF at h
    cases hp : p r
    · rw [hp] at h
      have := kthF_lt (c := c) (r := r + 1) (j := j) h
      omega
    · rw [hp, if_pos rfl] at h
      by_cases e : left = 0
      · rw [if_pos e] at h; cases h; omega
      · rw [if_neg e] at h
        have := kthF_lt (c := c) (r := r + 1) (j := j) h
        omega
def stE (V : wV) (r : Nat) : Bool := decide (V.1 2 ≤ absI (V.2.2 0 2 r - V.2.2 0 2 (r - 1)))
section ST
variable {V : wV} {hs : List wV} {tl : Nat} {tx : Nat → Int32} {M : wM}
theorem stepEnd_c {r : Nat} (hV : OkV V) (hR : RC V 1 M) (h0 : 0 < r) (hr : r < V.2.1 0) : fX2_isStepEnd 1 (nI r) M = some (stE V r) := by
  have hn := hV.n (w := 0) (by omega)
  have hk := kd_tk (show kd 1 = 2 from rfl) (w := 0) (by omega)
  have hT := hR.2 0 (by omega)
  unfold fX2_isStepEnd stE
  rw [show (1 : Nat) + 1 = tk 1 0 from rfl, tv2 hk hT hn hr, bs, nIm1 h0, tv2 hk hT hn (by omega), bs, show M.1 1 6 = V.1 2 from hR.1 2 (by omega)]
  rw [show (if (0 : Int32) ≤ V.2.2 0 2 r - V.2.2 0 2 (r - 1) then V.2.2 0 2 r - V.2.2 0 2 (r - 1) else 0 - (V.2.2 0 2 r - V.2.2 0 2 (r - 1))) = absI (V.2.2 0 2 r - V.2.2 0 2 (r - 1)) from rfl]
  by_cases h : absI (V.2.2 0 2 r - V.2.2 0 2 (r - 1)) < V.1 2
  · rw [if_pos h, decide_eq_false (Int32.not_le.mpr h)]
  · rw [if_neg h, decide_eq_true (Int32.not_lt.mp h)]
theorem absI_m {V : wV} {r : Nat} (hV : OkV V) (h0 : 0 < r) (hr : r < V.2.1 0) : stE V r = true ↔ (V.1 2 ≤ V.2.2 0 2 r - V.2.2 0 2 (r - 1) ∨ ¬ -(V.1 2) < V.2.2 0 2 r - V.2.2 0 2 (r - 1)) := by
  have a := (hV.r (w := 0) (by omega) hr).2.2
  have b := (hV.r (w := 0) (r := r - 1) (by omega) (by omega)).2.2
  have s := hV.s.2.2
  have e : (V.2.2 0 2 r - V.2.2 0 2 (r - 1)).toInt = (V.2.2 0 2 r).toInt - (V.2.2 0 2 (r - 1)).toInt := fb_subI (by omega) (by omega)
  unfold stE
  rw [decide_eq_true_eq]
  generalize V.2.2 0 2 r - V.2.2 0 2 (r - 1) = v at e ⊢
  have h0' : (0 : Int32).toInt = 0 := by decide
  have n : (-(V.1 2)).toInt = -(V.1 2).toInt := fb_negI (by omega)
  unfold absI
  by_cases h : (0 : Int32) ≤ v
  · have h' := Int32.le_iff_toInt_le.mp h
    rw [if_pos h, Int32.le_iff_toInt_le, Int32.lt_iff_toInt_lt, n]
    omega
  · have h' : ¬ (0 : Int32).toInt ≤ v.toInt := fun q => h (Int32.le_iff_toInt_le.mpr q)
    have e2 : (0 - v).toInt = 0 - v.toInt := fb_subI (by rw [h0']; omega) (by rw [h0']; omega)
    rw [if_neg h, Int32.le_iff_toInt_le, Int32.le_iff_toInt_le, Int32.lt_iff_toInt_lt, n, e2]
    omega
end ST
end
section
/-! the pressure for a height -/
theorem rawZ_step {h bp bt p c : Int} (h1 : 50000 ≤ bp ∧ bp ≤ 110000) (h2 : -300 ≤ bt ∧ bt ≤ 500) (h3 : 50000 ≤ p ∧ p < 110000) (h4 : -300 ≤ c ∧ c ≤ 500) : rawZ h bp bt (p + 1) c ≤ rawZ h bp bt p c := by
  unfold rawZ
  have w1 : 0 ≤ 2930 * (2732 + (bt + c) / 2) := by omega
  generalize 2930 * (2732 + (bt + c) / 2) = K at w1
  have d0 : 0 < (bp + p) / 2 := by omega
  have d1 : 0 < (bp + (p + 1)) / 2 := by omega
  have key : (bp - (p + 1)) * ((bp + p) / 2) ≤ (bp - p) * ((bp + (p + 1)) / 2) := by
    have e : bp - (p + 1) = (bp - p) - 1 := by omega
    rw [e, Int.sub_mul]
    rcases (show (bp + (p + 1)) / 2 = (bp + p) / 2 ∨ (bp + (p + 1)) / 2 = (bp + p) / 2 + 1 by omega) with q | q
    · rw [q]; omega
    · rw [q, Int.mul_add]; omega
  generalize (bp + p) / 2 = D at d0 key
  generalize (bp + (p + 1)) / 2 = D' at d1 key
  have key2 : K * (bp - (p + 1)) * D ≤ K * (bp - p) * D' := by
    rw [Int.mul_assoc, Int.mul_assoc]
    exact Int.mul_le_mul_of_nonneg_left key w1
  generalize K * (bp - (p + 1)) = N' at key2
  generalize K * (bp - p) = N at key2
  have q1 : N' / D' * D' ≤ N' := Int.ediv_mul_le N' (by omega)
  have q2 : N' / D' ≤ N / D := by
    rw [Int.le_ediv_iff_mul_le d0]
    have m := Int.mul_le_mul_of_nonneg_right q1 (show (0 : Int) ≤ D by omega)
    have m2 : N' / D' * D * D' ≤ N * D' := by
      rw [Int.mul_right_comm]
      omega
    exact Int.le_of_mul_le_mul_right m2 d1
  omega
def hP (V : wV) (t c x : Int32) (g : Nat) : Bool := decide (x.toInt ≤ rawZ (V.1 0).toInt (bv V 1 t) (bv V 2 t) (50000 + (g : Int)) c.toInt)
def lastF (P : Nat → Bool) : Nat → Nat
  | 0 => 0
  | n + 1 => if P (n + 1) then n + 1 else lastF P n
theorem lastF_spec {P : Nat → Bool} : ∀ n, P 0 = true → P (lastF P n) = true ∧ lastF P n ≤ n ∧ ∀ g, lastF P n < g → g ≤ n → P g = false
  | 0, h => ⟨h, Nat.le_refl _, fun g h1 h2 => absurd h1 (by unfold lastF; omega)⟩
  | n + 1, h => by
    unfold lastF
    cases e : P (n + 1)
    · obtain ⟨a, b, c⟩ := lastF_spec n h
      rw [if_neg (by decide)]
      refine ⟨a, by omega, fun g h1 h2 => ?_⟩
      rcases Nat.eq_or_lt_of_le h2 with rfl | q
      · exact e
      · exact c g h1 (by omega)
    · rw [if_pos rfl]
      exact ⟨e, Nat.le_refl _, fun g h1 h2 => absurd h1 (by omega)⟩
section PF
variable {V : wV} {hs : List wV} {tl : Nat} {tx : Nat → Int32} {t c x : Int32}
theorem hP_step (hV : OkV V) (hb : hasB V t = true) (hc : -300 ≤ c.toInt ∧ c.toInt ≤ 500) {g : Nat} (hg : g < 60000) (h : hP V t c x (g + 1) = true) : hP V t c x g = true := by
  unfold hP at h ⊢
  rw [decide_eq_true_eq] at h ⊢
  obtain ⟨b1, b2⟩ := bv_b hV hb
  have s := rawZ_step (h := (V.1 0).toInt) (bp := bv V 1 t) (bt := bv V 2 t) (p := 50000 + (g : Int)) (c := c.toInt) b1 b2 (by omega) hc
  rw [show (50000 : Int) + ((g + 1 : Nat) : Int) = 50000 + (g : Int) + 1 by omega] at h
  omega
theorem hP_mono (hV : OkV V) (hb : hasB V t = true) (hc : -300 ≤ c.toInt ∧ c.toInt ≤ 500) : ∀ (d g : Nat), g + d ≤ 60000 → hP V t c x (g + d) = true → hP V t c x g = true
  | 0, g, _, h => h
  | d + 1, g, hd, h => hP_mono hV hb hc d g (by omega) (hP_step hV hb hc (by omega) h)
theorem pI_b {g : Nat} (hg : g ≤ 60000) : 50000 ≤ (nI (50000 + g)).toInt ∧ (nI (50000 + g)).toInt ≤ 110000 := by rw [nI_toInt (by omega)]; omega
theorem hP_lt (hV : OkV V) (hb : hasB V t = true) (hc : -300 ≤ c.toInt ∧ c.toInt ≤ 500) {g : Nat} (hg : g ≤ 60000) : (hI (hgt V t (nI (50000 + g)) c) < x ↔ hP V t c x g = false) ∧ hI (hgt V t (nI (50000 + g)) c) ≠ -2000000004 := by
  have hz : hgt V t (nI (50000 + g)) c = some (rawZ (V.1 0).toInt (bv V 1 t) (bv V 2 t) (50000 + (g : Int)) c.toInt) := by
    unfold hgt
    rw [if_pos hb, nI_toInt (by omega)]
    rfl
  have b := hgt_b hV (pI_b hg) hc hz
  have e : (Int32.ofInt (rawZ (V.1 0).toInt (bv V 1 t) (bv V 2 t) (50000 + (g : Int)) c.toInt)).toInt = rawZ (V.1 0).toInt (bv V 1 t) (bv V 2 t) (50000 + (g : Int)) c.toInt := fb_ofI (by omega) (by omega)
  rw [hz]
  unfold hI hP
  constructor
  · rw [Int32.lt_iff_toInt_lt, e, decide_eq_false_iff_not]
    omega
  · intro q
    have q2 := congrArg Int32.toInt q
    dsimp only at q2
    rw [e, show (-2000000004 : Int32).toInt = -2000000004 from by decide] at q2
    omega
end PF
end
section
/-! how many -/
theorem cntF_R {p : Nat → Bool} : ∀ (c r : Nat), cntF p (r + c) = cntF p r + cntR p r c
  | 0, r => rfl
  | c + 1, r => by
    have h := cntF_R (p := p) c (r + 1)
    rw [show r + (c + 1) = r + 1 + c by omega, h]
    show cntF p r + (if p r then 1 else 0) + _ = _ + ((if p r then 1 else 0) + _)
    omega
theorem cntR_0 {p : Nat → Bool} (n : Nat) : cntR p 0 n = cntF p n := by
  have h := cntF_R (p := p) n 0
  rw [Nat.zero_add] at h
  rw [h]
  show _ = 0 + _
  omega
theorem cntR_no {c r : Nat} : cntR (fun _ => false) r c = 0 := by
  induction c generalizing r with
  | zero => rfl
  | succ c ih =>
    show (if false = true then 1 else 0) + cntR (fun _ => false) (r + 1) c = 0
    rw [ih, if_neg (by decide)]
def hasP (V : wV) (p : Nat) : Bool := decide (0 < (ptA V (nI p)).2.1)
section CN
variable {V : wV} {hs : List wV} {tl : Nat} {tx : Nat → Int32} {M : wM}
theorem cstep {p : Nat → Bool} {r c : Nat} : cntR p r (c + 1) = (if p r then 1 else 0) + cntR p (r + 1) c := rfl
theorem withHeight_L (hV : OkV V) : ∀ (c k s fu : Nat) (M : wM), k + c = 10 → c < fu → SVA V M → ∃ M', fX6_pointsWithHeight_L4 fu (nI s) (nI k) M = some (nI (s + cntR (hasP V) k c), M') ∧ Fr (fun i => i = 93) M M'
  | c, k, s, 0, M, _, h, _ => absurd h (by omega)
  | 0, k, s, fu + 1, M, hk, _, hS => by
    refine ⟨M, ?_, Fr.rf⟩
    show fX6_pointsWithHeight_B4 _ _ _ M = _
    unfold fX6_pointsWithHeight_B4
    rw [if_pos (show (10 : Int32) ≤ nI k from (nI_leI (a := 10) (by omega) (by omega)).mpr (by omega))]
    rfl
  | c + 1, k, s, fu + 1, M, hk, hfu, hS => by
    obtain ⟨N, a1, a2, a3⟩ := gather_c (p := nI k) hV hS
    have hS2 : SVA V N := hS.keep (fun i h1 h2 => (a2 i (by omega)).1)
    have hnum := ptA_num (p := nI k) hV
    show ∃ M', fX6_pointsWithHeight_B4 _ _ _ M = _ ∧ _
    unfold fX6_pointsWithHeight_B4
    rw [if_neg (show ¬ (10 : Int32) ≤ nI k from fun q => absurd ((nI_leI (a := 10) (by omega) (by omega)).mp q) (by omega)), a1, bs, a3.2.1, nIp1, nIp1, Int32.add_zero, cstep]
    by_cases e : (ptA V (nI k)).2.1 = 0
    · obtain ⟨M', b1, b2⟩ := withHeight_L hV c (k + 1) s fu N (by omega) (by omega) hS2
      rw [if_pos (show nI (ptA V (nI k)).2.1 ≤ 0 from by rw [e]; decide), b1, show hasP V k = false from decide_eq_false (by omega), if_neg (by decide), Nat.zero_add]
      exact ⟨M', rfl, a2.tr b2⟩
    · obtain ⟨M', b1, b2⟩ := withHeight_L hV c (k + 1) (s + 1) fu N (by omega) (by omega) hS2
      rw [if_neg (nI_nle (by omega) (by omega)), b1, show hasP V k = true from decide_eq_true (by omega), if_pos rfl]
      exact ⟨M', by rw [show s + 1 + cntR (hasP V) (k + 1) c = s + (1 + cntR (hasP V) (k + 1) c) by omega], a2.tr b2⟩
theorem steps_cL (hV : OkV V) (hR : RC V 1 M) : ∀ (c r s fu : Nat), c = V.2.1 0 - r → 0 < r → r ≤ 13 → s < r → c < fu → fX2_steps_L4 1 M fu (nI s) (nI r) = some (nI (s + cntR (stE V) r c))
  | c, r, s, 0, _, _, _, _, h => absurd h (by omega)
  | 0, r, s, fu + 1, hc, h0, h13, hsr, hfu => by
    have hn := hV.n (w := 0) (by omega)
    show fX2_steps_B4 1 M _ _ _ = _
    unfold fX2_steps_B4
    rw [show (1 : Nat) + 1 = tk 1 0 from rfl, (hR.2 0 (by omega)).1, if_pos ((nI_leI (by omega) (by omega)).mpr (by omega))]
    rfl
  | c + 1, r, s, fu + 1, hc, h0, h13, hsr, hfu => by
    have hn := (hV.2 0 (by omega)).1
    rw [show cap 0 = 12 from rfl] at hn
    show fX2_steps_B4 1 M _ _ _ = _
    unfold fX2_steps_B4
    rw [show (1 : Nat) + 1 = tk 1 0 from rfl, (hR.2 0 (by omega)).1, if_neg (by rw [nI_leI (by omega) (by omega)]; omega), stepEnd_c hV hR h0 (by omega), bs, nIp1, nIp1, Int32.add_zero, cstep]
    cases h : stE V r
    · rw [if_pos (show b2 false = 0 from rfl), steps_cL hV hR c (r + 1) s fu (by omega) (by omega) (by omega) (by omega) (by omega), if_neg (by decide), Nat.zero_add]
    · rw [if_neg (show ¬ b2 true = 0 from by decide), steps_cL hV hR c (r + 1) (s + 1) fu (by omega) (by omega) (by omega) (by omega) (by omega), if_pos rfl, Nat.add_assoc]
def qM (m : Nat) (V : wV) (w r : Nat) : Bool := if m = 0 then gu V w r else if m = 2 then go V w r else false
def aM (m : Nat) (V : wV) (w : Nat) : Nat := if m = 1 then (lpL V w).length else cntF (qM m V w) (V.2.1 w)
theorem trk_ix {x : Nat} {M : wM} (hx : x < 4) : fX2_track 1 (nI x - (1 : Int32)) M = some (tk 1 x) := by
  rcases (show x = 0 ∨ x = 1 ∨ x = 2 ∨ x = 3 by omega) with rfl | rfl | rfl | rfl <;> rfl
end CN
end
section
/-! changes: the same answer on both sides, the same new views -/
theorem okP_of {x : Int32} (h : inR x 0 9 = true) : okP x := by
  obtain ⟨a, b⟩ := inR_iff.mp h
  exact ⟨a, b⟩
section CH
variable {V : wV} {hs : List wV} {tl : Nat} {tx : Nat → Int32}
end CH
end
section
/-! questions: on every memory that shows V the call answers r, and the memory shows V again -/
def t0 : Nat → Int32 := fun _ => 0
def I0 (V : wV) (hs : List wV) (M : wM) : Prop := IC V hs 0 t0 M
def Qy (V : wV) (hs : List wV) (f : wM → Option (Int32 × wM)) (r : Int32) : Prop := ∀ M, I0 V hs M → ∃ M2, f M = some (r, M2) ∧ I0 V hs M2
def Wp (V : wV) (hs : List wV) (o : Option (Bool × wM)) : Prop := ∃ M2, o = some (true, M2) ∧ I0 V hs M2
theorem Wp.q {V : wV} {hs : List wV} {f : wM → Option (Int32 × wM)} {r : Int32} {M : wM} {g : Int32 × wM → Option (Bool × wM)} (h : Qy V hs f r) (hM : I0 V hs M) (k : ∀ M2, I0 V hs M2 → Wp V hs (g (r, M2))) : Wp V hs ((f M).bind g) := by
  obtain ⟨M2, e, h2⟩ := h M hM
  rw [e]
  exact k M2 h2
theorem Wp.ret {V : wV} {hs : List wV} {M : wM} (hM : I0 V hs M) : Wp V hs (some (true, M)) := ⟨M, rfl, hM⟩
/-- the number of the cell w - 1; w is 0 for the base -/
def cx (w : Nat) : Int32 := nI w - 1
theorem cx_c (c : Nat) : cx (c + 1) = nI c := nIm1 (by omega)
theorem cx_in {w : Nat} (hw : w < 4) : inR (cx w) (-1) 2 = true ∧ wOf (cx w) = w := by
  rcases (show w = 0 ∨ w = 1 ∨ w = 2 ∨ w = 3 by omega) with rfl | rfl | rfl | rfl <;> exact ⟨by decide, by decide⟩
theorem inR_lt {n j : Nat} (hn : n ≤ 20) (hj : j < n) : inR (nI j) 0 (nI n - 1) = true := by
  rw [nIm1 (by omega)]
  exact inR_iff.mpr ⟨(nI_leI (a := 0) (by omega) (by omega)).mpr (by omega), (nI_leI (by omega) (by omega)).mpr (by omega)⟩
theorem rk_in {V : wV} {w j : Nat} (hV : OkV V) (hw : w < 4) (hj : j < V.2.1 w) : rk V (cx w) (nI j) = true := by
  unfold rk
  rw [(cx_in hw).1, (cx_in hw).2, inR_lt (hV.n hw) hj]
  rfl
theorem rk_c {V : wV} {c j : Nat} (hV : OkV V) (hc : c < 3) (hj : j < V.2.1 (c + 1)) : rk V (nI c) (nI j) = true := by
  have h := rk_in hV (show c + 1 < 4 by omega) hj
  rwa [cx_c] at h
theorem n4 {f : Nat} (h : f < 4) : ¬ nI f = (4 : Int32) ∧ ¬ nI f = (5 : Int32) := ⟨fun q => absurd ((nI_eq (b := 4) (by omega) (by omega)).mp q) (by omega), fun q => absurd ((nI_eq (b := 5) (by omega) (by omega)).mp q) (by omega)⟩
section QY
variable {V : wV} {hs : List wV}
theorem q_rd {w f j : Nat} (hV : OkV V) (hw : w < 4) (hf : f < 3 ∨ f < 4 ∧ 0 < w) (hj : j < V.2.1 w) : Qy V hs (fX6_reading (cx w) (nI j) (nI f)) (V.2.2 w f j) := by
  intro M h
  have hx := (cx_in hw).1
  have ew := (cx_in hw).2
  have h2 := rk_in hV hw hj
  have h3 : inR (nI f) 0 5 = true := inR_iff.mpr ⟨(nI_leI (a := 0) (by omega) (by omega)).mpr (by omega), (nI_leI (b := 5) (by omega) (by omega)).mpr (by omega)⟩
  obtain ⟨M2, a1, a2, a3, a4⟩ := refresh_c h
  have e : fX6_reading_J34 (cx w) (nI j) (nI f) M = some (V.2.2 w f j, M2) := by
    unfold fX6_reading_J34
    rw [a1, bs, if_neg (n4 (f := f) (by omega)).1, if_neg (n4 (f := f) (by omega)).2, track_w hx, bs, ew, gk_ok (kd_tk (show kd 1 = 2 from rfl) hw), bs, tv (kd_tk (show kd 1 = 2 from rfl) hw) (a3.2.1.2 _ hw) (hV.n hw) hj (by omega), bs]
  refine ⟨M2, ?_, a3⟩
  unfold fX6_reading
  rw [isReadingOf_c h, bs, h2, if_neg (by decide), within_c, bs, h3, if_neg (by decide)]
  by_cases e1 : cx w = (-1 : Int32)
  · rw [if_pos e1]
    by_cases e3 : nI f < (3 : Int32)
    · rw [if_pos e3]; exact e
    · exfalso
      have hf3 : f = 3 := by
        rcases Nat.lt_or_ge f 3 with q | q
        · exact absurd ((nI_ltI (b := 3) (by omega) (by omega)).mpr q) e3
        · omega
      obtain ⟨c, rfl⟩ : ∃ c, w = c + 1 := ⟨w - 1, by omega⟩
      rw [cx_c] at e1
      exact oI_ne (by omega) e1
  · rw [if_neg e1]; exact e
theorem q_gu {c j : Nat} (hV : OkV V) (hc : c < 3) (hj : j < V.2.1 (c + 1)) : Qy V hs (fX6_reading (nI c) (nI j) (4 : Int32)) (b2 (gu V (c + 1) j)) := by
  intro M h
  have h2 := rk_c hV hc hj
  obtain ⟨M2, a1, a2, a3, a4⟩ := refresh_c h
  refine ⟨M2, ?_, a3⟩
  unfold fX6_reading
  rw [isReadingOf_c h, bs, h2, if_neg (by decide), within_c, bs, show inR (4 : Int32) 0 5 = true from by decide, if_neg (by decide), if_neg (show ¬ nI c = (-1 : Int32) from oI_ne (by omega))]
  unfold fX6_reading_J34
  rw [a1, bs, if_pos rfl, surveyOf_c hc, bs, gk_ok (kd_sv hc), bs, isGust_v (kd_sv hc) (a4 c hc).1.1.2 (hV.n (by omega)) hj, bs]
  cases gu V (c + 1) j <;> rfl
theorem q_go {c j : Nat} (hV : OkV V) (hc : c < 3) (hj : j < V.2.1 (c + 1)) : Qy V hs (fX6_reading (nI c) (nI j) (5 : Int32)) (b2 (go V (c + 1) j)) := by
  intro M h
  have h2 := rk_c hV hc hj
  obtain ⟨M2, a1, a2, a3, a4⟩ := refresh_c h
  refine ⟨M2, ?_, a3⟩
  unfold fX6_reading
  rw [isReadingOf_c h, bs, h2, if_neg (by decide), within_c, bs, show inR (5 : Int32) 0 5 = true from by decide, if_neg (by decide), if_neg (show ¬ nI c = (-1 : Int32) from oI_ne (by omega))]
  unfold fX6_reading_J34
  rw [a1, bs, if_neg (show ¬ (5 : Int32) = 4 from by decide), if_pos rfl, surveyOf_c hc, bs, gk_ok (kd_sv hc), bs, isGood_v (kd_sv hc) hV (by omega) (a4 c hc).1.1.2 hj, bs]
  cases go V (c + 1) j <;> rfl
theorem q_cnt {w : Nat} (hw : w < 4) : Qy V hs (fX6_count (nI w)) (nI (V.2.1 w)) := by
  intro M h
  obtain ⟨M2, a1, a2, a3, a4⟩ := refresh_c h
  refine ⟨M2, ?_, a3⟩
  have J76 : fX6_count_J76 (nI w) M2 = some (nI (V.2.1 w), M2) := by
    unfold fX6_count_J76
    rw [trk_ix hw, bs, gk_ok (kd_tk (show kd 1 = 2 from rfl) hw), bs, (a3.2.1.2 w hw).1]
  unfold fX6_count
  rw [a1, bs]
  rcases (show w = 0 ∨ w = 1 ∨ w = 2 ∨ w = 3 by omega) with rfl | rfl | rfl | rfl <;> exact J76
/-- all loops, all good readings -/
def nLp (V : wV) : Nat := (lpL V 1).length + (lpL V 2).length + (lpL V 3).length
def nGo (V : wV) : Nat := cntF (go V 1) (V.2.1 1) + cntF (go V 2) (V.2.1 2) + cntF (go V 3) (V.2.1 3)
theorem q_cnt5 : Qy V hs (fX6_count (5 : Int32)) (nI (nLp V)) := by
  intro M h
  obtain ⟨M2, a1, a2, a3, a4⟩ := refresh_c h
  refine ⟨M2, ?_, a3⟩
  unfold fX6_count nLp
  rw [a1, bs, if_neg (by decide), if_neg (by decide), if_neg (by decide), if_neg (by decide), if_neg (by decide), if_pos rfl, show M2.1 66 11 = _ from (a4 0 (by omega)).1.2.1, show M2.1 75 11 = _ from (a4 1 (by omega)).1.2.1, show M2.1 84 11 = _ from (a4 2 (by omega)).1.2.1, nI_add, nI_add]
theorem q_cnt8 : Qy V hs (fX6_count (8 : Int32)) (nI hs.length) := by
  intro M h
  obtain ⟨M2, a1, a2, a3, a4⟩ := refresh_c h
  refine ⟨M2, ?_, a3⟩
  obtain ⟨-, -, ⟨o, q⟩, -⟩ := a3
  unfold fX6_count
  rw [a1, bs, if_neg (by decide), if_neg (by decide), if_neg (by decide), if_neg (by decide), if_neg (by decide), if_neg (by decide), if_neg (by decide), if_neg (by decide), if_pos rfl, q.2.2.1]
theorem q_cnt10 : Qy V hs (fX6_count (10 : Int32)) (V.1 0) := by
  intro M h
  obtain ⟨M2, a1, a2, a3, a4⟩ := refresh_c h
  refine ⟨M2, ?_, a3⟩
  unfold fX6_count
  rw [a1, bs, if_neg (by decide), if_neg (by decide), if_neg (by decide), if_neg (by decide), if_neg (by decide), if_neg (by decide), if_neg (by decide), if_neg (by decide), if_neg (by decide), if_neg (by decide), if_pos rfl]
  exact congrArg (fun z => some (z, M2)) (a3.2.1.1 0 (by omega))
theorem q_cnt13 : Qy V hs (fX6_count (13 : Int32)) (nI (nGo V)) := by
  intro M h
  obtain ⟨M2, a1, a2, a3, a4⟩ := refresh_c h
  refine ⟨M2, ?_, a3⟩
  unfold fX6_count nGo
  rw [a1, bs, if_neg (by decide), if_neg (by decide), if_neg (by decide), if_neg (by decide), if_neg (by decide), if_neg (by decide), if_neg (by decide), if_neg (by decide), if_neg (by decide), if_neg (by decide), if_neg (by decide), if_neg (by decide), if_neg (by decide), if_pos rfl, show M2.1 66 10 = _ from (a4 0 (by omega)).2.2.1, show M2.1 75 10 = _ from (a4 1 (by omega)).2.2.1, show M2.1 84 10 = _ from (a4 2 (by omega)).2.2.1, nI_add, nI_add]
theorem q_loops {c : Nat} (hc : c < 3) : Qy V hs (fX6_loops (nI c)) (nI (lpL V (c + 1)).length) := by
  intro M h
  obtain ⟨M2, a1, a2, a3, a4⟩ := refresh_c h
  refine ⟨M2, ?_, a3⟩
  unfold fX6_loops
  rw [isCell_c, bs, isC (x := nI c) hc, if_neg (by decide), a1, bs, surveyOf_c hc, bs, gk_ok (kd_sv hc), bs, (a4 c hc).1.2.1]
theorem lp_head {c k : Nat} {y r : Int32} (hV : OkV V) (hc : c < 3) (hk : k < (lpL V (c + 1)).length) (hr : ∀ M2, SVF V (c + 1) (sv c) M2 → (if y = (0 : Int32) then (fX3_begin (sv c) (nI k) M2).bind (fun v9 => some (v9, M2))
    else if y = (1 : Int32) then (fX3_end (sv c) (nI k) M2).bind (fun v11 => some (v11, M2))
    else if y = (2 : Int32) then (fX3_misclosure (sv c) (nI k) M2).bind (fun v13 => some (v13, M2))
    else if y = (3 : Int32) then (fX3_misclosureBySteps (sv c) (nI k) M2).bind (fun v15 => some (v15, M2))
    else if y = (4 : Int32) then (fX3_minutes (sv c) (nI k) M2).bind (fun v17 => some (v17, M2))
    else some ((-2000000001 : Int32), M2)) = some (r, M2)) : Qy V hs (fX6_loop (nI c) (nI k) y) r := by
  intro M h
  obtain ⟨M2, a1, a2, a3, a4⟩ := refresh_c h
  refine ⟨M2, ?_, a3⟩
  have hn := hV.n (show c + 1 < 4 by omega)
  have hl := lpL_len (V := V) (w := c + 1)
  unfold fX6_loop
  rw [isCell_c, bs, isC (x := nI c) hc, if_neg (by decide), a1, bs, surveyOf_c hc, bs, gk_ok (kd_sv hc), bs, within_c, bs, (a4 c hc).1.2.1, inR_lt (by omega) hk, if_neg (by decide)]
  exact hr M2 (a4 c hc)
theorem q_lb {c k : Nat} (hV : OkV V) (hc : c < 3) (hk : k < (lpL V (c + 1)).length) : Qy V hs (fX6_loop (nI c) (nI k) (0 : Int32)) (nI (lb V (c + 1) k)) :=
  lp_head hV hc hk (fun M2 hS => by rw [if_pos rfl, begin_v (kd_sv hc) (hV.n (by omega)) hS.1 hk, bs])
theorem q_le {c k : Nat} (hV : OkV V) (hc : c < 3) (hk : k < (lpL V (c + 1)).length) : Qy V hs (fX6_loop (nI c) (nI k) (1 : Int32)) (nI (le2 V (c + 1) k)) :=
  lp_head hV hc hk (fun M2 hS => by rw [if_neg (by decide), if_pos rfl, end_v (kd_sv hc) (hV.n (by omega)) hS.1 hk, bs])
theorem q_mis {c k : Nat} (hV : OkV V) (hc : c < 3) (hk : k < (lpL V (c + 1)).length) : Qy V hs (fX6_loop (nI c) (nI k) (2 : Int32)) (mis V (c + 1) k) :=
  lp_head hV hc hk (fun M2 hS => by rw [if_neg (by decide), if_neg (by decide), if_pos rfl, mis_v (kd_sv hc) (hV.n (by omega)) hS.1 hk, bs])
theorem q_by {c k : Nat} (hV : OkV V) (hc : c < 3) (hk : k < (lpL V (c + 1)).length) : Qy V hs (fX6_loop (nI c) (nI k) (3 : Int32)) (bySt V (c + 1) k) :=
  lp_head hV hc hk (fun M2 hS => by rw [if_neg (by decide), if_neg (by decide), if_neg (by decide), if_pos rfl, byS_v (kd_sv hc) hV (by omega) hS.1 hk, bs])
theorem q_mn {c k : Nat} (hV : OkV V) (hc : c < 3) (hk : k < (lpL V (c + 1)).length) : Qy V hs (fX6_loop (nI c) (nI k) (4 : Int32)) (mn V (c + 1) k) :=
  lp_head hV hc hk (fun M2 hS => by rw [if_neg (by decide), if_neg (by decide), if_neg (by decide), if_neg (by decide), if_pos rfl, minutes_v (kd_sv hc) (hV.n (by omega)) hS.1 hk, bs])
theorem q_op {c j : Nat} (hV : OkV V) (hc : c < 3) (hj : j < V.2.1 (c + 1)) : Qy V hs (fX6_openLoop (nI c) (nI j)) (if oV V (c + 1) j = -1 then -2000000004 else oV V (c + 1) j) := by
  intro M h
  obtain ⟨M2, a1, a2, a3, a4⟩ := refresh_c h
  refine ⟨M2, ?_, a3⟩
  unfold fX6_openLoop
  rw [isCell_c, bs, isC (x := nI c) hc, if_neg (by decide), isReadingOf_c h, bs, rk_c hV hc hj, if_neg (by decide), a1, bs, surveyOf_c hc, bs, gk_ok (kd_sv hc), bs, openOf_v (kd_sv hc) (hV.n (by omega)) (a4 c hc) hj, bs]
  by_cases e : oV V (c + 1) j = -1
  · rw [if_pos e, if_pos e]
  · rw [if_neg e, if_neg e]
theorem q_raw {c j : Nat} (hV : OkV V) (hc : c < 3) (hj : j < V.2.1 (c + 1)) : Qy V hs (fX6_raw (nI c) (nI j)) (hI (hh V (c + 1) j)) := by
  intro M h
  obtain ⟨M2, a1, a2, a3, a4⟩ := refresh_c h
  refine ⟨M2, ?_, a3⟩
  unfold fX6_raw
  rw [isCell_c, bs, isC (x := nI c) hc, if_neg (by decide), isReadingOf_c h, bs, rk_c hV hc hj, if_neg (by decide), a1, bs, surveyOf_c hc, bs, gk_ok (kd_sv hc), bs, raw_v (kd_sv hc) (hV.n (by omega)) (a4 c hc).1.1 hj, bs]
theorem q_cor {c j : Nat} (hV : OkV V) (hc : c < 3) (hj : j < V.2.1 (c + 1)) : Qy V hs (fX6_corrected (nI c) (nI j)) (cV V (c + 1) j) := by
  intro M h
  obtain ⟨M2, a1, a2, a3, a4⟩ := refresh_c h
  refine ⟨M2, ?_, a3⟩
  unfold fX6_corrected
  rw [isCell_c, bs, isC (x := nI c) hc, if_neg (by decide), isReadingOf_c h, bs, rk_c hV hc hj, if_neg (by decide), a1, bs, surveyOf_c hc, bs, gk_ok (kd_sv hc), bs, corrH_v (kd_sv hc) (hV.n (by omega)) (a4 c hc) hj, bs]
theorem q_pt {p : Nat} {y : Int32} (hV : OkV V) (hp : p < 10) (hy : y = 1 ∨ y = 2) : Qy V hs (fX6_point (nI p) y) (ptR (ptA V (nI p)) y) := by
  intro M h
  have h1 : inR (nI p) 0 9 = true := inR_iff.mpr ⟨(nI_leI (a := 0) (by omega) (by omega)).mpr (by omega), (nI_leI (b := 9) (by omega) (by omega)).mpr (by omega)⟩
  have h2 : inR y 0 2 = true := by rcases hy with rfl | rfl <;> decide
  have hnum := ptA_num (p := nI p) hV
  obtain ⟨M2, a1, a2, a3, a4⟩ := refresh_c h
  obtain ⟨M3, b1, b2', b3⟩ := gather_c (p := nI p) hV a4
  refine ⟨M3, ?_, a3.keepR (fun i hi h93 => (b2' i h93).1)⟩
  unfold fX6_point ptR
  rw [isPoint_c, bs, h1, if_neg (by decide), within_c, bs, h2, if_neg (by decide), a1, bs, b1, bs, b3.2.1]
  generalize ptA V (nI p) = s at hnum b3 ⊢
  by_cases y2 : y = 2
  · rw [if_pos y2, if_pos y2]
  · rw [if_neg y2, if_neg y2]
    by_cases e : s.2.1 = 0
    · rw [if_pos (show nI s.2.1 = 0 by rw [e]; rfl), if_pos e]
    · rw [if_neg (nI_ne0 (by omega) (by omega)), if_neg e]
      have y0 : ¬ y = 0 := by rcases hy with rfl | rfl <;> decide
      obtain ⟨g1, g2⟩ := b3.2.2 (by omega)
      rw [if_neg y0, if_neg y0]
      unfold fX1_spread
      rw [bs, g1, g2]
end QY
end
section
/-! what holds of every view: loops -/
section F1
variable {V : wV} {w : Nat}
theorem lpAt_pt {r : Nat} {L : Nat × Nat} (h : L ∈ lpAt V w r) : V.2.2 w 3 L.1 = V.2.2 w 3 r := by
  unfold lpAt at h
  split at h
  · cases e : lastV V w r with
    | none => rw [e] at h; cases h
    | some b =>
      rw [e] at h
      simp at h
      subst h
      have q := (dnF_lt e).2
      simp at q
      exact q.2
  · cases h
theorem lps_at {L : Nat × Nat} : ∀ {r}, L ∈ lps V w r → L ∈ lpAt V w L.2
  | 0, h => by cases h
  | r + 1, h => by
    unfold lps at h
    rcases List.mem_append.mp h with h | h
    · exact lps_at h
    · rw [(lpAt_mem h).1]; exact h
theorem lps_asc : ∀ {r k k' : Nat} {x x' : Nat × Nat}, k < k' → (lps V w r)[k]? = some x → (lps V w r)[k']? = some x' → x.2 < x'.2
  | 0, k, k', x, x', _, h, _ => by simp [lps] at h
  | r + 1, k, k', x, x', hk, h, h' => by
    unfold lps at h h'
    have hl := lpAt_len (V := V) (w := w) (r := r)
    have inl : ∀ {i : Nat} {y : Nat × Nat}, (lps V w r ++ lpAt V w r)[i]? = some y → i < (lps V w r).length → (lps V w r)[i]? = some y := fun hy hi => by rwa [List.getElem?_append_left hi] at hy
    have inr : ∀ {i : Nat} {y : Nat × Nat}, (lps V w r ++ lpAt V w r)[i]? = some y → (lps V w r).length ≤ i → y ∈ lpAt V w r ∧ i = (lps V w r).length := fun {i y} hy hi => by
      rw [List.getElem?_append_right hi] at hy
      refine ⟨List.mem_of_getElem? hy, ?_⟩
      rcases Nat.lt_or_ge (i - (lps V w r).length) (lpAt V w r).length with q | q
      · omega
      · rw [List.getElem?_eq_none q] at hy; cases hy
    rcases Nat.lt_or_ge k (lps V w r).length with a | a <;> rcases Nat.lt_or_ge k' (lps V w r).length with b | b
    · exact lps_asc hk (inl h a) (inl h' b)
    · have q := (lps_mem (List.mem_of_getElem? (inl h a))).2.1
      have q2 := (lpAt_mem (inr h' b).1).1
      omega
    · omega
    · have q := (inr h a).2
      have q2 := (inr h' b).2
      omega
theorem le2_asc {k k' : Nat} (hk : k < k') (h : k' < (lpL V w).length) : le2 V w k < le2 V w k' :=
  lps_asc (V := V) (w := w) (r := V.2.1 w) hk (lpL_k (show k < (lpL V w).length by omega)) (lpL_k h)
theorem lp_pt {k : Nat} (h : k < (lpL V w).length) : V.2.2 w 3 (lb V w k) = V.2.2 w 3 (le2 V w k) :=
  lpAt_pt (lps_at (L := (lb V w k, le2 V w k)) (List.mem_of_getElem? (lpL_k h)))
theorem lp_at {k : Nat} (h : k < (lpL V w).length) : lpAt V w (le2 V w k) ≠ [] := by
  have q := lps_at (L := (lb V w k, le2 V w k)) (List.mem_of_getElem? (lpL_k h))
  exact List.ne_nil_of_mem q
theorem foldF_last {σ : Type} {g : σ → Nat → σ} : ∀ {c k : Nat} {s : σ}, foldF g k (c + 1) s = g (foldF g k c s) (k + c)
  | 0, k, s => rfl
  | c + 1, k, s => by
    rw [show foldF g k (c + 1 + 1) s = foldF g (k + 1) (c + 1) (g s k) from rfl, foldF_last (c := c) (k := k + 1)]
    rw [show k + 1 + c = k + (c + 1) by omega]
    rfl
/-! the second way comes to the same -/
theorem tel (x y z b : Int32) : (x - b) + (y - x) = y - b := by
  rw [Int32.add_comm, Int32.sub_eq_add_neg (a := y) (b := x), Int32.add_assoc, Int32.sub_eq_add_neg (a := x), ← Int32.add_assoc (-x), Int32.add_left_neg, Int32.zero_add, ← Int32.sub_eq_add_neg]
theorem stS_tel {b : Int32} : ∀ {c k : Nat} {a : Int32 × Nat}, a.1 = hI (hh V w a.2) - b → (foldF (stS V w) k c a).1 = hI (hh V w (foldF (stS V w) k c a).2) - b
  | 0, k, a, h => h
  | c + 1, k, a, h => by
    rw [show foldF (stS V w) k (c + 1) a = foldF (stS V w) (k + 1) c (stS V w a k) from rfl]
    refine stS_tel (c := c) (k := k + 1) ?_
    unfold stS
    by_cases hg : go V w k = true
    · rw [if_pos hg]
      show a.1 + (hI (hh V w k) - hI (hh V w a.2)) = hI (hh V w k) - b
      rw [h]
      exact tel _ _ 0 _
    · rw [if_neg hg]; exact h
theorem by_mis {k : Nat} (h : k < (lpL V w).length) : mis V w k = bySt V w k := by
  obtain ⟨h1, h2, h3, h4⟩ := lpL_in h
  unfold mis bySt
  obtain ⟨c, hc⟩ : ∃ c, le2 V w k - lb V w k = c + 1 := ⟨le2 V w k - lb V w k - 1, by omega⟩
  rw [stS_tel (b := hI (hh V w (lb V w k))) (by show (0 : Int32) = _; rw [Int32.sub_self]), hc, foldF_last, show lb V w k + 1 + c = le2 V w k by omega]
  unfold stS
  rw [if_pos h4]
/-! the open loop -/
theorem opS_in {r k : Nat} {best : Option Nat} (hb : ∀ j, best = some j → lb V w j ≤ r ∧ r ≤ le2 V w j) : ∀ j, opS V w r best k = some j → lb V w j ≤ r ∧ r ≤ le2 V w j := by
  intro j h
  by_cases q : lb V w k ≤ r ∧ r ≤ le2 V w k
  · rcases opS_or (V := V) (w := w) (r := r) (best := best) (k := k) with e | e
    · rw [e] at h; cases h; exact q
    · rw [e] at h; exact hb j h
  · have e : opS V w r best k = best := by
      unfold opS
      refine if_neg (fun z => q ?_)
      simp only [Bool.and_eq_true, decide_eq_true_eq] at z
      exact z.1
    rw [e] at h; exact hb j h
theorem opF_in {r : Nat} : ∀ {c k : Nat} {best : Option Nat}, (∀ j, best = some j → lb V w j ≤ r ∧ r ≤ le2 V w j) → ∀ j, foldF (opS V w r) k c best = some j → lb V w j ≤ r ∧ r ≤ le2 V w j
  | 0, k, best, hb, j, h => hb j h
  | c + 1, k, best, hb, j, h => opF_in (c := c) (k := k + 1) (best := opS V w r best k) (opS_in hb) j h
theorem opn_in {r j : Nat} (h : opn V w r = some j) : lb V w j ≤ r ∧ r ≤ le2 V w j := opF_in (fun j h => by cases h) j h
theorem oV_some {r k : Nat} (hn : V.2.1 w ≤ 20) (hk : k < 2 ^ 31) (h : oV V w r = nI k) : go V w r = true ∧ opn V w r = some k := by
  unfold oV at h
  have hl := lpL_len (V := V) (w := w)
  by_cases hg : go V w r = true
  · rw [if_pos hg] at h
    refine ⟨hg, ?_⟩
    cases e : opn V w r with
    | none => rw [e] at h; exact absurd h.symm (oI_ne hk)
    | some j =>
      rw [e] at h
      have hj := opn_lt e
      rw [(nI_eq (by omega) hk).mp (show nI j = nI k from h)]
  · rw [if_neg hg] at h; exact absurd h.symm (oI_ne hk)
theorem dn_0 {x y : Int64} (h : x.toInt = 0) : dn x y = 0 := by
  unfold dn
  rw [h, Int.zero_ediv]
  rfl
theorem dn_mul {x y : Int64} (hy : 0 < y.toInt) (hx : x.toInt * y.toInt < 9223372036854775808) (hx2 : -9223372036854775808 ≤ x.toInt * y.toInt) : dn (x * y) y = x := by
  unfold dn
  rw [fb_mulL hx2 hx, Int.mul_ediv_cancel _ (by omega), Int64.ofInt_toInt]
theorem cor_lb {k : Nat} (h : opn V w (lb V w k) = some k) : cor V w (lb V w k) = hI (hh V w (lb V w k)) := by
  unfold cor
  rw [h]
  show hI (hh V w (lb V w k)) - (dn ((mis V w k).toInt64 * (V.2.2 w 0 (lb V w k) - V.2.2 w 0 (lb V w k)).toInt64) (mn V w k).toInt64).toInt32 = _
  rw [Int32.sub_self, dn_0 (by rw [show (0 : Int32).toInt64 = 0 from by decide, Int64.mul_zero]; decide)]
  show _ - (0 : Int32) = _
  exact Int32.sub_zero _
theorem sub_sub' (x y : Int32) : x - (x - y) = y := by
  rw [Int32.sub_eq_add_neg, Int32.neg_sub, Int32.sub_eq_add_neg, Int32.add_comm, Int32.add_assoc, Int32.add_left_neg, Int32.add_zero]
theorem cor_le {k : Nat} (hV : OkV V) (hw : w < 4) (hk : k < (lpL V w).length) (h : opn V w (le2 V w k) = some k) : cor V w (le2 V w k) = hI (hh V w (lb V w k)) := by
  have hm := mn_pos hV hw hk
  have r1 := fb_rng (mis V w k)
  have r2 := fb_rng (mn V w k)
  unfold cor
  rw [h]
  show hI (hh V w (le2 V w k)) - (dn ((mis V w k).toInt64 * (mn V w k).toInt64) (mn V w k).toInt64).toInt32 = _
  have p : -9223372036854775808 ≤ (mis V w k).toInt * (mn V w k).toInt ∧ (mis V w k).toInt * (mn V w k).toInt < 9223372036854775808 := by
    have a1 := Int.mul_le_mul_of_nonneg_right (show (mis V w k).toInt ≤ 2147483647 by omega) (show 0 ≤ (mn V w k).toInt by omega)
    have a2 := Int.mul_le_mul_of_nonneg_right (show -2147483648 ≤ (mis V w k).toInt by omega) (show 0 ≤ (mn V w k).toInt by omega)
    omega
  rw [dn_mul (by rw [toI64]; exact hm) (by rw [toI64, toI64]; exact p.2) (by rw [toI64, toI64]; exact p.1), Int32.toInt32_toInt64]
  unfold mis
  exact sub_sub' _ _
/-- both ends in their own open loop: their corrected heights are the raw height of the begin -/
theorem ends_cor {k : Nat} (hV : OkV V) (hw : w < 4) (hk : k < (lpL V w).length) (h1 : oV V w (lb V w k) = nI k) (h2 : oV V w (le2 V w k) = nI k) : cV V w (lb V w k) = hI (hh V w (lb V w k)) ∧ cV V w (le2 V w k) = hI (hh V w (lb V w k)) := by
  have hn := hV.n hw
  have hl := lpL_len (V := V) (w := w)
  obtain ⟨g1, e1⟩ := oV_some hn (by omega) h1
  obtain ⟨g2, e2⟩ := oV_some hn (by omega) h2
  unfold cV
  rw [if_pos g1, if_pos g2]
  exact ⟨cor_lb e1, cor_le hV hw hk e2⟩
/-! heights are small -/
theorem hI_b {r : Nat} (hV : OkV V) (hw : w < 4) (hr : r < V.2.1 w) (hg : go V w r = true) : ∃ z, hh V w r = some z ∧ (hI (hh V w r)).toInt = z ∧ -12500000 ≤ z ∧ z ≤ 21000000 := by
  unfold go at hg
  simp at hg
  obtain ⟨h1, -⟩ := hg
  obtain ⟨z, hz⟩ := Option.isSome_iff_exists.mp h1
  have hb := hh_b hV hw hr hz
  refine ⟨z, hz, ?_, hb⟩
  rw [hz]
  show (Int32.ofInt z).toInt = z
  exact fb_ofI (by omega) (by omega)
theorem cor_b {r : Nat} (hV : OkV V) (hw : w < 4) (hr : r < V.2.1 w) (hg : go V w r = true) : -100000000 ≤ (cor V w r).toInt ∧ (cor V w r).toInt ≤ 100000000 := by
  obtain ⟨z, -, h1, h2, h3⟩ := hI_b hV hw hr hg
  unfold cor
  cases e : opn V w r with
  | none => show _ ≤ (hI (hh V w r)).toInt ∧ (hI (hh V w r)).toInt ≤ _; omega
  | some k =>
    have hk := opn_lt e
    obtain ⟨i1, i2⟩ := opn_in e
    obtain ⟨l1, l2, g1, g2⟩ := lpL_in hk
    obtain ⟨zb, -, b1, b2, b3⟩ := hI_b hV hw (show lb V w k < V.2.1 w by omega) g1
    obtain ⟨ze, -, e1, e2, e3⟩ := hI_b hV hw l2 g2
    have em : (mis V w k).toInt = ze - zb := by unfold mis; rw [fb_subI (by omega) (by omega)]; omega
    have hm := mn_pos hV hw hk
    have tl := (hV.r hw (show lb V w k < V.2.1 w by omega)).1
    have te := (hV.r hw l2).1
    have tr := (hV.r hw hr).1
    have emn : (mn V w k).toInt = (V.2.2 w 0 (le2 V w k)).toInt - (V.2.2 w 0 (lb V w k)).toInt := by unfold mn; rw [fb_subI (by omega) (by omega)]
    have es : (V.2.2 w 0 r - V.2.2 w 0 (lb V w k)).toInt = (V.2.2 w 0 r).toInt - (V.2.2 w 0 (lb V w k)).toInt := fb_subI (by omega) (by omega)
    have o1 : (V.2.2 w 0 (lb V w k)).toInt ≤ (V.2.2 w 0 r).toInt := by
      rcases Nat.eq_or_lt_of_le i1 with q | q
      · rw [q]; exact Int.le_refl _
      · exact Int.le_of_lt (hV.t hw q hr)
    have o2 : (V.2.2 w 0 r).toInt ≤ (V.2.2 w 0 (le2 V w k)).toInt := by
      rcases Nat.eq_or_lt_of_le i2 with q | q
      · rw [q]; exact Int.le_refl _
      · exact Int.le_of_lt (hV.t hw q l2)
    show _ ≤ (hI (hh V w r) - (dn ((mis V w k).toInt64 * (V.2.2 w 0 r - V.2.2 w 0 (lb V w k)).toInt64) (mn V w k).toInt64).toInt32).toInt ∧ (hI (hh V w r) - (dn ((mis V w k).toInt64 * (V.2.2 w 0 r - V.2.2 w 0 (lb V w k)).toInt64) (mn V w k).toInt64).toInt32).toInt ≤ _
    have p := part_b (D := ze - zb) (x := (V.2.2 w 0 r).toInt - (V.2.2 w 0 (lb V w k)).toInt) (y := (mn V w k).toInt) (by omega) (by omega) hm
    have s0 : 0 ≤ (V.2.2 w 0 r).toInt - (V.2.2 w 0 (lb V w k)).toInt := by omega
    have m1 := Int.mul_le_mul_of_nonneg_right (show ze - zb ≤ 33500000 by omega) s0
    have m2 := Int.mul_le_mul_of_nonneg_right (show -33500000 ≤ ze - zb by omega) s0
    have ex : ((mis V w k).toInt64 * (V.2.2 w 0 r - V.2.2 w 0 (lb V w k)).toInt64).toInt = (ze - zb) * ((V.2.2 w 0 r).toInt - (V.2.2 w 0 (lb V w k)).toInt) := by
      rw [fb_mulL (by rw [toI64, toI64, em, es]; omega) (by rw [toI64, toI64, em, es]; omega), toI64, toI64, em, es]
    have eq : (dn ((mis V w k).toInt64 * (V.2.2 w 0 r - V.2.2 w 0 (lb V w k)).toInt64) (mn V w k).toInt64).toInt = (ze - zb) * ((V.2.2 w 0 r).toInt - (V.2.2 w 0 (lb V w k)).toInt) / (mn V w k).toInt := by
      rw [dn_toInt (by rw [toI64]; exact hm), ex, toI64]
    generalize dn ((mis V w k).toInt64 * (V.2.2 w 0 r - V.2.2 w 0 (lb V w k)).toInt64) (mn V w k).toInt64 = q at eq ⊢
    have qb : -33500000 ≤ q.toInt ∧ q.toInt ≤ 33500000 := by
      rw [eq]
      rcases Int.le_total 0 (ze - zb) with h | h
      · have := p.1 h; omega
      · have := p.2 h; omega
    have q32 := l2i_b (x := q) (by omega) (by omega)
    rw [fb_subI (by rw [q32]; omega) (by rw [q32]; omega), q32]
    omega
theorem go_kind {r : Nat} (hV : OkV V) (hw : w < 4) (hr : r < V.2.1 w) : go V w r = (!gu V w r && !decide (hI (hh V w r) = -2000000004)) := by
  have h := hI_nf hV hw hr
  unfold go
  cases e : (hh V w r).isSome
  · rw [decide_eq_true (h.mpr e), Bool.not_true, Bool.and_false, Bool.false_and]
  · rw [decide_eq_false (fun q => by have := h.mp q; rw [e] at this; cases this), Bool.not_false, Bool.and_true, Bool.true_and]
end F1
end
section
/-! what holds of every view: points and counts -/
section F2
variable {V : wV} {w : Nat}
/-- what the sum of a point holds: least and greatest in order and small, one alone -/
def wTok (s : wT) : Prop := 0 < s.2.1 → (-100000000 ≤ s.2.2.1.toInt ∧ s.2.2.1.toInt ≤ s.2.2.2.toInt ∧ s.2.2.2.toInt ≤ 100000000) ∧ (s.2.1 = 1 → s.2.2.1 = s.2.2.2)
theorem adS_ok {s : wT} {h : Int32} (hs : wTok s) (h1 : -100000000 ≤ h.toInt) (h2 : h.toInt ≤ 100000000) : wTok (adS s h) := by
  intro _
  unfold adS
  by_cases e : s.2.1 = 0
  · simp only [e, if_true]
    exact ⟨⟨h1, Int.le_refl _, h2⟩, fun _ => trivial⟩
  · simp only [if_neg e]
    obtain ⟨⟨a1, a2, a3⟩, -⟩ := hs (by omega)
    refine ⟨?_, fun q => absurd q (by omega)⟩
    by_cases c1 : h < s.2.2.1 <;> by_cases c2 : s.2.2.2 < h
    · have q1 := Int32.lt_iff_toInt_lt.mp c1
      have q2 := Int32.lt_iff_toInt_lt.mp c2
      simp only [if_pos c1, if_pos c2]; omega
    · have q1 := Int32.lt_iff_toInt_lt.mp c1
      simp only [if_pos c1, if_neg c2]; omega
    · have q1 : ¬ h.toInt < s.2.2.1.toInt := fun q => c1 (Int32.lt_iff_toInt_lt.mpr q)
      have q2 := Int32.lt_iff_toInt_lt.mp c2
      simp only [if_neg c1, if_pos c2]; omega
    · simp only [if_neg c1, if_neg c2]; omega
theorem ptF_ok {p : Int32} (hV : OkV V) (hw : w < 4) : ∀ {c k : Nat} {s : wT}, k + c ≤ V.2.1 w → wTok s → wTok (foldF (ptS V w p) k c s)
  | 0, k, s, _, hs => hs
  | c + 1, k, s, hk, hs => by
    rw [show foldF (ptS V w p) k (c + 1) s = foldF (ptS V w p) (k + 1) c (ptS V w p s k) from rfl]
    refine ptF_ok hV hw (c := c) (k := k + 1) (by omega) ?_
    unfold ptS
    by_cases q : inP V w p k = true
    · rw [if_pos q]
      have hg : go V w k = true := by
        unfold inP at q
        simp only [Bool.and_eq_true] at q
        exact q.1.1
      have b := cor_b hV hw (show k < V.2.1 w by omega) hg
      exact adS_ok hs b.1 b.2
    · rw [if_neg q]; exact hs
theorem ptA_ok {p : Int32} (hV : OkV V) : wTok (ptA V p) := by
  unfold ptA ptW
  exact ptF_ok hV (by omega) (by omega) (ptF_ok hV (by omega) (by omega) (ptF_ok hV (by omega) (by omega) (fun q => absurd q (by decide))))
theorem spread_ok {p : Int32} (hV : OkV V) (h : (ptA V p).2.1 ≠ 0) : (0 : Int32) ≤ ptR (ptA V p) 1 ∧ ((ptA V p).2.1 = 1 → ptR (ptA V p) 1 = 0) := by
  obtain ⟨⟨a1, a2, a3⟩, a4⟩ := ptA_ok (p := p) hV (by omega)
  unfold ptR
  rw [if_neg (by decide), if_neg h, if_neg (by decide)]
  refine ⟨?_, fun q => by rw [a4 q, Int32.sub_self]⟩
  rw [Int32.le_iff_toInt_le, show (0 : Int32).toInt = 0 from by decide, fb_subI (by omega) (by omega)]
  omega
theorem ptF_cnt {p : Int32} : ∀ {c k : Nat} {s : wT}, (foldF (ptS V w p) k c s).2.1 = s.2.1 + cntR (inP V w p) k c
  | 0, k, s => rfl
  | c + 1, k, s => by
    rw [show foldF (ptS V w p) k (c + 1) s = foldF (ptS V w p) (k + 1) c (ptS V w p s k) from rfl, ptF_cnt (c := c) (k := k + 1), cstep]
    unfold ptS
    by_cases q : inP V w p k = true
    · rw [if_pos q, if_pos q]
      show s.2.1 + 1 + _ = _
      omega
    · rw [if_neg q, if_neg q]
      omega
/-- readings that give something, and all of them by points -/
def gv (V : wV) (w r : Nat) : Bool := go V w r && !endsO V w r
def nPt (V : wV) (p : Nat) : Nat := (ptA V (nI p)).2.1
theorem nPt_eq {p : Nat} : nPt V p = cntF (inP V 1 (nI p)) (V.2.1 1) + cntF (inP V 2 (nI p)) (V.2.1 2) + cntF (inP V 3 (nI p)) (V.2.1 3) := by
  unfold nPt ptA ptW
  rw [ptF_cnt, ptF_cnt, ptF_cnt, cntR_0, cntR_0, cntR_0]
  dsimp only
  omega
def sm (f : Nat → Nat) : Nat → Nat
  | 0 => 0
  | p + 1 => sm f p + f p
theorem sm_add {f g h : Nat → Nat} (e : ∀ p, f p = g p + h p) : ∀ n, sm f n = sm g n + sm h n
  | 0 => rfl
  | n + 1 => by
    unfold sm
    rw [sm_add e n, e n]
    omega
theorem sm_0 : ∀ n, sm (fun _ => 0) n = 0
  | 0 => rfl
  | n + 1 => by unfold sm; rw [sm_0 n]
theorem sm_le {f : Nat → Nat} {b : Nat} (h : ∀ p, f p ≤ b) : ∀ n, sm f n ≤ n * b
  | 0 => Nat.zero_le _
  | n + 1 => by
    have := sm_le h n
    have := h n
    unfold sm
    rw [Nat.succ_mul]
    omega
theorem pt_num {r : Nat} (hV : OkV V) (hw : w < 4) (hr : r < V.2.1 w) : ∃ j : Nat, j < 10 ∧ V.2.2 w 3 r = nI j := by
  obtain ⟨-, -, -, -, -, -, h1, h2⟩ := (hV.2 w hw).2.1 r hr
  obtain ⟨j, hj, e⟩ := nI_of2 (x := V.2.2 w 3 r) (M := 9) (n := 9) (by decide) (Int32.not_lt.mpr h1) h2
  exact ⟨j, by omega, e⟩
theorem one_pt {r : Nat} (hV : OkV V) (hw : w < 4) (hr : r < V.2.1 w) : sm (fun p => if inP V w (nI p) r = true then 1 else 0) 10 = if gv V w r = true then 1 else 0 := by
  obtain ⟨j, hj, e⟩ := pt_num hV hw hr
  unfold inP gv
  rw [e]
  cases go V w r
  · simp only [Bool.false_and, Bool.false_eq_true, if_false]; exact sm_0 10
  · cases endsO V w r
    · simp only [Bool.true_and, Bool.not_false, Bool.and_true, decide_eq_true_eq, if_true]
      rcases (show j = 0 ∨ j = 1 ∨ j = 2 ∨ j = 3 ∨ j = 4 ∨ j = 5 ∨ j = 6 ∨ j = 7 ∨ j = 8 ∨ j = 9 by omega) with rfl | rfl | rfl | rfl | rfl | rfl | rfl | rfl | rfl | rfl <;> decide
    · simp only [Bool.not_true, Bool.and_false, Bool.false_eq_true, if_false]; exact sm_0 10
theorem all_pt (hV : OkV V) (hw : w < 4) : ∀ n, n ≤ V.2.1 w → sm (fun p => cntF (inP V w (nI p)) n) 10 = cntF (gv V w) n
  | 0, _ => sm_0 10
  | n + 1, hn => by
    rw [sm_add (f := fun p => cntF (inP V w (nI p)) (n + 1)) (g := fun p => cntF (inP V w (nI p)) n) (h := fun p => if inP V w (nI p) n = true then 1 else 0) (fun p => rfl) 10, all_pt hV hw n (by omega), one_pt hV hw (by omega)]
    rfl
def nGv (V : wV) : Nat := cntF (gv V 1) (V.2.1 1) + cntF (gv V 2) (V.2.1 2) + cntF (gv V 3) (V.2.1 3)
theorem sum_pt (hV : OkV V) : sm (nPt V) 10 = nGv V := by
  rw [sm_add (f := nPt V) (g := fun p => cntF (inP V 1 (nI p)) (V.2.1 1) + cntF (inP V 2 (nI p)) (V.2.1 2)) (h := fun p => cntF (inP V 3 (nI p)) (V.2.1 3)) (fun p => nPt_eq) 10, sm_add (f := fun p => cntF (inP V 1 (nI p)) (V.2.1 1) + cntF (inP V 2 (nI p)) (V.2.1 2)) (fun p => rfl) 10, all_pt hV (by omega) _ (Nat.le_refl _), all_pt hV (by omega) _ (Nat.le_refl _), all_pt hV (by omega) _ (Nat.le_refl _)]
  rfl
theorem cntF_split {a b c : Nat → Bool} (h1 : ∀ r, c r = true → a r = true) (h2 : ∀ r, a r = true → c r = true ∨ b r = true) : ∀ n, cntF c n ≤ cntF a n ∧ cntF a n ≤ cntF c n + cntF b n
  | 0 => ⟨Nat.le_refl _, Nat.zero_le _⟩
  | n + 1 => by
    obtain ⟨q1, q2⟩ := cntF_split h1 h2 n
    have k1 := h1 n
    have k2 := h2 n
    unfold cntF
    cases ha : a n <;> cases hb : b n <;> cases hc : c n <;> simp_all <;> omega
theorem ends_lp {n : Nat} (hV : OkV V) (hw : w < 4) : ∀ m, m ≤ V.2.1 w → cntF (fun r => go V w r && endsO V w r) m ≤ (lps V w m).length
  | 0, _ => Nat.zero_le _
  | m + 1, hm => by
    have ih := ends_lp (n := n) hV hw m (by omega)
    unfold lps cntF
    rw [List.length_append]
    by_cases q : (go V w m && endsO V w m) = true
    · rw [if_pos q]
      simp only [Bool.and_eq_true] at q
      have q2 := q.2
      unfold endsO at q2
      cases e : opn V w m with
      | none => rw [e] at q2; cases q2
      | some k =>
        rw [e] at q2
        have hl : le2 V w k = m := of_decide_eq_true q2
        have := lp_at (opn_lt e)
        rw [hl] at this
        have := List.length_pos_iff.mpr this
        omega
    · rw [if_neg q]; omega
theorem gv_b (hV : OkV V) (hw : w < 4) : cntF (gv V w) (V.2.1 w) ≤ cntF (go V w) (V.2.1 w) ∧ cntF (go V w) (V.2.1 w) ≤ cntF (gv V w) (V.2.1 w) + (lpL V w).length := by
  have h := cntF_split (a := go V w) (b := fun r => go V w r && endsO V w r) (c := gv V w) (fun r h => by unfold gv at h; simp only [Bool.and_eq_true] at h; exact h.1) (fun r h => by
    unfold gv
    rw [h]
    cases endsO V w r
    · exact Or.inl rfl
    · exact Or.inr rfl) (V.2.1 w)
  have h2 := ends_lp (n := 0) hV hw (V.2.1 w) (Nat.le_refl _)
  have e : (lpL V w).length = (lps V w (V.2.1 w)).length := rfl
  omega
theorem all_b (hV : OkV V) : nGv V ≤ nGo V ∧ nGo V ≤ nGv V + nLp V ∧ nGo V ≤ 60 ∧ nLp V ≤ 60 := by
  have a := gv_b hV (show 1 < 4 by omega)
  have b := gv_b hV (show 2 < 4 by omega)
  have c := gv_b hV (show 3 < 4 by omega)
  have n1 := hV.n (show 1 < 4 by omega)
  have n2 := hV.n (show 2 < 4 by omega)
  have n3 := hV.n (show 3 < 4 by omega)
  have c1 := cntF_le (p := go V 1) (V.2.1 1)
  have c2 := cntF_le (p := go V 2) (V.2.1 2)
  have c3 := cntF_le (p := go V 3) (V.2.1 3)
  have l1 := lpL_len (V := V) (w := 1)
  have l2 := lpL_len (V := V) (w := 2)
  have l3 := lpL_len (V := V) (w := 3)
  unfold nGv nGo nLp
  omega
end F2
end
section
/-! what holds of every view: the base at its own readings -/
section F3
variable {V : wV}
theorem bk_at {r : Nat} (hV : OkV V) (hr : r < V.2.1 0) : bk V (V.2.2 0 0 r) = r := by
  obtain ⟨a1, a2, a3, a4⟩ := fstF_spec (p := fun q => decide (V.2.2 0 0 r ≤ V.2.2 0 0 q)) (c := V.2.1 0) (k := 0)
  rw [show fstF (fun q => decide (V.2.2 0 0 r ≤ V.2.2 0 0 q)) 0 (V.2.1 0) = bk V (V.2.2 0 0 r) from rfl] at a1 a2 a3 a4
  rcases Nat.lt_trichotomy (bk V (V.2.2 0 0 r)) r with h | h | h
  · exfalso
    have q : V.2.2 0 0 r ≤ V.2.2 0 0 (bk V (V.2.2 0 0 r)) := of_decide_eq_true (a4 (by omega))
    have q1 := Int32.le_iff_toInt_le.mp q
    have q2 := hV.t (show 0 < 4 by omega) h hr
    omega
  · exact h
  · exfalso
    have q : ¬ V.2.2 0 0 r ≤ V.2.2 0 0 r := of_decide_eq_false (a3 r (by omega) h)
    exact q (Int32.le_refl _)
theorem hasB_at {r : Nat} (hV : OkV V) (hr : r < V.2.1 0) : hasB V (V.2.2 0 0 r) = true := hasB_iff.mpr (by rw [bk_at hV hr]; exact ⟨hr, Or.inl rfl⟩)
theorem bv_at {r f : Nat} (hV : OkV V) (hr : r < V.2.1 0) : bv V f (V.2.2 0 0 r) = (V.2.2 0 f r).toInt := by
  unfold bv
  rw [bk_at hV hr, if_pos rfl]
theorem hgt_at {r : Nat} (hV : OkV V) (hr : r < V.2.1 0) : hI (hgt V (V.2.2 0 0 r) (V.2.2 0 1 r) (V.2.2 0 2 r)) = V.1 0 := by
  unfold hgt
  rw [if_pos (hasB_at hV hr), bv_at hV hr, bv_at hV hr]
  show Int32.ofInt (rawZ _ _ _ _ _) = _
  unfold rawZ
  rw [Int.sub_self, Int.mul_zero, Int.zero_ediv, Int.add_zero]
  exact Int32.ofInt_toInt _
theorem okR_at {r : Nat} (hV : OkV V) (hr : r < V.2.1 0) : okR (V.2.2 0 0 r) (V.2.2 0 1 r) (V.2.2 0 2 r) = true := by
  obtain ⟨h1, h2, h3, h4, h5, h6, -, -⟩ := (hV.2 0 (by omega)).2.1 r hr
  unfold okR
  rw [inR_iff.mpr ⟨h1, h2⟩, inR_iff.mpr ⟨h3, h4⟩, inR_iff.mpr ⟨h5, h6⟩]
  rfl
theorem isTime_c {t : Int32} {M : wM} : fX6_isTime t M = some (inR t 0 10000) := by
  unfold fX6_isTime
  simp only [within_c, bs]
theorem baseAt_at {hs : List wV} {r y : Nat} {M : wM} (hV : OkV V) (hr : r < V.2.1 0) (hy : y < 2) (h : I0 V hs M) : fX6_baseAt (V.2.2 0 0 r) (nI y) M = some (V.2.2 0 (y + 1) r) := by
  obtain ⟨h1, h2, -⟩ := (hV.2 0 (by omega)).2.1 r hr
  have h3 : inR (nI y) 0 1 = true := inR_iff.mpr ⟨(nI_leI (a := 0) (by omega) (by omega)).mpr (by omega), (nI_leI (b := 1) (by omega) (by omega)).mpr (by omega)⟩
  unfold fX6_baseAt
  rw [isTime_c, bs, inR_iff.mpr ⟨h1, h2⟩, if_neg (by decide), within_c, bs, h3, if_neg (by decide)]
  have key : ∀ f, f < 3 → fX2_baseValue 1 (V.2.2 0 0 r) (nI f) M = some (V.2.2 0 f r) := fun f hf => by
    rw [baseValue_s (show kd 1 = 2 from rfl) hV h.2.1 hf, if_pos (hasB_at hV hr), bv_at hV hr, Int32.ofInt_toInt]
  unfold fX6_baseAt_J33
  rcases (show y = 0 ∨ y = 1 by omega) with rfl | rfl
  · rw [if_pos (show nI 0 = (0 : Int32) from rfl), show (1 : Int32) = nI 1 from rfl, key 1 (by omega), bs]
  · rw [if_neg (show ¬ nI 1 = (0 : Int32) from by decide), show (2 : Int32) = nI 2 from rfl, key 2 (by omega), bs]
theorem would_at {hs : List wV} {r : Nat} {M : wM} (hV : OkV V) (hr : r < V.2.1 0) (h : I0 V hs M) : fX6_would (V.2.2 0 0 r) (V.2.2 0 1 r) (V.2.2 0 2 r) M = some (V.1 0) := by
  have d := hV.r (w := 0) (by omega) hr
  unfold fX6_would
  rw [isReading_c, bs, okR_at hV hr, if_neg (by decide), heightAt_s (show kd 1 = 2 from rfl) hV h.2.1 d.2.1 d.2.2, bs, hgt_at hV hr]
end F3
end
section
/-! a base that is set higher -/
section F4
variable {V : wV} {d : Int32}
def upV (V : wV) (d : Int32) : wV := setV V 0 (V.1 0 + d)
theorem up_hgt {t p c : Int32} (hd : (V.1 0 + d).toInt = (V.1 0).toInt + d.toInt) : hgt (upV V d) t p c = (hgt V t p c).map (fun z => z + d.toInt) := by
  have e0 : (upV V d).1 0 = V.1 0 + d := rfl
  have e1 : hasB (upV V d) t = hasB V t := rfl
  have e2 : ∀ f, bv (upV V d) f t = bv V f t := fun _ => rfl
  unfold hgt
  rw [e0, e1, e2, e2, hd]
  by_cases h : hasB V t = true
  · rw [if_pos h, if_pos h]
    show some _ = some _
    unfold rawZ
    congr 1
    dsimp only
    omega
  · rw [if_neg h, if_neg h]; rfl
theorem up_hh {w r : Nat} (hd : (V.1 0 + d).toInt = (V.1 0).toInt + d.toInt) : hh (upV V d) w r = (hh V w r).map (fun z => z + d.toInt) := up_hgt hd
theorem up_gu {w r : Nat} : gu (upV V d) w r = gu V w r := rfl
theorem up_go {w : Nat} (hd : (V.1 0 + d).toInt = (V.1 0).toInt + d.toInt) : go (upV V d) w = go V w := by
  funext r
  unfold go
  rw [up_hh hd, up_gu, Option.isSome_map]
theorem up_lps {w : Nat} (hd : (V.1 0 + d).toInt = (V.1 0).toInt + d.toInt) : ∀ r, lps (upV V d) w r = lps V w r
  | 0 => rfl
  | r + 1 => by
    unfold lps
    rw [up_lps hd r]
    congr 1
    unfold lpAt lastV
    rw [up_go hd]
    rfl
theorem up_lpL {w : Nat} (hd : (V.1 0 + d).toInt = (V.1 0).toInt + d.toInt) : lpL (upV V d) w = lpL V w := up_lps hd _
theorem up_lb {w k : Nat} (hd : (V.1 0 + d).toInt = (V.1 0).toInt + d.toInt) : lb (upV V d) w k = lb V w k := by unfold lb; rw [up_lpL hd]
theorem up_le {w k : Nat} (hd : (V.1 0 + d).toInt = (V.1 0).toInt + d.toInt) : le2 (upV V d) w k = le2 V w k := by unfold le2; rw [up_lpL hd]
theorem up_mn {w k : Nat} (hd : (V.1 0 + d).toInt = (V.1 0).toInt + d.toInt) : mn (upV V d) w k = mn V w k := by unfold mn; rw [up_lb hd, up_le hd]; rfl
theorem up_opS {w r : Nat} (hd : (V.1 0 + d).toInt = (V.1 0).toInt + d.toInt) : opS (upV V d) w r = opS V w r := by
  funext best k
  unfold opS
  rw [up_lb hd, up_le hd]
  cases best with
  | none => rfl
  | some j =>
    show (if (_ && _ && decide (mn (upV V d) w k < mn (upV V d) w j)) = true then _ else _) = _
    rw [up_mn hd, up_mn hd]
theorem up_opn {w r : Nat} (hd : (V.1 0 + d).toInt = (V.1 0).toInt + d.toInt) : opn (upV V d) w r = opn V w r := by unfold opn; rw [up_opS hd, up_lpL hd]
theorem up_hI {w r : Nat} (hd : (V.1 0 + d).toInt = (V.1 0).toInt + d.toInt) (hs : (hh V w r).isSome = true) : hI (hh (upV V d) w r) = hI (hh V w r) + d := by
  obtain ⟨z, hz⟩ := Option.isSome_iff_exists.mp hs
  rw [up_hh hd, hz]
  show Int32.ofInt (z + d.toInt) = Int32.ofInt z + d
  rw [Int32.ofInt_add, Int32.ofInt_toInt]
theorem up_none {w r : Nat} (hd : (V.1 0 + d).toInt = (V.1 0).toInt + d.toInt) (hs : (hh V w r).isSome = false) : hI (hh (upV V d) w r) = -2000000004 := by
  rw [up_hh hd]
  cases e : hh V w r with
  | none => rfl
  | some z => rw [e] at hs; cases hs
theorem go_some {w r : Nat} (h : go V w r = true) : (hh V w r).isSome = true := by
  unfold go at h
  simp only [Bool.and_eq_true] at h
  exact h.1
theorem dd_sub (x y d : Int32) : (x + d) - (y + d) = x - y := by
  rw [Int32.sub_eq_add_neg, Int32.neg_add, Int32.sub_eq_add_neg, Int32.sub_eq_add_neg, Int32.add_assoc, ← Int32.add_assoc d, Int32.add_comm d, Int32.add_assoc (-y), Int32.add_right_neg, Int32.add_zero]
theorem dd_sub2 (x q d : Int32) : (x + d) - q = (x - q) + d := by
  rw [Int32.sub_eq_add_neg, Int32.sub_eq_add_neg, Int32.add_assoc, Int32.add_comm d, ← Int32.add_assoc]
theorem up_mis {w k : Nat} (hd : (V.1 0 + d).toInt = (V.1 0).toInt + d.toInt) (hk : k < (lpL V w).length) : mis (upV V d) w k = mis V w k := by
  obtain ⟨-, -, g1, g2⟩ := lpL_in hk
  unfold mis
  rw [up_le hd, up_lb hd, up_hI hd (go_some g1), up_hI hd (go_some g2), dd_sub]
theorem up_cor {w r : Nat} (hd : (V.1 0 + d).toInt = (V.1 0).toInt + d.toInt) (hg : go V w r = true) : cor (upV V d) w r = cor V w r + d := by
  unfold cor
  rw [up_opn hd]
  cases e : opn V w r with
  | none => exact up_hI hd (go_some hg)
  | some k =>
    show hI (hh (upV V d) w r) - (dn ((mis (upV V d) w k).toInt64 * (V.2.2 w 0 r - V.2.2 w 0 (lb (upV V d) w k)).toInt64) (mn (upV V d) w k).toInt64).toInt32 = (hI (hh V w r) - (dn ((mis V w k).toInt64 * (V.2.2 w 0 r - V.2.2 w 0 (lb V w k)).toInt64) (mn V w k).toInt64).toInt32) + d
    rw [up_mis hd (opn_lt e), up_lb hd, up_mn hd, up_hI hd (go_some hg), dd_sub2]
theorem up_raw {w r : Nat} (hV : OkV V) (hw : w < 4) (hr : r < V.2.1 w) (hd : (V.1 0 + d).toInt = (V.1 0).toInt + d.toInt) : hI (hh (upV V d) w r) = if hI (hh V w r) = -2000000004 then hI (hh V w r) else hI (hh V w r) + d := by
  have h := hI_nf hV hw hr
  cases e : (hh V w r).isSome
  · rw [if_pos (h.mpr e), up_none hd e, h.mpr e]
  · rw [if_neg (fun q => by have := h.mp q; rw [e] at this; cases this), up_hI hd e]
theorem up_cV {w r : Nat} (hV : OkV V) (hw : w < 4) (hr : r < V.2.1 w) (hd : (V.1 0 + d).toInt = (V.1 0).toInt + d.toInt) : cV (upV V d) w r = if cV V w r = -2000000004 then cV V w r else cV V w r + d := by
  unfold cV
  rw [up_go hd]
  by_cases hg : go V w r = true
  · rw [if_pos hg, if_pos hg]
    have b := cor_b hV hw hr hg
    rw [if_neg (fun q => by
      have q2 := congrArg Int32.toInt q
      rw [show (-2000000004 : Int32).toInt = -2000000004 from by decide] at q2
      omega), up_cor hd hg]
  · rw [if_neg hg, if_neg hg, if_pos rfl]
end F4
end
section
/-! holds: every comparison of it is right, on every view -/
theorem one_c (c : Nat) : (1 : Int32) + nI c = nI (c + 1) := by rw [show (1 : Int32) = nI 1 from rfl, nI_add, Nat.add_comm]
theorem one_cx (w : Nat) : (1 : Int32) + cx w = nI w := by
  unfold cx
  rw [Int32.add_comm, Int32.sub_add_cancel]
theorem cx_1 (w : Nat) : cx w + (1 : Int32) = cx (w + 1) := by
  rw [cx_c]
  unfold cx
  exact Int32.sub_add_cancel _ _
section HO
variable {V : wV} {hs : List wV}
theorem q_time {w j : Nat} (hV : OkV V) (hw : w < 4) (hj : j < V.2.1 w) : Qy V hs (fX6_reading (cx w) (nI j) (0 : Int32)) (V.2.2 w 0 j) := q_rd (f := 0) hV hw (Or.inl (by omega)) hj
theorem q_point {c j : Nat} (hV : OkV V) (hc : c < 3) (hj : j < V.2.1 (c + 1)) : Qy V hs (fX6_reading (nI c) (nI j) (3 : Int32)) (V.2.2 (c + 1) 3 j) := by
  have h := q_rd (hs := hs) (w := c + 1) (f := 3) hV (by omega) (Or.inr ⟨by omega, by omega⟩) hj
  rw [cx_c] at h
  exact h
theorem q_cntc {c : Nat} (hc : c < 3) : Qy V hs (fX6_count ((1 : Int32) + nI c)) (nI (V.2.1 (c + 1))) := by
  rw [one_c]; exact q_cnt (by omega)
theorem q_cntx {w : Nat} (hw : w < 4) : Qy V hs (fX6_count ((1 : Int32) + cx w)) (nI (V.2.1 w)) := by
  rw [one_cx]; exact q_cnt hw
theorem q_num {p : Nat} (hV : OkV V) (hp : p < 10) : Qy V hs (fX6_point (nI p) (2 : Int32)) (nI (nPt V p)) := by
  have h := q_pt (hs := hs) (y := 2) hV hp (Or.inr rfl)
  unfold ptR at h
  rw [if_pos rfl] at h
  exact h
theorem h463 {M : wM} (hV : OkV V) (hM : I0 V hs M) : Wp V hs (fL_holds_J463 1 (nI (nGv V)) M) := by
  obtain ⟨b1, b2, b3, b4⟩ := all_b hV
  unfold fL_holds_J463
  rw [if_neg (by decide)]
  refine Wp.q q_cnt13 hM (fun M h => ?_)
  dsimp only
  rw [if_neg (by rw [nI_ltI (by omega) (by omega)]; omega)]
  refine Wp.q q_cnt13 h (fun M h => ?_)
  dsimp only
  refine Wp.q q_cnt5 h (fun M h => ?_)
  dsimp only
  rw [if_neg (by
    rw [Int32.lt_iff_toInt_lt, pk_sub_toInt (by omega) (by omega), nI_toInt (by omega)]
    omega)]
  exact Wp.ret h
theorem h395 (hV : OkV V) : ∀ (c k fu : Nat) (M : wM), k + c = 10 → c < fu → I0 V hs M → Wp V hs (fL_holds_L395 fu 1 (nI (sm (nPt V) k)) (nI k) M)
  | c, k, 0, M, _, h, _ => absurd h (by omega)
  | 0, k, fu + 1, M, hk, hfu, hM => by
    show Wp V hs (fL_holds_B395 _ 1 (nI (sm (nPt V) k)) (nI k) M)
    have e : k = 10 := by omega
    subst e
    unfold fL_holds_B395
    rw [if_pos (show (10 : Int32) ≤ nI 10 from by decide), sum_pt hV]
    exact h463 hV hM
  | c + 1, k, fu + 1, M, hk, hfu, hM => by
    have ih : ∀ M, I0 V hs M → Wp V hs (fL_holds_L395 fu 1 (nI (sm (nPt V) k) + nI (nPt V k)) (nI k + 1) M) := fun M h => by
      rw [nI_add, nIp1]
      exact h395 hV c (k + 1) fu M (by omega) (by omega) h
    have hp : k < 10 := by omega
    have hb : nPt V k ≤ 60 := ptA_num hV
    show Wp V hs (fL_holds_B395 _ 1 (nI (sm (nPt V) k)) (nI k) M)
    unfold fL_holds_B395
    rw [if_neg (show ¬ (10 : Int32) ≤ nI k from fun q => absurd ((nI_leI (a := 10) (by omega) (by omega)).mp q) (by omega)), if_neg (by decide)]
    refine Wp.q (q_num hV hp) hM (fun M h => ?_)
    dsimp only
    refine Wp.q (q_num hV hp) h (fun M h => ?_)
    dsimp only
    by_cases e0 : nPt V k = 0
    · rw [if_pos (show nI (nPt V k) = 0 by rw [e0]; rfl)]
      exact ih M h
    · obtain ⟨s1, s2⟩ := spread_ok (p := nI k) hV e0
      rw [if_neg (nI_ne0 (by omega) (by omega))]
      refine Wp.q (q_pt hV hp (Or.inl rfl)) h (fun M h => ?_)
      dsimp only
      rw [if_neg (Int32.not_lt.mpr s1)]
      refine Wp.q (q_num hV hp) h (fun M h => ?_)
      dsimp only
      by_cases e1 : 1 < nPt V k
      · rw [if_pos (show (1 : Int32) < nI (nPt V k) from (nI_ltI (a := 1) (by omega) (by omega)).mpr e1)]
        exact ih M h
      · rw [if_neg (show ¬ (1 : Int32) < nI (nPt V k) from fun q => e1 ((nI_ltI (a := 1) (by omega) (by omega)).mp q))]
        refine Wp.q (q_pt hV hp (Or.inl rfl)) h (fun M h => ?_)
        dsimp only
        rw [if_pos (s2 (show nPt V k = 1 by omega))]
        exact ih M h
section RD
variable {c : Nat} {bk83 : Int32 → Int32 → wM → Option (Bool × wM)}
def opI (V : wV) (w r : Nat) : Int32 := if oV V w r = -1 then -2000000004 else oV V w r
theorem h341 {bk276 : Int32 → Int32 → Int32 → wM → Option (Bool × wM)} {r : Nat} {s : Int32} {M : wM} (hV : OkV V) (hc : c < 3) (hr : r < V.2.1 (c + 1)) (hM : I0 V hs M) (k : ∀ M, I0 V hs M → Wp V hs (bk276 1 (nI c) (nI (r + 1)) M)) : Wp V hs (fL_holds_J341 bk83 bk276 (nI c) (nI r) (opI V (c + 1) r) s s M) := by
  have hn := hV.n (show c + 1 < 4 by omega)
  have hl := lpL_len (V := V) (w := c + 1)
  unfold fL_holds_J341
  rw [if_pos rfl, nIp1]
  have hcase : opI V (c + 1) r = -2000000004 ∨ ∃ j, opn V (c + 1) r = some j ∧ opI V (c + 1) r = nI j := by
    unfold opI oV
    by_cases hg : go V (c + 1) r = true
    · rw [if_pos hg]
      cases e : opn V (c + 1) r with
      | none => exact Or.inl (if_pos rfl)
      | some j =>
        have hj := opn_lt e
        exact Or.inr ⟨j, rfl, if_neg (oI_ne (by omega))⟩
    · rw [if_neg hg]
      exact Or.inl (if_pos rfl)
  rcases hcase with e | ⟨j, ej, e⟩
  · rw [e, if_pos (by decide)]
    exact k M hM
  · have hj := opn_lt ej
    obtain ⟨i1, i2⟩ := opn_in ej
    obtain ⟨l1, l2, -, -⟩ := lpL_in hj
    rw [e, if_neg (nI_pos (by omega))]
    refine Wp.q (q_lb hV hc hj) hM (fun M h => ?_)
    dsimp only
    rw [if_neg (by rw [nI_ltI (by omega) (by omega)]; omega)]
    refine Wp.q (q_le hV hc hj) h (fun M h => ?_)
    dsimp only
    rw [if_neg (by rw [nI_ltI (by omega) (by omega)]; omega)]
    exact k M h
theorem h315 {bk276 : Int32 → Int32 → Int32 → wM → Option (Bool × wM)} {r : Nat} {M : wM} (hV : OkV V) (hc : c < 3) (hr : r < V.2.1 (c + 1)) (hM : I0 V hs M) (k : ∀ M, I0 V hs M → Wp V hs (bk276 1 (nI c) (nI (r + 1)) M)) : Wp V hs (fL_holds_J315 bk83 bk276 (nI c) (nI r) (opI V (c + 1) r) (b2 (go V (c + 1) r)) M) := by
  have hk := go_kind hV (show c + 1 < 4 by omega) hr
  unfold fL_holds_J315
  refine Wp.q (q_gu hV hc hr) hM (fun M h => ?_)
  dsimp only
  cases hg : gu V (c + 1) r
  · rw [if_pos (show b2 false = 0 from rfl)]
    refine Wp.q (q_raw hV hc hr) h (fun M h => ?_)
    dsimp only
    by_cases e : hI (hh V (c + 1) r) = -2000000004
    · have eg : go V (c + 1) r = false := by rw [hk, hg, decide_eq_true e]; rfl
      rw [if_pos e, eg]
      exact h341 hV hc hr h k
    · have eg : go V (c + 1) r = true := by rw [hk, hg, decide_eq_false e]; rfl
      rw [if_neg e, eg]
      exact h341 hV hc hr h k
  · have eg : go V (c + 1) r = false := by rw [hk, hg]; rfl
    rw [if_neg (show ¬ b2 true = 0 from by decide), eg]
    exact h341 hV hc hr h k
theorem h276 (hV : OkV V) (hc : c < 3) (hk : ∀ M, I0 V hs M → Wp V hs (bk83 1 (nI (c + 1)) M)) : ∀ (n r fu : Nat) (M : wM), r + n = V.2.1 (c + 1) → n < fu → I0 V hs M → Wp V hs (fL_holds_L276 bk83 fu 1 (nI c) (nI r) M)
  | n, r, 0, M, _, h, _ => absurd h (by omega)
  | 0, r, fu + 1, M, hr, hfu, hM => by
    have hn := hV.n (show c + 1 < 4 by omega)
    show Wp V hs (fL_holds_B276 bk83 _ 1 (nI c) (nI r) M)
    unfold fL_holds_B276
    refine Wp.q (q_cntc hc) hM (fun M h => ?_)
    dsimp only
    rw [if_pos ((nI_leI (by omega) (by omega)).mpr (by omega)), nIp1]
    exact hk M h
  | n + 1, r, fu + 1, M, hr, hfu, hM => by
    have hn := hV.n (show c + 1 < 4 by omega)
    have hrn : r < V.2.1 (c + 1) := by omega
    have k : ∀ M, I0 V hs M → Wp V hs (fL_holds_L276 bk83 fu 1 (nI c) (nI (r + 1)) M) := fun M h => h276 hV hc hk n (r + 1) fu M (by omega) (by omega) h
    show Wp V hs (fL_holds_B276 bk83 _ 1 (nI c) (nI r) M)
    unfold fL_holds_B276
    refine Wp.q (q_cntc hc) hM (fun M h => ?_)
    dsimp only
    rw [if_neg (by rw [nI_leI (by omega) (by omega)]; omega), if_neg (by decide)]
    refine Wp.q (q_op hV hc hrn) h (fun M h => ?_)
    dsimp only
    refine Wp.q (q_go hV hc hrn) h (fun M h => ?_)
    dsimp only
    have q := h315 (bk83 := bk83) (bk276 := fL_holds_L276 bk83 fu) (M := M) hV hc hrn h k
    cases hg : go V (c + 1) r
    · rw [hg] at q
      rw [if_neg (by decide)]
      exact q
    · rw [hg] at q
      rw [if_pos (by decide)]
      exact q
theorem nf_ne {k : Nat} (h : k < 2 ^ 31) : ¬ (-2000000004 : Int32) = nI k := fun q => by
  have q3 := congrArg Int32.toInt q
  rw [nI_toInt h, show (-2000000004 : Int32).toInt = -2000000004 from by decide] at q3
  omega
theorem opI_k {w r k : Nat} (hk : k < 2 ^ 31) (h : opI V w r = nI k) : oV V w r = nI k := by
  unfold opI at h
  by_cases e : oV V w r = -1
  · rw [if_pos e] at h; exact absurd h (nf_ne hk)
  · rw [if_neg e] at h; exact h
theorem h201 {bk94 : Int32 → Int32 → Int32 → wM → Option (Bool × wM)} {k : Nat} {M : wM} (hV : OkV V) (hc : c < 3) (hk : k < (lpL V (c + 1)).length) (hM : I0 V hs M) (kk : ∀ M, I0 V hs M → Wp V hs (bk94 1 (nI c) (nI (k + 1)) M)) : Wp V hs (fL_holds_J201 bk83 bk94 (nI c) (nI k) (nI (lb V (c + 1) k)) (nI (le2 V (c + 1) k)) 1 M) := by
  have hn := hV.n (show c + 1 < 4 by omega)
  have hl := lpL_len (V := V) (w := c + 1)
  obtain ⟨l1, l2, g1, g2⟩ := lpL_in hk
  have hb : lb V (c + 1) k < V.2.1 (c + 1) := by omega
  unfold fL_holds_J201
  rw [if_neg (by decide), nIp1]
  refine Wp.q (q_op hV hc hb) hM (fun M h => ?_)
  dsimp only
  by_cases e1 : opI V (c + 1) (lb V (c + 1) k) = nI k
  · rw [if_pos (show (if oV V (c + 1) (lb V (c + 1) k) = -1 then -2000000004 else oV V (c + 1) (lb V (c + 1) k)) = nI k from e1)]
    refine Wp.q (q_op hV hc l2) h (fun M h => ?_)
    dsimp only
    by_cases e2 : opI V (c + 1) (le2 V (c + 1) k) = nI k
    · rw [if_pos (show (if oV V (c + 1) (le2 V (c + 1) k) = -1 then -2000000004 else oV V (c + 1) (le2 V (c + 1) k)) = nI k from e2)]
      obtain ⟨c1, c2⟩ := ends_cor hV (show c + 1 < 4 by omega) hk (opI_k (by omega) e1) (opI_k (by omega) e2)
      refine Wp.q (q_cor hV hc hb) h (fun M h => ?_)
      dsimp only
      refine Wp.q (q_cor hV hc l2) h (fun M h => ?_)
      dsimp only
      rw [if_pos (c1.trans c2.symm)]
      refine Wp.q (q_cor hV hc hb) h (fun M h => ?_)
      dsimp only
      refine Wp.q (q_raw hV hc hb) h (fun M h => ?_)
      dsimp only
      rw [if_pos c1]
      exact kk M h
    · rw [if_neg (show ¬ (if oV V (c + 1) (le2 V (c + 1) k) = -1 then -2000000004 else oV V (c + 1) (le2 V (c + 1) k)) = nI k from e2)]
      exact kk M h
  · rw [if_neg (show ¬ (if oV V (c + 1) (lb V (c + 1) k) = -1 then -2000000004 else oV V (c + 1) (lb V (c + 1) k)) = nI k from e1)]
    exact kk M h
theorem h94 (hV : OkV V) (hc : c < 3) (hk : ∀ M, I0 V hs M → Wp V hs (bk83 1 (nI (c + 1)) M)) : ∀ (n k fu : Nat) (M : wM), k + n = (lpL V (c + 1)).length → n < fu → I0 V hs M → Wp V hs (fL_holds_L94 bk83 fu 1 (nI c) (nI k) M)
  | n, k, 0, M, _, h, _ => absurd h (by omega)
  | 0, k, fu + 1, M, hr, hfu, hM => by
    have hn := hV.n (show c + 1 < 4 by omega)
    have hl := lpL_len (V := V) (w := c + 1)
    show Wp V hs (fL_holds_B94 bk83 _ 1 (nI c) (nI k) M)
    unfold fL_holds_B94
    refine Wp.q (q_loops hc) hM (fun M h => ?_)
    dsimp only
    rw [if_pos ((nI_leI (by omega) (by omega)).mpr (by omega))]
    exact h276 hV hc hk (V.2.1 (c + 1)) 0 FU M (by omega) (by unfold FU; omega) h
  | n + 1, k, fu + 1, M, hr, hfu, hM => by
    have hn := hV.n (show c + 1 < 4 by omega)
    have hl := lpL_len (V := V) (w := c + 1)
    have hkl : k < (lpL V (c + 1)).length := by omega
    obtain ⟨l1, l2, g1, g2⟩ := lpL_in hkl
    have hb : lb V (c + 1) k < V.2.1 (c + 1) := by omega
    have hmn := mn_pos hV (show c + 1 < 4 by omega) hkl
    have kk : ∀ M, I0 V hs M → Wp V hs (fL_holds_L94 bk83 fu 1 (nI c) (nI (k + 1)) M) := fun M h => h94 hV hc hk n (k + 1) fu M (by omega) (by omega) h
    show Wp V hs (fL_holds_B94 bk83 _ 1 (nI c) (nI k) M)
    unfold fL_holds_B94
    refine Wp.q (q_loops hc) hM (fun M h => ?_)
    dsimp only
    rw [if_neg (by rw [nI_leI (by omega) (by omega)]; omega), if_neg (by decide)]
    refine Wp.q (q_lb hV hc hkl) h (fun M h => ?_)
    dsimp only
    refine Wp.q (q_le hV hc hkl) h (fun M h => ?_)
    dsimp only
    rw [if_neg (by rw [nI_leI (by omega) (by omega)]; omega)]
    refine Wp.q (q_point hV hc hb) h (fun M h => ?_)
    dsimp only
    refine Wp.q (q_point hV hc l2) h (fun M h => ?_)
    dsimp only
    rw [if_pos (lp_pt hkl)]
    refine Wp.q (q_mis hV hc hkl) h (fun M h => ?_)
    dsimp only
    refine Wp.q (q_by hV hc hkl) h (fun M h => ?_)
    dsimp only
    rw [if_pos (by_mis hkl)]
    refine Wp.q (q_mn hV hc hkl) h (fun M h => ?_)
    dsimp only
    rw [if_neg (by
      rw [Int32.le_iff_toInt_le, show (0 : Int32).toInt = 0 from by decide]
      omega)]
    by_cases k0 : k = 0
    · rw [if_pos (show nI k = 0 by rw [k0]; rfl)]
      exact h201 hV hc hkl h kk
    · rw [if_neg (nI_ne0 (by omega) (by omega)), nIm1 (by omega)]
      have hk1 : k - 1 < (lpL V (c + 1)).length := by omega
      have asc := le2_asc (V := V) (w := c + 1) (show k - 1 < k by omega) hkl
      refine Wp.q (q_le hV hc hk1) h (fun M h => ?_)
      dsimp only
      rw [if_neg (by rw [nI_leI (by omega) (by omega)]; omega)]
      exact h201 hV hc hkl h kk
end RD
theorem h83 (hV : OkV V) : ∀ (n c fu : Nat) (M : wM), c + n = 3 → n < fu → I0 V hs M → Wp V hs (fL_holds_L83 fu 1 (nI c) M)
  | n, c, 0, M, _, h, _ => absurd h (by omega)
  | 0, c, fu + 1, M, hc, hfu, hM => by
    show Wp V hs (fL_holds_B83 _ 1 (nI c) M)
    have e : c = 3 := by omega
    subst e
    unfold fL_holds_B83
    rw [if_pos (show (3 : Int32) ≤ nI 3 from by decide)]
    exact h395 hV 10 0 FU M (by omega) (by unfold FU; omega) hM
  | n + 1, c, fu + 1, M, hc, hfu, hM => by
    show Wp V hs (fL_holds_B83 _ 1 (nI c) M)
    have hn := hV.n (show c + 1 < 4 by omega)
    have hl := lpL_len (V := V) (w := c + 1)
    unfold fL_holds_B83
    rw [if_neg (show ¬ (3 : Int32) ≤ nI c from fun q => absurd ((nI_leI (a := 3) (by omega) (by omega)).mp q) (by omega)), if_neg (by decide)]
    exact h94 hV (by omega) (fun M h => h83 hV n (c + 1) fu M (by omega) (by omega) h) (lpL V (c + 1)).length 0 FU M (by omega) (by unfold FU; omega) hM
theorem h29 {w : Nat} {bk18 : Int32 → Int32 → wM → Option (Bool × wM)} (hV : OkV V) (hw : w < 4) (hk : ∀ M, I0 V hs M → Wp V hs (bk18 1 (cx (w + 1)) M)) : ∀ (n r fu : Nat) (M : wM), (r + n = V.2.1 w ∨ (n = 0 ∧ V.2.1 w ≤ r ∧ r ≤ 1)) → 0 < r → n < fu → I0 V hs M → Wp V hs (fL_holds_L29 bk18 fu 1 (cx w) (nI r) M)
  | n, r, 0, M, _, _, h, _ => absurd h (by omega)
  | 0, r, fu + 1, M, hr, h0, hfu, hM => by
    have hn := hV.n hw
    show Wp V hs (fL_holds_B29 bk18 _ 1 (cx w) (nI r) M)
    unfold fL_holds_B29
    refine Wp.q (q_cntx hw) hM (fun M h => ?_)
    dsimp only
    rw [if_pos ((nI_leI (by omega) (by omega)).mpr (by omega)), cx_1]
    exact hk M h
  | n + 1, r, fu + 1, M, hr, h0, hfu, hM => by
    have hn := hV.n hw
    have hrn : r < V.2.1 w := by omega
    show Wp V hs (fL_holds_B29 bk18 _ 1 (cx w) (nI r) M)
    unfold fL_holds_B29
    refine Wp.q (q_cntx hw) hM (fun M h => ?_)
    dsimp only
    rw [if_neg (by rw [nI_leI (by omega) (by omega)]; omega), if_neg (by decide), nIm1 h0]
    refine Wp.q (q_time hV hw hrn) h (fun M h => ?_)
    dsimp only
    refine Wp.q (q_time hV hw (show r - 1 < V.2.1 w by omega)) h (fun M h => ?_)
    dsimp only
    rw [if_neg (Int32.not_le.mpr ((hV.2 w hw).2.2 (r - 1) r (by omega) hrn)), nIp1]
    exact h29 hV hw hk n (r + 1) fu M (by omega) (by omega) (by omega) h
theorem h18 (hV : OkV V) : ∀ (n w fu : Nat) (M : wM), w + n = 4 → n < fu → I0 V hs M → Wp V hs (fL_holds_L18 fu 1 (cx w) M)
  | n, w, 0, M, _, h, _ => absurd h (by omega)
  | 0, w, fu + 1, M, hw, hfu, hM => by
    show Wp V hs (fL_holds_B18 _ 1 (cx w) M)
    have e : w = 4 := by omega
    subst e
    unfold fL_holds_B18
    rw [if_pos (show (3 : Int32) ≤ cx 4 from by decide)]
    exact h83 hV 3 0 FU M (by omega) (by unfold FU; omega) hM
  | n + 1, w, fu + 1, M, hw, hfu, hM => by
    show Wp V hs (fL_holds_B18 _ 1 (cx w) M)
    have hn := hV.n (show w < 4 by omega)
    have n3 : ¬ (3 : Int32) ≤ cx w := by
      rcases (show w = 0 ∨ w = 1 ∨ w = 2 ∨ w = 3 by omega) with rfl | rfl | rfl | rfl <;> decide
    unfold fL_holds_B18
    rw [if_neg n3, if_neg (by decide)]
    have kk : ∀ M, I0 V hs M → Wp V hs (fL_holds_L18 fu 1 (cx (w + 1)) M) := fun M h => h18 hV n (w + 1) fu M (by omega) (by omega) h
    exact h29 hV (by omega) kk (V.2.1 w - 1) 1 FU M (by omega) (by omega) (by unfold FU; omega) hM
theorem holds_ok {M : wM} (hV : OkV V) (hM : I0 V hs M) : Wp V hs (fL_holds M) := by
  have hc : V.2.1 0 ≤ 12 := (hV.2 0 (by omega)).1
  unfold fL_holds
  refine Wp.q (q_cnt (w := 0) (by omega)) hM (fun M h => ?_)
  dsimp only
  rw [if_neg (show ¬ (12 : Int32) < nI (V.2.1 0) from fun q => absurd ((nI_ltI (a := 12) (by omega) (by omega)).mp q) (by omega))]
  exact h18 hV 4 0 FU M (by omega) (by unfold FU; omega) h
/-! level -/
theorem h4 (hV : OkV V) : ∀ (n r fu : Nat) (M : wM), r + n = V.2.1 0 → n < fu → I0 V hs M → Wp V hs (fL_level_L4 fu 1 (nI r) M)
  | n, r, 0, M, _, h, _ => absurd h (by omega)
  | 0, r, fu + 1, M, hr, hfu, hM => by
    have hn := hV.n (show 0 < 4 by omega)
    show Wp V hs (fL_level_B4 _ 1 (nI r) M)
    unfold fL_level_B4
    refine Wp.q (q_cnt (w := 0) (by omega)) hM (fun M h => ?_)
    dsimp only
    rw [if_pos ((nI_leI (by omega) (by omega)).mpr (by omega))]
    exact Wp.ret h
  | n + 1, r, fu + 1, M, hr, hfu, hM => by
    have hn := hV.n (show 0 < 4 by omega)
    have hrn : r < V.2.1 0 := by omega
    have q0 : Qy V hs (fX6_reading (-1 : Int32) (nI r) (0 : Int32)) (V.2.2 0 0 r) := q_rd (w := 0) (f := 0) hV (by omega) (Or.inl (by omega)) hrn
    have q1 : Qy V hs (fX6_reading (-1 : Int32) (nI r) (1 : Int32)) (V.2.2 0 1 r) := q_rd (w := 0) (f := 1) hV (by omega) (Or.inl (by omega)) hrn
    have q2 : Qy V hs (fX6_reading (-1 : Int32) (nI r) (2 : Int32)) (V.2.2 0 2 r) := q_rd (w := 0) (f := 2) hV (by omega) (Or.inl (by omega)) hrn
    have b0 : ∀ M, I0 V hs M → fX6_baseAt (V.2.2 0 0 r) (0 : Int32) M = some (V.2.2 0 1 r) := fun M h => baseAt_at (y := 0) hV hrn (by omega) h
    have b1 : ∀ M, I0 V hs M → fX6_baseAt (V.2.2 0 0 r) (1 : Int32) M = some (V.2.2 0 2 r) := fun M h => baseAt_at (y := 1) hV hrn (by omega) h
    show Wp V hs (fL_level_B4 _ 1 (nI r) M)
    unfold fL_level_B4
    refine Wp.q (q_cnt (w := 0) (by omega)) hM (fun M h => ?_)
    dsimp only
    rw [if_neg (by rw [nI_leI (by omega) (by omega)]; omega), if_neg (by decide)]
    refine Wp.q q0 h (fun M h => ?_)
    dsimp only
    rw [b0 M h, bs]
    refine Wp.q q1 h (fun M h => ?_)
    dsimp only
    rw [if_pos rfl, b1 M h, bs]
    refine Wp.q q2 h (fun M h => ?_)
    dsimp only
    rw [if_pos rfl]
    refine Wp.q q1 h (fun M h => ?_)
    dsimp only
    refine Wp.q q2 h (fun M h => ?_)
    dsimp only
    rw [would_at hV hrn h, bs]
    refine Wp.q q_cnt10 h (fun M h => ?_)
    dsimp only
    rw [if_pos rfl, nIp1]
    exact h4 hV n (r + 1) fu M (by omega) (by omega) h
theorem level_ok {M : wM} (hV : OkV V) (hM : I0 V hs M) : Wp V hs (fL_level M) := by
  have hn := hV.n (show 0 < 4 by omega)
  exact h4 hV (V.2.1 0) 0 FU M (by omega) (by unfold FU; omega) hM
end HO
end
