section
/-! ===== BEGIN words of one list among another's, by their places ===== -/
theorem goodIn_r {big : List Cond} (ws : List Cond) (ps : List Nat) (hp : ws = ps.filterMap (fun i => big[i]?)) (h : ws.all goodWord = true) : GoodIn big ws := by
  intro w hw
  have h1 := List.all_eq_true.mp h w hw
  rw [hp] at hw
  obtain ⟨i, -, hi⟩ := List.mem_filterMap.mp hw
  have hm : w ∈ big := by first | exact List.mem_of_getElem? hi | exact List.getElem?_mem hi
  exact ⟨hm, good_of_word h1⟩
theorem goodIn_app {big a b : List Cond} (ha : GoodIn big a) (hb : GoodIn big b) : GoodIn big (a ++ b) := fun w h => (List.mem_append.mp h).elim (ha w) (hb w)
theorem goodIn_ca {big a b : List Cond} {c : Cond} (ha : GoodIn big (c :: a)) (hb : GoodIn big b) : GoodIn big (c :: (a ++ b)) := fun w h => (List.mem_cons.mp h).elim (fun e => ha w (List.mem_cons.mpr (Or.inl e))) (fun h => (List.mem_append.mp h).elim (fun h => ha w (List.mem_cons.mpr (Or.inr h))) (hb w))
theorem goodIn_sub {big ws : List Cond} (hm : ∀ w ∈ ws, w ∈ big) (h : ws.all goodWord = true) : GoodIn big ws := fun w hw => ⟨hm w hw, good_of_word (List.all_eq_true.mp h w hw)⟩
/-! ===== END ===== -/

/-! ===== BEGIN printed: names, fields, word lists, decode rows ===== -/
def RX0 : String := "BaroRuns$History"
def TX0 : u_T := fun k => match k with
  | 0 => ("BaroRuns$History", "places", "[LBaroRuns$State;", true)
  | 1 => ("BaroRuns$History", "oldest", "I", false)
  | _ => ("BaroRuns$History", "size", "I", false)
def tyX0 : Nat → FieldType := fun k => match k with
  | 0 => .array (.object "BaroRuns$State")
  | 1 => .int
  | _ => .int
abbrev wsX00 : List Cond := u_ws RX0 TX0 3
theorem nmX0 : ∀ a, a < 3 → ∀ b, b < 3 → a ≠ b → (TX0 a).2.1 ≠ (TX0 b).2.1 := by decide +kernel
theorem tyX0_ok : ∀ k, k < 3 → parseFieldDescriptor (TX0 k).2.2.1 = some (tyX0 k) := by decide +kernel
abbrev cX0_init : ByteArray := prog_2_method_1_code
def yX0_init : MethodName := ⟨RX0, "<init>", "()V"⟩
abbrev cX0_keep : ByteArray := prog_2_method_2_code
def yX0_keep : MethodName := ⟨RX0, "keep", "(LBaroRuns$State;)V"⟩
abbrev cX0_giveBack : ByteArray := prog_2_method_3_code
def yX0_giveBack : MethodName := ⟨RX0, "giveBack", "(LBaroRuns$State;)V"⟩
abbrev cX0_place : ByteArray := prog_2_method_4_code
def yX0_place : MethodName := ⟨RX0, "place", "(I)LBaroRuns$State;"⟩
def RX1 : String := "BaroRuns$PointSum"
def TX1 : u_T := fun k => match k with
  | 0 => ("BaroRuns$PointSum", "sum", "J", false)
  | 1 => ("BaroRuns$PointSum", "number", "I", false)
  | 2 => ("BaroRuns$PointSum", "least", "I", false)
  | _ => ("BaroRuns$PointSum", "greatest", "I", false)
def tyX1 : Nat → FieldType := fun k => match k with
  | 0 => .long
  | 1 => .int
  | 2 => .int
  | _ => .int
abbrev wsX10 : List Cond := u_ws RX1 TX1 4
theorem nmX1 : ∀ a, a < 4 → ∀ b, b < 4 → a ≠ b → (TX1 a).2.1 ≠ (TX1 b).2.1 := by decide +kernel
theorem tyX1_ok : ∀ k, k < 4 → parseFieldDescriptor (TX1 k).2.2.1 = some (tyX1 k) := by decide +kernel
abbrev cX1_init : ByteArray := prog_3_method_1_code
def yX1_init : MethodName := ⟨RX1, "<init>", "()V"⟩
abbrev cX1_clear : ByteArray := prog_3_method_2_code
def yX1_clear : MethodName := ⟨RX1, "clear", "()V"⟩
abbrev cX1_add : ByteArray := prog_3_method_3_code
def yX1_add : MethodName := ⟨RX1, "add", "(I)V"⟩
abbrev cX1_height : ByteArray := prog_3_method_4_code
def yX1_height : MethodName := ⟨RX1, "height", "()I"⟩
abbrev cX1_spread : ByteArray := prog_3_method_5_code
def yX1_spread : MethodName := ⟨RX1, "spread", "()I"⟩
def RX2 : String := "BaroRuns$State"
def TX2 : u_T := fun k => match k with
  | 0 => ("BaroRuns$State", "baseTrack", "LBaroRuns$Track;", true)
  | 1 => ("BaroRuns$State", "firstTrack", "LBaroRuns$Track;", true)
  | 2 => ("BaroRuns$State", "secondTrack", "LBaroRuns$Track;", true)
  | 3 => ("BaroRuns$State", "thirdTrack", "LBaroRuns$Track;", true)
  | 4 => ("BaroRuns$State", "baseHeight", "I", false)
  | 5 => ("BaroRuns$State", "gustLimit", "I", false)
  | _ => ("BaroRuns$State", "stepLimit", "I", false)
def tyX2 : Nat → FieldType := fun k => match k with
  | 0 => .object "BaroRuns$Track"
  | 1 => .object "BaroRuns$Track"
  | 2 => .object "BaroRuns$Track"
  | 3 => .object "BaroRuns$Track"
  | 4 => .int
  | 5 => .int
  | _ => .int
abbrev wsX20 : List Cond := u_ws RX2 TX2 7
theorem nmX2 : ∀ a, a < 7 → ∀ b, b < 7 → a ≠ b → (TX2 a).2.1 ≠ (TX2 b).2.1 := by decide +kernel
theorem tyX2_ok : ∀ k, k < 7 → parseFieldDescriptor (TX2 k).2.2.1 = some (tyX2 k) := by decide +kernel
abbrev cX2_init : ByteArray := prog_4_method_1_code
def yX2_init : MethodName := ⟨RX2, "<init>", "()V"⟩
abbrev cX2_track : ByteArray := prog_4_method_2_code
def yX2_track : MethodName := ⟨RX2, "track", "(I)LBaroRuns$Track;"⟩
abbrev cX2_setting : ByteArray := prog_4_method_3_code
def yX2_setting : MethodName := ⟨RX2, "setting", "(I)I"⟩
abbrev cX2_putSetting : ByteArray := prog_4_method_4_code
def yX2_putSetting : MethodName := ⟨RX2, "putSetting", "(II)V"⟩
abbrev cX2_copyFrom : ByteArray := prog_4_method_5_code
def yX2_copyFrom : MethodName := ⟨RX2, "copyFrom", "(LBaroRuns$State;)V"⟩
abbrev cX2_baseValue : ByteArray := prog_4_method_6_code
def yX2_baseValue : MethodName := ⟨RX2, "baseValue", "(II)I"⟩
abbrev cX2_heightAt : ByteArray := prog_4_method_7_code
def yX2_heightAt : MethodName := ⟨RX2, "heightAt", "(III)I"⟩
abbrev cX2_isStepEnd : ByteArray := prog_4_method_8_code
def yX2_isStepEnd : MethodName := ⟨RX2, "isStepEnd", "(I)Z"⟩
abbrev cX2_steps : ByteArray := prog_4_method_9_code
def yX2_steps : MethodName := ⟨RX2, "steps", "()I"⟩
def RX3 : String := "BaroRuns$Survey"
def TX3 : u_T := fun k => match k with
  | 0 => ("BaroRuns$Survey", "times", "[I", true)
  | 1 => ("BaroRuns$Survey", "points", "[I", true)
  | 2 => ("BaroRuns$Survey", "heights", "[I", true)
  | 3 => ("BaroRuns$Survey", "gusts", "[I", true)
  | 4 => ("BaroRuns$Survey", "openLoops", "[I", true)
  | 5 => ("BaroRuns$Survey", "correctedHeights", "[I", true)
  | 6 => ("BaroRuns$Survey", "begins", "[I", true)
  | 7 => ("BaroRuns$Survey", "ends", "[I", true)
  | 8 => ("BaroRuns$Survey", "size", "I", false)
  | 9 => ("BaroRuns$Survey", "gustCount", "I", false)
  | 10 => ("BaroRuns$Survey", "goodCount", "I", false)
  | _ => ("BaroRuns$Survey", "loopCount", "I", false)
def tyX3 : Nat → FieldType := fun k => match k with
  | 0 => .array .int
  | 1 => .array .int
  | 2 => .array .int
  | 3 => .array .int
  | 4 => .array .int
  | 5 => .array .int
  | 6 => .array .int
  | 7 => .array .int
  | 8 => .int
  | 9 => .int
  | 10 => .int
  | _ => .int
abbrev wsX30 : List Cond := u_ws RX3 TX3 12
theorem nmX3 : ∀ a, a < 12 → ∀ b, b < 12 → a ≠ b → (TX3 a).2.1 ≠ (TX3 b).2.1 := by decide +kernel
theorem tyX3_ok : ∀ k, k < 12 → parseFieldDescriptor (TX3 k).2.2.1 = some (tyX3 k) := by decide +kernel
abbrev cX3_init : ByteArray := prog_5_method_1_code
def yX3_init : MethodName := ⟨RX3, "<init>", "()V"⟩
abbrev cX3_workOut : ByteArray := prog_5_method_2_code
def yX3_workOut : MethodName := ⟨RX3, "workOut", "(LBaroRuns$State;I)V"⟩
abbrev cX3_isGust : ByteArray := prog_5_method_3_code
def yX3_isGust : MethodName := ⟨RX3, "isGust", "(I)Z"⟩
abbrev cX3_rawHeight : ByteArray := prog_5_method_4_code
def yX3_rawHeight : MethodName := ⟨RX3, "rawHeight", "(I)I"⟩
abbrev cX3_isGood : ByteArray := prog_5_method_5_code
def yX3_isGood : MethodName := ⟨RX3, "isGood", "(I)Z"⟩
abbrev cX3_openLoopOf : ByteArray := prog_5_method_6_code
def yX3_openLoopOf : MethodName := ⟨RX3, "openLoopOf", "(I)I"⟩
abbrev cX3_correctedHeight : ByteArray := prog_5_method_7_code
def yX3_correctedHeight : MethodName := ⟨RX3, "correctedHeight", "(I)I"⟩
abbrev cX3_begin : ByteArray := prog_5_method_8_code
def yX3_begin : MethodName := ⟨RX3, "begin", "(I)I"⟩
abbrev cX3_end : ByteArray := prog_5_method_9_code
def yX3_end : MethodName := ⟨RX3, "end", "(I)I"⟩
abbrev cX3_minutes : ByteArray := prog_5_method_10_code
def yX3_minutes : MethodName := ⟨RX3, "minutes", "(I)I"⟩
abbrev cX3_misclosure : ByteArray := prog_5_method_11_code
def yX3_misclosure : MethodName := ⟨RX3, "misclosure", "(I)I"⟩
abbrev cX3_misclosureBySteps : ByteArray := prog_5_method_12_code
def yX3_misclosureBySteps : MethodName := ⟨RX3, "misclosureBySteps", "(I)I"⟩
abbrev cX3_addTo : ByteArray := prog_5_method_13_code
def yX3_addTo : MethodName := ⟨RX3, "addTo", "(LBaroRuns$PointSum;I)V"⟩
abbrev cX3_endsOpenLoop : ByteArray := prog_5_method_14_code
def yX3_endsOpenLoop : MethodName := ⟨RX3, "endsOpenLoop", "(I)Z"⟩
abbrev cX3_countKinds : ByteArray := prog_5_method_15_code
def yX3_countKinds : MethodName := ⟨RX3, "countKinds", "()V"⟩
abbrev cX3_findLoops : ByteArray := prog_5_method_16_code
def yX3_findLoops : MethodName := ⟨RX3, "findLoops", "()V"⟩
abbrev cX3_lastVisit : ByteArray := prog_5_method_17_code
def yX3_lastVisit : MethodName := ⟨RX3, "lastVisit", "(I)I"⟩
abbrev cX3_shortestLoop : ByteArray := prog_5_method_18_code
def yX3_shortestLoop : MethodName := ⟨RX3, "shortestLoop", "(I)I"⟩
abbrev cX3_withoutDrift : ByteArray := prog_5_method_19_code
def yX3_withoutDrift : MethodName := ⟨RX3, "withoutDrift", "(I)I"⟩
def RX4 : String := "BaroRuns$Text"
def TX4 : u_T := fun k => match k with
  | 0 => ("BaroRuns$Text", "characters", "[I", true)
  | 1 => ("BaroRuns$Text", "length", "I", false)
  | 2 => ("BaroRuns$Text", "position", "I", false)
  | 3 => ("BaroRuns$Text", "cell", "I", false)
  | 4 => ("BaroRuns$Text", "point", "I", false)
  | 5 => ("BaroRuns$Text", "time", "I", false)
  | 6 => ("BaroRuns$Text", "pressure", "I", false)
  | 7 => ("BaroRuns$Text", "temperature", "I", false)
  | 8 => ("BaroRuns$Text", "taken", "I", false)
  | 9 => ("BaroRuns$Text", "faultPosition", "I", false)
  | _ => ("BaroRuns$Text", "faultReason", "I", false)
def tyX4 : Nat → FieldType := fun k => match k with
  | 0 => .array .int
  | 1 => .int
  | 2 => .int
  | 3 => .int
  | 4 => .int
  | 5 => .int
  | 6 => .int
  | 7 => .int
  | 8 => .int
  | 9 => .int
  | _ => .int
abbrev wsX40 : List Cond := u_ws RX4 TX4 11
theorem nmX4 : ∀ a, a < 11 → ∀ b, b < 11 → a ≠ b → (TX4 a).2.1 ≠ (TX4 b).2.1 := by decide +kernel
theorem tyX4_ok : ∀ k, k < 11 → parseFieldDescriptor (TX4 k).2.2.1 = some (tyX4 k) := by decide +kernel
abbrev cX4_init : ByteArray := prog_6_method_1_code
def yX4_init : MethodName := ⟨RX4, "<init>", "()V"⟩
def RX5 : String := "BaroRuns$Track"
def TX5 : u_T := fun k => match k with
  | 0 => ("BaroRuns$Track", "values", "[I", true)
  | 1 => ("BaroRuns$Track", "room", "I", true)
  | _ => ("BaroRuns$Track", "size", "I", false)
def tyX5 : Nat → FieldType := fun k => match k with
  | 0 => .array .int
  | 1 => .int
  | _ => .int
abbrev wsX50 : List Cond := u_ws RX5 TX5 3
theorem nmX5 : ∀ a, a < 3 → ∀ b, b < 3 → a ≠ b → (TX5 a).2.1 ≠ (TX5 b).2.1 := by decide +kernel
theorem tyX5_ok : ∀ k, k < 3 → parseFieldDescriptor (TX5 k).2.2.1 = some (tyX5 k) := by decide +kernel
abbrev cX5_init : ByteArray := prog_7_method_1_code
def yX5_init : MethodName := ⟨RX5, "<init>", "(I)V"⟩
abbrev cX5_value : ByteArray := prog_7_method_2_code
def yX5_value : MethodName := ⟨RX5, "value", "(II)I"⟩
abbrev cX5_isFull : ByteArray := prog_7_method_3_code
def yX5_isFull : MethodName := ⟨RX5, "isFull", "()Z"⟩
abbrev cX5_hasTime : ByteArray := prog_7_method_4_code
def yX5_hasTime : MethodName := ⟨RX5, "hasTime", "(I)Z"⟩
abbrev cX5_standsOut : ByteArray := prog_7_method_5_code
def yX5_standsOut : MethodName := ⟨RX5, "standsOut", "(II)Z"⟩
abbrev cX5_insert : ByteArray := prog_7_method_6_code
def yX5_insert : MethodName := ⟨RX5, "insert", "(IIII)I"⟩
abbrev cX5_remove : ByteArray := prog_7_method_7_code
def yX5_remove : MethodName := ⟨RX5, "remove", "(I)V"⟩
abbrev cX5_copyFrom : ByteArray := prog_7_method_8_code
def yX5_copyFrom : MethodName := ⟨RX5, "copyFrom", "(LBaroRuns$Track;)V"⟩
abbrev cX5_move : ByteArray := prog_7_method_9_code
def yX5_move : MethodName := ⟨RX5, "move", "(II)V"⟩
def RX6 : String := "BaroRuns"
def TX6 : u_T := fun k => match k with
  | 0 => ("BaroRuns", "now", "LBaroRuns$State;", true)
  | 1 => ("BaroRuns", "trial", "LBaroRuns$State;", true)
  | 2 => ("BaroRuns", "history", "LBaroRuns$History;", true)
  | 3 => ("BaroRuns", "firstSurvey", "LBaroRuns$Survey;", true)
  | 4 => ("BaroRuns", "secondSurvey", "LBaroRuns$Survey;", true)
  | 5 => ("BaroRuns", "thirdSurvey", "LBaroRuns$Survey;", true)
  | 6 => ("BaroRuns", "pointSum", "LBaroRuns$PointSum;", true)
  | 7 => ("BaroRuns", "text", "LBaroRuns$Text;", true)
  | _ => ("BaroRuns", "stale", "Z", false)
def tyX6 : Nat → FieldType := fun k => match k with
  | 0 => .object "BaroRuns$State"
  | 1 => .object "BaroRuns$State"
  | 2 => .object "BaroRuns$History"
  | 3 => .object "BaroRuns$Survey"
  | 4 => .object "BaroRuns$Survey"
  | 5 => .object "BaroRuns$Survey"
  | 6 => .object "BaroRuns$PointSum"
  | 7 => .object "BaroRuns$Text"
  | _ => .boolean
abbrev wsX60 : List Cond := u_ws RX6 TX6 9
theorem nmX6 : ∀ a, a < 9 → ∀ b, b < 9 → a ≠ b → (TX6 a).2.1 ≠ (TX6 b).2.1 := by decide +kernel
theorem tyX6_ok : ∀ k, k < 9 → parseFieldDescriptor (TX6 k).2.2.1 = some (tyX6 k) := by decide +kernel
abbrev cX6_init : ByteArray := prog_1_method_1_code
def yX6_init : MethodName := ⟨RX6, "<init>", "()V"⟩
abbrev cX6_set : ByteArray := prog_1_method_2_code
def yX6_set : MethodName := ⟨RX6, "set", "(II)I"⟩
abbrev cX6_base : ByteArray := prog_1_method_3_code
def yX6_base : MethodName := ⟨RX6, "base", "(III)I"⟩
abbrev cX6_read : ByteArray := prog_1_method_4_code
def yX6_read : MethodName := ⟨RX6, "read", "(IIIII)I"⟩
abbrev cX6_drop : ByteArray := prog_1_method_5_code
def yX6_drop : MethodName := ⟨RX6, "drop", "(II)I"⟩
abbrev cX6_reading : ByteArray := prog_1_method_6_code
def yX6_reading : MethodName := ⟨RX6, "reading", "(III)I"⟩
abbrev cX6_count : ByteArray := prog_1_method_7_code
def yX6_count : MethodName := ⟨RX6, "count", "(I)I"⟩
abbrev cX6_undo : ByteArray := prog_1_method_8_code
def yX6_undo : MethodName := ⟨RX6, "undo", "()I"⟩
abbrev cX6_baseAt : ByteArray := prog_1_method_9_code
def yX6_baseAt : MethodName := ⟨RX6, "baseAt", "(II)I"⟩
abbrev cX6_raw : ByteArray := prog_1_method_11_code
def yX6_raw : MethodName := ⟨RX6, "raw", "(II)I"⟩
abbrev cX6_would : ByteArray := prog_1_method_12_code
def yX6_would : MethodName := ⟨RX6, "would", "(III)I"⟩
abbrev cX6_loops : ByteArray := prog_1_method_14_code
def yX6_loops : MethodName := ⟨RX6, "loops", "(I)I"⟩
abbrev cX6_loop : ByteArray := prog_1_method_15_code
def yX6_loop : MethodName := ⟨RX6, "loop", "(III)I"⟩
abbrev cX6_openLoop : ByteArray := prog_1_method_16_code
def yX6_openLoop : MethodName := ⟨RX6, "openLoop", "(II)I"⟩
abbrev cX6_corrected : ByteArray := prog_1_method_17_code
def yX6_corrected : MethodName := ⟨RX6, "corrected", "(II)I"⟩
abbrev cX6_point : ByteArray := prog_1_method_18_code
def yX6_point : MethodName := ⟨RX6, "point", "(II)I"⟩
abbrev cX6_within : ByteArray := prog_1_method_24_code
def yX6_within : MethodName := ⟨RX6, "within", "(III)Z"⟩
abbrev cX6_isSetting : ByteArray := prog_1_method_25_code
def yX6_isSetting : MethodName := ⟨RX6, "isSetting", "(II)Z"⟩
abbrev cX6_isCell : ByteArray := prog_1_method_26_code
def yX6_isCell : MethodName := ⟨RX6, "isCell", "(I)Z"⟩
abbrev cX6_isPoint : ByteArray := prog_1_method_27_code
def yX6_isPoint : MethodName := ⟨RX6, "isPoint", "(I)Z"⟩
abbrev cX6_isTime : ByteArray := prog_1_method_28_code
def yX6_isTime : MethodName := ⟨RX6, "isTime", "(I)Z"⟩
abbrev cX6_isTemperature : ByteArray := prog_1_method_29_code
def yX6_isTemperature : MethodName := ⟨RX6, "isTemperature", "(I)Z"⟩
abbrev cX6_isReading : ByteArray := prog_1_method_30_code
def yX6_isReading : MethodName := ⟨RX6, "isReading", "(III)Z"⟩
abbrev cX6_isReadingOf : ByteArray := prog_1_method_31_code
def yX6_isReadingOf : MethodName := ⟨RX6, "isReadingOf", "(II)Z"⟩
abbrev cX6_at : ByteArray := prog_1_method_32_code
def yX6_at : MethodName := ⟨RX6, "at", "([II)I"⟩
abbrev cX6_put : ByteArray := prog_1_method_33_code
def yX6_put : MethodName := ⟨RX6, "put", "([III)V"⟩
abbrev cX6_divideDown : ByteArray := prog_1_method_34_code
def yX6_divideDown : MethodName := ⟨RX6, "divideDown", "(JJ)J"⟩
abbrev cX6_record : ByteArray := prog_1_method_35_code
def yX6_record : MethodName := ⟨RX6, "record", "()V"⟩
abbrev cX6_take : ByteArray := prog_1_method_36_code
def yX6_take : MethodName := ⟨RX6, "take", "(IIIII)I"⟩
abbrev cX6_refresh : ByteArray := prog_1_method_38_code
def yX6_refresh : MethodName := ⟨RX6, "refresh", "()V"⟩
abbrev cX6_surveyOf : ByteArray := prog_1_method_39_code
def yX6_surveyOf : MethodName := ⟨RX6, "surveyOf", "(I)LBaroRuns$Survey;"⟩
abbrev cX6_pointsWithHeight : ByteArray := prog_1_method_40_code
def yX6_pointsWithHeight : MethodName := ⟨RX6, "pointsWithHeight", "()I"⟩
abbrev cX6_gather : ByteArray := prog_1_method_41_code
def yX6_gather : MethodName := ⟨RX6, "gather", "(I)V"⟩
def RX7 : String := "BaroRunsModel"
def TX7 : u_T := fun k => match k with
  | _ => ("", "", "", false)
def tyX7 : Nat → FieldType := fun k => match k with
  | _ => .int
abbrev wsX70 : List Cond := u_ws RX7 TX7 0
theorem nmX7 : ∀ a, a < 0 → ∀ b, b < 0 → a ≠ b → (TX7 a).2.1 ≠ (TX7 b).2.1 := by decide +kernel
theorem tyX7_ok : ∀ k, k < 0 → parseFieldDescriptor (TX7 k).2.2.1 = some (tyX7 k) := by decide +kernel
def RJ9 : String := "java/lang/Math"
def TJ9 : u_T := fun k => match k with
  | _ => ("", "", "", false)
def tyJ9 : Nat → FieldType := fun k => match k with
  | _ => .int
abbrev wsJ90 : List Cond := u_ws RJ9 TJ9 0
theorem nmJ9 : ∀ a, a < 0 → ∀ b, b < 0 → a ≠ b → (TJ9 a).2.1 ≠ (TJ9 b).2.1 := by decide +kernel
theorem tyJ9_ok : ∀ k, k < 0 → parseFieldDescriptor (TJ9 k).2.2.1 = some (tyJ9 k) := by decide +kernel
abbrev cJ9_floorDiv_7cf53 : ByteArray := prog_10_method_47_code
def yJ9_floorDiv_7cf53 : MethodName := ⟨RJ9, "floorDiv", "(II)I"⟩
abbrev cJ9_floorDiv_f86c9 : ByteArray := prog_10_method_49_code
def yJ9_floorDiv_f86c9 : MethodName := ⟨RJ9, "floorDiv", "(JJ)J"⟩
abbrev cJ9_abs_0f7a4 : ByteArray := prog_10_method_59_code
def yJ9_abs_0f7a4 : MethodName := ⟨RJ9, "abs", "(I)I"⟩
abbrev cJ9_max_7cf53 : ByteArray := prog_10_method_65_code
def yJ9_max_7cf53 : MethodName := ⟨RJ9, "max", "(II)I"⟩
abbrev cJ9_min_7cf53 : ByteArray := prog_10_method_69_code
def yJ9_min_7cf53 : MethodName := ⟨RJ9, "min", "(II)I"⟩
def RJ10 : String := "java/lang/System"
def TJ10 : u_T := fun k => match k with
  | _ => ("", "", "", false)
def tyJ10 : Nat → FieldType := fun k => match k with
  | _ => .int
abbrev wsJ100 : List Cond := u_ws RJ10 TJ10 0
theorem nmJ10 : ∀ a, a < 0 → ∀ b, b < 0 → a ≠ b → (TJ10 a).2.1 ≠ (TJ10 b).2.1 := by decide +kernel
theorem tyJ10_ok : ∀ k, k < 0 → parseFieldDescriptor (TJ10 k).2.2.1 = some (tyJ10 k) := by decide +kernel
def RL : String := "BaroRunsLaw"
abbrev cL_cell : ByteArray := method_2_code
def yL_cell : MethodName := ⟨RL, "cell", "([II)I"⟩
abbrev cL_holds : ByteArray := method_3_code
def yL_holds : MethodName := ⟨RL, "holds", "(LBaroRuns;)Z"⟩
abbrev cL_level : ByteArray := method_4_code
def yL_level : MethodName := ⟨RL, "level", "(LBaroRuns;)Z"⟩
abbrev cL_law : ByteArray := code
def yL_law : MethodName := ⟨RL, "law", "([I)Z"⟩
def wsX5_init : List Cond := .code yX5_init cX5_init 2 none :: ([.methodLink RX5 3 objectInit, .instanceMethod objectInit, .code objectInit ⟨#[0xb1]⟩ 1 none, .arrayClass .int, .fieldLink RX5 9 "BaroRuns$Track" "values" "[I", .methodLink RX5 15 Lib.Math.min.name, .static Lib.Math.min.name, .initialized "java/lang/Math", .code Lib.Math.min.name Lib.Math.min.code 2 (some .int), .fieldLink RX5 21 "BaroRuns$Track" "room" "I"] ++ wsX50)
def wsX2_init : List Cond := .code yX2_init cX2_init 1 none :: ([.methodLink RX2 3 objectInit, .instanceMethod objectInit, .code objectInit ⟨#[0xb1]⟩ 1 none, .classLink RX2 9 RX5, .instantiable RX5 3, .initialized RX5, .fieldLink RX2 14 "BaroRuns$State" "baseTrack" "LBaroRuns$Track;", .fieldLink RX2 20 "BaroRuns$State" "firstTrack" "LBaroRuns$Track;", .fieldLink RX2 23 "BaroRuns$State" "secondTrack" "LBaroRuns$Track;", .fieldLink RX2 26 "BaroRuns$State" "thirdTrack" "LBaroRuns$Track;", .fieldLink RX2 29 "BaroRuns$State" "baseHeight" "I", .fieldLink RX2 33 "BaroRuns$State" "gustLimit" "I", .fieldLink RX2 36 "BaroRuns$State" "stepLimit" "I", .methodLink RX2 11 yX5_init, .instanceMethod yX5_init, .code yX5_init cX5_init 2 none, .methodLink RX5 3 objectInit, .arrayClass .int, .fieldLink RX5 9 "BaroRuns$Track" "values" "[I", .methodLink RX5 15 Lib.Math.min.name, .static Lib.Math.min.name, .initialized "java/lang/Math", .code Lib.Math.min.name Lib.Math.min.code 2 (some .int), .fieldLink RX5 21 "BaroRuns$Track" "room" "I"] ++ wsX50 ++ wsX20)
def wsX0_init_r1 : List Cond := [Cond.methodLink RX0 3 objectInit, Cond.instanceMethod objectInit, Cond.code objectInit ⟨#[0xb1]⟩ 1 none, Cond.classLink RX0 9 RX2, Cond.fieldLink RX0 11 "BaroRuns$History" "places" "[LBaroRuns$State;", Cond.instantiable RX2 7, Cond.initialized RX2, Cond.methodLink RX0 17 yX2_init, Cond.instanceMethod yX2_init, Cond.code yX2_init cX2_init 1 none, Cond.methodLink RX2 3 objectInit, Cond.classLink RX2 9 RX5, Cond.instantiable RX5 3, Cond.initialized RX5, Cond.fieldLink RX2 14 "BaroRuns$State" "baseTrack" "LBaroRuns$Track;", Cond.fieldLink RX2 20 "BaroRuns$State" "firstTrack" "LBaroRuns$Track;", Cond.fieldLink RX2 23 "BaroRuns$State" "secondTrack" "LBaroRuns$Track;", Cond.fieldLink RX2 26 "BaroRuns$State" "thirdTrack" "LBaroRuns$Track;", Cond.fieldLink RX2 29 "BaroRuns$State" "baseHeight" "I", Cond.fieldLink RX2 33 "BaroRuns$State" "gustLimit" "I", Cond.fieldLink RX2 36 "BaroRuns$State" "stepLimit" "I", Cond.methodLink RX2 11 yX5_init, Cond.instanceMethod yX5_init, Cond.code yX5_init cX5_init 2 none]
def wsX0_init_r2 : List Cond := [Cond.methodLink RX5 3 objectInit, Cond.arrayClass .int, Cond.fieldLink RX5 9 "BaroRuns$Track" "values" "[I", Cond.methodLink RX5 15 Lib.Math.min.name, Cond.static Lib.Math.min.name, Cond.initialized "java/lang/Math", Cond.code Lib.Math.min.name Lib.Math.min.code 2 (some .int), Cond.fieldLink RX5 21 "BaroRuns$Track" "room" "I"]
def wsX0_init : List Cond := .code yX0_init cX0_init 2 none :: ((wsX0_init_r1 ++ wsX0_init_r2) ++ wsX00 ++ wsX20 ++ wsX50)
def wsX0_place : List Cond := .code yX0_place cX0_place 3 (some (.object "BaroRuns$State")) :: ([.fieldLink RX0 22 "BaroRuns$History" "oldest" "I", .fieldLink RX0 11 "BaroRuns$History" "places" "[LBaroRuns$State;"] ++ wsX00)
def wsX5_copyFrom : List Cond := .code yX5_copyFrom cX5_copyFrom 2 none :: ([.fieldLink RX5 9 "BaroRuns$Track" "values" "[I", .methodLink RX5 15 Lib.Math.min.name, .static Lib.Math.min.name, .initialized "java/lang/Math", .code Lib.Math.min.name Lib.Math.min.code 2 (some .int), .methodLink RX5 43 arraycopyName, .native arraycopyName, .static arraycopyName, .initialized "java/lang/System", .fieldLink RX5 29 "BaroRuns$Track" "size" "I"] ++ wsX50)
def wsX2_copyFrom : List Cond := .code yX2_copyFrom cX2_copyFrom 2 none :: ([.fieldLink RX2 14 "BaroRuns$State" "baseTrack" "LBaroRuns$Track;", .fieldLink RX2 20 "BaroRuns$State" "firstTrack" "LBaroRuns$Track;", .fieldLink RX2 23 "BaroRuns$State" "secondTrack" "LBaroRuns$Track;", .fieldLink RX2 26 "BaroRuns$State" "thirdTrack" "LBaroRuns$Track;", .fieldLink RX2 29 "BaroRuns$State" "baseHeight" "I", .fieldLink RX2 33 "BaroRuns$State" "gustLimit" "I", .fieldLink RX2 36 "BaroRuns$State" "stepLimit" "I", .methodLink RX2 39 yX5_copyFrom, .instanceMethod yX5_copyFrom, .selects RX5 yX5_copyFrom yX5_copyFrom, .initialized RX5, .code yX5_copyFrom cX5_copyFrom 2 none, .fieldLink RX5 9 "BaroRuns$Track" "values" "[I", .methodLink RX5 15 Lib.Math.min.name, .static Lib.Math.min.name, .initialized "java/lang/Math", .code Lib.Math.min.name Lib.Math.min.code 2 (some .int), .methodLink RX5 43 arraycopyName, .native arraycopyName, .static arraycopyName, .initialized "java/lang/System", .fieldLink RX5 29 "BaroRuns$Track" "size" "I"] ++ wsX20 ++ wsX50)
def wsX0_keep_r1 : List Cond := [Cond.fieldLink RX0 18 "BaroRuns$History" "size" "I", Cond.fieldLink RX0 22 "BaroRuns$History" "oldest" "I", Cond.methodLink RX0 25 yX0_place, Cond.instanceMethod yX0_place, Cond.selects RX0 yX0_place yX0_place, Cond.initialized RX0, Cond.code yX0_place cX0_place 3 (some (.object "BaroRuns$State")), Cond.fieldLink RX0 11 "BaroRuns$History" "places" "[LBaroRuns$State;", Cond.methodLink RX0 29 yX2_copyFrom, Cond.instanceMethod yX2_copyFrom, Cond.selects RX2 yX2_copyFrom yX2_copyFrom, Cond.initialized RX2, Cond.code yX2_copyFrom cX2_copyFrom 2 none, Cond.fieldLink RX2 14 "BaroRuns$State" "baseTrack" "LBaroRuns$Track;", Cond.fieldLink RX2 20 "BaroRuns$State" "firstTrack" "LBaroRuns$Track;", Cond.fieldLink RX2 23 "BaroRuns$State" "secondTrack" "LBaroRuns$Track;", Cond.fieldLink RX2 26 "BaroRuns$State" "thirdTrack" "LBaroRuns$Track;", Cond.fieldLink RX2 29 "BaroRuns$State" "baseHeight" "I", Cond.fieldLink RX2 33 "BaroRuns$State" "gustLimit" "I", Cond.fieldLink RX2 36 "BaroRuns$State" "stepLimit" "I", Cond.methodLink RX2 39 yX5_copyFrom, Cond.instanceMethod yX5_copyFrom, Cond.selects RX5 yX5_copyFrom yX5_copyFrom, Cond.initialized RX5]
def wsX0_keep_r2 : List Cond := [Cond.code yX5_copyFrom cX5_copyFrom 2 none, Cond.fieldLink RX5 9 "BaroRuns$Track" "values" "[I", Cond.methodLink RX5 15 Lib.Math.min.name, Cond.static Lib.Math.min.name, Cond.initialized "java/lang/Math", Cond.code Lib.Math.min.name Lib.Math.min.code 2 (some .int), Cond.methodLink RX5 43 arraycopyName, Cond.native arraycopyName, Cond.static arraycopyName, Cond.initialized "java/lang/System", Cond.fieldLink RX5 29 "BaroRuns$Track" "size" "I"]
def wsX0_keep : List Cond := .code yX0_keep cX0_keep 3 none :: ((wsX0_keep_r1 ++ wsX0_keep_r2) ++ wsX00 ++ wsX20 ++ wsX50)
def wsX0_giveBack_r1 : List Cond := [Cond.fieldLink RX0 18 "BaroRuns$History" "size" "I", Cond.methodLink RX0 25 yX0_place, Cond.instanceMethod yX0_place, Cond.selects RX0 yX0_place yX0_place, Cond.initialized RX0, Cond.code yX0_place cX0_place 3 (some (.object "BaroRuns$State")), Cond.fieldLink RX0 22 "BaroRuns$History" "oldest" "I", Cond.fieldLink RX0 11 "BaroRuns$History" "places" "[LBaroRuns$State;", Cond.methodLink RX0 29 yX2_copyFrom, Cond.instanceMethod yX2_copyFrom, Cond.selects RX2 yX2_copyFrom yX2_copyFrom, Cond.initialized RX2, Cond.code yX2_copyFrom cX2_copyFrom 2 none, Cond.fieldLink RX2 14 "BaroRuns$State" "baseTrack" "LBaroRuns$Track;", Cond.fieldLink RX2 20 "BaroRuns$State" "firstTrack" "LBaroRuns$Track;", Cond.fieldLink RX2 23 "BaroRuns$State" "secondTrack" "LBaroRuns$Track;", Cond.fieldLink RX2 26 "BaroRuns$State" "thirdTrack" "LBaroRuns$Track;", Cond.fieldLink RX2 29 "BaroRuns$State" "baseHeight" "I", Cond.fieldLink RX2 33 "BaroRuns$State" "gustLimit" "I", Cond.fieldLink RX2 36 "BaroRuns$State" "stepLimit" "I", Cond.methodLink RX2 39 yX5_copyFrom, Cond.instanceMethod yX5_copyFrom, Cond.selects RX5 yX5_copyFrom yX5_copyFrom, Cond.initialized RX5]
def wsX0_giveBack_r2 : List Cond := [Cond.code yX5_copyFrom cX5_copyFrom 2 none, Cond.fieldLink RX5 9 "BaroRuns$Track" "values" "[I", Cond.methodLink RX5 15 Lib.Math.min.name, Cond.static Lib.Math.min.name, Cond.initialized "java/lang/Math", Cond.code Lib.Math.min.name Lib.Math.min.code 2 (some .int), Cond.methodLink RX5 43 arraycopyName, Cond.native arraycopyName, Cond.static arraycopyName, Cond.initialized "java/lang/System", Cond.fieldLink RX5 29 "BaroRuns$Track" "size" "I"]
def wsX0_giveBack : List Cond := .code yX0_giveBack cX0_giveBack 3 none :: ((wsX0_giveBack_r1 ++ wsX0_giveBack_r2) ++ wsX00 ++ wsX20 ++ wsX50)
def wsX1_init : List Cond := .code yX1_init cX1_init 1 none :: ([.methodLink RX1 1 objectInit, .instanceMethod objectInit, .code objectInit ⟨#[0xb1]⟩ 1 none])
def wsX1_clear : List Cond := .code yX1_clear cX1_clear 1 none :: ([.fieldLink RX1 7 "BaroRuns$PointSum" "sum" "J", .fieldLink RX1 13 "BaroRuns$PointSum" "number" "I"] ++ wsX10)
def wsX1_add : List Cond := .code yX1_add cX1_add 2 none :: ([.fieldLink RX1 13 "BaroRuns$PointSum" "number" "I", .fieldLink RX1 17 "BaroRuns$PointSum" "least" "I", .methodLink RX1 20 Lib.Math.min.name, .static Lib.Math.min.name, .initialized "java/lang/Math", .code Lib.Math.min.name Lib.Math.min.code 2 (some .int), .fieldLink RX1 26 "BaroRuns$PointSum" "greatest" "I", .methodLink RX1 29 Lib.Math.max.name, .static Lib.Math.max.name, .code Lib.Math.max.name Lib.Math.max.code 2 (some .int), .fieldLink RX1 7 "BaroRuns$PointSum" "sum" "J"] ++ wsX10)
def wsJ9_floorDiv_f86c9 : List Cond := .code yJ9_floorDiv_f86c9 cJ9_floorDiv_f86c9 6 (some .long) :: ([])
def wsX6_divideDown : List Cond := .code yX6_divideDown cX6_divideDown 4 (some .long) :: ([.methodLink RX6 236 yJ9_floorDiv_f86c9, .static yJ9_floorDiv_f86c9, .initialized RJ9, .code yJ9_floorDiv_f86c9 cJ9_floorDiv_f86c9 6 (some .long)])
def wsX1_height : List Cond := .code yX1_height cX1_height 1 (some .int) :: ([.fieldLink RX1 7 "BaroRuns$PointSum" "sum" "J", .fieldLink RX1 13 "BaroRuns$PointSum" "number" "I", .static yX6_divideDown, .initialized RX6, .code yX6_divideDown cX6_divideDown 4 (some .long), .methodLink RX6 236 yJ9_floorDiv_f86c9, .static yJ9_floorDiv_f86c9, .initialized RJ9, .code yJ9_floorDiv_f86c9 cJ9_floorDiv_f86c9 6 (some .long)] ++ wsX10)
def wsX1_spread : List Cond := .code yX1_spread cX1_spread 1 (some .int) :: ([.fieldLink RX1 26 "BaroRuns$PointSum" "greatest" "I", .fieldLink RX1 17 "BaroRuns$PointSum" "least" "I"] ++ wsX10)
def wsX2_track : List Cond := .code yX2_track cX2_track 2 (some (.object "BaroRuns$Track")) :: ([.fieldLink RX2 20 "BaroRuns$State" "firstTrack" "LBaroRuns$Track;", .fieldLink RX2 23 "BaroRuns$State" "secondTrack" "LBaroRuns$Track;", .fieldLink RX2 26 "BaroRuns$State" "thirdTrack" "LBaroRuns$Track;", .fieldLink RX2 14 "BaroRuns$State" "baseTrack" "LBaroRuns$Track;"] ++ wsX20)
def wsX2_setting : List Cond := .code yX2_setting cX2_setting 2 (some .int) :: ([.fieldLink RX2 29 "BaroRuns$State" "baseHeight" "I", .fieldLink RX2 33 "BaroRuns$State" "gustLimit" "I", .fieldLink RX2 36 "BaroRuns$State" "stepLimit" "I"] ++ wsX20)
def wsX2_putSetting : List Cond := .code yX2_putSetting cX2_putSetting 3 none :: ([.fieldLink RX2 29 "BaroRuns$State" "baseHeight" "I", .fieldLink RX2 33 "BaroRuns$State" "gustLimit" "I", .fieldLink RX2 36 "BaroRuns$State" "stepLimit" "I"] ++ wsX20)
def wsX6_at : List Cond := .code yX6_at cX6_at 2 (some .int) :: ([])
def wsX5_value : List Cond := .code yX5_value cX5_value 3 (some .int) :: ([.fieldLink RX5 9 "BaroRuns$Track" "values" "[I", .static yX6_at, .initialized RX6, .code yX6_at cX6_at 2 (some .int)] ++ wsX50)
def wsX2_baseValue : List Cond := .code yX2_baseValue cX2_baseValue 10 (some .int) :: ([.fieldLink RX2 14 "BaroRuns$State" "baseTrack" "LBaroRuns$Track;", .constant RX2 50 (-2000000004), .methodLink RX2 46 yX5_value, .instanceMethod yX5_value, .selects RX5 yX5_value yX5_value, .initialized RX5, .code yX5_value cX5_value 3 (some .int), .fieldLink RX5 9 "BaroRuns$Track" "values" "[I", .static yX6_at, .initialized RX6, .code yX6_at cX6_at 2 (some .int), .static yX6_divideDown, .code yX6_divideDown cX6_divideDown 4 (some .long), .methodLink RX6 236 yJ9_floorDiv_f86c9, .static yJ9_floorDiv_f86c9, .initialized RJ9, .code yJ9_floorDiv_f86c9 cJ9_floorDiv_f86c9 6 (some .long)] ++ wsX20 ++ wsX50)
def wsJ9_floorDiv_7cf53 : List Cond := .code yJ9_floorDiv_7cf53 cJ9_floorDiv_7cf53 3 (some .int) :: ([])
def wsX2_heightAt_r1 : List Cond := [Cond.constant RX2 50 (-2000000004), Cond.constantLong RX2 63 (2930), Cond.fieldLink RX2 29 "BaroRuns$State" "baseHeight" "I", Cond.methodLink RX2 55 yX2_baseValue, Cond.instanceMethod yX2_baseValue, Cond.selects RX2 yX2_baseValue yX2_baseValue, Cond.initialized RX2, Cond.code yX2_baseValue cX2_baseValue 10 (some .int), Cond.fieldLink RX2 14 "BaroRuns$State" "baseTrack" "LBaroRuns$Track;", Cond.methodLink RX2 46 yX5_value, Cond.instanceMethod yX5_value, Cond.selects RX5 yX5_value yX5_value, Cond.initialized RX5, Cond.code yX5_value cX5_value 3 (some .int), Cond.fieldLink RX5 9 "BaroRuns$Track" "values" "[I", Cond.static yX6_at, Cond.initialized RX6, Cond.code yX6_at cX6_at 2 (some .int), Cond.static yX6_divideDown, Cond.code yX6_divideDown cX6_divideDown 4 (some .long), Cond.methodLink RX6 236 yJ9_floorDiv_f86c9, Cond.static yJ9_floorDiv_f86c9, Cond.initialized RJ9, Cond.code yJ9_floorDiv_f86c9 cJ9_floorDiv_f86c9 6 (some .long)]
def wsX2_heightAt_r2 : List Cond := [Cond.methodLink RX2 58 yJ9_floorDiv_7cf53, Cond.static yJ9_floorDiv_7cf53, Cond.code yJ9_floorDiv_7cf53 cJ9_floorDiv_7cf53 3 (some .int)]
def wsX2_heightAt : List Cond := .code yX2_heightAt cX2_heightAt 12 (some .int) :: ((wsX2_heightAt_r1 ++ wsX2_heightAt_r2) ++ wsX20 ++ wsX50)
def wsX2_isStepEnd : List Cond := .code yX2_isStepEnd cX2_isStepEnd 3 (some .boolean) :: ([.fieldLink RX2 14 "BaroRuns$State" "baseTrack" "LBaroRuns$Track;", .methodLink RX2 65 Lib.Math.abs.name, .static Lib.Math.abs.name, .initialized "java/lang/Math", .code Lib.Math.abs.name Lib.Math.abs.code 1 (some .int), .fieldLink RX2 36 "BaroRuns$State" "stepLimit" "I", .methodLink RX2 46 yX5_value, .instanceMethod yX5_value, .selects RX5 yX5_value yX5_value, .initialized RX5, .code yX5_value cX5_value 3 (some .int), .fieldLink RX5 9 "BaroRuns$Track" "values" "[I", .static yX6_at, .initialized RX6, .code yX6_at cX6_at 2 (some .int)] ++ wsX20 ++ wsX50)
def wsX2_steps : List Cond := .code yX2_steps cX2_steps 3 (some .int) :: ([.fieldLink RX2 14 "BaroRuns$State" "baseTrack" "LBaroRuns$Track;", .methodLink RX2 69 yX2_isStepEnd, .instanceMethod yX2_isStepEnd, .selects RX2 yX2_isStepEnd yX2_isStepEnd, .initialized RX2, .code yX2_isStepEnd cX2_isStepEnd 3 (some .boolean), .methodLink RX2 65 Lib.Math.abs.name, .static Lib.Math.abs.name, .initialized "java/lang/Math", .code Lib.Math.abs.name Lib.Math.abs.code 1 (some .int), .fieldLink RX2 36 "BaroRuns$State" "stepLimit" "I", .methodLink RX2 46 yX5_value, .instanceMethod yX5_value, .selects RX5 yX5_value yX5_value, .initialized RX5, .code yX5_value cX5_value 3 (some .int), .fieldLink RX5 9 "BaroRuns$Track" "values" "[I", .static yX6_at, .initialized RX6, .code yX6_at cX6_at 2 (some .int)] ++ wsX20 ++ wsX50)
def wsX3_init : List Cond := .code yX3_init cX3_init 1 none :: ([.methodLink RX3 3 objectInit, .instanceMethod objectInit, .code objectInit ⟨#[0xb1]⟩ 1 none, .arrayClass .int, .fieldLink RX3 9 "BaroRuns$Survey" "times" "[I", .fieldLink RX3 15 "BaroRuns$Survey" "points" "[I", .fieldLink RX3 18 "BaroRuns$Survey" "heights" "[I", .fieldLink RX3 21 "BaroRuns$Survey" "gusts" "[I", .fieldLink RX3 24 "BaroRuns$Survey" "openLoops" "[I", .fieldLink RX3 27 "BaroRuns$Survey" "correctedHeights" "[I", .fieldLink RX3 30 "BaroRuns$Survey" "begins" "[I", .fieldLink RX3 33 "BaroRuns$Survey" "ends" "[I"] ++ wsX30)
def wsX6_put : List Cond := .code yX6_put cX6_put 3 none :: ([])
def wsX5_standsOut : List Cond := .code yX5_standsOut cX5_standsOut 6 (some .boolean) :: ([.fieldLink RX5 29 "BaroRuns$Track" "size" "I", .methodLink RX5 32 yX5_value, .instanceMethod yX5_value, .selects RX5 yX5_value yX5_value, .initialized RX5, .code yX5_value cX5_value 3 (some .int), .fieldLink RX5 9 "BaroRuns$Track" "values" "[I", .static yX6_at, .initialized RX6, .code yX6_at cX6_at 2 (some .int)] ++ wsX50)
def wsX3_isGust : List Cond := .code yX3_isGust cX3_isGust 2 (some .boolean) :: ([.fieldLink RX3 21 "BaroRuns$Survey" "gusts" "[I", .static yX6_at, .initialized RX6, .code yX6_at cX6_at 2 (some .int)] ++ wsX30)
def wsX3_isGood : List Cond := .code yX3_isGood cX3_isGood 2 (some .boolean) :: ([.fieldLink RX3 18 "BaroRuns$Survey" "heights" "[I", .constant RX3 85 (-2000000004), .fieldLink RX3 21 "BaroRuns$Survey" "gusts" "[I", .static yX6_at, .initialized RX6, .code yX6_at cX6_at 2 (some .int)] ++ wsX30)
def wsX3_countKinds : List Cond := .code yX3_countKinds cX3_countKinds 2 none :: ([.fieldLink RX3 114 "BaroRuns$Survey" "gustCount" "I", .fieldLink RX3 117 "BaroRuns$Survey" "goodCount" "I", .fieldLink RX3 48 "BaroRuns$Survey" "size" "I", .methodLink RX3 120 yX3_isGust, .instanceMethod yX3_isGust, .selects RX3 yX3_isGust yX3_isGust, .initialized RX3, .code yX3_isGust cX3_isGust 2 (some .boolean), .fieldLink RX3 21 "BaroRuns$Survey" "gusts" "[I", .static yX6_at, .initialized RX6, .code yX6_at cX6_at 2 (some .int), .methodLink RX3 95 yX3_isGood, .instanceMethod yX3_isGood, .selects RX3 yX3_isGood yX3_isGood, .code yX3_isGood cX3_isGood 2 (some .boolean), .fieldLink RX3 18 "BaroRuns$Survey" "heights" "[I", .constant RX3 85 (-2000000004)] ++ wsX30)
def wsX3_lastVisit : List Cond := .code yX3_lastVisit cX3_lastVisit 4 (some .int) :: ([.fieldLink RX3 15 "BaroRuns$Survey" "points" "[I", .static yX6_at, .initialized RX6, .code yX6_at cX6_at 2 (some .int), .methodLink RX3 95 yX3_isGood, .instanceMethod yX3_isGood, .selects RX3 yX3_isGood yX3_isGood, .initialized RX3, .code yX3_isGood cX3_isGood 2 (some .boolean), .fieldLink RX3 18 "BaroRuns$Survey" "heights" "[I", .constant RX3 85 (-2000000004), .fieldLink RX3 21 "BaroRuns$Survey" "gusts" "[I"] ++ wsX30)
def wsX3_findLoops : List Cond := .code yX3_findLoops cX3_findLoops 3 none :: ([.fieldLink RX3 123 "BaroRuns$Survey" "loopCount" "I", .fieldLink RX3 48 "BaroRuns$Survey" "size" "I", .fieldLink RX3 30 "BaroRuns$Survey" "begins" "[I", .fieldLink RX3 33 "BaroRuns$Survey" "ends" "[I", .methodLink RX3 95 yX3_isGood, .instanceMethod yX3_isGood, .selects RX3 yX3_isGood yX3_isGood, .initialized RX3, .code yX3_isGood cX3_isGood 2 (some .boolean), .fieldLink RX3 18 "BaroRuns$Survey" "heights" "[I", .constant RX3 85 (-2000000004), .fieldLink RX3 21 "BaroRuns$Survey" "gusts" "[I", .static yX6_at, .initialized RX6, .code yX6_at cX6_at 2 (some .int), .methodLink RX3 126 yX3_lastVisit, .instanceMethod yX3_lastVisit, .selects RX3 yX3_lastVisit yX3_lastVisit, .code yX3_lastVisit cX3_lastVisit 4 (some .int), .fieldLink RX3 15 "BaroRuns$Survey" "points" "[I", .static yX6_put, .code yX6_put cX6_put 3 none] ++ wsX30)
def wsX3_begin : List Cond := .code yX3_begin cX3_begin 2 (some .int) :: ([.fieldLink RX3 30 "BaroRuns$Survey" "begins" "[I", .static yX6_at, .initialized RX6, .code yX6_at cX6_at 2 (some .int)] ++ wsX30)
def wsX3_end : List Cond := .code yX3_end cX3_end 2 (some .int) :: ([.fieldLink RX3 33 "BaroRuns$Survey" "ends" "[I", .static yX6_at, .initialized RX6, .code yX6_at cX6_at 2 (some .int)] ++ wsX30)
def wsX3_minutes : List Cond := .code yX3_minutes cX3_minutes 2 (some .int) :: ([.fieldLink RX3 9 "BaroRuns$Survey" "times" "[I", .methodLink RX3 86 yX3_end, .instanceMethod yX3_end, .selects RX3 yX3_end yX3_end, .initialized RX3, .code yX3_end cX3_end 2 (some .int), .fieldLink RX3 33 "BaroRuns$Survey" "ends" "[I", .static yX6_at, .initialized RX6, .code yX6_at cX6_at 2 (some .int), .methodLink RX3 89 yX3_begin, .instanceMethod yX3_begin, .selects RX3 yX3_begin yX3_begin, .code yX3_begin cX3_begin 2 (some .int), .fieldLink RX3 30 "BaroRuns$Survey" "begins" "[I"] ++ wsX30)
def wsX3_shortestLoop_r1 : List Cond := [Cond.fieldLink RX3 123 "BaroRuns$Survey" "loopCount" "I", Cond.methodLink RX3 95 yX3_isGood, Cond.instanceMethod yX3_isGood, Cond.selects RX3 yX3_isGood yX3_isGood, Cond.initialized RX3, Cond.code yX3_isGood cX3_isGood 2 (some .boolean), Cond.fieldLink RX3 18 "BaroRuns$Survey" "heights" "[I", Cond.constant RX3 85 (-2000000004), Cond.fieldLink RX3 21 "BaroRuns$Survey" "gusts" "[I", Cond.static yX6_at, Cond.initialized RX6, Cond.code yX6_at cX6_at 2 (some .int), Cond.methodLink RX3 89 yX3_begin, Cond.instanceMethod yX3_begin, Cond.selects RX3 yX3_begin yX3_begin, Cond.code yX3_begin cX3_begin 2 (some .int), Cond.fieldLink RX3 30 "BaroRuns$Survey" "begins" "[I", Cond.methodLink RX3 86 yX3_end, Cond.instanceMethod yX3_end, Cond.selects RX3 yX3_end yX3_end, Cond.code yX3_end cX3_end 2 (some .int), Cond.fieldLink RX3 33 "BaroRuns$Survey" "ends" "[I", Cond.methodLink RX3 129 yX3_minutes, Cond.instanceMethod yX3_minutes]
def wsX3_shortestLoop_r2 : List Cond := [Cond.selects RX3 yX3_minutes yX3_minutes, Cond.code yX3_minutes cX3_minutes 2 (some .int), Cond.fieldLink RX3 9 "BaroRuns$Survey" "times" "[I"]
def wsX3_shortestLoop : List Cond := .code yX3_shortestLoop cX3_shortestLoop 5 (some .int) :: ((wsX3_shortestLoop_r1 ++ wsX3_shortestLoop_r2) ++ wsX30)
def wsX3_openLoopOf : List Cond := .code yX3_openLoopOf cX3_openLoopOf 2 (some .int) :: ([.fieldLink RX3 24 "BaroRuns$Survey" "openLoops" "[I", .static yX6_at, .initialized RX6, .code yX6_at cX6_at 2 (some .int)] ++ wsX30)
def wsX3_rawHeight : List Cond := .code yX3_rawHeight cX3_rawHeight 2 (some .int) :: ([.fieldLink RX3 18 "BaroRuns$Survey" "heights" "[I", .static yX6_at, .initialized RX6, .code yX6_at cX6_at 2 (some .int)] ++ wsX30)
def wsX3_misclosure : List Cond := .code yX3_misclosure cX3_misclosure 2 (some .int) :: ([.methodLink RX3 86 yX3_end, .instanceMethod yX3_end, .selects RX3 yX3_end yX3_end, .initialized RX3, .code yX3_end cX3_end 2 (some .int), .fieldLink RX3 33 "BaroRuns$Survey" "ends" "[I", .static yX6_at, .initialized RX6, .code yX6_at cX6_at 2 (some .int), .methodLink RX3 92 yX3_rawHeight, .instanceMethod yX3_rawHeight, .selects RX3 yX3_rawHeight yX3_rawHeight, .code yX3_rawHeight cX3_rawHeight 2 (some .int), .fieldLink RX3 18 "BaroRuns$Survey" "heights" "[I", .methodLink RX3 89 yX3_begin, .instanceMethod yX3_begin, .selects RX3 yX3_begin yX3_begin, .code yX3_begin cX3_begin 2 (some .int), .fieldLink RX3 30 "BaroRuns$Survey" "begins" "[I"] ++ wsX30)
def wsX3_withoutDrift_r1 : List Cond := [Cond.constant RX3 85 (-2000000004), Cond.fieldLink RX3 9 "BaroRuns$Survey" "times" "[I", Cond.methodLink RX3 95 yX3_isGood, Cond.instanceMethod yX3_isGood, Cond.selects RX3 yX3_isGood yX3_isGood, Cond.initialized RX3, Cond.code yX3_isGood cX3_isGood 2 (some .boolean), Cond.fieldLink RX3 18 "BaroRuns$Survey" "heights" "[I", Cond.fieldLink RX3 21 "BaroRuns$Survey" "gusts" "[I", Cond.static yX6_at, Cond.initialized RX6, Cond.code yX6_at cX6_at 2 (some .int), Cond.methodLink RX3 111 yX3_openLoopOf, Cond.instanceMethod yX3_openLoopOf, Cond.selects RX3 yX3_openLoopOf yX3_openLoopOf, Cond.code yX3_openLoopOf cX3_openLoopOf 2 (some .int), Cond.fieldLink RX3 24 "BaroRuns$Survey" "openLoops" "[I", Cond.methodLink RX3 92 yX3_rawHeight, Cond.instanceMethod yX3_rawHeight, Cond.selects RX3 yX3_rawHeight yX3_rawHeight, Cond.code yX3_rawHeight cX3_rawHeight 2 (some .int), Cond.methodLink RX3 89 yX3_begin, Cond.instanceMethod yX3_begin, Cond.selects RX3 yX3_begin yX3_begin]
def wsX3_withoutDrift_r2 : List Cond := [Cond.code yX3_begin cX3_begin 2 (some .int), Cond.fieldLink RX3 30 "BaroRuns$Survey" "begins" "[I", Cond.methodLink RX3 132 yX3_misclosure, Cond.instanceMethod yX3_misclosure, Cond.selects RX3 yX3_misclosure yX3_misclosure, Cond.code yX3_misclosure cX3_misclosure 2 (some .int), Cond.methodLink RX3 86 yX3_end, Cond.instanceMethod yX3_end, Cond.selects RX3 yX3_end yX3_end, Cond.code yX3_end cX3_end 2 (some .int), Cond.fieldLink RX3 33 "BaroRuns$Survey" "ends" "[I", Cond.methodLink RX3 129 yX3_minutes, Cond.instanceMethod yX3_minutes, Cond.selects RX3 yX3_minutes yX3_minutes, Cond.code yX3_minutes cX3_minutes 2 (some .int), Cond.static yX6_divideDown, Cond.code yX6_divideDown cX6_divideDown 4 (some .long), Cond.methodLink RX6 236 yJ9_floorDiv_f86c9, Cond.static yJ9_floorDiv_f86c9, Cond.initialized RJ9, Cond.code yJ9_floorDiv_f86c9 cJ9_floorDiv_f86c9 6 (some .long)]
def wsX3_withoutDrift : List Cond := .code yX3_withoutDrift cX3_withoutDrift 5 (some .int) :: ((wsX3_withoutDrift_r1 ++ wsX3_withoutDrift_r2) ++ wsX30)
def wsX3_workOut_r1 : List Cond := [Cond.fieldLink RX3 48 "BaroRuns$Survey" "size" "I", Cond.fieldLink RX3 9 "BaroRuns$Survey" "times" "[I", Cond.fieldLink RX3 15 "BaroRuns$Survey" "points" "[I", Cond.fieldLink RX3 18 "BaroRuns$Survey" "heights" "[I", Cond.fieldLink RX3 21 "BaroRuns$Survey" "gusts" "[I", Cond.fieldLink RX3 24 "BaroRuns$Survey" "openLoops" "[I", Cond.fieldLink RX3 27 "BaroRuns$Survey" "correctedHeights" "[I", Cond.methodLink RX3 36 yX2_track, Cond.instanceMethod yX2_track, Cond.selects RX2 yX2_track yX2_track, Cond.initialized RX2, Cond.code yX2_track cX2_track 2 (some (.object "BaroRuns$Track")), Cond.fieldLink RX2 20 "BaroRuns$State" "firstTrack" "LBaroRuns$Track;", Cond.fieldLink RX2 23 "BaroRuns$State" "secondTrack" "LBaroRuns$Track;", Cond.fieldLink RX2 26 "BaroRuns$State" "thirdTrack" "LBaroRuns$Track;", Cond.fieldLink RX2 14 "BaroRuns$State" "baseTrack" "LBaroRuns$Track;", Cond.methodLink RX3 49 yX5_value, Cond.instanceMethod yX5_value, Cond.selects RX5 yX5_value yX5_value, Cond.initialized RX5, Cond.code yX5_value cX5_value 3 (some .int), Cond.fieldLink RX5 9 "BaroRuns$Track" "values" "[I", Cond.static yX6_at, Cond.initialized RX6]
def wsX3_workOut_r2 : List Cond := [Cond.code yX6_at cX6_at 2 (some .int), Cond.static yX6_put, Cond.code yX6_put cX6_put 3 none, Cond.methodLink RX3 57 yX2_heightAt, Cond.instanceMethod yX2_heightAt, Cond.selects RX2 yX2_heightAt yX2_heightAt, Cond.code yX2_heightAt cX2_heightAt 12 (some .int), Cond.constant RX2 50 (-2000000004), Cond.constantLong RX2 63 (2930), Cond.fieldLink RX2 29 "BaroRuns$State" "baseHeight" "I", Cond.methodLink RX2 55 yX2_baseValue, Cond.instanceMethod yX2_baseValue, Cond.selects RX2 yX2_baseValue yX2_baseValue, Cond.code yX2_baseValue cX2_baseValue 10 (some .int), Cond.methodLink RX2 46 yX5_value, Cond.static yX6_divideDown, Cond.code yX6_divideDown cX6_divideDown 4 (some .long), Cond.methodLink RX6 236 yJ9_floorDiv_f86c9, Cond.static yJ9_floorDiv_f86c9, Cond.initialized RJ9, Cond.code yJ9_floorDiv_f86c9 cJ9_floorDiv_f86c9 6 (some .long), Cond.methodLink RX2 58 yJ9_floorDiv_7cf53, Cond.static yJ9_floorDiv_7cf53, Cond.code yJ9_floorDiv_7cf53 cJ9_floorDiv_7cf53 3 (some .int)]
def wsX3_workOut_r3 : List Cond := [Cond.methodLink RX3 64 yX5_standsOut, Cond.instanceMethod yX5_standsOut, Cond.selects RX5 yX5_standsOut yX5_standsOut, Cond.code yX5_standsOut cX5_standsOut 6 (some .boolean), Cond.fieldLink RX5 29 "BaroRuns$Track" "size" "I", Cond.methodLink RX5 32 yX5_value, Cond.methodLink RX3 68 yX3_countKinds, Cond.instanceMethod yX3_countKinds, Cond.selects RX3 yX3_countKinds yX3_countKinds, Cond.initialized RX3, Cond.code yX3_countKinds cX3_countKinds 2 none, Cond.fieldLink RX3 114 "BaroRuns$Survey" "gustCount" "I", Cond.fieldLink RX3 117 "BaroRuns$Survey" "goodCount" "I", Cond.methodLink RX3 120 yX3_isGust, Cond.instanceMethod yX3_isGust, Cond.selects RX3 yX3_isGust yX3_isGust, Cond.code yX3_isGust cX3_isGust 2 (some .boolean), Cond.methodLink RX3 95 yX3_isGood, Cond.instanceMethod yX3_isGood, Cond.selects RX3 yX3_isGood yX3_isGood, Cond.code yX3_isGood cX3_isGood 2 (some .boolean), Cond.constant RX3 85 (-2000000004), Cond.methodLink RX3 71 yX3_findLoops, Cond.instanceMethod yX3_findLoops]
def wsX3_workOut_r4 : List Cond := [Cond.selects RX3 yX3_findLoops yX3_findLoops, Cond.code yX3_findLoops cX3_findLoops 3 none, Cond.fieldLink RX3 123 "BaroRuns$Survey" "loopCount" "I", Cond.fieldLink RX3 30 "BaroRuns$Survey" "begins" "[I", Cond.fieldLink RX3 33 "BaroRuns$Survey" "ends" "[I", Cond.methodLink RX3 126 yX3_lastVisit, Cond.instanceMethod yX3_lastVisit, Cond.selects RX3 yX3_lastVisit yX3_lastVisit, Cond.code yX3_lastVisit cX3_lastVisit 4 (some .int), Cond.methodLink RX3 74 yX3_shortestLoop, Cond.instanceMethod yX3_shortestLoop, Cond.selects RX3 yX3_shortestLoop yX3_shortestLoop, Cond.code yX3_shortestLoop cX3_shortestLoop 5 (some .int), Cond.methodLink RX3 89 yX3_begin, Cond.instanceMethod yX3_begin, Cond.selects RX3 yX3_begin yX3_begin, Cond.code yX3_begin cX3_begin 2 (some .int), Cond.methodLink RX3 86 yX3_end, Cond.instanceMethod yX3_end, Cond.selects RX3 yX3_end yX3_end, Cond.code yX3_end cX3_end 2 (some .int), Cond.methodLink RX3 129 yX3_minutes, Cond.instanceMethod yX3_minutes, Cond.selects RX3 yX3_minutes yX3_minutes]
def wsX3_workOut_r5 : List Cond := [Cond.code yX3_minutes cX3_minutes 2 (some .int), Cond.methodLink RX3 78 yX3_withoutDrift, Cond.instanceMethod yX3_withoutDrift, Cond.selects RX3 yX3_withoutDrift yX3_withoutDrift, Cond.code yX3_withoutDrift cX3_withoutDrift 5 (some .int), Cond.methodLink RX3 111 yX3_openLoopOf, Cond.instanceMethod yX3_openLoopOf, Cond.selects RX3 yX3_openLoopOf yX3_openLoopOf, Cond.code yX3_openLoopOf cX3_openLoopOf 2 (some .int), Cond.methodLink RX3 92 yX3_rawHeight, Cond.instanceMethod yX3_rawHeight, Cond.selects RX3 yX3_rawHeight yX3_rawHeight, Cond.code yX3_rawHeight cX3_rawHeight 2 (some .int), Cond.methodLink RX3 132 yX3_misclosure, Cond.instanceMethod yX3_misclosure, Cond.selects RX3 yX3_misclosure yX3_misclosure, Cond.code yX3_misclosure cX3_misclosure 2 (some .int)]
def wsX3_workOut : List Cond := .code yX3_workOut cX3_workOut 8 none :: ((wsX3_workOut_r1 ++ (wsX3_workOut_r2 ++ (wsX3_workOut_r3 ++ (wsX3_workOut_r4 ++ wsX3_workOut_r5)))) ++ wsX50 ++ wsX30 ++ wsX20)
def wsX3_correctedHeight : List Cond := .code yX3_correctedHeight cX3_correctedHeight 2 (some .int) :: ([.fieldLink RX3 27 "BaroRuns$Survey" "correctedHeights" "[I", .static yX6_at, .initialized RX6, .code yX6_at cX6_at 2 (some .int)] ++ wsX30)
def wsX3_misclosureBySteps_r1 : List Cond := [Cond.fieldLink RX3 48 "BaroRuns$Survey" "size" "I", Cond.methodLink RX3 89 yX3_begin, Cond.instanceMethod yX3_begin, Cond.selects RX3 yX3_begin yX3_begin, Cond.initialized RX3, Cond.code yX3_begin cX3_begin 2 (some .int), Cond.fieldLink RX3 30 "BaroRuns$Survey" "begins" "[I", Cond.static yX6_at, Cond.initialized RX6, Cond.code yX6_at cX6_at 2 (some .int), Cond.methodLink RX3 92 yX3_rawHeight, Cond.instanceMethod yX3_rawHeight, Cond.selects RX3 yX3_rawHeight yX3_rawHeight, Cond.code yX3_rawHeight cX3_rawHeight 2 (some .int), Cond.fieldLink RX3 18 "BaroRuns$Survey" "heights" "[I", Cond.methodLink RX3 86 yX3_end, Cond.instanceMethod yX3_end, Cond.selects RX3 yX3_end yX3_end, Cond.code yX3_end cX3_end 2 (some .int), Cond.fieldLink RX3 33 "BaroRuns$Survey" "ends" "[I", Cond.methodLink RX3 95 yX3_isGood, Cond.instanceMethod yX3_isGood, Cond.selects RX3 yX3_isGood yX3_isGood, Cond.code yX3_isGood cX3_isGood 2 (some .boolean)]
def wsX3_misclosureBySteps_r2 : List Cond := [Cond.constant RX3 85 (-2000000004), Cond.fieldLink RX3 21 "BaroRuns$Survey" "gusts" "[I"]
def wsX3_misclosureBySteps : List Cond := .code yX3_misclosureBySteps cX3_misclosureBySteps 5 (some .int) :: ((wsX3_misclosureBySteps_r1 ++ wsX3_misclosureBySteps_r2) ++ wsX30)
def wsX3_endsOpenLoop : List Cond := .code yX3_endsOpenLoop cX3_endsOpenLoop 3 (some .boolean) :: ([.methodLink RX3 111 yX3_openLoopOf, .instanceMethod yX3_openLoopOf, .selects RX3 yX3_openLoopOf yX3_openLoopOf, .initialized RX3, .code yX3_openLoopOf cX3_openLoopOf 2 (some .int), .fieldLink RX3 24 "BaroRuns$Survey" "openLoops" "[I", .static yX6_at, .initialized RX6, .code yX6_at cX6_at 2 (some .int), .methodLink RX3 86 yX3_end, .instanceMethod yX3_end, .selects RX3 yX3_end yX3_end, .code yX3_end cX3_end 2 (some .int), .fieldLink RX3 33 "BaroRuns$Survey" "ends" "[I"] ++ wsX30)
def wsX3_addTo_r1 : List Cond := [Cond.fieldLink RX3 48 "BaroRuns$Survey" "size" "I", Cond.fieldLink RX3 15 "BaroRuns$Survey" "points" "[I", Cond.methodLink RX3 95 yX3_isGood, Cond.instanceMethod yX3_isGood, Cond.selects RX3 yX3_isGood yX3_isGood, Cond.initialized RX3, Cond.code yX3_isGood cX3_isGood 2 (some .boolean), Cond.fieldLink RX3 18 "BaroRuns$Survey" "heights" "[I", Cond.constant RX3 85 (-2000000004), Cond.fieldLink RX3 21 "BaroRuns$Survey" "gusts" "[I", Cond.static yX6_at, Cond.initialized RX6, Cond.code yX6_at cX6_at 2 (some .int), Cond.methodLink RX3 99 yX3_endsOpenLoop, Cond.instanceMethod yX3_endsOpenLoop, Cond.selects RX3 yX3_endsOpenLoop yX3_endsOpenLoop, Cond.code yX3_endsOpenLoop cX3_endsOpenLoop 3 (some .boolean), Cond.methodLink RX3 111 yX3_openLoopOf, Cond.instanceMethod yX3_openLoopOf, Cond.selects RX3 yX3_openLoopOf yX3_openLoopOf, Cond.code yX3_openLoopOf cX3_openLoopOf 2 (some .int), Cond.fieldLink RX3 24 "BaroRuns$Survey" "openLoops" "[I", Cond.methodLink RX3 86 yX3_end, Cond.instanceMethod yX3_end]
def wsX3_addTo_r2 : List Cond := [Cond.selects RX3 yX3_end yX3_end, Cond.code yX3_end cX3_end 2 (some .int), Cond.fieldLink RX3 33 "BaroRuns$Survey" "ends" "[I", Cond.methodLink RX3 102 yX3_correctedHeight, Cond.instanceMethod yX3_correctedHeight, Cond.selects RX3 yX3_correctedHeight yX3_correctedHeight, Cond.code yX3_correctedHeight cX3_correctedHeight 2 (some .int), Cond.fieldLink RX3 27 "BaroRuns$Survey" "correctedHeights" "[I", Cond.methodLink RX3 105 yX1_add, Cond.instanceMethod yX1_add, Cond.selects RX1 yX1_add yX1_add, Cond.initialized RX1, Cond.code yX1_add cX1_add 2 none, Cond.fieldLink RX1 13 "BaroRuns$PointSum" "number" "I", Cond.fieldLink RX1 17 "BaroRuns$PointSum" "least" "I", Cond.methodLink RX1 20 Lib.Math.min.name, Cond.static Lib.Math.min.name, Cond.initialized "java/lang/Math", Cond.code Lib.Math.min.name Lib.Math.min.code 2 (some .int), Cond.fieldLink RX1 26 "BaroRuns$PointSum" "greatest" "I", Cond.methodLink RX1 29 Lib.Math.max.name, Cond.static Lib.Math.max.name, Cond.code Lib.Math.max.name Lib.Math.max.code 2 (some .int), Cond.fieldLink RX1 7 "BaroRuns$PointSum" "sum" "J"]
def wsX3_addTo : List Cond := .code yX3_addTo cX3_addTo 4 none :: ((wsX3_addTo_r1 ++ wsX3_addTo_r2) ++ wsX30 ++ wsX10)
def wsX4_init : List Cond := .code yX4_init cX4_init 1 none :: ([.methodLink RX4 3 objectInit, .instanceMethod objectInit, .code objectInit ⟨#[0xb1]⟩ 1 none, .arrayClass .int, .fieldLink RX4 9 "BaroRuns$Text" "characters" "[I", .fieldLink RX4 15 "BaroRuns$Text" "faultPosition" "I"] ++ wsX40)
def wsX5_isFull : List Cond := .code yX5_isFull cX5_isFull 1 (some .boolean) :: ([.fieldLink RX5 29 "BaroRuns$Track" "size" "I", .fieldLink RX5 21 "BaroRuns$Track" "room" "I"] ++ wsX50)
def wsX5_hasTime : List Cond := .code yX5_hasTime cX5_hasTime 3 (some .boolean) :: ([.fieldLink RX5 29 "BaroRuns$Track" "size" "I", .methodLink RX5 32 yX5_value, .instanceMethod yX5_value, .selects RX5 yX5_value yX5_value, .initialized RX5, .code yX5_value cX5_value 3 (some .int), .fieldLink RX5 9 "BaroRuns$Track" "values" "[I", .static yX6_at, .initialized RX6, .code yX6_at cX6_at 2 (some .int)] ++ wsX50)
def wsX5_move : List Cond := .code yX5_move cX5_move 4 none :: ([.fieldLink RX5 9 "BaroRuns$Track" "values" "[I", .methodLink RX5 32 yX5_value, .instanceMethod yX5_value, .selects RX5 yX5_value yX5_value, .initialized RX5, .code yX5_value cX5_value 3 (some .int), .static yX6_at, .initialized RX6, .code yX6_at cX6_at 2 (some .int), .static yX6_put, .code yX6_put cX6_put 3 none] ++ wsX50)
def wsX5_insert : List Cond := .code yX5_insert cX5_insert 7 (some .int) :: ([.fieldLink RX5 29 "BaroRuns$Track" "size" "I", .fieldLink RX5 9 "BaroRuns$Track" "values" "[I", .methodLink RX5 32 yX5_value, .instanceMethod yX5_value, .selects RX5 yX5_value yX5_value, .initialized RX5, .code yX5_value cX5_value 3 (some .int), .static yX6_at, .initialized RX6, .code yX6_at cX6_at 2 (some .int), .methodLink RX5 35 yX5_move, .instanceMethod yX5_move, .selects RX5 yX5_move yX5_move, .code yX5_move cX5_move 4 none, .static yX6_put, .code yX6_put cX6_put 3 none] ++ wsX50)
def wsX5_remove : List Cond := .code yX5_remove cX5_remove 3 none :: ([.fieldLink RX5 29 "BaroRuns$Track" "size" "I", .methodLink RX5 35 yX5_move, .instanceMethod yX5_move, .selects RX5 yX5_move yX5_move, .initialized RX5, .code yX5_move cX5_move 4 none, .fieldLink RX5 9 "BaroRuns$Track" "values" "[I", .methodLink RX5 32 yX5_value, .instanceMethod yX5_value, .selects RX5 yX5_value yX5_value, .code yX5_value cX5_value 3 (some .int), .static yX6_at, .initialized RX6, .code yX6_at cX6_at 2 (some .int), .static yX6_put, .code yX6_put cX6_put 3 none] ++ wsX50)
def wsX6_init_r1 : List Cond := [Cond.methodLink RX6 1 objectInit, Cond.instanceMethod objectInit, Cond.code objectInit ⟨#[0xb1]⟩ 1 none, Cond.classLink RX6 7 RX2, Cond.instantiable RX2 7, Cond.initialized RX2, Cond.fieldLink RX6 10 "BaroRuns" "now" "LBaroRuns$State;", Cond.fieldLink RX6 16 "BaroRuns" "trial" "LBaroRuns$State;", Cond.classLink RX6 19 RX0, Cond.instantiable RX0 3, Cond.initialized RX0, Cond.fieldLink RX6 22 "BaroRuns" "history" "LBaroRuns$History;", Cond.classLink RX6 26 RX3, Cond.instantiable RX3 12, Cond.initialized RX3, Cond.fieldLink RX6 29 "BaroRuns" "firstSurvey" "LBaroRuns$Survey;", Cond.fieldLink RX6 33 "BaroRuns" "secondSurvey" "LBaroRuns$Survey;", Cond.fieldLink RX6 36 "BaroRuns" "thirdSurvey" "LBaroRuns$Survey;", Cond.classLink RX6 39 RX1, Cond.instantiable RX1 4, Cond.initialized RX1, Cond.fieldLink RX6 42 "BaroRuns" "pointSum" "LBaroRuns$PointSum;", Cond.classLink RX6 46 RX4, Cond.instantiable RX4 11]
def wsX6_init_r2 : List Cond := [Cond.initialized RX4, Cond.fieldLink RX6 49 "BaroRuns" "text" "LBaroRuns$Text;", Cond.fieldLink RX6 53 "BaroRuns" "stale" "Z", Cond.methodLink RX6 9 yX2_init, Cond.instanceMethod yX2_init, Cond.code yX2_init cX2_init 1 none, Cond.methodLink RX2 3 objectInit, Cond.classLink RX2 9 RX5, Cond.instantiable RX5 3, Cond.initialized RX5, Cond.fieldLink RX2 14 "BaroRuns$State" "baseTrack" "LBaroRuns$Track;", Cond.fieldLink RX2 20 "BaroRuns$State" "firstTrack" "LBaroRuns$Track;", Cond.fieldLink RX2 23 "BaroRuns$State" "secondTrack" "LBaroRuns$Track;", Cond.fieldLink RX2 26 "BaroRuns$State" "thirdTrack" "LBaroRuns$Track;", Cond.fieldLink RX2 29 "BaroRuns$State" "baseHeight" "I", Cond.fieldLink RX2 33 "BaroRuns$State" "gustLimit" "I", Cond.fieldLink RX2 36 "BaroRuns$State" "stepLimit" "I", Cond.methodLink RX2 11 yX5_init, Cond.instanceMethod yX5_init, Cond.code yX5_init cX5_init 2 none, Cond.methodLink RX5 3 objectInit, Cond.arrayClass .int, Cond.fieldLink RX5 9 "BaroRuns$Track" "values" "[I", Cond.methodLink RX5 15 Lib.Math.min.name]
def wsX6_init_r3 : List Cond := [Cond.static Lib.Math.min.name, Cond.initialized "java/lang/Math", Cond.code Lib.Math.min.name Lib.Math.min.code 2 (some .int), Cond.fieldLink RX5 21 "BaroRuns$Track" "room" "I", Cond.methodLink RX6 21 yX0_init, Cond.instanceMethod yX0_init, Cond.code yX0_init cX0_init 2 none, Cond.methodLink RX0 3 objectInit, Cond.classLink RX0 9 RX2, Cond.fieldLink RX0 11 "BaroRuns$History" "places" "[LBaroRuns$State;", Cond.methodLink RX0 17 yX2_init, Cond.methodLink RX6 28 yX3_init, Cond.instanceMethod yX3_init, Cond.code yX3_init cX3_init 1 none, Cond.methodLink RX3 3 objectInit, Cond.fieldLink RX3 9 "BaroRuns$Survey" "times" "[I", Cond.fieldLink RX3 15 "BaroRuns$Survey" "points" "[I", Cond.fieldLink RX3 18 "BaroRuns$Survey" "heights" "[I", Cond.fieldLink RX3 21 "BaroRuns$Survey" "gusts" "[I", Cond.fieldLink RX3 24 "BaroRuns$Survey" "openLoops" "[I", Cond.fieldLink RX3 27 "BaroRuns$Survey" "correctedHeights" "[I", Cond.fieldLink RX3 30 "BaroRuns$Survey" "begins" "[I", Cond.fieldLink RX3 33 "BaroRuns$Survey" "ends" "[I", Cond.methodLink RX6 41 yX1_init]
def wsX6_init_r4 : List Cond := [Cond.instanceMethod yX1_init, Cond.code yX1_init cX1_init 1 none, Cond.methodLink RX1 1 objectInit, Cond.methodLink RX6 48 yX4_init, Cond.instanceMethod yX4_init, Cond.code yX4_init cX4_init 1 none, Cond.methodLink RX4 3 objectInit, Cond.fieldLink RX4 9 "BaroRuns$Text" "characters" "[I", Cond.fieldLink RX4 15 "BaroRuns$Text" "faultPosition" "I"]
def wsX6_init : List Cond := .code yX6_init cX6_init 1 none :: ((wsX6_init_r1 ++ (wsX6_init_r2 ++ (wsX6_init_r3 ++ wsX6_init_r4))) ++ wsX20 ++ wsX60 ++ wsX00 ++ wsX30 ++ wsX10 ++ wsX40 ++ wsX50)
def wsX6_within : List Cond := .code yX6_within cX6_within 3 (some .boolean) :: ([])
def wsX6_isSetting : List Cond := .code yX6_isSetting cX6_isSetting 2 (some .boolean) :: ([.constant RX6 233 (-500000), .constant RX6 234 (9000000), .methodLink RX6 105 yX6_within, .static yX6_within, .initialized RX6, .code yX6_within cX6_within 3 (some .boolean)])
def wsX6_record_r1 : List Cond := [Cond.fieldLink RX6 22 "BaroRuns" "history" "LBaroRuns$History;", Cond.fieldLink RX6 10 "BaroRuns" "now" "LBaroRuns$State;", Cond.fieldLink RX6 53 "BaroRuns" "stale" "Z", Cond.methodLink RX6 240 yX0_keep, Cond.instanceMethod yX0_keep, Cond.selects RX0 yX0_keep yX0_keep, Cond.initialized RX0, Cond.code yX0_keep cX0_keep 3 none, Cond.fieldLink RX0 18 "BaroRuns$History" "size" "I", Cond.fieldLink RX0 22 "BaroRuns$History" "oldest" "I", Cond.methodLink RX0 25 yX0_place, Cond.instanceMethod yX0_place, Cond.selects RX0 yX0_place yX0_place, Cond.code yX0_place cX0_place 3 (some (.object "BaroRuns$State")), Cond.fieldLink RX0 11 "BaroRuns$History" "places" "[LBaroRuns$State;", Cond.methodLink RX0 29 yX2_copyFrom, Cond.instanceMethod yX2_copyFrom, Cond.selects RX2 yX2_copyFrom yX2_copyFrom, Cond.initialized RX2, Cond.code yX2_copyFrom cX2_copyFrom 2 none, Cond.fieldLink RX2 14 "BaroRuns$State" "baseTrack" "LBaroRuns$Track;", Cond.fieldLink RX2 20 "BaroRuns$State" "firstTrack" "LBaroRuns$Track;", Cond.fieldLink RX2 23 "BaroRuns$State" "secondTrack" "LBaroRuns$Track;", Cond.fieldLink RX2 26 "BaroRuns$State" "thirdTrack" "LBaroRuns$Track;"]
def wsX6_record_r2 : List Cond := [Cond.fieldLink RX2 29 "BaroRuns$State" "baseHeight" "I", Cond.fieldLink RX2 33 "BaroRuns$State" "gustLimit" "I", Cond.fieldLink RX2 36 "BaroRuns$State" "stepLimit" "I", Cond.methodLink RX2 39 yX5_copyFrom, Cond.instanceMethod yX5_copyFrom, Cond.selects RX5 yX5_copyFrom yX5_copyFrom, Cond.initialized RX5, Cond.code yX5_copyFrom cX5_copyFrom 2 none, Cond.fieldLink RX5 9 "BaroRuns$Track" "values" "[I", Cond.methodLink RX5 15 Lib.Math.min.name, Cond.static Lib.Math.min.name, Cond.initialized "java/lang/Math", Cond.code Lib.Math.min.name Lib.Math.min.code 2 (some .int), Cond.methodLink RX5 43 arraycopyName, Cond.native arraycopyName, Cond.static arraycopyName, Cond.initialized "java/lang/System", Cond.fieldLink RX5 29 "BaroRuns$Track" "size" "I"]
def wsX6_record : List Cond := .code yX6_record cX6_record 1 none :: ((wsX6_record_r1 ++ wsX6_record_r2) ++ wsX60 ++ wsX00 ++ wsX20 ++ wsX50)
def wsX6_set_r1 : List Cond := [Cond.constant RX6 61 (-2000000001), Cond.fieldLink RX6 10 "BaroRuns" "now" "LBaroRuns$State;", Cond.methodLink RX6 57 yX6_isSetting, Cond.static yX6_isSetting, Cond.initialized RX6, Cond.code yX6_isSetting cX6_isSetting 2 (some .boolean), Cond.constant RX6 233 (-500000), Cond.constant RX6 234 (9000000), Cond.methodLink RX6 105 yX6_within, Cond.static yX6_within, Cond.code yX6_within cX6_within 3 (some .boolean), Cond.methodLink RX6 62 yX6_record, Cond.instanceMethod yX6_record, Cond.selects RX6 yX6_record yX6_record, Cond.code yX6_record cX6_record 1 none, Cond.fieldLink RX6 22 "BaroRuns" "history" "LBaroRuns$History;", Cond.fieldLink RX6 53 "BaroRuns" "stale" "Z", Cond.methodLink RX6 240 yX0_keep, Cond.instanceMethod yX0_keep, Cond.selects RX0 yX0_keep yX0_keep, Cond.initialized RX0, Cond.code yX0_keep cX0_keep 3 none, Cond.fieldLink RX0 18 "BaroRuns$History" "size" "I", Cond.fieldLink RX0 22 "BaroRuns$History" "oldest" "I"]
def wsX6_set_r2 : List Cond := [Cond.methodLink RX0 25 yX0_place, Cond.instanceMethod yX0_place, Cond.selects RX0 yX0_place yX0_place, Cond.code yX0_place cX0_place 3 (some (.object "BaroRuns$State")), Cond.fieldLink RX0 11 "BaroRuns$History" "places" "[LBaroRuns$State;", Cond.methodLink RX0 29 yX2_copyFrom, Cond.instanceMethod yX2_copyFrom, Cond.selects RX2 yX2_copyFrom yX2_copyFrom, Cond.initialized RX2, Cond.code yX2_copyFrom cX2_copyFrom 2 none, Cond.fieldLink RX2 14 "BaroRuns$State" "baseTrack" "LBaroRuns$Track;", Cond.fieldLink RX2 20 "BaroRuns$State" "firstTrack" "LBaroRuns$Track;", Cond.fieldLink RX2 23 "BaroRuns$State" "secondTrack" "LBaroRuns$Track;", Cond.fieldLink RX2 26 "BaroRuns$State" "thirdTrack" "LBaroRuns$Track;", Cond.fieldLink RX2 29 "BaroRuns$State" "baseHeight" "I", Cond.fieldLink RX2 33 "BaroRuns$State" "gustLimit" "I", Cond.fieldLink RX2 36 "BaroRuns$State" "stepLimit" "I", Cond.methodLink RX2 39 yX5_copyFrom, Cond.instanceMethod yX5_copyFrom, Cond.selects RX5 yX5_copyFrom yX5_copyFrom, Cond.initialized RX5, Cond.code yX5_copyFrom cX5_copyFrom 2 none, Cond.fieldLink RX5 9 "BaroRuns$Track" "values" "[I", Cond.methodLink RX5 15 Lib.Math.min.name]
def wsX6_set_r3 : List Cond := [Cond.static Lib.Math.min.name, Cond.initialized "java/lang/Math", Cond.code Lib.Math.min.name Lib.Math.min.code 2 (some .int), Cond.methodLink RX5 43 arraycopyName, Cond.native arraycopyName, Cond.static arraycopyName, Cond.initialized "java/lang/System", Cond.fieldLink RX5 29 "BaroRuns$Track" "size" "I", Cond.methodLink RX6 65 yX2_setting, Cond.instanceMethod yX2_setting, Cond.selects RX2 yX2_setting yX2_setting, Cond.code yX2_setting cX2_setting 2 (some .int), Cond.methodLink RX6 69 yX2_putSetting, Cond.instanceMethod yX2_putSetting, Cond.selects RX2 yX2_putSetting yX2_putSetting, Cond.code yX2_putSetting cX2_putSetting 3 none]
def wsX6_set : List Cond := .code yX6_set cX6_set 4 (some .int) :: ((wsX6_set_r1 ++ (wsX6_set_r2 ++ wsX6_set_r3)) ++ wsX60 ++ wsX00 ++ wsX20 ++ wsX50)
def wsX6_isTime : List Cond := .code yX6_isTime cX6_isTime 1 (some .boolean) :: ([.methodLink RX6 105 yX6_within, .static yX6_within, .initialized RX6, .code yX6_within cX6_within 3 (some .boolean)])
def wsX6_isTemperature : List Cond := .code yX6_isTemperature cX6_isTemperature 1 (some .boolean) :: ([.methodLink RX6 105 yX6_within, .static yX6_within, .initialized RX6, .code yX6_within cX6_within 3 (some .boolean)])
def wsX6_isReading : List Cond := .code yX6_isReading cX6_isReading 3 (some .boolean) :: ([.constant RX6 172 (50000), .constant RX6 235 (110000), .methodLink RX6 151 yX6_isTime, .static yX6_isTime, .initialized RX6, .code yX6_isTime cX6_isTime 1 (some .boolean), .methodLink RX6 105 yX6_within, .static yX6_within, .code yX6_within cX6_within 3 (some .boolean), .methodLink RX6 167 yX6_isTemperature, .static yX6_isTemperature, .code yX6_isTemperature cX6_isTemperature 1 (some .boolean)])
def wsX6_take_r1 : List Cond := [Cond.fieldLink RX6 10 "BaroRuns" "now" "LBaroRuns$State;", Cond.constant RX6 146 (-2000000002), Cond.constant RX6 214 (-2000000003), Cond.methodLink RX6 91 yX2_track, Cond.instanceMethod yX2_track, Cond.selects RX2 yX2_track yX2_track, Cond.initialized RX2, Cond.code yX2_track cX2_track 2 (some (.object "BaroRuns$Track")), Cond.fieldLink RX2 20 "BaroRuns$State" "firstTrack" "LBaroRuns$Track;", Cond.fieldLink RX2 23 "BaroRuns$State" "secondTrack" "LBaroRuns$Track;", Cond.fieldLink RX2 26 "BaroRuns$State" "thirdTrack" "LBaroRuns$Track;", Cond.fieldLink RX2 14 "BaroRuns$State" "baseTrack" "LBaroRuns$Track;", Cond.methodLink RX6 243 yX5_hasTime, Cond.instanceMethod yX5_hasTime, Cond.selects RX5 yX5_hasTime yX5_hasTime, Cond.initialized RX5, Cond.code yX5_hasTime cX5_hasTime 3 (some .boolean), Cond.fieldLink RX5 29 "BaroRuns$Track" "size" "I", Cond.methodLink RX5 32 yX5_value, Cond.instanceMethod yX5_value, Cond.selects RX5 yX5_value yX5_value, Cond.code yX5_value cX5_value 3 (some .int), Cond.fieldLink RX5 9 "BaroRuns$Track" "values" "[I", Cond.static yX6_at]
def wsX6_take_r2 : List Cond := [Cond.initialized RX6, Cond.code yX6_at cX6_at 2 (some .int), Cond.methodLink RX6 246 yX5_isFull, Cond.instanceMethod yX5_isFull, Cond.selects RX5 yX5_isFull yX5_isFull, Cond.code yX5_isFull cX5_isFull 1 (some .boolean), Cond.fieldLink RX5 21 "BaroRuns$Track" "room" "I", Cond.methodLink RX6 62 yX6_record, Cond.instanceMethod yX6_record, Cond.selects RX6 yX6_record yX6_record, Cond.code yX6_record cX6_record 1 none, Cond.fieldLink RX6 22 "BaroRuns" "history" "LBaroRuns$History;", Cond.fieldLink RX6 53 "BaroRuns" "stale" "Z", Cond.methodLink RX6 240 yX0_keep, Cond.instanceMethod yX0_keep, Cond.selects RX0 yX0_keep yX0_keep, Cond.initialized RX0, Cond.code yX0_keep cX0_keep 3 none, Cond.fieldLink RX0 18 "BaroRuns$History" "size" "I", Cond.fieldLink RX0 22 "BaroRuns$History" "oldest" "I", Cond.methodLink RX0 25 yX0_place, Cond.instanceMethod yX0_place, Cond.selects RX0 yX0_place yX0_place, Cond.code yX0_place cX0_place 3 (some (.object "BaroRuns$State"))]
def wsX6_take_r3 : List Cond := [Cond.fieldLink RX0 11 "BaroRuns$History" "places" "[LBaroRuns$State;", Cond.methodLink RX0 29 yX2_copyFrom, Cond.instanceMethod yX2_copyFrom, Cond.selects RX2 yX2_copyFrom yX2_copyFrom, Cond.code yX2_copyFrom cX2_copyFrom 2 none, Cond.fieldLink RX2 29 "BaroRuns$State" "baseHeight" "I", Cond.fieldLink RX2 33 "BaroRuns$State" "gustLimit" "I", Cond.fieldLink RX2 36 "BaroRuns$State" "stepLimit" "I", Cond.methodLink RX2 39 yX5_copyFrom, Cond.instanceMethod yX5_copyFrom, Cond.selects RX5 yX5_copyFrom yX5_copyFrom, Cond.code yX5_copyFrom cX5_copyFrom 2 none, Cond.methodLink RX5 15 Lib.Math.min.name, Cond.static Lib.Math.min.name, Cond.initialized "java/lang/Math", Cond.code Lib.Math.min.name Lib.Math.min.code 2 (some .int), Cond.methodLink RX5 43 arraycopyName, Cond.native arraycopyName, Cond.static arraycopyName, Cond.initialized "java/lang/System", Cond.methodLink RX6 250 yX5_insert, Cond.instanceMethod yX5_insert, Cond.selects RX5 yX5_insert yX5_insert, Cond.code yX5_insert cX5_insert 7 (some .int)]
def wsX6_take_r4 : List Cond := [Cond.methodLink RX5 35 yX5_move, Cond.instanceMethod yX5_move, Cond.selects RX5 yX5_move yX5_move, Cond.code yX5_move cX5_move 4 none, Cond.static yX6_put, Cond.code yX6_put cX6_put 3 none]
def wsX6_take : List Cond := .code yX6_take cX6_take 7 (some .int) :: ((wsX6_take_r1 ++ (wsX6_take_r2 ++ (wsX6_take_r3 ++ wsX6_take_r4))) ++ wsX60 ++ wsX20 ++ wsX50 ++ wsX00)
def wsX6_base_r1 : List Cond := [Cond.constant RX6 61 (-2000000001), Cond.methodLink RX6 73 yX6_isReading, Cond.static yX6_isReading, Cond.initialized RX6, Cond.code yX6_isReading cX6_isReading 3 (some .boolean), Cond.constant RX6 172 (50000), Cond.constant RX6 235 (110000), Cond.methodLink RX6 151 yX6_isTime, Cond.static yX6_isTime, Cond.code yX6_isTime cX6_isTime 1 (some .boolean), Cond.methodLink RX6 105 yX6_within, Cond.static yX6_within, Cond.code yX6_within cX6_within 3 (some .boolean), Cond.methodLink RX6 167 yX6_isTemperature, Cond.static yX6_isTemperature, Cond.code yX6_isTemperature cX6_isTemperature 1 (some .boolean), Cond.methodLink RX6 77 yX6_take, Cond.instanceMethod yX6_take, Cond.selects RX6 yX6_take yX6_take, Cond.code yX6_take cX6_take 7 (some .int), Cond.fieldLink RX6 10 "BaroRuns" "now" "LBaroRuns$State;", Cond.constant RX6 146 (-2000000002), Cond.constant RX6 214 (-2000000003), Cond.methodLink RX6 91 yX2_track]
def wsX6_base_r2 : List Cond := [Cond.instanceMethod yX2_track, Cond.selects RX2 yX2_track yX2_track, Cond.initialized RX2, Cond.code yX2_track cX2_track 2 (some (.object "BaroRuns$Track")), Cond.fieldLink RX2 20 "BaroRuns$State" "firstTrack" "LBaroRuns$Track;", Cond.fieldLink RX2 23 "BaroRuns$State" "secondTrack" "LBaroRuns$Track;", Cond.fieldLink RX2 26 "BaroRuns$State" "thirdTrack" "LBaroRuns$Track;", Cond.fieldLink RX2 14 "BaroRuns$State" "baseTrack" "LBaroRuns$Track;", Cond.methodLink RX6 243 yX5_hasTime, Cond.instanceMethod yX5_hasTime, Cond.selects RX5 yX5_hasTime yX5_hasTime, Cond.initialized RX5, Cond.code yX5_hasTime cX5_hasTime 3 (some .boolean), Cond.fieldLink RX5 29 "BaroRuns$Track" "size" "I", Cond.methodLink RX5 32 yX5_value, Cond.instanceMethod yX5_value, Cond.selects RX5 yX5_value yX5_value, Cond.code yX5_value cX5_value 3 (some .int), Cond.fieldLink RX5 9 "BaroRuns$Track" "values" "[I", Cond.static yX6_at, Cond.code yX6_at cX6_at 2 (some .int), Cond.methodLink RX6 246 yX5_isFull, Cond.instanceMethod yX5_isFull, Cond.selects RX5 yX5_isFull yX5_isFull]
def wsX6_base_r3 : List Cond := [Cond.code yX5_isFull cX5_isFull 1 (some .boolean), Cond.fieldLink RX5 21 "BaroRuns$Track" "room" "I", Cond.methodLink RX6 62 yX6_record, Cond.instanceMethod yX6_record, Cond.selects RX6 yX6_record yX6_record, Cond.code yX6_record cX6_record 1 none, Cond.fieldLink RX6 22 "BaroRuns" "history" "LBaroRuns$History;", Cond.fieldLink RX6 53 "BaroRuns" "stale" "Z", Cond.methodLink RX6 240 yX0_keep, Cond.instanceMethod yX0_keep, Cond.selects RX0 yX0_keep yX0_keep, Cond.initialized RX0, Cond.code yX0_keep cX0_keep 3 none, Cond.fieldLink RX0 18 "BaroRuns$History" "size" "I", Cond.fieldLink RX0 22 "BaroRuns$History" "oldest" "I", Cond.methodLink RX0 25 yX0_place, Cond.instanceMethod yX0_place, Cond.selects RX0 yX0_place yX0_place, Cond.code yX0_place cX0_place 3 (some (.object "BaroRuns$State")), Cond.fieldLink RX0 11 "BaroRuns$History" "places" "[LBaroRuns$State;", Cond.methodLink RX0 29 yX2_copyFrom, Cond.instanceMethod yX2_copyFrom, Cond.selects RX2 yX2_copyFrom yX2_copyFrom, Cond.code yX2_copyFrom cX2_copyFrom 2 none]
def wsX6_base_r4 : List Cond := [Cond.fieldLink RX2 29 "BaroRuns$State" "baseHeight" "I", Cond.fieldLink RX2 33 "BaroRuns$State" "gustLimit" "I", Cond.fieldLink RX2 36 "BaroRuns$State" "stepLimit" "I", Cond.methodLink RX2 39 yX5_copyFrom, Cond.instanceMethod yX5_copyFrom, Cond.selects RX5 yX5_copyFrom yX5_copyFrom, Cond.code yX5_copyFrom cX5_copyFrom 2 none, Cond.methodLink RX5 15 Lib.Math.min.name, Cond.static Lib.Math.min.name, Cond.initialized "java/lang/Math", Cond.code Lib.Math.min.name Lib.Math.min.code 2 (some .int), Cond.methodLink RX5 43 arraycopyName, Cond.native arraycopyName, Cond.static arraycopyName, Cond.initialized "java/lang/System", Cond.methodLink RX6 250 yX5_insert, Cond.instanceMethod yX5_insert, Cond.selects RX5 yX5_insert yX5_insert, Cond.code yX5_insert cX5_insert 7 (some .int), Cond.methodLink RX5 35 yX5_move, Cond.instanceMethod yX5_move, Cond.selects RX5 yX5_move yX5_move, Cond.code yX5_move cX5_move 4 none, Cond.static yX6_put]
def wsX6_base_r5 : List Cond := [Cond.code yX6_put cX6_put 3 none]
def wsX6_base : List Cond := .code yX6_base cX6_base 4 (some .int) :: ((wsX6_base_r1 ++ (wsX6_base_r2 ++ (wsX6_base_r3 ++ (wsX6_base_r4 ++ wsX6_base_r5)))) ++ wsX60 ++ wsX20 ++ wsX50 ++ wsX00)
def wsX6_isCell : List Cond := .code yX6_isCell cX6_isCell 1 (some .boolean) :: ([.methodLink RX6 105 yX6_within, .static yX6_within, .initialized RX6, .code yX6_within cX6_within 3 (some .boolean)])
def wsX6_isPoint : List Cond := .code yX6_isPoint cX6_isPoint 1 (some .boolean) :: ([.methodLink RX6 105 yX6_within, .static yX6_within, .initialized RX6, .code yX6_within cX6_within 3 (some .boolean)])
def wsX6_read_r1 : List Cond := [Cond.constant RX6 61 (-2000000001), Cond.methodLink RX6 81 yX6_isCell, Cond.static yX6_isCell, Cond.initialized RX6, Cond.code yX6_isCell cX6_isCell 1 (some .boolean), Cond.methodLink RX6 105 yX6_within, Cond.static yX6_within, Cond.code yX6_within cX6_within 3 (some .boolean), Cond.methodLink RX6 85 yX6_isPoint, Cond.static yX6_isPoint, Cond.code yX6_isPoint cX6_isPoint 1 (some .boolean), Cond.methodLink RX6 73 yX6_isReading, Cond.static yX6_isReading, Cond.code yX6_isReading cX6_isReading 3 (some .boolean), Cond.constant RX6 172 (50000), Cond.constant RX6 235 (110000), Cond.methodLink RX6 151 yX6_isTime, Cond.static yX6_isTime, Cond.code yX6_isTime cX6_isTime 1 (some .boolean), Cond.methodLink RX6 167 yX6_isTemperature, Cond.static yX6_isTemperature, Cond.code yX6_isTemperature cX6_isTemperature 1 (some .boolean), Cond.methodLink RX6 77 yX6_take, Cond.instanceMethod yX6_take]
def wsX6_read_r2 : List Cond := [Cond.selects RX6 yX6_take yX6_take, Cond.code yX6_take cX6_take 7 (some .int), Cond.fieldLink RX6 10 "BaroRuns" "now" "LBaroRuns$State;", Cond.constant RX6 146 (-2000000002), Cond.constant RX6 214 (-2000000003), Cond.methodLink RX6 91 yX2_track, Cond.instanceMethod yX2_track, Cond.selects RX2 yX2_track yX2_track, Cond.initialized RX2, Cond.code yX2_track cX2_track 2 (some (.object "BaroRuns$Track")), Cond.fieldLink RX2 20 "BaroRuns$State" "firstTrack" "LBaroRuns$Track;", Cond.fieldLink RX2 23 "BaroRuns$State" "secondTrack" "LBaroRuns$Track;", Cond.fieldLink RX2 26 "BaroRuns$State" "thirdTrack" "LBaroRuns$Track;", Cond.fieldLink RX2 14 "BaroRuns$State" "baseTrack" "LBaroRuns$Track;", Cond.methodLink RX6 243 yX5_hasTime, Cond.instanceMethod yX5_hasTime, Cond.selects RX5 yX5_hasTime yX5_hasTime, Cond.initialized RX5, Cond.code yX5_hasTime cX5_hasTime 3 (some .boolean), Cond.fieldLink RX5 29 "BaroRuns$Track" "size" "I", Cond.methodLink RX5 32 yX5_value, Cond.instanceMethod yX5_value, Cond.selects RX5 yX5_value yX5_value, Cond.code yX5_value cX5_value 3 (some .int)]
def wsX6_read_r3 : List Cond := [Cond.fieldLink RX5 9 "BaroRuns$Track" "values" "[I", Cond.static yX6_at, Cond.code yX6_at cX6_at 2 (some .int), Cond.methodLink RX6 246 yX5_isFull, Cond.instanceMethod yX5_isFull, Cond.selects RX5 yX5_isFull yX5_isFull, Cond.code yX5_isFull cX5_isFull 1 (some .boolean), Cond.fieldLink RX5 21 "BaroRuns$Track" "room" "I", Cond.methodLink RX6 62 yX6_record, Cond.instanceMethod yX6_record, Cond.selects RX6 yX6_record yX6_record, Cond.code yX6_record cX6_record 1 none, Cond.fieldLink RX6 22 "BaroRuns" "history" "LBaroRuns$History;", Cond.fieldLink RX6 53 "BaroRuns" "stale" "Z", Cond.methodLink RX6 240 yX0_keep, Cond.instanceMethod yX0_keep, Cond.selects RX0 yX0_keep yX0_keep, Cond.initialized RX0, Cond.code yX0_keep cX0_keep 3 none, Cond.fieldLink RX0 18 "BaroRuns$History" "size" "I", Cond.fieldLink RX0 22 "BaroRuns$History" "oldest" "I", Cond.methodLink RX0 25 yX0_place, Cond.instanceMethod yX0_place, Cond.selects RX0 yX0_place yX0_place]
def wsX6_read_r4 : List Cond := [Cond.code yX0_place cX0_place 3 (some (.object "BaroRuns$State")), Cond.fieldLink RX0 11 "BaroRuns$History" "places" "[LBaroRuns$State;", Cond.methodLink RX0 29 yX2_copyFrom, Cond.instanceMethod yX2_copyFrom, Cond.selects RX2 yX2_copyFrom yX2_copyFrom, Cond.code yX2_copyFrom cX2_copyFrom 2 none, Cond.fieldLink RX2 29 "BaroRuns$State" "baseHeight" "I", Cond.fieldLink RX2 33 "BaroRuns$State" "gustLimit" "I", Cond.fieldLink RX2 36 "BaroRuns$State" "stepLimit" "I", Cond.methodLink RX2 39 yX5_copyFrom, Cond.instanceMethod yX5_copyFrom, Cond.selects RX5 yX5_copyFrom yX5_copyFrom, Cond.code yX5_copyFrom cX5_copyFrom 2 none, Cond.methodLink RX5 15 Lib.Math.min.name, Cond.static Lib.Math.min.name, Cond.initialized "java/lang/Math", Cond.code Lib.Math.min.name Lib.Math.min.code 2 (some .int), Cond.methodLink RX5 43 arraycopyName, Cond.native arraycopyName, Cond.static arraycopyName, Cond.initialized "java/lang/System", Cond.methodLink RX6 250 yX5_insert, Cond.instanceMethod yX5_insert, Cond.selects RX5 yX5_insert yX5_insert]
def wsX6_read_r5 : List Cond := [Cond.code yX5_insert cX5_insert 7 (some .int), Cond.methodLink RX5 35 yX5_move, Cond.instanceMethod yX5_move, Cond.selects RX5 yX5_move yX5_move, Cond.code yX5_move cX5_move 4 none, Cond.static yX6_put, Cond.code yX6_put cX6_put 3 none]
def wsX6_read : List Cond := .code yX6_read cX6_read 6 (some .int) :: ((wsX6_read_r1 ++ (wsX6_read_r2 ++ (wsX6_read_r3 ++ (wsX6_read_r4 ++ wsX6_read_r5)))) ++ wsX60 ++ wsX20 ++ wsX50 ++ wsX00)
def wsX6_isReadingOf : List Cond := .code yX6_isReadingOf cX6_isReadingOf 3 (some .boolean) :: ([.fieldLink RX6 10 "BaroRuns" "now" "LBaroRuns$State;", .methodLink RX6 81 yX6_isCell, .static yX6_isCell, .initialized RX6, .code yX6_isCell cX6_isCell 1 (some .boolean), .methodLink RX6 105 yX6_within, .static yX6_within, .code yX6_within cX6_within 3 (some .boolean), .methodLink RX6 91 yX2_track, .instanceMethod yX2_track, .selects RX2 yX2_track yX2_track, .initialized RX2, .code yX2_track cX2_track 2 (some (.object "BaroRuns$Track")), .fieldLink RX2 20 "BaroRuns$State" "firstTrack" "LBaroRuns$Track;", .fieldLink RX2 23 "BaroRuns$State" "secondTrack" "LBaroRuns$Track;", .fieldLink RX2 26 "BaroRuns$State" "thirdTrack" "LBaroRuns$Track;", .fieldLink RX2 14 "BaroRuns$State" "baseTrack" "LBaroRuns$Track;"] ++ wsX60 ++ wsX50 ++ wsX20)
def wsX6_drop_r1 : List Cond := [Cond.constant RX6 61 (-2000000001), Cond.fieldLink RX6 10 "BaroRuns" "now" "LBaroRuns$State;", Cond.methodLink RX6 88 yX6_isReadingOf, Cond.instanceMethod yX6_isReadingOf, Cond.selects RX6 yX6_isReadingOf yX6_isReadingOf, Cond.initialized RX6, Cond.code yX6_isReadingOf cX6_isReadingOf 3 (some .boolean), Cond.methodLink RX6 81 yX6_isCell, Cond.static yX6_isCell, Cond.code yX6_isCell cX6_isCell 1 (some .boolean), Cond.methodLink RX6 105 yX6_within, Cond.static yX6_within, Cond.code yX6_within cX6_within 3 (some .boolean), Cond.methodLink RX6 91 yX2_track, Cond.instanceMethod yX2_track, Cond.selects RX2 yX2_track yX2_track, Cond.initialized RX2, Cond.code yX2_track cX2_track 2 (some (.object "BaroRuns$Track")), Cond.fieldLink RX2 20 "BaroRuns$State" "firstTrack" "LBaroRuns$Track;", Cond.fieldLink RX2 23 "BaroRuns$State" "secondTrack" "LBaroRuns$Track;", Cond.fieldLink RX2 26 "BaroRuns$State" "thirdTrack" "LBaroRuns$Track;", Cond.fieldLink RX2 14 "BaroRuns$State" "baseTrack" "LBaroRuns$Track;", Cond.methodLink RX6 62 yX6_record, Cond.instanceMethod yX6_record]
def wsX6_drop_r2 : List Cond := [Cond.selects RX6 yX6_record yX6_record, Cond.code yX6_record cX6_record 1 none, Cond.fieldLink RX6 22 "BaroRuns" "history" "LBaroRuns$History;", Cond.fieldLink RX6 53 "BaroRuns" "stale" "Z", Cond.methodLink RX6 240 yX0_keep, Cond.instanceMethod yX0_keep, Cond.selects RX0 yX0_keep yX0_keep, Cond.initialized RX0, Cond.code yX0_keep cX0_keep 3 none, Cond.fieldLink RX0 18 "BaroRuns$History" "size" "I", Cond.fieldLink RX0 22 "BaroRuns$History" "oldest" "I", Cond.methodLink RX0 25 yX0_place, Cond.instanceMethod yX0_place, Cond.selects RX0 yX0_place yX0_place, Cond.code yX0_place cX0_place 3 (some (.object "BaroRuns$State")), Cond.fieldLink RX0 11 "BaroRuns$History" "places" "[LBaroRuns$State;", Cond.methodLink RX0 29 yX2_copyFrom, Cond.instanceMethod yX2_copyFrom, Cond.selects RX2 yX2_copyFrom yX2_copyFrom, Cond.code yX2_copyFrom cX2_copyFrom 2 none, Cond.fieldLink RX2 29 "BaroRuns$State" "baseHeight" "I", Cond.fieldLink RX2 33 "BaroRuns$State" "gustLimit" "I", Cond.fieldLink RX2 36 "BaroRuns$State" "stepLimit" "I", Cond.methodLink RX2 39 yX5_copyFrom]
def wsX6_drop_r3 : List Cond := [Cond.instanceMethod yX5_copyFrom, Cond.selects RX5 yX5_copyFrom yX5_copyFrom, Cond.initialized RX5, Cond.code yX5_copyFrom cX5_copyFrom 2 none, Cond.fieldLink RX5 9 "BaroRuns$Track" "values" "[I", Cond.methodLink RX5 15 Lib.Math.min.name, Cond.static Lib.Math.min.name, Cond.initialized "java/lang/Math", Cond.code Lib.Math.min.name Lib.Math.min.code 2 (some .int), Cond.methodLink RX5 43 arraycopyName, Cond.native arraycopyName, Cond.static arraycopyName, Cond.initialized "java/lang/System", Cond.fieldLink RX5 29 "BaroRuns$Track" "size" "I", Cond.methodLink RX6 95 yX5_remove, Cond.instanceMethod yX5_remove, Cond.selects RX5 yX5_remove yX5_remove, Cond.code yX5_remove cX5_remove 3 none, Cond.methodLink RX5 35 yX5_move, Cond.instanceMethod yX5_move, Cond.selects RX5 yX5_move yX5_move, Cond.code yX5_move cX5_move 4 none, Cond.methodLink RX5 32 yX5_value, Cond.instanceMethod yX5_value]
def wsX6_drop_r4 : List Cond := [Cond.selects RX5 yX5_value yX5_value, Cond.code yX5_value cX5_value 3 (some .int), Cond.static yX6_at, Cond.code yX6_at cX6_at 2 (some .int), Cond.static yX6_put, Cond.code yX6_put cX6_put 3 none]
def wsX6_drop : List Cond := .code yX6_drop cX6_drop 4 (some .int) :: ((wsX6_drop_r1 ++ (wsX6_drop_r2 ++ (wsX6_drop_r3 ++ wsX6_drop_r4))) ++ wsX60 ++ wsX50 ++ wsX20 ++ wsX00)
def wsX6_refresh_r1 : List Cond := [Cond.fieldLink RX6 53 "BaroRuns" "stale" "Z", Cond.fieldLink RX6 29 "BaroRuns" "firstSurvey" "LBaroRuns$Survey;", Cond.fieldLink RX6 10 "BaroRuns" "now" "LBaroRuns$State;", Cond.fieldLink RX6 33 "BaroRuns" "secondSurvey" "LBaroRuns$Survey;", Cond.fieldLink RX6 36 "BaroRuns" "thirdSurvey" "LBaroRuns$Survey;", Cond.methodLink RX6 257 yX3_workOut, Cond.instanceMethod yX3_workOut, Cond.selects RX3 yX3_workOut yX3_workOut, Cond.initialized RX3, Cond.code yX3_workOut cX3_workOut 8 none, Cond.fieldLink RX3 48 "BaroRuns$Survey" "size" "I", Cond.fieldLink RX3 9 "BaroRuns$Survey" "times" "[I", Cond.fieldLink RX3 15 "BaroRuns$Survey" "points" "[I", Cond.fieldLink RX3 18 "BaroRuns$Survey" "heights" "[I", Cond.fieldLink RX3 21 "BaroRuns$Survey" "gusts" "[I", Cond.fieldLink RX3 24 "BaroRuns$Survey" "openLoops" "[I", Cond.fieldLink RX3 27 "BaroRuns$Survey" "correctedHeights" "[I", Cond.methodLink RX3 36 yX2_track, Cond.instanceMethod yX2_track, Cond.selects RX2 yX2_track yX2_track, Cond.initialized RX2, Cond.code yX2_track cX2_track 2 (some (.object "BaroRuns$Track")), Cond.fieldLink RX2 20 "BaroRuns$State" "firstTrack" "LBaroRuns$Track;", Cond.fieldLink RX2 23 "BaroRuns$State" "secondTrack" "LBaroRuns$Track;"]
def wsX6_refresh_r2 : List Cond := [Cond.fieldLink RX2 26 "BaroRuns$State" "thirdTrack" "LBaroRuns$Track;", Cond.fieldLink RX2 14 "BaroRuns$State" "baseTrack" "LBaroRuns$Track;", Cond.methodLink RX3 49 yX5_value, Cond.instanceMethod yX5_value, Cond.selects RX5 yX5_value yX5_value, Cond.initialized RX5, Cond.code yX5_value cX5_value 3 (some .int), Cond.fieldLink RX5 9 "BaroRuns$Track" "values" "[I", Cond.static yX6_at, Cond.initialized RX6, Cond.code yX6_at cX6_at 2 (some .int), Cond.static yX6_put, Cond.code yX6_put cX6_put 3 none, Cond.methodLink RX3 57 yX2_heightAt, Cond.instanceMethod yX2_heightAt, Cond.selects RX2 yX2_heightAt yX2_heightAt, Cond.code yX2_heightAt cX2_heightAt 12 (some .int), Cond.constant RX2 50 (-2000000004), Cond.constantLong RX2 63 (2930), Cond.fieldLink RX2 29 "BaroRuns$State" "baseHeight" "I", Cond.methodLink RX2 55 yX2_baseValue, Cond.instanceMethod yX2_baseValue, Cond.selects RX2 yX2_baseValue yX2_baseValue, Cond.code yX2_baseValue cX2_baseValue 10 (some .int)]
def wsX6_refresh_r3 : List Cond := [Cond.methodLink RX2 46 yX5_value, Cond.static yX6_divideDown, Cond.code yX6_divideDown cX6_divideDown 4 (some .long), Cond.methodLink RX6 236 yJ9_floorDiv_f86c9, Cond.static yJ9_floorDiv_f86c9, Cond.initialized RJ9, Cond.code yJ9_floorDiv_f86c9 cJ9_floorDiv_f86c9 6 (some .long), Cond.methodLink RX2 58 yJ9_floorDiv_7cf53, Cond.static yJ9_floorDiv_7cf53, Cond.code yJ9_floorDiv_7cf53 cJ9_floorDiv_7cf53 3 (some .int), Cond.methodLink RX3 64 yX5_standsOut, Cond.instanceMethod yX5_standsOut, Cond.selects RX5 yX5_standsOut yX5_standsOut, Cond.code yX5_standsOut cX5_standsOut 6 (some .boolean), Cond.fieldLink RX5 29 "BaroRuns$Track" "size" "I", Cond.methodLink RX5 32 yX5_value, Cond.methodLink RX3 68 yX3_countKinds, Cond.instanceMethod yX3_countKinds, Cond.selects RX3 yX3_countKinds yX3_countKinds, Cond.code yX3_countKinds cX3_countKinds 2 none, Cond.fieldLink RX3 114 "BaroRuns$Survey" "gustCount" "I", Cond.fieldLink RX3 117 "BaroRuns$Survey" "goodCount" "I", Cond.methodLink RX3 120 yX3_isGust, Cond.instanceMethod yX3_isGust]
def wsX6_refresh_r4 : List Cond := [Cond.selects RX3 yX3_isGust yX3_isGust, Cond.code yX3_isGust cX3_isGust 2 (some .boolean), Cond.methodLink RX3 95 yX3_isGood, Cond.instanceMethod yX3_isGood, Cond.selects RX3 yX3_isGood yX3_isGood, Cond.code yX3_isGood cX3_isGood 2 (some .boolean), Cond.constant RX3 85 (-2000000004), Cond.methodLink RX3 71 yX3_findLoops, Cond.instanceMethod yX3_findLoops, Cond.selects RX3 yX3_findLoops yX3_findLoops, Cond.code yX3_findLoops cX3_findLoops 3 none, Cond.fieldLink RX3 123 "BaroRuns$Survey" "loopCount" "I", Cond.fieldLink RX3 30 "BaroRuns$Survey" "begins" "[I", Cond.fieldLink RX3 33 "BaroRuns$Survey" "ends" "[I", Cond.methodLink RX3 126 yX3_lastVisit, Cond.instanceMethod yX3_lastVisit, Cond.selects RX3 yX3_lastVisit yX3_lastVisit, Cond.code yX3_lastVisit cX3_lastVisit 4 (some .int), Cond.methodLink RX3 74 yX3_shortestLoop, Cond.instanceMethod yX3_shortestLoop, Cond.selects RX3 yX3_shortestLoop yX3_shortestLoop, Cond.code yX3_shortestLoop cX3_shortestLoop 5 (some .int), Cond.methodLink RX3 89 yX3_begin, Cond.instanceMethod yX3_begin]
def wsX6_refresh_r5 : List Cond := [Cond.selects RX3 yX3_begin yX3_begin, Cond.code yX3_begin cX3_begin 2 (some .int), Cond.methodLink RX3 86 yX3_end, Cond.instanceMethod yX3_end, Cond.selects RX3 yX3_end yX3_end, Cond.code yX3_end cX3_end 2 (some .int), Cond.methodLink RX3 129 yX3_minutes, Cond.instanceMethod yX3_minutes, Cond.selects RX3 yX3_minutes yX3_minutes, Cond.code yX3_minutes cX3_minutes 2 (some .int), Cond.methodLink RX3 78 yX3_withoutDrift, Cond.instanceMethod yX3_withoutDrift, Cond.selects RX3 yX3_withoutDrift yX3_withoutDrift, Cond.code yX3_withoutDrift cX3_withoutDrift 5 (some .int), Cond.methodLink RX3 111 yX3_openLoopOf, Cond.instanceMethod yX3_openLoopOf, Cond.selects RX3 yX3_openLoopOf yX3_openLoopOf, Cond.code yX3_openLoopOf cX3_openLoopOf 2 (some .int), Cond.methodLink RX3 92 yX3_rawHeight, Cond.instanceMethod yX3_rawHeight, Cond.selects RX3 yX3_rawHeight yX3_rawHeight, Cond.code yX3_rawHeight cX3_rawHeight 2 (some .int), Cond.methodLink RX3 132 yX3_misclosure, Cond.instanceMethod yX3_misclosure]
def wsX6_refresh_r6 : List Cond := [Cond.selects RX3 yX3_misclosure yX3_misclosure, Cond.code yX3_misclosure cX3_misclosure 2 (some .int)]
def wsX6_refresh : List Cond := .code yX6_refresh cX6_refresh 1 none :: ((wsX6_refresh_r1 ++ (wsX6_refresh_r2 ++ (wsX6_refresh_r3 ++ (wsX6_refresh_r4 ++ (wsX6_refresh_r5 ++ wsX6_refresh_r6))))) ++ wsX60 ++ wsX50 ++ wsX30 ++ wsX20)
def wsX6_surveyOf : List Cond := .code yX6_surveyOf cX6_surveyOf 2 (some (.object "BaroRuns$Survey")) :: ([.fieldLink RX6 29 "BaroRuns" "firstSurvey" "LBaroRuns$Survey;", .fieldLink RX6 33 "BaroRuns" "secondSurvey" "LBaroRuns$Survey;", .fieldLink RX6 36 "BaroRuns" "thirdSurvey" "LBaroRuns$Survey;"] ++ wsX60)
def wsX6_reading_r1 : List Cond := [Cond.constant RX6 61 (-2000000001), Cond.constant RX6 108 (-2000000004), Cond.fieldLink RX6 10 "BaroRuns" "now" "LBaroRuns$State;", Cond.methodLink RX6 88 yX6_isReadingOf, Cond.instanceMethod yX6_isReadingOf, Cond.selects RX6 yX6_isReadingOf yX6_isReadingOf, Cond.initialized RX6, Cond.code yX6_isReadingOf cX6_isReadingOf 3 (some .boolean), Cond.methodLink RX6 81 yX6_isCell, Cond.static yX6_isCell, Cond.code yX6_isCell cX6_isCell 1 (some .boolean), Cond.methodLink RX6 105 yX6_within, Cond.static yX6_within, Cond.code yX6_within cX6_within 3 (some .boolean), Cond.methodLink RX6 91 yX2_track, Cond.instanceMethod yX2_track, Cond.selects RX2 yX2_track yX2_track, Cond.initialized RX2, Cond.code yX2_track cX2_track 2 (some (.object "BaroRuns$Track")), Cond.fieldLink RX2 20 "BaroRuns$State" "firstTrack" "LBaroRuns$Track;", Cond.fieldLink RX2 23 "BaroRuns$State" "secondTrack" "LBaroRuns$Track;", Cond.fieldLink RX2 26 "BaroRuns$State" "thirdTrack" "LBaroRuns$Track;", Cond.fieldLink RX2 14 "BaroRuns$State" "baseTrack" "LBaroRuns$Track;", Cond.methodLink RX6 109 yX6_refresh]
def wsX6_reading_r2 : List Cond := [Cond.instanceMethod yX6_refresh, Cond.selects RX6 yX6_refresh yX6_refresh, Cond.code yX6_refresh cX6_refresh 1 none, Cond.fieldLink RX6 53 "BaroRuns" "stale" "Z", Cond.fieldLink RX6 29 "BaroRuns" "firstSurvey" "LBaroRuns$Survey;", Cond.fieldLink RX6 33 "BaroRuns" "secondSurvey" "LBaroRuns$Survey;", Cond.fieldLink RX6 36 "BaroRuns" "thirdSurvey" "LBaroRuns$Survey;", Cond.methodLink RX6 257 yX3_workOut, Cond.instanceMethod yX3_workOut, Cond.selects RX3 yX3_workOut yX3_workOut, Cond.initialized RX3, Cond.code yX3_workOut cX3_workOut 8 none, Cond.fieldLink RX3 48 "BaroRuns$Survey" "size" "I", Cond.fieldLink RX3 9 "BaroRuns$Survey" "times" "[I", Cond.fieldLink RX3 15 "BaroRuns$Survey" "points" "[I", Cond.fieldLink RX3 18 "BaroRuns$Survey" "heights" "[I", Cond.fieldLink RX3 21 "BaroRuns$Survey" "gusts" "[I", Cond.fieldLink RX3 24 "BaroRuns$Survey" "openLoops" "[I", Cond.fieldLink RX3 27 "BaroRuns$Survey" "correctedHeights" "[I", Cond.methodLink RX3 36 yX2_track, Cond.methodLink RX3 49 yX5_value, Cond.instanceMethod yX5_value, Cond.selects RX5 yX5_value yX5_value, Cond.initialized RX5]
def wsX6_reading_r3 : List Cond := [Cond.code yX5_value cX5_value 3 (some .int), Cond.fieldLink RX5 9 "BaroRuns$Track" "values" "[I", Cond.static yX6_at, Cond.code yX6_at cX6_at 2 (some .int), Cond.static yX6_put, Cond.code yX6_put cX6_put 3 none, Cond.methodLink RX3 57 yX2_heightAt, Cond.instanceMethod yX2_heightAt, Cond.selects RX2 yX2_heightAt yX2_heightAt, Cond.code yX2_heightAt cX2_heightAt 12 (some .int), Cond.constant RX2 50 (-2000000004), Cond.constantLong RX2 63 (2930), Cond.fieldLink RX2 29 "BaroRuns$State" "baseHeight" "I", Cond.methodLink RX2 55 yX2_baseValue, Cond.instanceMethod yX2_baseValue, Cond.selects RX2 yX2_baseValue yX2_baseValue, Cond.code yX2_baseValue cX2_baseValue 10 (some .int), Cond.methodLink RX2 46 yX5_value, Cond.static yX6_divideDown, Cond.code yX6_divideDown cX6_divideDown 4 (some .long), Cond.methodLink RX6 236 yJ9_floorDiv_f86c9, Cond.static yJ9_floorDiv_f86c9, Cond.initialized RJ9, Cond.code yJ9_floorDiv_f86c9 cJ9_floorDiv_f86c9 6 (some .long)]
def wsX6_reading_r4 : List Cond := [Cond.methodLink RX2 58 yJ9_floorDiv_7cf53, Cond.static yJ9_floorDiv_7cf53, Cond.code yJ9_floorDiv_7cf53 cJ9_floorDiv_7cf53 3 (some .int), Cond.methodLink RX3 64 yX5_standsOut, Cond.instanceMethod yX5_standsOut, Cond.selects RX5 yX5_standsOut yX5_standsOut, Cond.code yX5_standsOut cX5_standsOut 6 (some .boolean), Cond.fieldLink RX5 29 "BaroRuns$Track" "size" "I", Cond.methodLink RX5 32 yX5_value, Cond.methodLink RX3 68 yX3_countKinds, Cond.instanceMethod yX3_countKinds, Cond.selects RX3 yX3_countKinds yX3_countKinds, Cond.code yX3_countKinds cX3_countKinds 2 none, Cond.fieldLink RX3 114 "BaroRuns$Survey" "gustCount" "I", Cond.fieldLink RX3 117 "BaroRuns$Survey" "goodCount" "I", Cond.methodLink RX3 120 yX3_isGust, Cond.instanceMethod yX3_isGust, Cond.selects RX3 yX3_isGust yX3_isGust, Cond.code yX3_isGust cX3_isGust 2 (some .boolean), Cond.methodLink RX3 95 yX3_isGood, Cond.instanceMethod yX3_isGood, Cond.selects RX3 yX3_isGood yX3_isGood, Cond.code yX3_isGood cX3_isGood 2 (some .boolean), Cond.constant RX3 85 (-2000000004)]
def wsX6_reading_r5 : List Cond := [Cond.methodLink RX3 71 yX3_findLoops, Cond.instanceMethod yX3_findLoops, Cond.selects RX3 yX3_findLoops yX3_findLoops, Cond.code yX3_findLoops cX3_findLoops 3 none, Cond.fieldLink RX3 123 "BaroRuns$Survey" "loopCount" "I", Cond.fieldLink RX3 30 "BaroRuns$Survey" "begins" "[I", Cond.fieldLink RX3 33 "BaroRuns$Survey" "ends" "[I", Cond.methodLink RX3 126 yX3_lastVisit, Cond.instanceMethod yX3_lastVisit, Cond.selects RX3 yX3_lastVisit yX3_lastVisit, Cond.code yX3_lastVisit cX3_lastVisit 4 (some .int), Cond.methodLink RX3 74 yX3_shortestLoop, Cond.instanceMethod yX3_shortestLoop, Cond.selects RX3 yX3_shortestLoop yX3_shortestLoop, Cond.code yX3_shortestLoop cX3_shortestLoop 5 (some .int), Cond.methodLink RX3 89 yX3_begin, Cond.instanceMethod yX3_begin, Cond.selects RX3 yX3_begin yX3_begin, Cond.code yX3_begin cX3_begin 2 (some .int), Cond.methodLink RX3 86 yX3_end, Cond.instanceMethod yX3_end, Cond.selects RX3 yX3_end yX3_end, Cond.code yX3_end cX3_end 2 (some .int), Cond.methodLink RX3 129 yX3_minutes]
def wsX6_reading_r6 : List Cond := [Cond.instanceMethod yX3_minutes, Cond.selects RX3 yX3_minutes yX3_minutes, Cond.code yX3_minutes cX3_minutes 2 (some .int), Cond.methodLink RX3 78 yX3_withoutDrift, Cond.instanceMethod yX3_withoutDrift, Cond.selects RX3 yX3_withoutDrift yX3_withoutDrift, Cond.code yX3_withoutDrift cX3_withoutDrift 5 (some .int), Cond.methodLink RX3 111 yX3_openLoopOf, Cond.instanceMethod yX3_openLoopOf, Cond.selects RX3 yX3_openLoopOf yX3_openLoopOf, Cond.code yX3_openLoopOf cX3_openLoopOf 2 (some .int), Cond.methodLink RX3 92 yX3_rawHeight, Cond.instanceMethod yX3_rawHeight, Cond.selects RX3 yX3_rawHeight yX3_rawHeight, Cond.code yX3_rawHeight cX3_rawHeight 2 (some .int), Cond.methodLink RX3 132 yX3_misclosure, Cond.instanceMethod yX3_misclosure, Cond.selects RX3 yX3_misclosure yX3_misclosure, Cond.code yX3_misclosure cX3_misclosure 2 (some .int), Cond.methodLink RX6 112 yX6_surveyOf, Cond.instanceMethod yX6_surveyOf, Cond.selects RX6 yX6_surveyOf yX6_surveyOf, Cond.code yX6_surveyOf cX6_surveyOf 2 (some (.object "BaroRuns$Survey")), Cond.methodLink RX6 116 yX3_isGust]
def wsX6_reading_r7 : List Cond := [Cond.methodLink RX6 119 yX3_isGood, Cond.methodLink RX6 122 yX5_value]
def wsX6_reading : List Cond := .code yX6_reading cX6_reading 4 (some .int) :: ((wsX6_reading_r1 ++ (wsX6_reading_r2 ++ (wsX6_reading_r3 ++ (wsX6_reading_r4 ++ (wsX6_reading_r5 ++ (wsX6_reading_r6 ++ wsX6_reading_r7)))))) ++ wsX60 ++ wsX50 ++ wsX20 ++ wsX30)
def wsX6_gather_r1 : List Cond := [Cond.fieldLink RX6 42 "BaroRuns" "pointSum" "LBaroRuns$PointSum;", Cond.methodLink RX6 261 yX1_clear, Cond.instanceMethod yX1_clear, Cond.selects RX1 yX1_clear yX1_clear, Cond.initialized RX1, Cond.code yX1_clear cX1_clear 1 none, Cond.fieldLink RX1 7 "BaroRuns$PointSum" "sum" "J", Cond.fieldLink RX1 13 "BaroRuns$PointSum" "number" "I", Cond.methodLink RX6 112 yX6_surveyOf, Cond.instanceMethod yX6_surveyOf, Cond.selects RX6 yX6_surveyOf yX6_surveyOf, Cond.initialized RX6, Cond.code yX6_surveyOf cX6_surveyOf 2 (some (.object "BaroRuns$Survey")), Cond.fieldLink RX6 29 "BaroRuns" "firstSurvey" "LBaroRuns$Survey;", Cond.fieldLink RX6 33 "BaroRuns" "secondSurvey" "LBaroRuns$Survey;", Cond.fieldLink RX6 36 "BaroRuns" "thirdSurvey" "LBaroRuns$Survey;", Cond.methodLink RX6 264 yX3_addTo, Cond.instanceMethod yX3_addTo, Cond.selects RX3 yX3_addTo yX3_addTo, Cond.initialized RX3, Cond.code yX3_addTo cX3_addTo 4 none, Cond.fieldLink RX3 48 "BaroRuns$Survey" "size" "I", Cond.fieldLink RX3 15 "BaroRuns$Survey" "points" "[I", Cond.methodLink RX3 95 yX3_isGood]
def wsX6_gather_r2 : List Cond := [Cond.instanceMethod yX3_isGood, Cond.selects RX3 yX3_isGood yX3_isGood, Cond.code yX3_isGood cX3_isGood 2 (some .boolean), Cond.fieldLink RX3 18 "BaroRuns$Survey" "heights" "[I", Cond.constant RX3 85 (-2000000004), Cond.fieldLink RX3 21 "BaroRuns$Survey" "gusts" "[I", Cond.static yX6_at, Cond.code yX6_at cX6_at 2 (some .int), Cond.methodLink RX3 99 yX3_endsOpenLoop, Cond.instanceMethod yX3_endsOpenLoop, Cond.selects RX3 yX3_endsOpenLoop yX3_endsOpenLoop, Cond.code yX3_endsOpenLoop cX3_endsOpenLoop 3 (some .boolean), Cond.methodLink RX3 111 yX3_openLoopOf, Cond.instanceMethod yX3_openLoopOf, Cond.selects RX3 yX3_openLoopOf yX3_openLoopOf, Cond.code yX3_openLoopOf cX3_openLoopOf 2 (some .int), Cond.fieldLink RX3 24 "BaroRuns$Survey" "openLoops" "[I", Cond.methodLink RX3 86 yX3_end, Cond.instanceMethod yX3_end, Cond.selects RX3 yX3_end yX3_end, Cond.code yX3_end cX3_end 2 (some .int), Cond.fieldLink RX3 33 "BaroRuns$Survey" "ends" "[I", Cond.methodLink RX3 102 yX3_correctedHeight, Cond.instanceMethod yX3_correctedHeight]
def wsX6_gather_r3 : List Cond := [Cond.selects RX3 yX3_correctedHeight yX3_correctedHeight, Cond.code yX3_correctedHeight cX3_correctedHeight 2 (some .int), Cond.fieldLink RX3 27 "BaroRuns$Survey" "correctedHeights" "[I", Cond.methodLink RX3 105 yX1_add, Cond.instanceMethod yX1_add, Cond.selects RX1 yX1_add yX1_add, Cond.code yX1_add cX1_add 2 none, Cond.fieldLink RX1 17 "BaroRuns$PointSum" "least" "I", Cond.methodLink RX1 20 Lib.Math.min.name, Cond.static Lib.Math.min.name, Cond.initialized "java/lang/Math", Cond.code Lib.Math.min.name Lib.Math.min.code 2 (some .int), Cond.fieldLink RX1 26 "BaroRuns$PointSum" "greatest" "I", Cond.methodLink RX1 29 Lib.Math.max.name, Cond.static Lib.Math.max.name, Cond.code Lib.Math.max.name Lib.Math.max.code 2 (some .int)]
def wsX6_gather : List Cond := .code yX6_gather cX6_gather 3 none :: ((wsX6_gather_r1 ++ (wsX6_gather_r2 ++ wsX6_gather_r3)) ++ wsX60 ++ wsX10 ++ wsX30)
def wsX6_pointsWithHeight_r1 : List Cond := [Cond.fieldLink RX6 42 "BaroRuns" "pointSum" "LBaroRuns$PointSum;", Cond.methodLink RX6 197 yX6_gather, Cond.instanceMethod yX6_gather, Cond.selects RX6 yX6_gather yX6_gather, Cond.initialized RX6, Cond.code yX6_gather cX6_gather 3 none, Cond.methodLink RX6 261 yX1_clear, Cond.instanceMethod yX1_clear, Cond.selects RX1 yX1_clear yX1_clear, Cond.initialized RX1, Cond.code yX1_clear cX1_clear 1 none, Cond.fieldLink RX1 7 "BaroRuns$PointSum" "sum" "J", Cond.fieldLink RX1 13 "BaroRuns$PointSum" "number" "I", Cond.methodLink RX6 112 yX6_surveyOf, Cond.instanceMethod yX6_surveyOf, Cond.selects RX6 yX6_surveyOf yX6_surveyOf, Cond.code yX6_surveyOf cX6_surveyOf 2 (some (.object "BaroRuns$Survey")), Cond.fieldLink RX6 29 "BaroRuns" "firstSurvey" "LBaroRuns$Survey;", Cond.fieldLink RX6 33 "BaroRuns" "secondSurvey" "LBaroRuns$Survey;", Cond.fieldLink RX6 36 "BaroRuns" "thirdSurvey" "LBaroRuns$Survey;", Cond.methodLink RX6 264 yX3_addTo, Cond.instanceMethod yX3_addTo, Cond.selects RX3 yX3_addTo yX3_addTo, Cond.initialized RX3]
def wsX6_pointsWithHeight_r2 : List Cond := [Cond.code yX3_addTo cX3_addTo 4 none, Cond.fieldLink RX3 48 "BaroRuns$Survey" "size" "I", Cond.fieldLink RX3 15 "BaroRuns$Survey" "points" "[I", Cond.methodLink RX3 95 yX3_isGood, Cond.instanceMethod yX3_isGood, Cond.selects RX3 yX3_isGood yX3_isGood, Cond.code yX3_isGood cX3_isGood 2 (some .boolean), Cond.fieldLink RX3 18 "BaroRuns$Survey" "heights" "[I", Cond.constant RX3 85 (-2000000004), Cond.fieldLink RX3 21 "BaroRuns$Survey" "gusts" "[I", Cond.static yX6_at, Cond.code yX6_at cX6_at 2 (some .int), Cond.methodLink RX3 99 yX3_endsOpenLoop, Cond.instanceMethod yX3_endsOpenLoop, Cond.selects RX3 yX3_endsOpenLoop yX3_endsOpenLoop, Cond.code yX3_endsOpenLoop cX3_endsOpenLoop 3 (some .boolean), Cond.methodLink RX3 111 yX3_openLoopOf, Cond.instanceMethod yX3_openLoopOf, Cond.selects RX3 yX3_openLoopOf yX3_openLoopOf, Cond.code yX3_openLoopOf cX3_openLoopOf 2 (some .int), Cond.fieldLink RX3 24 "BaroRuns$Survey" "openLoops" "[I", Cond.methodLink RX3 86 yX3_end, Cond.instanceMethod yX3_end, Cond.selects RX3 yX3_end yX3_end]
def wsX6_pointsWithHeight_r3 : List Cond := [Cond.code yX3_end cX3_end 2 (some .int), Cond.fieldLink RX3 33 "BaroRuns$Survey" "ends" "[I", Cond.methodLink RX3 102 yX3_correctedHeight, Cond.instanceMethod yX3_correctedHeight, Cond.selects RX3 yX3_correctedHeight yX3_correctedHeight, Cond.code yX3_correctedHeight cX3_correctedHeight 2 (some .int), Cond.fieldLink RX3 27 "BaroRuns$Survey" "correctedHeights" "[I", Cond.methodLink RX3 105 yX1_add, Cond.instanceMethod yX1_add, Cond.selects RX1 yX1_add yX1_add, Cond.code yX1_add cX1_add 2 none, Cond.fieldLink RX1 17 "BaroRuns$PointSum" "least" "I", Cond.methodLink RX1 20 Lib.Math.min.name, Cond.static Lib.Math.min.name, Cond.initialized "java/lang/Math", Cond.code Lib.Math.min.name Lib.Math.min.code 2 (some .int), Cond.fieldLink RX1 26 "BaroRuns$PointSum" "greatest" "I", Cond.methodLink RX1 29 Lib.Math.max.name, Cond.static Lib.Math.max.name, Cond.code Lib.Math.max.name Lib.Math.max.code 2 (some .int)]
def wsX6_pointsWithHeight : List Cond := .code yX6_pointsWithHeight cX6_pointsWithHeight 3 (some .int) :: ((wsX6_pointsWithHeight_r1 ++ (wsX6_pointsWithHeight_r2 ++ wsX6_pointsWithHeight_r3)) ++ wsX60 ++ wsX10 ++ wsX30)
def wsX6_count_r1 : List Cond := [Cond.fieldLink RX6 10 "BaroRuns" "now" "LBaroRuns$State;", Cond.fieldLink RX6 29 "BaroRuns" "firstSurvey" "LBaroRuns$Survey;", Cond.fieldLink RX6 33 "BaroRuns" "secondSurvey" "LBaroRuns$Survey;", Cond.fieldLink RX6 36 "BaroRuns" "thirdSurvey" "LBaroRuns$Survey;", Cond.fieldLink RX6 22 "BaroRuns" "history" "LBaroRuns$History;", Cond.fieldLink RX6 49 "BaroRuns" "text" "LBaroRuns$Text;", Cond.constant RX6 61 (-2000000001), Cond.methodLink RX6 109 yX6_refresh, Cond.instanceMethod yX6_refresh, Cond.selects RX6 yX6_refresh yX6_refresh, Cond.initialized RX6, Cond.code yX6_refresh cX6_refresh 1 none, Cond.fieldLink RX6 53 "BaroRuns" "stale" "Z", Cond.methodLink RX6 257 yX3_workOut, Cond.instanceMethod yX3_workOut, Cond.selects RX3 yX3_workOut yX3_workOut, Cond.initialized RX3, Cond.code yX3_workOut cX3_workOut 8 none, Cond.fieldLink RX3 48 "BaroRuns$Survey" "size" "I", Cond.fieldLink RX3 9 "BaroRuns$Survey" "times" "[I", Cond.fieldLink RX3 15 "BaroRuns$Survey" "points" "[I", Cond.fieldLink RX3 18 "BaroRuns$Survey" "heights" "[I", Cond.fieldLink RX3 21 "BaroRuns$Survey" "gusts" "[I", Cond.fieldLink RX3 24 "BaroRuns$Survey" "openLoops" "[I"]
def wsX6_count_r2 : List Cond := [Cond.fieldLink RX3 27 "BaroRuns$Survey" "correctedHeights" "[I", Cond.methodLink RX3 36 yX2_track, Cond.instanceMethod yX2_track, Cond.selects RX2 yX2_track yX2_track, Cond.initialized RX2, Cond.code yX2_track cX2_track 2 (some (.object "BaroRuns$Track")), Cond.fieldLink RX2 20 "BaroRuns$State" "firstTrack" "LBaroRuns$Track;", Cond.fieldLink RX2 23 "BaroRuns$State" "secondTrack" "LBaroRuns$Track;", Cond.fieldLink RX2 26 "BaroRuns$State" "thirdTrack" "LBaroRuns$Track;", Cond.fieldLink RX2 14 "BaroRuns$State" "baseTrack" "LBaroRuns$Track;", Cond.methodLink RX3 49 yX5_value, Cond.instanceMethod yX5_value, Cond.selects RX5 yX5_value yX5_value, Cond.initialized RX5, Cond.code yX5_value cX5_value 3 (some .int), Cond.fieldLink RX5 9 "BaroRuns$Track" "values" "[I", Cond.static yX6_at, Cond.code yX6_at cX6_at 2 (some .int), Cond.static yX6_put, Cond.code yX6_put cX6_put 3 none, Cond.methodLink RX3 57 yX2_heightAt, Cond.instanceMethod yX2_heightAt, Cond.selects RX2 yX2_heightAt yX2_heightAt, Cond.code yX2_heightAt cX2_heightAt 12 (some .int)]
def wsX6_count_r3 : List Cond := [Cond.constant RX2 50 (-2000000004), Cond.constantLong RX2 63 (2930), Cond.fieldLink RX2 29 "BaroRuns$State" "baseHeight" "I", Cond.methodLink RX2 55 yX2_baseValue, Cond.instanceMethod yX2_baseValue, Cond.selects RX2 yX2_baseValue yX2_baseValue, Cond.code yX2_baseValue cX2_baseValue 10 (some .int), Cond.methodLink RX2 46 yX5_value, Cond.static yX6_divideDown, Cond.code yX6_divideDown cX6_divideDown 4 (some .long), Cond.methodLink RX6 236 yJ9_floorDiv_f86c9, Cond.static yJ9_floorDiv_f86c9, Cond.initialized RJ9, Cond.code yJ9_floorDiv_f86c9 cJ9_floorDiv_f86c9 6 (some .long), Cond.methodLink RX2 58 yJ9_floorDiv_7cf53, Cond.static yJ9_floorDiv_7cf53, Cond.code yJ9_floorDiv_7cf53 cJ9_floorDiv_7cf53 3 (some .int), Cond.methodLink RX3 64 yX5_standsOut, Cond.instanceMethod yX5_standsOut, Cond.selects RX5 yX5_standsOut yX5_standsOut, Cond.code yX5_standsOut cX5_standsOut 6 (some .boolean), Cond.fieldLink RX5 29 "BaroRuns$Track" "size" "I", Cond.methodLink RX5 32 yX5_value, Cond.methodLink RX3 68 yX3_countKinds]
def wsX6_count_r4 : List Cond := [Cond.instanceMethod yX3_countKinds, Cond.selects RX3 yX3_countKinds yX3_countKinds, Cond.code yX3_countKinds cX3_countKinds 2 none, Cond.fieldLink RX3 114 "BaroRuns$Survey" "gustCount" "I", Cond.fieldLink RX3 117 "BaroRuns$Survey" "goodCount" "I", Cond.methodLink RX3 120 yX3_isGust, Cond.instanceMethod yX3_isGust, Cond.selects RX3 yX3_isGust yX3_isGust, Cond.code yX3_isGust cX3_isGust 2 (some .boolean), Cond.methodLink RX3 95 yX3_isGood, Cond.instanceMethod yX3_isGood, Cond.selects RX3 yX3_isGood yX3_isGood, Cond.code yX3_isGood cX3_isGood 2 (some .boolean), Cond.constant RX3 85 (-2000000004), Cond.methodLink RX3 71 yX3_findLoops, Cond.instanceMethod yX3_findLoops, Cond.selects RX3 yX3_findLoops yX3_findLoops, Cond.code yX3_findLoops cX3_findLoops 3 none, Cond.fieldLink RX3 123 "BaroRuns$Survey" "loopCount" "I", Cond.fieldLink RX3 30 "BaroRuns$Survey" "begins" "[I", Cond.fieldLink RX3 33 "BaroRuns$Survey" "ends" "[I", Cond.methodLink RX3 126 yX3_lastVisit, Cond.instanceMethod yX3_lastVisit, Cond.selects RX3 yX3_lastVisit yX3_lastVisit]
def wsX6_count_r5 : List Cond := [Cond.code yX3_lastVisit cX3_lastVisit 4 (some .int), Cond.methodLink RX3 74 yX3_shortestLoop, Cond.instanceMethod yX3_shortestLoop, Cond.selects RX3 yX3_shortestLoop yX3_shortestLoop, Cond.code yX3_shortestLoop cX3_shortestLoop 5 (some .int), Cond.methodLink RX3 89 yX3_begin, Cond.instanceMethod yX3_begin, Cond.selects RX3 yX3_begin yX3_begin, Cond.code yX3_begin cX3_begin 2 (some .int), Cond.methodLink RX3 86 yX3_end, Cond.instanceMethod yX3_end, Cond.selects RX3 yX3_end yX3_end, Cond.code yX3_end cX3_end 2 (some .int), Cond.methodLink RX3 129 yX3_minutes, Cond.instanceMethod yX3_minutes, Cond.selects RX3 yX3_minutes yX3_minutes, Cond.code yX3_minutes cX3_minutes 2 (some .int), Cond.methodLink RX3 78 yX3_withoutDrift, Cond.instanceMethod yX3_withoutDrift, Cond.selects RX3 yX3_withoutDrift yX3_withoutDrift, Cond.code yX3_withoutDrift cX3_withoutDrift 5 (some .int), Cond.methodLink RX3 111 yX3_openLoopOf, Cond.instanceMethod yX3_openLoopOf, Cond.selects RX3 yX3_openLoopOf yX3_openLoopOf]
def wsX6_count_r6 : List Cond := [Cond.code yX3_openLoopOf cX3_openLoopOf 2 (some .int), Cond.methodLink RX3 92 yX3_rawHeight, Cond.instanceMethod yX3_rawHeight, Cond.selects RX3 yX3_rawHeight yX3_rawHeight, Cond.code yX3_rawHeight cX3_rawHeight 2 (some .int), Cond.methodLink RX3 132 yX3_misclosure, Cond.instanceMethod yX3_misclosure, Cond.selects RX3 yX3_misclosure yX3_misclosure, Cond.code yX3_misclosure cX3_misclosure 2 (some .int), Cond.methodLink RX6 91 yX2_track, Cond.methodLink RX6 132 yX2_steps, Cond.instanceMethod yX2_steps, Cond.selects RX2 yX2_steps yX2_steps, Cond.code yX2_steps cX2_steps 3 (some .int), Cond.methodLink RX2 69 yX2_isStepEnd, Cond.instanceMethod yX2_isStepEnd, Cond.selects RX2 yX2_isStepEnd yX2_isStepEnd, Cond.code yX2_isStepEnd cX2_isStepEnd 3 (some .boolean), Cond.methodLink RX2 65 Lib.Math.abs.name, Cond.static Lib.Math.abs.name, Cond.initialized "java/lang/Math", Cond.code Lib.Math.abs.name Lib.Math.abs.code 1 (some .int), Cond.fieldLink RX2 36 "BaroRuns$State" "stepLimit" "I", Cond.methodLink RX6 136 yX6_pointsWithHeight]
def wsX6_count_r7 : List Cond := [Cond.instanceMethod yX6_pointsWithHeight, Cond.selects RX6 yX6_pointsWithHeight yX6_pointsWithHeight, Cond.code yX6_pointsWithHeight cX6_pointsWithHeight 3 (some .int), Cond.fieldLink RX6 42 "BaroRuns" "pointSum" "LBaroRuns$PointSum;", Cond.methodLink RX6 197 yX6_gather, Cond.instanceMethod yX6_gather, Cond.selects RX6 yX6_gather yX6_gather, Cond.code yX6_gather cX6_gather 3 none, Cond.methodLink RX6 261 yX1_clear, Cond.instanceMethod yX1_clear, Cond.selects RX1 yX1_clear yX1_clear, Cond.initialized RX1, Cond.code yX1_clear cX1_clear 1 none, Cond.fieldLink RX1 7 "BaroRuns$PointSum" "sum" "J", Cond.fieldLink RX1 13 "BaroRuns$PointSum" "number" "I", Cond.methodLink RX6 112 yX6_surveyOf, Cond.instanceMethod yX6_surveyOf, Cond.selects RX6 yX6_surveyOf yX6_surveyOf, Cond.code yX6_surveyOf cX6_surveyOf 2 (some (.object "BaroRuns$Survey")), Cond.methodLink RX6 264 yX3_addTo, Cond.instanceMethod yX3_addTo, Cond.selects RX3 yX3_addTo yX3_addTo, Cond.code yX3_addTo cX3_addTo 4 none, Cond.methodLink RX3 99 yX3_endsOpenLoop]
def wsX6_count_r8 : List Cond := [Cond.instanceMethod yX3_endsOpenLoop, Cond.selects RX3 yX3_endsOpenLoop yX3_endsOpenLoop, Cond.code yX3_endsOpenLoop cX3_endsOpenLoop 3 (some .boolean), Cond.methodLink RX3 102 yX3_correctedHeight, Cond.instanceMethod yX3_correctedHeight, Cond.selects RX3 yX3_correctedHeight yX3_correctedHeight, Cond.code yX3_correctedHeight cX3_correctedHeight 2 (some .int), Cond.methodLink RX3 105 yX1_add, Cond.instanceMethod yX1_add, Cond.selects RX1 yX1_add yX1_add, Cond.code yX1_add cX1_add 2 none, Cond.fieldLink RX1 17 "BaroRuns$PointSum" "least" "I", Cond.methodLink RX1 20 Lib.Math.min.name, Cond.static Lib.Math.min.name, Cond.code Lib.Math.min.name Lib.Math.min.code 2 (some .int), Cond.fieldLink RX1 26 "BaroRuns$PointSum" "greatest" "I", Cond.methodLink RX1 29 Lib.Math.max.name, Cond.static Lib.Math.max.name, Cond.code Lib.Math.max.name Lib.Math.max.code 2 (some .int), Cond.methodLink RX6 65 yX2_setting, Cond.instanceMethod yX2_setting, Cond.selects RX2 yX2_setting yX2_setting, Cond.code yX2_setting cX2_setting 2 (some .int), Cond.fieldLink RX2 33 "BaroRuns$State" "gustLimit" "I"]
def wsX6_count : List Cond := .code yX6_count cX6_count 2 (some .int) :: ((wsX6_count_r1 ++ (wsX6_count_r2 ++ (wsX6_count_r3 ++ (wsX6_count_r4 ++ (wsX6_count_r5 ++ (wsX6_count_r6 ++ (wsX6_count_r7 ++ wsX6_count_r8))))))) ++ wsX60 ++ wsX50 ++ wsX30 ++ wsX00 ++ wsX40 ++ wsX20 ++ wsX10)
def wsX6_undo_r1 : List Cond := [Cond.fieldLink RX6 22 "BaroRuns" "history" "LBaroRuns$History;", Cond.constant RX6 146 (-2000000002), Cond.fieldLink RX6 10 "BaroRuns" "now" "LBaroRuns$State;", Cond.fieldLink RX6 53 "BaroRuns" "stale" "Z", Cond.methodLink RX6 147 yX0_giveBack, Cond.instanceMethod yX0_giveBack, Cond.selects RX0 yX0_giveBack yX0_giveBack, Cond.initialized RX0, Cond.code yX0_giveBack cX0_giveBack 3 none, Cond.fieldLink RX0 18 "BaroRuns$History" "size" "I", Cond.methodLink RX0 25 yX0_place, Cond.instanceMethod yX0_place, Cond.selects RX0 yX0_place yX0_place, Cond.code yX0_place cX0_place 3 (some (.object "BaroRuns$State")), Cond.fieldLink RX0 22 "BaroRuns$History" "oldest" "I", Cond.fieldLink RX0 11 "BaroRuns$History" "places" "[LBaroRuns$State;", Cond.methodLink RX0 29 yX2_copyFrom, Cond.instanceMethod yX2_copyFrom, Cond.selects RX2 yX2_copyFrom yX2_copyFrom, Cond.initialized RX2, Cond.code yX2_copyFrom cX2_copyFrom 2 none, Cond.fieldLink RX2 14 "BaroRuns$State" "baseTrack" "LBaroRuns$Track;", Cond.fieldLink RX2 20 "BaroRuns$State" "firstTrack" "LBaroRuns$Track;", Cond.fieldLink RX2 23 "BaroRuns$State" "secondTrack" "LBaroRuns$Track;"]
def wsX6_undo_r2 : List Cond := [Cond.fieldLink RX2 26 "BaroRuns$State" "thirdTrack" "LBaroRuns$Track;", Cond.fieldLink RX2 29 "BaroRuns$State" "baseHeight" "I", Cond.fieldLink RX2 33 "BaroRuns$State" "gustLimit" "I", Cond.fieldLink RX2 36 "BaroRuns$State" "stepLimit" "I", Cond.methodLink RX2 39 yX5_copyFrom, Cond.instanceMethod yX5_copyFrom, Cond.selects RX5 yX5_copyFrom yX5_copyFrom, Cond.initialized RX5, Cond.code yX5_copyFrom cX5_copyFrom 2 none, Cond.fieldLink RX5 9 "BaroRuns$Track" "values" "[I", Cond.methodLink RX5 15 Lib.Math.min.name, Cond.static Lib.Math.min.name, Cond.initialized "java/lang/Math", Cond.code Lib.Math.min.name Lib.Math.min.code 2 (some .int), Cond.methodLink RX5 43 arraycopyName, Cond.native arraycopyName, Cond.static arraycopyName, Cond.initialized "java/lang/System", Cond.fieldLink RX5 29 "BaroRuns$Track" "size" "I"]
def wsX6_undo : List Cond := .code yX6_undo cX6_undo 1 (some .int) :: ((wsX6_undo_r1 ++ wsX6_undo_r2) ++ wsX60 ++ wsX00 ++ wsX20 ++ wsX50)
def wsX6_baseAt_r1 : List Cond := [Cond.constant RX6 61 (-2000000001), Cond.fieldLink RX6 10 "BaroRuns" "now" "LBaroRuns$State;", Cond.methodLink RX6 151 yX6_isTime, Cond.static yX6_isTime, Cond.initialized RX6, Cond.code yX6_isTime cX6_isTime 1 (some .boolean), Cond.methodLink RX6 105 yX6_within, Cond.static yX6_within, Cond.code yX6_within cX6_within 3 (some .boolean), Cond.methodLink RX6 154 yX2_baseValue, Cond.instanceMethod yX2_baseValue, Cond.selects RX2 yX2_baseValue yX2_baseValue, Cond.initialized RX2, Cond.code yX2_baseValue cX2_baseValue 10 (some .int), Cond.fieldLink RX2 14 "BaroRuns$State" "baseTrack" "LBaroRuns$Track;", Cond.constant RX2 50 (-2000000004), Cond.methodLink RX2 46 yX5_value, Cond.instanceMethod yX5_value, Cond.selects RX5 yX5_value yX5_value, Cond.initialized RX5, Cond.code yX5_value cX5_value 3 (some .int), Cond.fieldLink RX5 9 "BaroRuns$Track" "values" "[I", Cond.static yX6_at, Cond.code yX6_at cX6_at 2 (some .int)]
def wsX6_baseAt_r2 : List Cond := [Cond.static yX6_divideDown, Cond.code yX6_divideDown cX6_divideDown 4 (some .long), Cond.methodLink RX6 236 yJ9_floorDiv_f86c9, Cond.static yJ9_floorDiv_f86c9, Cond.initialized RJ9, Cond.code yJ9_floorDiv_f86c9 cJ9_floorDiv_f86c9 6 (some .long)]
def wsX6_baseAt : List Cond := .code yX6_baseAt cX6_baseAt 3 (some .int) :: ((wsX6_baseAt_r1 ++ wsX6_baseAt_r2) ++ wsX60 ++ wsX20 ++ wsX50)
def wsX6_raw_r1 : List Cond := [Cond.constant RX6 61 (-2000000001), Cond.methodLink RX6 81 yX6_isCell, Cond.static yX6_isCell, Cond.initialized RX6, Cond.code yX6_isCell cX6_isCell 1 (some .boolean), Cond.methodLink RX6 105 yX6_within, Cond.static yX6_within, Cond.code yX6_within cX6_within 3 (some .boolean), Cond.methodLink RX6 88 yX6_isReadingOf, Cond.instanceMethod yX6_isReadingOf, Cond.selects RX6 yX6_isReadingOf yX6_isReadingOf, Cond.code yX6_isReadingOf cX6_isReadingOf 3 (some .boolean), Cond.fieldLink RX6 10 "BaroRuns" "now" "LBaroRuns$State;", Cond.methodLink RX6 91 yX2_track, Cond.instanceMethod yX2_track, Cond.selects RX2 yX2_track yX2_track, Cond.initialized RX2, Cond.code yX2_track cX2_track 2 (some (.object "BaroRuns$Track")), Cond.fieldLink RX2 20 "BaroRuns$State" "firstTrack" "LBaroRuns$Track;", Cond.fieldLink RX2 23 "BaroRuns$State" "secondTrack" "LBaroRuns$Track;", Cond.fieldLink RX2 26 "BaroRuns$State" "thirdTrack" "LBaroRuns$Track;", Cond.fieldLink RX2 14 "BaroRuns$State" "baseTrack" "LBaroRuns$Track;", Cond.methodLink RX6 109 yX6_refresh, Cond.instanceMethod yX6_refresh]
def wsX6_raw_r2 : List Cond := [Cond.selects RX6 yX6_refresh yX6_refresh, Cond.code yX6_refresh cX6_refresh 1 none, Cond.fieldLink RX6 53 "BaroRuns" "stale" "Z", Cond.fieldLink RX6 29 "BaroRuns" "firstSurvey" "LBaroRuns$Survey;", Cond.fieldLink RX6 33 "BaroRuns" "secondSurvey" "LBaroRuns$Survey;", Cond.fieldLink RX6 36 "BaroRuns" "thirdSurvey" "LBaroRuns$Survey;", Cond.methodLink RX6 257 yX3_workOut, Cond.instanceMethod yX3_workOut, Cond.selects RX3 yX3_workOut yX3_workOut, Cond.initialized RX3, Cond.code yX3_workOut cX3_workOut 8 none, Cond.fieldLink RX3 48 "BaroRuns$Survey" "size" "I", Cond.fieldLink RX3 9 "BaroRuns$Survey" "times" "[I", Cond.fieldLink RX3 15 "BaroRuns$Survey" "points" "[I", Cond.fieldLink RX3 18 "BaroRuns$Survey" "heights" "[I", Cond.fieldLink RX3 21 "BaroRuns$Survey" "gusts" "[I", Cond.fieldLink RX3 24 "BaroRuns$Survey" "openLoops" "[I", Cond.fieldLink RX3 27 "BaroRuns$Survey" "correctedHeights" "[I", Cond.methodLink RX3 36 yX2_track, Cond.methodLink RX3 49 yX5_value, Cond.instanceMethod yX5_value, Cond.selects RX5 yX5_value yX5_value, Cond.initialized RX5, Cond.code yX5_value cX5_value 3 (some .int)]
def wsX6_raw_r3 : List Cond := [Cond.fieldLink RX5 9 "BaroRuns$Track" "values" "[I", Cond.static yX6_at, Cond.code yX6_at cX6_at 2 (some .int), Cond.static yX6_put, Cond.code yX6_put cX6_put 3 none, Cond.methodLink RX3 57 yX2_heightAt, Cond.instanceMethod yX2_heightAt, Cond.selects RX2 yX2_heightAt yX2_heightAt, Cond.code yX2_heightAt cX2_heightAt 12 (some .int), Cond.constant RX2 50 (-2000000004), Cond.constantLong RX2 63 (2930), Cond.fieldLink RX2 29 "BaroRuns$State" "baseHeight" "I", Cond.methodLink RX2 55 yX2_baseValue, Cond.instanceMethod yX2_baseValue, Cond.selects RX2 yX2_baseValue yX2_baseValue, Cond.code yX2_baseValue cX2_baseValue 10 (some .int), Cond.methodLink RX2 46 yX5_value, Cond.static yX6_divideDown, Cond.code yX6_divideDown cX6_divideDown 4 (some .long), Cond.methodLink RX6 236 yJ9_floorDiv_f86c9, Cond.static yJ9_floorDiv_f86c9, Cond.initialized RJ9, Cond.code yJ9_floorDiv_f86c9 cJ9_floorDiv_f86c9 6 (some .long), Cond.methodLink RX2 58 yJ9_floorDiv_7cf53]
def wsX6_raw_r4 : List Cond := [Cond.static yJ9_floorDiv_7cf53, Cond.code yJ9_floorDiv_7cf53 cJ9_floorDiv_7cf53 3 (some .int), Cond.methodLink RX3 64 yX5_standsOut, Cond.instanceMethod yX5_standsOut, Cond.selects RX5 yX5_standsOut yX5_standsOut, Cond.code yX5_standsOut cX5_standsOut 6 (some .boolean), Cond.fieldLink RX5 29 "BaroRuns$Track" "size" "I", Cond.methodLink RX5 32 yX5_value, Cond.methodLink RX3 68 yX3_countKinds, Cond.instanceMethod yX3_countKinds, Cond.selects RX3 yX3_countKinds yX3_countKinds, Cond.code yX3_countKinds cX3_countKinds 2 none, Cond.fieldLink RX3 114 "BaroRuns$Survey" "gustCount" "I", Cond.fieldLink RX3 117 "BaroRuns$Survey" "goodCount" "I", Cond.methodLink RX3 120 yX3_isGust, Cond.instanceMethod yX3_isGust, Cond.selects RX3 yX3_isGust yX3_isGust, Cond.code yX3_isGust cX3_isGust 2 (some .boolean), Cond.methodLink RX3 95 yX3_isGood, Cond.instanceMethod yX3_isGood, Cond.selects RX3 yX3_isGood yX3_isGood, Cond.code yX3_isGood cX3_isGood 2 (some .boolean), Cond.constant RX3 85 (-2000000004), Cond.methodLink RX3 71 yX3_findLoops]
def wsX6_raw_r5 : List Cond := [Cond.instanceMethod yX3_findLoops, Cond.selects RX3 yX3_findLoops yX3_findLoops, Cond.code yX3_findLoops cX3_findLoops 3 none, Cond.fieldLink RX3 123 "BaroRuns$Survey" "loopCount" "I", Cond.fieldLink RX3 30 "BaroRuns$Survey" "begins" "[I", Cond.fieldLink RX3 33 "BaroRuns$Survey" "ends" "[I", Cond.methodLink RX3 126 yX3_lastVisit, Cond.instanceMethod yX3_lastVisit, Cond.selects RX3 yX3_lastVisit yX3_lastVisit, Cond.code yX3_lastVisit cX3_lastVisit 4 (some .int), Cond.methodLink RX3 74 yX3_shortestLoop, Cond.instanceMethod yX3_shortestLoop, Cond.selects RX3 yX3_shortestLoop yX3_shortestLoop, Cond.code yX3_shortestLoop cX3_shortestLoop 5 (some .int), Cond.methodLink RX3 89 yX3_begin, Cond.instanceMethod yX3_begin, Cond.selects RX3 yX3_begin yX3_begin, Cond.code yX3_begin cX3_begin 2 (some .int), Cond.methodLink RX3 86 yX3_end, Cond.instanceMethod yX3_end, Cond.selects RX3 yX3_end yX3_end, Cond.code yX3_end cX3_end 2 (some .int), Cond.methodLink RX3 129 yX3_minutes, Cond.instanceMethod yX3_minutes]
def wsX6_raw_r6 : List Cond := [Cond.selects RX3 yX3_minutes yX3_minutes, Cond.code yX3_minutes cX3_minutes 2 (some .int), Cond.methodLink RX3 78 yX3_withoutDrift, Cond.instanceMethod yX3_withoutDrift, Cond.selects RX3 yX3_withoutDrift yX3_withoutDrift, Cond.code yX3_withoutDrift cX3_withoutDrift 5 (some .int), Cond.methodLink RX3 111 yX3_openLoopOf, Cond.instanceMethod yX3_openLoopOf, Cond.selects RX3 yX3_openLoopOf yX3_openLoopOf, Cond.code yX3_openLoopOf cX3_openLoopOf 2 (some .int), Cond.methodLink RX3 92 yX3_rawHeight, Cond.instanceMethod yX3_rawHeight, Cond.selects RX3 yX3_rawHeight yX3_rawHeight, Cond.code yX3_rawHeight cX3_rawHeight 2 (some .int), Cond.methodLink RX3 132 yX3_misclosure, Cond.instanceMethod yX3_misclosure, Cond.selects RX3 yX3_misclosure yX3_misclosure, Cond.code yX3_misclosure cX3_misclosure 2 (some .int), Cond.methodLink RX6 112 yX6_surveyOf, Cond.instanceMethod yX6_surveyOf, Cond.selects RX6 yX6_surveyOf yX6_surveyOf, Cond.code yX6_surveyOf cX6_surveyOf 2 (some (.object "BaroRuns$Survey")), Cond.methodLink RX6 160 yX3_rawHeight]
def wsX6_raw : List Cond := .code yX6_raw cX6_raw 3 (some .int) :: ((wsX6_raw_r1 ++ (wsX6_raw_r2 ++ (wsX6_raw_r3 ++ (wsX6_raw_r4 ++ (wsX6_raw_r5 ++ wsX6_raw_r6))))) ++ wsX60 ++ wsX50 ++ wsX20 ++ wsX30)
def wsX6_would_r1 : List Cond := [Cond.constant RX6 61 (-2000000001), Cond.fieldLink RX6 10 "BaroRuns" "now" "LBaroRuns$State;", Cond.methodLink RX6 73 yX6_isReading, Cond.static yX6_isReading, Cond.initialized RX6, Cond.code yX6_isReading cX6_isReading 3 (some .boolean), Cond.constant RX6 172 (50000), Cond.constant RX6 235 (110000), Cond.methodLink RX6 151 yX6_isTime, Cond.static yX6_isTime, Cond.code yX6_isTime cX6_isTime 1 (some .boolean), Cond.methodLink RX6 105 yX6_within, Cond.static yX6_within, Cond.code yX6_within cX6_within 3 (some .boolean), Cond.methodLink RX6 167 yX6_isTemperature, Cond.static yX6_isTemperature, Cond.code yX6_isTemperature cX6_isTemperature 1 (some .boolean), Cond.methodLink RX6 163 yX2_heightAt, Cond.instanceMethod yX2_heightAt, Cond.selects RX2 yX2_heightAt yX2_heightAt, Cond.initialized RX2, Cond.code yX2_heightAt cX2_heightAt 12 (some .int), Cond.constant RX2 50 (-2000000004), Cond.constantLong RX2 63 (2930)]
def wsX6_would_r2 : List Cond := [Cond.fieldLink RX2 29 "BaroRuns$State" "baseHeight" "I", Cond.methodLink RX2 55 yX2_baseValue, Cond.instanceMethod yX2_baseValue, Cond.selects RX2 yX2_baseValue yX2_baseValue, Cond.code yX2_baseValue cX2_baseValue 10 (some .int), Cond.fieldLink RX2 14 "BaroRuns$State" "baseTrack" "LBaroRuns$Track;", Cond.methodLink RX2 46 yX5_value, Cond.instanceMethod yX5_value, Cond.selects RX5 yX5_value yX5_value, Cond.initialized RX5, Cond.code yX5_value cX5_value 3 (some .int), Cond.fieldLink RX5 9 "BaroRuns$Track" "values" "[I", Cond.static yX6_at, Cond.code yX6_at cX6_at 2 (some .int), Cond.static yX6_divideDown, Cond.code yX6_divideDown cX6_divideDown 4 (some .long), Cond.methodLink RX6 236 yJ9_floorDiv_f86c9, Cond.static yJ9_floorDiv_f86c9, Cond.initialized RJ9, Cond.code yJ9_floorDiv_f86c9 cJ9_floorDiv_f86c9 6 (some .long), Cond.methodLink RX2 58 yJ9_floorDiv_7cf53, Cond.static yJ9_floorDiv_7cf53, Cond.code yJ9_floorDiv_7cf53 cJ9_floorDiv_7cf53 3 (some .int)]
def wsX6_would : List Cond := .code yX6_would cX6_would 4 (some .int) :: ((wsX6_would_r1 ++ wsX6_would_r2) ++ wsX60 ++ wsX20 ++ wsX50)
def wsX6_loops_r1 : List Cond := [Cond.constant RX6 61 (-2000000001), Cond.methodLink RX6 81 yX6_isCell, Cond.static yX6_isCell, Cond.initialized RX6, Cond.code yX6_isCell cX6_isCell 1 (some .boolean), Cond.methodLink RX6 105 yX6_within, Cond.static yX6_within, Cond.code yX6_within cX6_within 3 (some .boolean), Cond.methodLink RX6 109 yX6_refresh, Cond.instanceMethod yX6_refresh, Cond.selects RX6 yX6_refresh yX6_refresh, Cond.code yX6_refresh cX6_refresh 1 none, Cond.fieldLink RX6 53 "BaroRuns" "stale" "Z", Cond.fieldLink RX6 29 "BaroRuns" "firstSurvey" "LBaroRuns$Survey;", Cond.fieldLink RX6 10 "BaroRuns" "now" "LBaroRuns$State;", Cond.fieldLink RX6 33 "BaroRuns" "secondSurvey" "LBaroRuns$Survey;", Cond.fieldLink RX6 36 "BaroRuns" "thirdSurvey" "LBaroRuns$Survey;", Cond.methodLink RX6 257 yX3_workOut, Cond.instanceMethod yX3_workOut, Cond.selects RX3 yX3_workOut yX3_workOut, Cond.initialized RX3, Cond.code yX3_workOut cX3_workOut 8 none, Cond.fieldLink RX3 48 "BaroRuns$Survey" "size" "I", Cond.fieldLink RX3 9 "BaroRuns$Survey" "times" "[I"]
def wsX6_loops_r2 : List Cond := [Cond.fieldLink RX3 15 "BaroRuns$Survey" "points" "[I", Cond.fieldLink RX3 18 "BaroRuns$Survey" "heights" "[I", Cond.fieldLink RX3 21 "BaroRuns$Survey" "gusts" "[I", Cond.fieldLink RX3 24 "BaroRuns$Survey" "openLoops" "[I", Cond.fieldLink RX3 27 "BaroRuns$Survey" "correctedHeights" "[I", Cond.methodLink RX3 36 yX2_track, Cond.instanceMethod yX2_track, Cond.selects RX2 yX2_track yX2_track, Cond.initialized RX2, Cond.code yX2_track cX2_track 2 (some (.object "BaroRuns$Track")), Cond.fieldLink RX2 20 "BaroRuns$State" "firstTrack" "LBaroRuns$Track;", Cond.fieldLink RX2 23 "BaroRuns$State" "secondTrack" "LBaroRuns$Track;", Cond.fieldLink RX2 26 "BaroRuns$State" "thirdTrack" "LBaroRuns$Track;", Cond.fieldLink RX2 14 "BaroRuns$State" "baseTrack" "LBaroRuns$Track;", Cond.methodLink RX3 49 yX5_value, Cond.instanceMethod yX5_value, Cond.selects RX5 yX5_value yX5_value, Cond.initialized RX5, Cond.code yX5_value cX5_value 3 (some .int), Cond.fieldLink RX5 9 "BaroRuns$Track" "values" "[I", Cond.static yX6_at, Cond.code yX6_at cX6_at 2 (some .int), Cond.static yX6_put, Cond.code yX6_put cX6_put 3 none]
def wsX6_loops_r3 : List Cond := [Cond.methodLink RX3 57 yX2_heightAt, Cond.instanceMethod yX2_heightAt, Cond.selects RX2 yX2_heightAt yX2_heightAt, Cond.code yX2_heightAt cX2_heightAt 12 (some .int), Cond.constant RX2 50 (-2000000004), Cond.constantLong RX2 63 (2930), Cond.fieldLink RX2 29 "BaroRuns$State" "baseHeight" "I", Cond.methodLink RX2 55 yX2_baseValue, Cond.instanceMethod yX2_baseValue, Cond.selects RX2 yX2_baseValue yX2_baseValue, Cond.code yX2_baseValue cX2_baseValue 10 (some .int), Cond.methodLink RX2 46 yX5_value, Cond.static yX6_divideDown, Cond.code yX6_divideDown cX6_divideDown 4 (some .long), Cond.methodLink RX6 236 yJ9_floorDiv_f86c9, Cond.static yJ9_floorDiv_f86c9, Cond.initialized RJ9, Cond.code yJ9_floorDiv_f86c9 cJ9_floorDiv_f86c9 6 (some .long), Cond.methodLink RX2 58 yJ9_floorDiv_7cf53, Cond.static yJ9_floorDiv_7cf53, Cond.code yJ9_floorDiv_7cf53 cJ9_floorDiv_7cf53 3 (some .int), Cond.methodLink RX3 64 yX5_standsOut, Cond.instanceMethod yX5_standsOut, Cond.selects RX5 yX5_standsOut yX5_standsOut]
def wsX6_loops_r4 : List Cond := [Cond.code yX5_standsOut cX5_standsOut 6 (some .boolean), Cond.fieldLink RX5 29 "BaroRuns$Track" "size" "I", Cond.methodLink RX5 32 yX5_value, Cond.methodLink RX3 68 yX3_countKinds, Cond.instanceMethod yX3_countKinds, Cond.selects RX3 yX3_countKinds yX3_countKinds, Cond.code yX3_countKinds cX3_countKinds 2 none, Cond.fieldLink RX3 114 "BaroRuns$Survey" "gustCount" "I", Cond.fieldLink RX3 117 "BaroRuns$Survey" "goodCount" "I", Cond.methodLink RX3 120 yX3_isGust, Cond.instanceMethod yX3_isGust, Cond.selects RX3 yX3_isGust yX3_isGust, Cond.code yX3_isGust cX3_isGust 2 (some .boolean), Cond.methodLink RX3 95 yX3_isGood, Cond.instanceMethod yX3_isGood, Cond.selects RX3 yX3_isGood yX3_isGood, Cond.code yX3_isGood cX3_isGood 2 (some .boolean), Cond.constant RX3 85 (-2000000004), Cond.methodLink RX3 71 yX3_findLoops, Cond.instanceMethod yX3_findLoops, Cond.selects RX3 yX3_findLoops yX3_findLoops, Cond.code yX3_findLoops cX3_findLoops 3 none, Cond.fieldLink RX3 123 "BaroRuns$Survey" "loopCount" "I", Cond.fieldLink RX3 30 "BaroRuns$Survey" "begins" "[I"]
def wsX6_loops_r5 : List Cond := [Cond.fieldLink RX3 33 "BaroRuns$Survey" "ends" "[I", Cond.methodLink RX3 126 yX3_lastVisit, Cond.instanceMethod yX3_lastVisit, Cond.selects RX3 yX3_lastVisit yX3_lastVisit, Cond.code yX3_lastVisit cX3_lastVisit 4 (some .int), Cond.methodLink RX3 74 yX3_shortestLoop, Cond.instanceMethod yX3_shortestLoop, Cond.selects RX3 yX3_shortestLoop yX3_shortestLoop, Cond.code yX3_shortestLoop cX3_shortestLoop 5 (some .int), Cond.methodLink RX3 89 yX3_begin, Cond.instanceMethod yX3_begin, Cond.selects RX3 yX3_begin yX3_begin, Cond.code yX3_begin cX3_begin 2 (some .int), Cond.methodLink RX3 86 yX3_end, Cond.instanceMethod yX3_end, Cond.selects RX3 yX3_end yX3_end, Cond.code yX3_end cX3_end 2 (some .int), Cond.methodLink RX3 129 yX3_minutes, Cond.instanceMethod yX3_minutes, Cond.selects RX3 yX3_minutes yX3_minutes, Cond.code yX3_minutes cX3_minutes 2 (some .int), Cond.methodLink RX3 78 yX3_withoutDrift, Cond.instanceMethod yX3_withoutDrift, Cond.selects RX3 yX3_withoutDrift yX3_withoutDrift]
def wsX6_loops_r6 : List Cond := [Cond.code yX3_withoutDrift cX3_withoutDrift 5 (some .int), Cond.methodLink RX3 111 yX3_openLoopOf, Cond.instanceMethod yX3_openLoopOf, Cond.selects RX3 yX3_openLoopOf yX3_openLoopOf, Cond.code yX3_openLoopOf cX3_openLoopOf 2 (some .int), Cond.methodLink RX3 92 yX3_rawHeight, Cond.instanceMethod yX3_rawHeight, Cond.selects RX3 yX3_rawHeight yX3_rawHeight, Cond.code yX3_rawHeight cX3_rawHeight 2 (some .int), Cond.methodLink RX3 132 yX3_misclosure, Cond.instanceMethod yX3_misclosure, Cond.selects RX3 yX3_misclosure yX3_misclosure, Cond.code yX3_misclosure cX3_misclosure 2 (some .int), Cond.methodLink RX6 112 yX6_surveyOf, Cond.instanceMethod yX6_surveyOf, Cond.selects RX6 yX6_surveyOf yX6_surveyOf, Cond.code yX6_surveyOf cX6_surveyOf 2 (some (.object "BaroRuns$Survey"))]
def wsX6_loops : List Cond := .code yX6_loops cX6_loops 2 (some .int) :: ((wsX6_loops_r1 ++ (wsX6_loops_r2 ++ (wsX6_loops_r3 ++ (wsX6_loops_r4 ++ (wsX6_loops_r5 ++ wsX6_loops_r6))))) ++ wsX30 ++ wsX60 ++ wsX50 ++ wsX20)
def wsX6_loop_r1 : List Cond := [Cond.constant RX6 61 (-2000000001), Cond.methodLink RX6 81 yX6_isCell, Cond.static yX6_isCell, Cond.initialized RX6, Cond.code yX6_isCell cX6_isCell 1 (some .boolean), Cond.methodLink RX6 105 yX6_within, Cond.static yX6_within, Cond.code yX6_within cX6_within 3 (some .boolean), Cond.methodLink RX6 109 yX6_refresh, Cond.instanceMethod yX6_refresh, Cond.selects RX6 yX6_refresh yX6_refresh, Cond.code yX6_refresh cX6_refresh 1 none, Cond.fieldLink RX6 53 "BaroRuns" "stale" "Z", Cond.fieldLink RX6 29 "BaroRuns" "firstSurvey" "LBaroRuns$Survey;", Cond.fieldLink RX6 10 "BaroRuns" "now" "LBaroRuns$State;", Cond.fieldLink RX6 33 "BaroRuns" "secondSurvey" "LBaroRuns$Survey;", Cond.fieldLink RX6 36 "BaroRuns" "thirdSurvey" "LBaroRuns$Survey;", Cond.methodLink RX6 257 yX3_workOut, Cond.instanceMethod yX3_workOut, Cond.selects RX3 yX3_workOut yX3_workOut, Cond.initialized RX3, Cond.code yX3_workOut cX3_workOut 8 none, Cond.fieldLink RX3 48 "BaroRuns$Survey" "size" "I", Cond.fieldLink RX3 9 "BaroRuns$Survey" "times" "[I"]
def wsX6_loop_r2 : List Cond := [Cond.fieldLink RX3 15 "BaroRuns$Survey" "points" "[I", Cond.fieldLink RX3 18 "BaroRuns$Survey" "heights" "[I", Cond.fieldLink RX3 21 "BaroRuns$Survey" "gusts" "[I", Cond.fieldLink RX3 24 "BaroRuns$Survey" "openLoops" "[I", Cond.fieldLink RX3 27 "BaroRuns$Survey" "correctedHeights" "[I", Cond.methodLink RX3 36 yX2_track, Cond.instanceMethod yX2_track, Cond.selects RX2 yX2_track yX2_track, Cond.initialized RX2, Cond.code yX2_track cX2_track 2 (some (.object "BaroRuns$Track")), Cond.fieldLink RX2 20 "BaroRuns$State" "firstTrack" "LBaroRuns$Track;", Cond.fieldLink RX2 23 "BaroRuns$State" "secondTrack" "LBaroRuns$Track;", Cond.fieldLink RX2 26 "BaroRuns$State" "thirdTrack" "LBaroRuns$Track;", Cond.fieldLink RX2 14 "BaroRuns$State" "baseTrack" "LBaroRuns$Track;", Cond.methodLink RX3 49 yX5_value, Cond.instanceMethod yX5_value, Cond.selects RX5 yX5_value yX5_value, Cond.initialized RX5, Cond.code yX5_value cX5_value 3 (some .int), Cond.fieldLink RX5 9 "BaroRuns$Track" "values" "[I", Cond.static yX6_at, Cond.code yX6_at cX6_at 2 (some .int), Cond.static yX6_put, Cond.code yX6_put cX6_put 3 none]
def wsX6_loop_r3 : List Cond := [Cond.methodLink RX3 57 yX2_heightAt, Cond.instanceMethod yX2_heightAt, Cond.selects RX2 yX2_heightAt yX2_heightAt, Cond.code yX2_heightAt cX2_heightAt 12 (some .int), Cond.constant RX2 50 (-2000000004), Cond.constantLong RX2 63 (2930), Cond.fieldLink RX2 29 "BaroRuns$State" "baseHeight" "I", Cond.methodLink RX2 55 yX2_baseValue, Cond.instanceMethod yX2_baseValue, Cond.selects RX2 yX2_baseValue yX2_baseValue, Cond.code yX2_baseValue cX2_baseValue 10 (some .int), Cond.methodLink RX2 46 yX5_value, Cond.static yX6_divideDown, Cond.code yX6_divideDown cX6_divideDown 4 (some .long), Cond.methodLink RX6 236 yJ9_floorDiv_f86c9, Cond.static yJ9_floorDiv_f86c9, Cond.initialized RJ9, Cond.code yJ9_floorDiv_f86c9 cJ9_floorDiv_f86c9 6 (some .long), Cond.methodLink RX2 58 yJ9_floorDiv_7cf53, Cond.static yJ9_floorDiv_7cf53, Cond.code yJ9_floorDiv_7cf53 cJ9_floorDiv_7cf53 3 (some .int), Cond.methodLink RX3 64 yX5_standsOut, Cond.instanceMethod yX5_standsOut, Cond.selects RX5 yX5_standsOut yX5_standsOut]
def wsX6_loop_r4 : List Cond := [Cond.code yX5_standsOut cX5_standsOut 6 (some .boolean), Cond.fieldLink RX5 29 "BaroRuns$Track" "size" "I", Cond.methodLink RX5 32 yX5_value, Cond.methodLink RX3 68 yX3_countKinds, Cond.instanceMethod yX3_countKinds, Cond.selects RX3 yX3_countKinds yX3_countKinds, Cond.code yX3_countKinds cX3_countKinds 2 none, Cond.fieldLink RX3 114 "BaroRuns$Survey" "gustCount" "I", Cond.fieldLink RX3 117 "BaroRuns$Survey" "goodCount" "I", Cond.methodLink RX3 120 yX3_isGust, Cond.instanceMethod yX3_isGust, Cond.selects RX3 yX3_isGust yX3_isGust, Cond.code yX3_isGust cX3_isGust 2 (some .boolean), Cond.methodLink RX3 95 yX3_isGood, Cond.instanceMethod yX3_isGood, Cond.selects RX3 yX3_isGood yX3_isGood, Cond.code yX3_isGood cX3_isGood 2 (some .boolean), Cond.constant RX3 85 (-2000000004), Cond.methodLink RX3 71 yX3_findLoops, Cond.instanceMethod yX3_findLoops, Cond.selects RX3 yX3_findLoops yX3_findLoops, Cond.code yX3_findLoops cX3_findLoops 3 none, Cond.fieldLink RX3 123 "BaroRuns$Survey" "loopCount" "I", Cond.fieldLink RX3 30 "BaroRuns$Survey" "begins" "[I"]
def wsX6_loop_r5 : List Cond := [Cond.fieldLink RX3 33 "BaroRuns$Survey" "ends" "[I", Cond.methodLink RX3 126 yX3_lastVisit, Cond.instanceMethod yX3_lastVisit, Cond.selects RX3 yX3_lastVisit yX3_lastVisit, Cond.code yX3_lastVisit cX3_lastVisit 4 (some .int), Cond.methodLink RX3 74 yX3_shortestLoop, Cond.instanceMethod yX3_shortestLoop, Cond.selects RX3 yX3_shortestLoop yX3_shortestLoop, Cond.code yX3_shortestLoop cX3_shortestLoop 5 (some .int), Cond.methodLink RX3 89 yX3_begin, Cond.instanceMethod yX3_begin, Cond.selects RX3 yX3_begin yX3_begin, Cond.code yX3_begin cX3_begin 2 (some .int), Cond.methodLink RX3 86 yX3_end, Cond.instanceMethod yX3_end, Cond.selects RX3 yX3_end yX3_end, Cond.code yX3_end cX3_end 2 (some .int), Cond.methodLink RX3 129 yX3_minutes, Cond.instanceMethod yX3_minutes, Cond.selects RX3 yX3_minutes yX3_minutes, Cond.code yX3_minutes cX3_minutes 2 (some .int), Cond.methodLink RX3 78 yX3_withoutDrift, Cond.instanceMethod yX3_withoutDrift, Cond.selects RX3 yX3_withoutDrift yX3_withoutDrift]
def wsX6_loop_r6 : List Cond := [Cond.code yX3_withoutDrift cX3_withoutDrift 5 (some .int), Cond.methodLink RX3 111 yX3_openLoopOf, Cond.instanceMethod yX3_openLoopOf, Cond.selects RX3 yX3_openLoopOf yX3_openLoopOf, Cond.code yX3_openLoopOf cX3_openLoopOf 2 (some .int), Cond.methodLink RX3 92 yX3_rawHeight, Cond.instanceMethod yX3_rawHeight, Cond.selects RX3 yX3_rawHeight yX3_rawHeight, Cond.code yX3_rawHeight cX3_rawHeight 2 (some .int), Cond.methodLink RX3 132 yX3_misclosure, Cond.instanceMethod yX3_misclosure, Cond.selects RX3 yX3_misclosure yX3_misclosure, Cond.code yX3_misclosure cX3_misclosure 2 (some .int), Cond.methodLink RX6 112 yX6_surveyOf, Cond.instanceMethod yX6_surveyOf, Cond.selects RX6 yX6_surveyOf yX6_surveyOf, Cond.code yX6_surveyOf cX6_surveyOf 2 (some (.object "BaroRuns$Survey")), Cond.methodLink RX6 176 yX3_begin, Cond.methodLink RX6 179 yX3_end, Cond.methodLink RX6 182 yX3_misclosure, Cond.methodLink RX6 185 yX3_misclosureBySteps, Cond.instanceMethod yX3_misclosureBySteps, Cond.selects RX3 yX3_misclosureBySteps yX3_misclosureBySteps, Cond.code yX3_misclosureBySteps cX3_misclosureBySteps 5 (some .int)]
def wsX6_loop_r7 : List Cond := [Cond.methodLink RX6 188 yX3_minutes]
def wsX6_loop : List Cond := .code yX6_loop cX6_loop 5 (some .int) :: ((wsX6_loop_r1 ++ (wsX6_loop_r2 ++ (wsX6_loop_r3 ++ (wsX6_loop_r4 ++ (wsX6_loop_r5 ++ (wsX6_loop_r6 ++ wsX6_loop_r7)))))) ++ wsX30 ++ wsX60 ++ wsX50 ++ wsX20)
def wsX6_openLoop_r1 : List Cond := [Cond.constant RX6 61 (-2000000001), Cond.constant RX6 108 (-2000000004), Cond.methodLink RX6 81 yX6_isCell, Cond.static yX6_isCell, Cond.initialized RX6, Cond.code yX6_isCell cX6_isCell 1 (some .boolean), Cond.methodLink RX6 105 yX6_within, Cond.static yX6_within, Cond.code yX6_within cX6_within 3 (some .boolean), Cond.methodLink RX6 88 yX6_isReadingOf, Cond.instanceMethod yX6_isReadingOf, Cond.selects RX6 yX6_isReadingOf yX6_isReadingOf, Cond.code yX6_isReadingOf cX6_isReadingOf 3 (some .boolean), Cond.fieldLink RX6 10 "BaroRuns" "now" "LBaroRuns$State;", Cond.methodLink RX6 91 yX2_track, Cond.instanceMethod yX2_track, Cond.selects RX2 yX2_track yX2_track, Cond.initialized RX2, Cond.code yX2_track cX2_track 2 (some (.object "BaroRuns$Track")), Cond.fieldLink RX2 20 "BaroRuns$State" "firstTrack" "LBaroRuns$Track;", Cond.fieldLink RX2 23 "BaroRuns$State" "secondTrack" "LBaroRuns$Track;", Cond.fieldLink RX2 26 "BaroRuns$State" "thirdTrack" "LBaroRuns$Track;", Cond.fieldLink RX2 14 "BaroRuns$State" "baseTrack" "LBaroRuns$Track;", Cond.methodLink RX6 109 yX6_refresh]
def wsX6_openLoop_r2 : List Cond := [Cond.instanceMethod yX6_refresh, Cond.selects RX6 yX6_refresh yX6_refresh, Cond.code yX6_refresh cX6_refresh 1 none, Cond.fieldLink RX6 53 "BaroRuns" "stale" "Z", Cond.fieldLink RX6 29 "BaroRuns" "firstSurvey" "LBaroRuns$Survey;", Cond.fieldLink RX6 33 "BaroRuns" "secondSurvey" "LBaroRuns$Survey;", Cond.fieldLink RX6 36 "BaroRuns" "thirdSurvey" "LBaroRuns$Survey;", Cond.methodLink RX6 257 yX3_workOut, Cond.instanceMethod yX3_workOut, Cond.selects RX3 yX3_workOut yX3_workOut, Cond.initialized RX3, Cond.code yX3_workOut cX3_workOut 8 none, Cond.fieldLink RX3 48 "BaroRuns$Survey" "size" "I", Cond.fieldLink RX3 9 "BaroRuns$Survey" "times" "[I", Cond.fieldLink RX3 15 "BaroRuns$Survey" "points" "[I", Cond.fieldLink RX3 18 "BaroRuns$Survey" "heights" "[I", Cond.fieldLink RX3 21 "BaroRuns$Survey" "gusts" "[I", Cond.fieldLink RX3 24 "BaroRuns$Survey" "openLoops" "[I", Cond.fieldLink RX3 27 "BaroRuns$Survey" "correctedHeights" "[I", Cond.methodLink RX3 36 yX2_track, Cond.methodLink RX3 49 yX5_value, Cond.instanceMethod yX5_value, Cond.selects RX5 yX5_value yX5_value, Cond.initialized RX5]
def wsX6_openLoop_r3 : List Cond := [Cond.code yX5_value cX5_value 3 (some .int), Cond.fieldLink RX5 9 "BaroRuns$Track" "values" "[I", Cond.static yX6_at, Cond.code yX6_at cX6_at 2 (some .int), Cond.static yX6_put, Cond.code yX6_put cX6_put 3 none, Cond.methodLink RX3 57 yX2_heightAt, Cond.instanceMethod yX2_heightAt, Cond.selects RX2 yX2_heightAt yX2_heightAt, Cond.code yX2_heightAt cX2_heightAt 12 (some .int), Cond.constant RX2 50 (-2000000004), Cond.constantLong RX2 63 (2930), Cond.fieldLink RX2 29 "BaroRuns$State" "baseHeight" "I", Cond.methodLink RX2 55 yX2_baseValue, Cond.instanceMethod yX2_baseValue, Cond.selects RX2 yX2_baseValue yX2_baseValue, Cond.code yX2_baseValue cX2_baseValue 10 (some .int), Cond.methodLink RX2 46 yX5_value, Cond.static yX6_divideDown, Cond.code yX6_divideDown cX6_divideDown 4 (some .long), Cond.methodLink RX6 236 yJ9_floorDiv_f86c9, Cond.static yJ9_floorDiv_f86c9, Cond.initialized RJ9, Cond.code yJ9_floorDiv_f86c9 cJ9_floorDiv_f86c9 6 (some .long)]
def wsX6_openLoop_r4 : List Cond := [Cond.methodLink RX2 58 yJ9_floorDiv_7cf53, Cond.static yJ9_floorDiv_7cf53, Cond.code yJ9_floorDiv_7cf53 cJ9_floorDiv_7cf53 3 (some .int), Cond.methodLink RX3 64 yX5_standsOut, Cond.instanceMethod yX5_standsOut, Cond.selects RX5 yX5_standsOut yX5_standsOut, Cond.code yX5_standsOut cX5_standsOut 6 (some .boolean), Cond.fieldLink RX5 29 "BaroRuns$Track" "size" "I", Cond.methodLink RX5 32 yX5_value, Cond.methodLink RX3 68 yX3_countKinds, Cond.instanceMethod yX3_countKinds, Cond.selects RX3 yX3_countKinds yX3_countKinds, Cond.code yX3_countKinds cX3_countKinds 2 none, Cond.fieldLink RX3 114 "BaroRuns$Survey" "gustCount" "I", Cond.fieldLink RX3 117 "BaroRuns$Survey" "goodCount" "I", Cond.methodLink RX3 120 yX3_isGust, Cond.instanceMethod yX3_isGust, Cond.selects RX3 yX3_isGust yX3_isGust, Cond.code yX3_isGust cX3_isGust 2 (some .boolean), Cond.methodLink RX3 95 yX3_isGood, Cond.instanceMethod yX3_isGood, Cond.selects RX3 yX3_isGood yX3_isGood, Cond.code yX3_isGood cX3_isGood 2 (some .boolean), Cond.constant RX3 85 (-2000000004)]
def wsX6_openLoop_r5 : List Cond := [Cond.methodLink RX3 71 yX3_findLoops, Cond.instanceMethod yX3_findLoops, Cond.selects RX3 yX3_findLoops yX3_findLoops, Cond.code yX3_findLoops cX3_findLoops 3 none, Cond.fieldLink RX3 123 "BaroRuns$Survey" "loopCount" "I", Cond.fieldLink RX3 30 "BaroRuns$Survey" "begins" "[I", Cond.fieldLink RX3 33 "BaroRuns$Survey" "ends" "[I", Cond.methodLink RX3 126 yX3_lastVisit, Cond.instanceMethod yX3_lastVisit, Cond.selects RX3 yX3_lastVisit yX3_lastVisit, Cond.code yX3_lastVisit cX3_lastVisit 4 (some .int), Cond.methodLink RX3 74 yX3_shortestLoop, Cond.instanceMethod yX3_shortestLoop, Cond.selects RX3 yX3_shortestLoop yX3_shortestLoop, Cond.code yX3_shortestLoop cX3_shortestLoop 5 (some .int), Cond.methodLink RX3 89 yX3_begin, Cond.instanceMethod yX3_begin, Cond.selects RX3 yX3_begin yX3_begin, Cond.code yX3_begin cX3_begin 2 (some .int), Cond.methodLink RX3 86 yX3_end, Cond.instanceMethod yX3_end, Cond.selects RX3 yX3_end yX3_end, Cond.code yX3_end cX3_end 2 (some .int), Cond.methodLink RX3 129 yX3_minutes]
def wsX6_openLoop_r6 : List Cond := [Cond.instanceMethod yX3_minutes, Cond.selects RX3 yX3_minutes yX3_minutes, Cond.code yX3_minutes cX3_minutes 2 (some .int), Cond.methodLink RX3 78 yX3_withoutDrift, Cond.instanceMethod yX3_withoutDrift, Cond.selects RX3 yX3_withoutDrift yX3_withoutDrift, Cond.code yX3_withoutDrift cX3_withoutDrift 5 (some .int), Cond.methodLink RX3 111 yX3_openLoopOf, Cond.instanceMethod yX3_openLoopOf, Cond.selects RX3 yX3_openLoopOf yX3_openLoopOf, Cond.code yX3_openLoopOf cX3_openLoopOf 2 (some .int), Cond.methodLink RX3 92 yX3_rawHeight, Cond.instanceMethod yX3_rawHeight, Cond.selects RX3 yX3_rawHeight yX3_rawHeight, Cond.code yX3_rawHeight cX3_rawHeight 2 (some .int), Cond.methodLink RX3 132 yX3_misclosure, Cond.instanceMethod yX3_misclosure, Cond.selects RX3 yX3_misclosure yX3_misclosure, Cond.code yX3_misclosure cX3_misclosure 2 (some .int), Cond.methodLink RX6 112 yX6_surveyOf, Cond.instanceMethod yX6_surveyOf, Cond.selects RX6 yX6_surveyOf yX6_surveyOf, Cond.code yX6_surveyOf cX6_surveyOf 2 (some (.object "BaroRuns$Survey")), Cond.methodLink RX6 191 yX3_openLoopOf]
def wsX6_openLoop : List Cond := .code yX6_openLoop cX6_openLoop 4 (some .int) :: ((wsX6_openLoop_r1 ++ (wsX6_openLoop_r2 ++ (wsX6_openLoop_r3 ++ (wsX6_openLoop_r4 ++ (wsX6_openLoop_r5 ++ wsX6_openLoop_r6))))) ++ wsX60 ++ wsX50 ++ wsX20 ++ wsX30)
def wsX6_corrected_r1 : List Cond := [Cond.constant RX6 61 (-2000000001), Cond.methodLink RX6 81 yX6_isCell, Cond.static yX6_isCell, Cond.initialized RX6, Cond.code yX6_isCell cX6_isCell 1 (some .boolean), Cond.methodLink RX6 105 yX6_within, Cond.static yX6_within, Cond.code yX6_within cX6_within 3 (some .boolean), Cond.methodLink RX6 88 yX6_isReadingOf, Cond.instanceMethod yX6_isReadingOf, Cond.selects RX6 yX6_isReadingOf yX6_isReadingOf, Cond.code yX6_isReadingOf cX6_isReadingOf 3 (some .boolean), Cond.fieldLink RX6 10 "BaroRuns" "now" "LBaroRuns$State;", Cond.methodLink RX6 91 yX2_track, Cond.instanceMethod yX2_track, Cond.selects RX2 yX2_track yX2_track, Cond.initialized RX2, Cond.code yX2_track cX2_track 2 (some (.object "BaroRuns$Track")), Cond.fieldLink RX2 20 "BaroRuns$State" "firstTrack" "LBaroRuns$Track;", Cond.fieldLink RX2 23 "BaroRuns$State" "secondTrack" "LBaroRuns$Track;", Cond.fieldLink RX2 26 "BaroRuns$State" "thirdTrack" "LBaroRuns$Track;", Cond.fieldLink RX2 14 "BaroRuns$State" "baseTrack" "LBaroRuns$Track;", Cond.methodLink RX6 109 yX6_refresh, Cond.instanceMethod yX6_refresh]
def wsX6_corrected_r2 : List Cond := [Cond.selects RX6 yX6_refresh yX6_refresh, Cond.code yX6_refresh cX6_refresh 1 none, Cond.fieldLink RX6 53 "BaroRuns" "stale" "Z", Cond.fieldLink RX6 29 "BaroRuns" "firstSurvey" "LBaroRuns$Survey;", Cond.fieldLink RX6 33 "BaroRuns" "secondSurvey" "LBaroRuns$Survey;", Cond.fieldLink RX6 36 "BaroRuns" "thirdSurvey" "LBaroRuns$Survey;", Cond.methodLink RX6 257 yX3_workOut, Cond.instanceMethod yX3_workOut, Cond.selects RX3 yX3_workOut yX3_workOut, Cond.initialized RX3, Cond.code yX3_workOut cX3_workOut 8 none, Cond.fieldLink RX3 48 "BaroRuns$Survey" "size" "I", Cond.fieldLink RX3 9 "BaroRuns$Survey" "times" "[I", Cond.fieldLink RX3 15 "BaroRuns$Survey" "points" "[I", Cond.fieldLink RX3 18 "BaroRuns$Survey" "heights" "[I", Cond.fieldLink RX3 21 "BaroRuns$Survey" "gusts" "[I", Cond.fieldLink RX3 24 "BaroRuns$Survey" "openLoops" "[I", Cond.fieldLink RX3 27 "BaroRuns$Survey" "correctedHeights" "[I", Cond.methodLink RX3 36 yX2_track, Cond.methodLink RX3 49 yX5_value, Cond.instanceMethod yX5_value, Cond.selects RX5 yX5_value yX5_value, Cond.initialized RX5, Cond.code yX5_value cX5_value 3 (some .int)]
def wsX6_corrected_r3 : List Cond := [Cond.fieldLink RX5 9 "BaroRuns$Track" "values" "[I", Cond.static yX6_at, Cond.code yX6_at cX6_at 2 (some .int), Cond.static yX6_put, Cond.code yX6_put cX6_put 3 none, Cond.methodLink RX3 57 yX2_heightAt, Cond.instanceMethod yX2_heightAt, Cond.selects RX2 yX2_heightAt yX2_heightAt, Cond.code yX2_heightAt cX2_heightAt 12 (some .int), Cond.constant RX2 50 (-2000000004), Cond.constantLong RX2 63 (2930), Cond.fieldLink RX2 29 "BaroRuns$State" "baseHeight" "I", Cond.methodLink RX2 55 yX2_baseValue, Cond.instanceMethod yX2_baseValue, Cond.selects RX2 yX2_baseValue yX2_baseValue, Cond.code yX2_baseValue cX2_baseValue 10 (some .int), Cond.methodLink RX2 46 yX5_value, Cond.static yX6_divideDown, Cond.code yX6_divideDown cX6_divideDown 4 (some .long), Cond.methodLink RX6 236 yJ9_floorDiv_f86c9, Cond.static yJ9_floorDiv_f86c9, Cond.initialized RJ9, Cond.code yJ9_floorDiv_f86c9 cJ9_floorDiv_f86c9 6 (some .long), Cond.methodLink RX2 58 yJ9_floorDiv_7cf53]
def wsX6_corrected_r4 : List Cond := [Cond.static yJ9_floorDiv_7cf53, Cond.code yJ9_floorDiv_7cf53 cJ9_floorDiv_7cf53 3 (some .int), Cond.methodLink RX3 64 yX5_standsOut, Cond.instanceMethod yX5_standsOut, Cond.selects RX5 yX5_standsOut yX5_standsOut, Cond.code yX5_standsOut cX5_standsOut 6 (some .boolean), Cond.fieldLink RX5 29 "BaroRuns$Track" "size" "I", Cond.methodLink RX5 32 yX5_value, Cond.methodLink RX3 68 yX3_countKinds, Cond.instanceMethod yX3_countKinds, Cond.selects RX3 yX3_countKinds yX3_countKinds, Cond.code yX3_countKinds cX3_countKinds 2 none, Cond.fieldLink RX3 114 "BaroRuns$Survey" "gustCount" "I", Cond.fieldLink RX3 117 "BaroRuns$Survey" "goodCount" "I", Cond.methodLink RX3 120 yX3_isGust, Cond.instanceMethod yX3_isGust, Cond.selects RX3 yX3_isGust yX3_isGust, Cond.code yX3_isGust cX3_isGust 2 (some .boolean), Cond.methodLink RX3 95 yX3_isGood, Cond.instanceMethod yX3_isGood, Cond.selects RX3 yX3_isGood yX3_isGood, Cond.code yX3_isGood cX3_isGood 2 (some .boolean), Cond.constant RX3 85 (-2000000004), Cond.methodLink RX3 71 yX3_findLoops]
def wsX6_corrected_r5 : List Cond := [Cond.instanceMethod yX3_findLoops, Cond.selects RX3 yX3_findLoops yX3_findLoops, Cond.code yX3_findLoops cX3_findLoops 3 none, Cond.fieldLink RX3 123 "BaroRuns$Survey" "loopCount" "I", Cond.fieldLink RX3 30 "BaroRuns$Survey" "begins" "[I", Cond.fieldLink RX3 33 "BaroRuns$Survey" "ends" "[I", Cond.methodLink RX3 126 yX3_lastVisit, Cond.instanceMethod yX3_lastVisit, Cond.selects RX3 yX3_lastVisit yX3_lastVisit, Cond.code yX3_lastVisit cX3_lastVisit 4 (some .int), Cond.methodLink RX3 74 yX3_shortestLoop, Cond.instanceMethod yX3_shortestLoop, Cond.selects RX3 yX3_shortestLoop yX3_shortestLoop, Cond.code yX3_shortestLoop cX3_shortestLoop 5 (some .int), Cond.methodLink RX3 89 yX3_begin, Cond.instanceMethod yX3_begin, Cond.selects RX3 yX3_begin yX3_begin, Cond.code yX3_begin cX3_begin 2 (some .int), Cond.methodLink RX3 86 yX3_end, Cond.instanceMethod yX3_end, Cond.selects RX3 yX3_end yX3_end, Cond.code yX3_end cX3_end 2 (some .int), Cond.methodLink RX3 129 yX3_minutes, Cond.instanceMethod yX3_minutes]
def wsX6_corrected_r6 : List Cond := [Cond.selects RX3 yX3_minutes yX3_minutes, Cond.code yX3_minutes cX3_minutes 2 (some .int), Cond.methodLink RX3 78 yX3_withoutDrift, Cond.instanceMethod yX3_withoutDrift, Cond.selects RX3 yX3_withoutDrift yX3_withoutDrift, Cond.code yX3_withoutDrift cX3_withoutDrift 5 (some .int), Cond.methodLink RX3 111 yX3_openLoopOf, Cond.instanceMethod yX3_openLoopOf, Cond.selects RX3 yX3_openLoopOf yX3_openLoopOf, Cond.code yX3_openLoopOf cX3_openLoopOf 2 (some .int), Cond.methodLink RX3 92 yX3_rawHeight, Cond.instanceMethod yX3_rawHeight, Cond.selects RX3 yX3_rawHeight yX3_rawHeight, Cond.code yX3_rawHeight cX3_rawHeight 2 (some .int), Cond.methodLink RX3 132 yX3_misclosure, Cond.instanceMethod yX3_misclosure, Cond.selects RX3 yX3_misclosure yX3_misclosure, Cond.code yX3_misclosure cX3_misclosure 2 (some .int), Cond.methodLink RX6 112 yX6_surveyOf, Cond.instanceMethod yX6_surveyOf, Cond.selects RX6 yX6_surveyOf yX6_surveyOf, Cond.code yX6_surveyOf cX6_surveyOf 2 (some (.object "BaroRuns$Survey")), Cond.methodLink RX6 194 yX3_correctedHeight, Cond.instanceMethod yX3_correctedHeight]
def wsX6_corrected_r7 : List Cond := [Cond.selects RX3 yX3_correctedHeight yX3_correctedHeight, Cond.code yX3_correctedHeight cX3_correctedHeight 2 (some .int)]
def wsX6_corrected : List Cond := .code yX6_corrected cX6_corrected 3 (some .int) :: ((wsX6_corrected_r1 ++ (wsX6_corrected_r2 ++ (wsX6_corrected_r3 ++ (wsX6_corrected_r4 ++ (wsX6_corrected_r5 ++ (wsX6_corrected_r6 ++ wsX6_corrected_r7)))))) ++ wsX60 ++ wsX50 ++ wsX20 ++ wsX30)
def wsX6_point_r1 : List Cond := [Cond.constant RX6 61 (-2000000001), Cond.fieldLink RX6 42 "BaroRuns" "pointSum" "LBaroRuns$PointSum;", Cond.constant RX6 108 (-2000000004), Cond.methodLink RX6 85 yX6_isPoint, Cond.static yX6_isPoint, Cond.initialized RX6, Cond.code yX6_isPoint cX6_isPoint 1 (some .boolean), Cond.methodLink RX6 105 yX6_within, Cond.static yX6_within, Cond.code yX6_within cX6_within 3 (some .boolean), Cond.methodLink RX6 109 yX6_refresh, Cond.instanceMethod yX6_refresh, Cond.selects RX6 yX6_refresh yX6_refresh, Cond.code yX6_refresh cX6_refresh 1 none, Cond.fieldLink RX6 53 "BaroRuns" "stale" "Z", Cond.fieldLink RX6 29 "BaroRuns" "firstSurvey" "LBaroRuns$Survey;", Cond.fieldLink RX6 10 "BaroRuns" "now" "LBaroRuns$State;", Cond.fieldLink RX6 33 "BaroRuns" "secondSurvey" "LBaroRuns$Survey;", Cond.fieldLink RX6 36 "BaroRuns" "thirdSurvey" "LBaroRuns$Survey;", Cond.methodLink RX6 257 yX3_workOut, Cond.instanceMethod yX3_workOut, Cond.selects RX3 yX3_workOut yX3_workOut, Cond.initialized RX3, Cond.code yX3_workOut cX3_workOut 8 none]
def wsX6_point_r2 : List Cond := [Cond.fieldLink RX3 48 "BaroRuns$Survey" "size" "I", Cond.fieldLink RX3 9 "BaroRuns$Survey" "times" "[I", Cond.fieldLink RX3 15 "BaroRuns$Survey" "points" "[I", Cond.fieldLink RX3 18 "BaroRuns$Survey" "heights" "[I", Cond.fieldLink RX3 21 "BaroRuns$Survey" "gusts" "[I", Cond.fieldLink RX3 24 "BaroRuns$Survey" "openLoops" "[I", Cond.fieldLink RX3 27 "BaroRuns$Survey" "correctedHeights" "[I", Cond.methodLink RX3 36 yX2_track, Cond.instanceMethod yX2_track, Cond.selects RX2 yX2_track yX2_track, Cond.initialized RX2, Cond.code yX2_track cX2_track 2 (some (.object "BaroRuns$Track")), Cond.fieldLink RX2 20 "BaroRuns$State" "firstTrack" "LBaroRuns$Track;", Cond.fieldLink RX2 23 "BaroRuns$State" "secondTrack" "LBaroRuns$Track;", Cond.fieldLink RX2 26 "BaroRuns$State" "thirdTrack" "LBaroRuns$Track;", Cond.fieldLink RX2 14 "BaroRuns$State" "baseTrack" "LBaroRuns$Track;", Cond.methodLink RX3 49 yX5_value, Cond.instanceMethod yX5_value, Cond.selects RX5 yX5_value yX5_value, Cond.initialized RX5, Cond.code yX5_value cX5_value 3 (some .int), Cond.fieldLink RX5 9 "BaroRuns$Track" "values" "[I", Cond.static yX6_at, Cond.code yX6_at cX6_at 2 (some .int)]
def wsX6_point_r3 : List Cond := [Cond.static yX6_put, Cond.code yX6_put cX6_put 3 none, Cond.methodLink RX3 57 yX2_heightAt, Cond.instanceMethod yX2_heightAt, Cond.selects RX2 yX2_heightAt yX2_heightAt, Cond.code yX2_heightAt cX2_heightAt 12 (some .int), Cond.constant RX2 50 (-2000000004), Cond.constantLong RX2 63 (2930), Cond.fieldLink RX2 29 "BaroRuns$State" "baseHeight" "I", Cond.methodLink RX2 55 yX2_baseValue, Cond.instanceMethod yX2_baseValue, Cond.selects RX2 yX2_baseValue yX2_baseValue, Cond.code yX2_baseValue cX2_baseValue 10 (some .int), Cond.methodLink RX2 46 yX5_value, Cond.static yX6_divideDown, Cond.code yX6_divideDown cX6_divideDown 4 (some .long), Cond.methodLink RX6 236 yJ9_floorDiv_f86c9, Cond.static yJ9_floorDiv_f86c9, Cond.initialized RJ9, Cond.code yJ9_floorDiv_f86c9 cJ9_floorDiv_f86c9 6 (some .long), Cond.methodLink RX2 58 yJ9_floorDiv_7cf53, Cond.static yJ9_floorDiv_7cf53, Cond.code yJ9_floorDiv_7cf53 cJ9_floorDiv_7cf53 3 (some .int), Cond.methodLink RX3 64 yX5_standsOut]
def wsX6_point_r4 : List Cond := [Cond.instanceMethod yX5_standsOut, Cond.selects RX5 yX5_standsOut yX5_standsOut, Cond.code yX5_standsOut cX5_standsOut 6 (some .boolean), Cond.fieldLink RX5 29 "BaroRuns$Track" "size" "I", Cond.methodLink RX5 32 yX5_value, Cond.methodLink RX3 68 yX3_countKinds, Cond.instanceMethod yX3_countKinds, Cond.selects RX3 yX3_countKinds yX3_countKinds, Cond.code yX3_countKinds cX3_countKinds 2 none, Cond.fieldLink RX3 114 "BaroRuns$Survey" "gustCount" "I", Cond.fieldLink RX3 117 "BaroRuns$Survey" "goodCount" "I", Cond.methodLink RX3 120 yX3_isGust, Cond.instanceMethod yX3_isGust, Cond.selects RX3 yX3_isGust yX3_isGust, Cond.code yX3_isGust cX3_isGust 2 (some .boolean), Cond.methodLink RX3 95 yX3_isGood, Cond.instanceMethod yX3_isGood, Cond.selects RX3 yX3_isGood yX3_isGood, Cond.code yX3_isGood cX3_isGood 2 (some .boolean), Cond.constant RX3 85 (-2000000004), Cond.methodLink RX3 71 yX3_findLoops, Cond.instanceMethod yX3_findLoops, Cond.selects RX3 yX3_findLoops yX3_findLoops, Cond.code yX3_findLoops cX3_findLoops 3 none]
def wsX6_point_r5 : List Cond := [Cond.fieldLink RX3 123 "BaroRuns$Survey" "loopCount" "I", Cond.fieldLink RX3 30 "BaroRuns$Survey" "begins" "[I", Cond.fieldLink RX3 33 "BaroRuns$Survey" "ends" "[I", Cond.methodLink RX3 126 yX3_lastVisit, Cond.instanceMethod yX3_lastVisit, Cond.selects RX3 yX3_lastVisit yX3_lastVisit, Cond.code yX3_lastVisit cX3_lastVisit 4 (some .int), Cond.methodLink RX3 74 yX3_shortestLoop, Cond.instanceMethod yX3_shortestLoop, Cond.selects RX3 yX3_shortestLoop yX3_shortestLoop, Cond.code yX3_shortestLoop cX3_shortestLoop 5 (some .int), Cond.methodLink RX3 89 yX3_begin, Cond.instanceMethod yX3_begin, Cond.selects RX3 yX3_begin yX3_begin, Cond.code yX3_begin cX3_begin 2 (some .int), Cond.methodLink RX3 86 yX3_end, Cond.instanceMethod yX3_end, Cond.selects RX3 yX3_end yX3_end, Cond.code yX3_end cX3_end 2 (some .int), Cond.methodLink RX3 129 yX3_minutes, Cond.instanceMethod yX3_minutes, Cond.selects RX3 yX3_minutes yX3_minutes, Cond.code yX3_minutes cX3_minutes 2 (some .int), Cond.methodLink RX3 78 yX3_withoutDrift]
def wsX6_point_r6 : List Cond := [Cond.instanceMethod yX3_withoutDrift, Cond.selects RX3 yX3_withoutDrift yX3_withoutDrift, Cond.code yX3_withoutDrift cX3_withoutDrift 5 (some .int), Cond.methodLink RX3 111 yX3_openLoopOf, Cond.instanceMethod yX3_openLoopOf, Cond.selects RX3 yX3_openLoopOf yX3_openLoopOf, Cond.code yX3_openLoopOf cX3_openLoopOf 2 (some .int), Cond.methodLink RX3 92 yX3_rawHeight, Cond.instanceMethod yX3_rawHeight, Cond.selects RX3 yX3_rawHeight yX3_rawHeight, Cond.code yX3_rawHeight cX3_rawHeight 2 (some .int), Cond.methodLink RX3 132 yX3_misclosure, Cond.instanceMethod yX3_misclosure, Cond.selects RX3 yX3_misclosure yX3_misclosure, Cond.code yX3_misclosure cX3_misclosure 2 (some .int), Cond.methodLink RX6 197 yX6_gather, Cond.instanceMethod yX6_gather, Cond.selects RX6 yX6_gather yX6_gather, Cond.code yX6_gather cX6_gather 3 none, Cond.methodLink RX6 261 yX1_clear, Cond.instanceMethod yX1_clear, Cond.selects RX1 yX1_clear yX1_clear, Cond.initialized RX1, Cond.code yX1_clear cX1_clear 1 none]
def wsX6_point_r7 : List Cond := [Cond.fieldLink RX1 7 "BaroRuns$PointSum" "sum" "J", Cond.fieldLink RX1 13 "BaroRuns$PointSum" "number" "I", Cond.methodLink RX6 112 yX6_surveyOf, Cond.instanceMethod yX6_surveyOf, Cond.selects RX6 yX6_surveyOf yX6_surveyOf, Cond.code yX6_surveyOf cX6_surveyOf 2 (some (.object "BaroRuns$Survey")), Cond.methodLink RX6 264 yX3_addTo, Cond.instanceMethod yX3_addTo, Cond.selects RX3 yX3_addTo yX3_addTo, Cond.code yX3_addTo cX3_addTo 4 none, Cond.methodLink RX3 99 yX3_endsOpenLoop, Cond.instanceMethod yX3_endsOpenLoop, Cond.selects RX3 yX3_endsOpenLoop yX3_endsOpenLoop, Cond.code yX3_endsOpenLoop cX3_endsOpenLoop 3 (some .boolean), Cond.methodLink RX3 102 yX3_correctedHeight, Cond.instanceMethod yX3_correctedHeight, Cond.selects RX3 yX3_correctedHeight yX3_correctedHeight, Cond.code yX3_correctedHeight cX3_correctedHeight 2 (some .int), Cond.methodLink RX3 105 yX1_add, Cond.instanceMethod yX1_add, Cond.selects RX1 yX1_add yX1_add, Cond.code yX1_add cX1_add 2 none, Cond.fieldLink RX1 17 "BaroRuns$PointSum" "least" "I", Cond.methodLink RX1 20 Lib.Math.min.name]
def wsX6_point_r8 : List Cond := [Cond.static Lib.Math.min.name, Cond.initialized "java/lang/Math", Cond.code Lib.Math.min.name Lib.Math.min.code 2 (some .int), Cond.fieldLink RX1 26 "BaroRuns$PointSum" "greatest" "I", Cond.methodLink RX1 29 Lib.Math.max.name, Cond.static Lib.Math.max.name, Cond.code Lib.Math.max.name Lib.Math.max.code 2 (some .int), Cond.methodLink RX6 203 yX1_height, Cond.instanceMethod yX1_height, Cond.selects RX1 yX1_height yX1_height, Cond.code yX1_height cX1_height 1 (some .int), Cond.methodLink RX6 206 yX1_spread, Cond.instanceMethod yX1_spread, Cond.selects RX1 yX1_spread yX1_spread, Cond.code yX1_spread cX1_spread 1 (some .int)]
def wsX6_point : List Cond := .code yX6_point cX6_point 3 (some .int) :: ((wsX6_point_r1 ++ (wsX6_point_r2 ++ (wsX6_point_r3 ++ (wsX6_point_r4 ++ (wsX6_point_r5 ++ (wsX6_point_r6 ++ (wsX6_point_r7 ++ wsX6_point_r8))))))) ++ wsX60 ++ wsX10 ++ wsX50 ++ wsX30 ++ wsX20)
def wsJ9_abs_0f7a4 : List Cond := .code yJ9_abs_0f7a4 cJ9_abs_0f7a4 1 (some .int) :: ([])
def wsJ9_max_7cf53 : List Cond := .code yJ9_max_7cf53 cJ9_max_7cf53 2 (some .int) :: ([])
def wsJ9_min_7cf53 : List Cond := .code yJ9_min_7cf53 cJ9_min_7cf53 2 (some .int) :: ([])
def wsL_cell : List Cond := .code yL_cell cL_cell 2 (some .int) :: ([.constant RL 7 (15485959), .constant RL 8 (2147483647)])
def wsL_holds_r1 : List Cond := [Cond.constant RL 35 (-2000000004), Cond.methodLink RL 9 yX6_count, Cond.instanceMethod yX6_count, Cond.selects RX6 yX6_count yX6_count, Cond.initialized RX6, Cond.code yX6_count cX6_count 2 (some .int), Cond.fieldLink RX6 10 "BaroRuns" "now" "LBaroRuns$State;", Cond.fieldLink RX6 29 "BaroRuns" "firstSurvey" "LBaroRuns$Survey;", Cond.fieldLink RX6 33 "BaroRuns" "secondSurvey" "LBaroRuns$Survey;", Cond.fieldLink RX6 36 "BaroRuns" "thirdSurvey" "LBaroRuns$Survey;", Cond.fieldLink RX6 22 "BaroRuns" "history" "LBaroRuns$History;", Cond.fieldLink RX6 49 "BaroRuns" "text" "LBaroRuns$Text;", Cond.constant RX6 61 (-2000000001), Cond.methodLink RX6 109 yX6_refresh, Cond.instanceMethod yX6_refresh, Cond.selects RX6 yX6_refresh yX6_refresh, Cond.code yX6_refresh cX6_refresh 1 none, Cond.fieldLink RX6 53 "BaroRuns" "stale" "Z", Cond.methodLink RX6 257 yX3_workOut, Cond.instanceMethod yX3_workOut, Cond.selects RX3 yX3_workOut yX3_workOut, Cond.initialized RX3, Cond.code yX3_workOut cX3_workOut 8 none, Cond.fieldLink RX3 48 "BaroRuns$Survey" "size" "I"]
def wsL_holds_r2 : List Cond := [Cond.fieldLink RX3 9 "BaroRuns$Survey" "times" "[I", Cond.fieldLink RX3 15 "BaroRuns$Survey" "points" "[I", Cond.fieldLink RX3 18 "BaroRuns$Survey" "heights" "[I", Cond.fieldLink RX3 21 "BaroRuns$Survey" "gusts" "[I", Cond.fieldLink RX3 24 "BaroRuns$Survey" "openLoops" "[I", Cond.fieldLink RX3 27 "BaroRuns$Survey" "correctedHeights" "[I", Cond.methodLink RX3 36 yX2_track, Cond.instanceMethod yX2_track, Cond.selects RX2 yX2_track yX2_track, Cond.initialized RX2, Cond.code yX2_track cX2_track 2 (some (.object "BaroRuns$Track")), Cond.fieldLink RX2 20 "BaroRuns$State" "firstTrack" "LBaroRuns$Track;", Cond.fieldLink RX2 23 "BaroRuns$State" "secondTrack" "LBaroRuns$Track;", Cond.fieldLink RX2 26 "BaroRuns$State" "thirdTrack" "LBaroRuns$Track;", Cond.fieldLink RX2 14 "BaroRuns$State" "baseTrack" "LBaroRuns$Track;", Cond.methodLink RX3 49 yX5_value, Cond.instanceMethod yX5_value, Cond.selects RX5 yX5_value yX5_value, Cond.initialized RX5, Cond.code yX5_value cX5_value 3 (some .int), Cond.fieldLink RX5 9 "BaroRuns$Track" "values" "[I", Cond.static yX6_at, Cond.code yX6_at cX6_at 2 (some .int), Cond.static yX6_put]
def wsL_holds_r3 : List Cond := [Cond.code yX6_put cX6_put 3 none, Cond.methodLink RX3 57 yX2_heightAt, Cond.instanceMethod yX2_heightAt, Cond.selects RX2 yX2_heightAt yX2_heightAt, Cond.code yX2_heightAt cX2_heightAt 12 (some .int), Cond.constant RX2 50 (-2000000004), Cond.constantLong RX2 63 (2930), Cond.fieldLink RX2 29 "BaroRuns$State" "baseHeight" "I", Cond.methodLink RX2 55 yX2_baseValue, Cond.instanceMethod yX2_baseValue, Cond.selects RX2 yX2_baseValue yX2_baseValue, Cond.code yX2_baseValue cX2_baseValue 10 (some .int), Cond.methodLink RX2 46 yX5_value, Cond.static yX6_divideDown, Cond.code yX6_divideDown cX6_divideDown 4 (some .long), Cond.methodLink RX6 236 yJ9_floorDiv_f86c9, Cond.static yJ9_floorDiv_f86c9, Cond.initialized RJ9, Cond.code yJ9_floorDiv_f86c9 cJ9_floorDiv_f86c9 6 (some .long), Cond.methodLink RX2 58 yJ9_floorDiv_7cf53, Cond.static yJ9_floorDiv_7cf53, Cond.code yJ9_floorDiv_7cf53 cJ9_floorDiv_7cf53 3 (some .int), Cond.methodLink RX3 64 yX5_standsOut, Cond.instanceMethod yX5_standsOut]
def wsL_holds_r4 : List Cond := [Cond.selects RX5 yX5_standsOut yX5_standsOut, Cond.code yX5_standsOut cX5_standsOut 6 (some .boolean), Cond.fieldLink RX5 29 "BaroRuns$Track" "size" "I", Cond.methodLink RX5 32 yX5_value, Cond.methodLink RX3 68 yX3_countKinds, Cond.instanceMethod yX3_countKinds, Cond.selects RX3 yX3_countKinds yX3_countKinds, Cond.code yX3_countKinds cX3_countKinds 2 none, Cond.fieldLink RX3 114 "BaroRuns$Survey" "gustCount" "I", Cond.fieldLink RX3 117 "BaroRuns$Survey" "goodCount" "I", Cond.methodLink RX3 120 yX3_isGust, Cond.instanceMethod yX3_isGust, Cond.selects RX3 yX3_isGust yX3_isGust, Cond.code yX3_isGust cX3_isGust 2 (some .boolean), Cond.methodLink RX3 95 yX3_isGood, Cond.instanceMethod yX3_isGood, Cond.selects RX3 yX3_isGood yX3_isGood, Cond.code yX3_isGood cX3_isGood 2 (some .boolean), Cond.constant RX3 85 (-2000000004), Cond.methodLink RX3 71 yX3_findLoops, Cond.instanceMethod yX3_findLoops, Cond.selects RX3 yX3_findLoops yX3_findLoops, Cond.code yX3_findLoops cX3_findLoops 3 none, Cond.fieldLink RX3 123 "BaroRuns$Survey" "loopCount" "I"]
def wsL_holds_r5 : List Cond := [Cond.fieldLink RX3 30 "BaroRuns$Survey" "begins" "[I", Cond.fieldLink RX3 33 "BaroRuns$Survey" "ends" "[I", Cond.methodLink RX3 126 yX3_lastVisit, Cond.instanceMethod yX3_lastVisit, Cond.selects RX3 yX3_lastVisit yX3_lastVisit, Cond.code yX3_lastVisit cX3_lastVisit 4 (some .int), Cond.methodLink RX3 74 yX3_shortestLoop, Cond.instanceMethod yX3_shortestLoop, Cond.selects RX3 yX3_shortestLoop yX3_shortestLoop, Cond.code yX3_shortestLoop cX3_shortestLoop 5 (some .int), Cond.methodLink RX3 89 yX3_begin, Cond.instanceMethod yX3_begin, Cond.selects RX3 yX3_begin yX3_begin, Cond.code yX3_begin cX3_begin 2 (some .int), Cond.methodLink RX3 86 yX3_end, Cond.instanceMethod yX3_end, Cond.selects RX3 yX3_end yX3_end, Cond.code yX3_end cX3_end 2 (some .int), Cond.methodLink RX3 129 yX3_minutes, Cond.instanceMethod yX3_minutes, Cond.selects RX3 yX3_minutes yX3_minutes, Cond.code yX3_minutes cX3_minutes 2 (some .int), Cond.methodLink RX3 78 yX3_withoutDrift, Cond.instanceMethod yX3_withoutDrift]
def wsL_holds_r6 : List Cond := [Cond.selects RX3 yX3_withoutDrift yX3_withoutDrift, Cond.code yX3_withoutDrift cX3_withoutDrift 5 (some .int), Cond.methodLink RX3 111 yX3_openLoopOf, Cond.instanceMethod yX3_openLoopOf, Cond.selects RX3 yX3_openLoopOf yX3_openLoopOf, Cond.code yX3_openLoopOf cX3_openLoopOf 2 (some .int), Cond.methodLink RX3 92 yX3_rawHeight, Cond.instanceMethod yX3_rawHeight, Cond.selects RX3 yX3_rawHeight yX3_rawHeight, Cond.code yX3_rawHeight cX3_rawHeight 2 (some .int), Cond.methodLink RX3 132 yX3_misclosure, Cond.instanceMethod yX3_misclosure, Cond.selects RX3 yX3_misclosure yX3_misclosure, Cond.code yX3_misclosure cX3_misclosure 2 (some .int), Cond.methodLink RX6 91 yX2_track, Cond.methodLink RX6 132 yX2_steps, Cond.instanceMethod yX2_steps, Cond.selects RX2 yX2_steps yX2_steps, Cond.code yX2_steps cX2_steps 3 (some .int), Cond.methodLink RX2 69 yX2_isStepEnd, Cond.instanceMethod yX2_isStepEnd, Cond.selects RX2 yX2_isStepEnd yX2_isStepEnd, Cond.code yX2_isStepEnd cX2_isStepEnd 3 (some .boolean), Cond.methodLink RX2 65 Lib.Math.abs.name]
def wsL_holds_r7 : List Cond := [Cond.static Lib.Math.abs.name, Cond.initialized "java/lang/Math", Cond.code Lib.Math.abs.name Lib.Math.abs.code 1 (some .int), Cond.fieldLink RX2 36 "BaroRuns$State" "stepLimit" "I", Cond.methodLink RX6 136 yX6_pointsWithHeight, Cond.instanceMethod yX6_pointsWithHeight, Cond.selects RX6 yX6_pointsWithHeight yX6_pointsWithHeight, Cond.code yX6_pointsWithHeight cX6_pointsWithHeight 3 (some .int), Cond.fieldLink RX6 42 "BaroRuns" "pointSum" "LBaroRuns$PointSum;", Cond.methodLink RX6 197 yX6_gather, Cond.instanceMethod yX6_gather, Cond.selects RX6 yX6_gather yX6_gather, Cond.code yX6_gather cX6_gather 3 none, Cond.methodLink RX6 261 yX1_clear, Cond.instanceMethod yX1_clear, Cond.selects RX1 yX1_clear yX1_clear, Cond.initialized RX1, Cond.code yX1_clear cX1_clear 1 none, Cond.fieldLink RX1 7 "BaroRuns$PointSum" "sum" "J", Cond.fieldLink RX1 13 "BaroRuns$PointSum" "number" "I", Cond.methodLink RX6 112 yX6_surveyOf, Cond.instanceMethod yX6_surveyOf, Cond.selects RX6 yX6_surveyOf yX6_surveyOf, Cond.code yX6_surveyOf cX6_surveyOf 2 (some (.object "BaroRuns$Survey"))]
def wsL_holds_r8 : List Cond := [Cond.methodLink RX6 264 yX3_addTo, Cond.instanceMethod yX3_addTo, Cond.selects RX3 yX3_addTo yX3_addTo, Cond.code yX3_addTo cX3_addTo 4 none, Cond.methodLink RX3 99 yX3_endsOpenLoop, Cond.instanceMethod yX3_endsOpenLoop, Cond.selects RX3 yX3_endsOpenLoop yX3_endsOpenLoop, Cond.code yX3_endsOpenLoop cX3_endsOpenLoop 3 (some .boolean), Cond.methodLink RX3 102 yX3_correctedHeight, Cond.instanceMethod yX3_correctedHeight, Cond.selects RX3 yX3_correctedHeight yX3_correctedHeight, Cond.code yX3_correctedHeight cX3_correctedHeight 2 (some .int), Cond.methodLink RX3 105 yX1_add, Cond.instanceMethod yX1_add, Cond.selects RX1 yX1_add yX1_add, Cond.code yX1_add cX1_add 2 none, Cond.fieldLink RX1 17 "BaroRuns$PointSum" "least" "I", Cond.methodLink RX1 20 Lib.Math.min.name, Cond.static Lib.Math.min.name, Cond.code Lib.Math.min.name Lib.Math.min.code 2 (some .int), Cond.fieldLink RX1 26 "BaroRuns$PointSum" "greatest" "I", Cond.methodLink RX1 29 Lib.Math.max.name, Cond.static Lib.Math.max.name, Cond.code Lib.Math.max.name Lib.Math.max.code 2 (some .int)]
def wsL_holds_r9 : List Cond := [Cond.methodLink RX6 65 yX2_setting, Cond.instanceMethod yX2_setting, Cond.selects RX2 yX2_setting yX2_setting, Cond.code yX2_setting cX2_setting 2 (some .int), Cond.fieldLink RX2 33 "BaroRuns$State" "gustLimit" "I", Cond.methodLink RL 15 yX6_reading, Cond.instanceMethod yX6_reading, Cond.selects RX6 yX6_reading yX6_reading, Cond.code yX6_reading cX6_reading 4 (some .int), Cond.constant RX6 108 (-2000000004), Cond.methodLink RX6 88 yX6_isReadingOf, Cond.instanceMethod yX6_isReadingOf, Cond.selects RX6 yX6_isReadingOf yX6_isReadingOf, Cond.code yX6_isReadingOf cX6_isReadingOf 3 (some .boolean), Cond.methodLink RX6 81 yX6_isCell, Cond.static yX6_isCell, Cond.code yX6_isCell cX6_isCell 1 (some .boolean), Cond.methodLink RX6 105 yX6_within, Cond.static yX6_within, Cond.code yX6_within cX6_within 3 (some .boolean), Cond.methodLink RX6 116 yX3_isGust, Cond.methodLink RX6 119 yX3_isGood, Cond.methodLink RX6 122 yX5_value, Cond.methodLink RL 19 yX6_loops]
def wsL_holds_r10 : List Cond := [Cond.instanceMethod yX6_loops, Cond.selects RX6 yX6_loops yX6_loops, Cond.code yX6_loops cX6_loops 2 (some .int), Cond.methodLink RL 22 yX6_loop, Cond.instanceMethod yX6_loop, Cond.selects RX6 yX6_loop yX6_loop, Cond.code yX6_loop cX6_loop 5 (some .int), Cond.methodLink RX6 176 yX3_begin, Cond.methodLink RX6 179 yX3_end, Cond.methodLink RX6 182 yX3_misclosure, Cond.methodLink RX6 185 yX3_misclosureBySteps, Cond.instanceMethod yX3_misclosureBySteps, Cond.selects RX3 yX3_misclosureBySteps yX3_misclosureBySteps, Cond.code yX3_misclosureBySteps cX3_misclosureBySteps 5 (some .int), Cond.methodLink RX6 188 yX3_minutes, Cond.methodLink RL 25 yX6_openLoop, Cond.instanceMethod yX6_openLoop, Cond.selects RX6 yX6_openLoop yX6_openLoop, Cond.code yX6_openLoop cX6_openLoop 4 (some .int), Cond.methodLink RX6 191 yX3_openLoopOf, Cond.methodLink RL 29 yX6_corrected, Cond.instanceMethod yX6_corrected, Cond.selects RX6 yX6_corrected yX6_corrected, Cond.code yX6_corrected cX6_corrected 3 (some .int)]
def wsL_holds_r11 : List Cond := [Cond.methodLink RX6 194 yX3_correctedHeight, Cond.methodLink RL 32 yX6_raw, Cond.instanceMethod yX6_raw, Cond.selects RX6 yX6_raw yX6_raw, Cond.code yX6_raw cX6_raw 3 (some .int), Cond.methodLink RX6 160 yX3_rawHeight, Cond.methodLink RL 36 yX6_point, Cond.instanceMethod yX6_point, Cond.selects RX6 yX6_point yX6_point, Cond.code yX6_point cX6_point 3 (some .int), Cond.methodLink RX6 85 yX6_isPoint, Cond.static yX6_isPoint, Cond.code yX6_isPoint cX6_isPoint 1 (some .boolean), Cond.methodLink RX6 203 yX1_height, Cond.instanceMethod yX1_height, Cond.selects RX1 yX1_height yX1_height, Cond.code yX1_height cX1_height 1 (some .int), Cond.methodLink RX6 206 yX1_spread, Cond.instanceMethod yX1_spread, Cond.selects RX1 yX1_spread yX1_spread, Cond.code yX1_spread cX1_spread 1 (some .int)]
def wsL_holds : List Cond := .code yL_holds cL_holds 6 (some .boolean) :: ((wsL_holds_r1 ++ (wsL_holds_r2 ++ (wsL_holds_r3 ++ (wsL_holds_r4 ++ (wsL_holds_r5 ++ (wsL_holds_r6 ++ (wsL_holds_r7 ++ (wsL_holds_r8 ++ (wsL_holds_r9 ++ (wsL_holds_r10 ++ wsL_holds_r11)))))))))) ++ wsX60 ++ wsX50 ++ wsX30 ++ wsX00 ++ wsX40 ++ wsX20 ++ wsX10)
def wsL_level_r1 : List Cond := [Cond.methodLink RL 9 yX6_count, Cond.instanceMethod yX6_count, Cond.selects RX6 yX6_count yX6_count, Cond.initialized RX6, Cond.code yX6_count cX6_count 2 (some .int), Cond.fieldLink RX6 10 "BaroRuns" "now" "LBaroRuns$State;", Cond.fieldLink RX6 29 "BaroRuns" "firstSurvey" "LBaroRuns$Survey;", Cond.fieldLink RX6 33 "BaroRuns" "secondSurvey" "LBaroRuns$Survey;", Cond.fieldLink RX6 36 "BaroRuns" "thirdSurvey" "LBaroRuns$Survey;", Cond.fieldLink RX6 22 "BaroRuns" "history" "LBaroRuns$History;", Cond.fieldLink RX6 49 "BaroRuns" "text" "LBaroRuns$Text;", Cond.constant RX6 61 (-2000000001), Cond.methodLink RX6 109 yX6_refresh, Cond.instanceMethod yX6_refresh, Cond.selects RX6 yX6_refresh yX6_refresh, Cond.code yX6_refresh cX6_refresh 1 none, Cond.fieldLink RX6 53 "BaroRuns" "stale" "Z", Cond.methodLink RX6 257 yX3_workOut, Cond.instanceMethod yX3_workOut, Cond.selects RX3 yX3_workOut yX3_workOut, Cond.initialized RX3, Cond.code yX3_workOut cX3_workOut 8 none, Cond.fieldLink RX3 48 "BaroRuns$Survey" "size" "I", Cond.fieldLink RX3 9 "BaroRuns$Survey" "times" "[I"]
def wsL_level_r2 : List Cond := [Cond.fieldLink RX3 15 "BaroRuns$Survey" "points" "[I", Cond.fieldLink RX3 18 "BaroRuns$Survey" "heights" "[I", Cond.fieldLink RX3 21 "BaroRuns$Survey" "gusts" "[I", Cond.fieldLink RX3 24 "BaroRuns$Survey" "openLoops" "[I", Cond.fieldLink RX3 27 "BaroRuns$Survey" "correctedHeights" "[I", Cond.methodLink RX3 36 yX2_track, Cond.instanceMethod yX2_track, Cond.selects RX2 yX2_track yX2_track, Cond.initialized RX2, Cond.code yX2_track cX2_track 2 (some (.object "BaroRuns$Track")), Cond.fieldLink RX2 20 "BaroRuns$State" "firstTrack" "LBaroRuns$Track;", Cond.fieldLink RX2 23 "BaroRuns$State" "secondTrack" "LBaroRuns$Track;", Cond.fieldLink RX2 26 "BaroRuns$State" "thirdTrack" "LBaroRuns$Track;", Cond.fieldLink RX2 14 "BaroRuns$State" "baseTrack" "LBaroRuns$Track;", Cond.methodLink RX3 49 yX5_value, Cond.instanceMethod yX5_value, Cond.selects RX5 yX5_value yX5_value, Cond.initialized RX5, Cond.code yX5_value cX5_value 3 (some .int), Cond.fieldLink RX5 9 "BaroRuns$Track" "values" "[I", Cond.static yX6_at, Cond.code yX6_at cX6_at 2 (some .int), Cond.static yX6_put, Cond.code yX6_put cX6_put 3 none]
def wsL_level_r3 : List Cond := [Cond.methodLink RX3 57 yX2_heightAt, Cond.instanceMethod yX2_heightAt, Cond.selects RX2 yX2_heightAt yX2_heightAt, Cond.code yX2_heightAt cX2_heightAt 12 (some .int), Cond.constant RX2 50 (-2000000004), Cond.constantLong RX2 63 (2930), Cond.fieldLink RX2 29 "BaroRuns$State" "baseHeight" "I", Cond.methodLink RX2 55 yX2_baseValue, Cond.instanceMethod yX2_baseValue, Cond.selects RX2 yX2_baseValue yX2_baseValue, Cond.code yX2_baseValue cX2_baseValue 10 (some .int), Cond.methodLink RX2 46 yX5_value, Cond.static yX6_divideDown, Cond.code yX6_divideDown cX6_divideDown 4 (some .long), Cond.methodLink RX6 236 yJ9_floorDiv_f86c9, Cond.static yJ9_floorDiv_f86c9, Cond.initialized RJ9, Cond.code yJ9_floorDiv_f86c9 cJ9_floorDiv_f86c9 6 (some .long), Cond.methodLink RX2 58 yJ9_floorDiv_7cf53, Cond.static yJ9_floorDiv_7cf53, Cond.code yJ9_floorDiv_7cf53 cJ9_floorDiv_7cf53 3 (some .int), Cond.methodLink RX3 64 yX5_standsOut, Cond.instanceMethod yX5_standsOut, Cond.selects RX5 yX5_standsOut yX5_standsOut]
def wsL_level_r4 : List Cond := [Cond.code yX5_standsOut cX5_standsOut 6 (some .boolean), Cond.fieldLink RX5 29 "BaroRuns$Track" "size" "I", Cond.methodLink RX5 32 yX5_value, Cond.methodLink RX3 68 yX3_countKinds, Cond.instanceMethod yX3_countKinds, Cond.selects RX3 yX3_countKinds yX3_countKinds, Cond.code yX3_countKinds cX3_countKinds 2 none, Cond.fieldLink RX3 114 "BaroRuns$Survey" "gustCount" "I", Cond.fieldLink RX3 117 "BaroRuns$Survey" "goodCount" "I", Cond.methodLink RX3 120 yX3_isGust, Cond.instanceMethod yX3_isGust, Cond.selects RX3 yX3_isGust yX3_isGust, Cond.code yX3_isGust cX3_isGust 2 (some .boolean), Cond.methodLink RX3 95 yX3_isGood, Cond.instanceMethod yX3_isGood, Cond.selects RX3 yX3_isGood yX3_isGood, Cond.code yX3_isGood cX3_isGood 2 (some .boolean), Cond.constant RX3 85 (-2000000004), Cond.methodLink RX3 71 yX3_findLoops, Cond.instanceMethod yX3_findLoops, Cond.selects RX3 yX3_findLoops yX3_findLoops, Cond.code yX3_findLoops cX3_findLoops 3 none, Cond.fieldLink RX3 123 "BaroRuns$Survey" "loopCount" "I", Cond.fieldLink RX3 30 "BaroRuns$Survey" "begins" "[I"]
def wsL_level_r5 : List Cond := [Cond.fieldLink RX3 33 "BaroRuns$Survey" "ends" "[I", Cond.methodLink RX3 126 yX3_lastVisit, Cond.instanceMethod yX3_lastVisit, Cond.selects RX3 yX3_lastVisit yX3_lastVisit, Cond.code yX3_lastVisit cX3_lastVisit 4 (some .int), Cond.methodLink RX3 74 yX3_shortestLoop, Cond.instanceMethod yX3_shortestLoop, Cond.selects RX3 yX3_shortestLoop yX3_shortestLoop, Cond.code yX3_shortestLoop cX3_shortestLoop 5 (some .int), Cond.methodLink RX3 89 yX3_begin, Cond.instanceMethod yX3_begin, Cond.selects RX3 yX3_begin yX3_begin, Cond.code yX3_begin cX3_begin 2 (some .int), Cond.methodLink RX3 86 yX3_end, Cond.instanceMethod yX3_end, Cond.selects RX3 yX3_end yX3_end, Cond.code yX3_end cX3_end 2 (some .int), Cond.methodLink RX3 129 yX3_minutes, Cond.instanceMethod yX3_minutes, Cond.selects RX3 yX3_minutes yX3_minutes, Cond.code yX3_minutes cX3_minutes 2 (some .int), Cond.methodLink RX3 78 yX3_withoutDrift, Cond.instanceMethod yX3_withoutDrift, Cond.selects RX3 yX3_withoutDrift yX3_withoutDrift]
def wsL_level_r6 : List Cond := [Cond.code yX3_withoutDrift cX3_withoutDrift 5 (some .int), Cond.methodLink RX3 111 yX3_openLoopOf, Cond.instanceMethod yX3_openLoopOf, Cond.selects RX3 yX3_openLoopOf yX3_openLoopOf, Cond.code yX3_openLoopOf cX3_openLoopOf 2 (some .int), Cond.methodLink RX3 92 yX3_rawHeight, Cond.instanceMethod yX3_rawHeight, Cond.selects RX3 yX3_rawHeight yX3_rawHeight, Cond.code yX3_rawHeight cX3_rawHeight 2 (some .int), Cond.methodLink RX3 132 yX3_misclosure, Cond.instanceMethod yX3_misclosure, Cond.selects RX3 yX3_misclosure yX3_misclosure, Cond.code yX3_misclosure cX3_misclosure 2 (some .int), Cond.methodLink RX6 91 yX2_track, Cond.methodLink RX6 132 yX2_steps, Cond.instanceMethod yX2_steps, Cond.selects RX2 yX2_steps yX2_steps, Cond.code yX2_steps cX2_steps 3 (some .int), Cond.methodLink RX2 69 yX2_isStepEnd, Cond.instanceMethod yX2_isStepEnd, Cond.selects RX2 yX2_isStepEnd yX2_isStepEnd, Cond.code yX2_isStepEnd cX2_isStepEnd 3 (some .boolean), Cond.methodLink RX2 65 Lib.Math.abs.name, Cond.static Lib.Math.abs.name]
def wsL_level_r7 : List Cond := [Cond.initialized "java/lang/Math", Cond.code Lib.Math.abs.name Lib.Math.abs.code 1 (some .int), Cond.fieldLink RX2 36 "BaroRuns$State" "stepLimit" "I", Cond.methodLink RX6 136 yX6_pointsWithHeight, Cond.instanceMethod yX6_pointsWithHeight, Cond.selects RX6 yX6_pointsWithHeight yX6_pointsWithHeight, Cond.code yX6_pointsWithHeight cX6_pointsWithHeight 3 (some .int), Cond.fieldLink RX6 42 "BaroRuns" "pointSum" "LBaroRuns$PointSum;", Cond.methodLink RX6 197 yX6_gather, Cond.instanceMethod yX6_gather, Cond.selects RX6 yX6_gather yX6_gather, Cond.code yX6_gather cX6_gather 3 none, Cond.methodLink RX6 261 yX1_clear, Cond.instanceMethod yX1_clear, Cond.selects RX1 yX1_clear yX1_clear, Cond.initialized RX1, Cond.code yX1_clear cX1_clear 1 none, Cond.fieldLink RX1 7 "BaroRuns$PointSum" "sum" "J", Cond.fieldLink RX1 13 "BaroRuns$PointSum" "number" "I", Cond.methodLink RX6 112 yX6_surveyOf, Cond.instanceMethod yX6_surveyOf, Cond.selects RX6 yX6_surveyOf yX6_surveyOf, Cond.code yX6_surveyOf cX6_surveyOf 2 (some (.object "BaroRuns$Survey")), Cond.methodLink RX6 264 yX3_addTo]
def wsL_level_r8 : List Cond := [Cond.instanceMethod yX3_addTo, Cond.selects RX3 yX3_addTo yX3_addTo, Cond.code yX3_addTo cX3_addTo 4 none, Cond.methodLink RX3 99 yX3_endsOpenLoop, Cond.instanceMethod yX3_endsOpenLoop, Cond.selects RX3 yX3_endsOpenLoop yX3_endsOpenLoop, Cond.code yX3_endsOpenLoop cX3_endsOpenLoop 3 (some .boolean), Cond.methodLink RX3 102 yX3_correctedHeight, Cond.instanceMethod yX3_correctedHeight, Cond.selects RX3 yX3_correctedHeight yX3_correctedHeight, Cond.code yX3_correctedHeight cX3_correctedHeight 2 (some .int), Cond.methodLink RX3 105 yX1_add, Cond.instanceMethod yX1_add, Cond.selects RX1 yX1_add yX1_add, Cond.code yX1_add cX1_add 2 none, Cond.fieldLink RX1 17 "BaroRuns$PointSum" "least" "I", Cond.methodLink RX1 20 Lib.Math.min.name, Cond.static Lib.Math.min.name, Cond.code Lib.Math.min.name Lib.Math.min.code 2 (some .int), Cond.fieldLink RX1 26 "BaroRuns$PointSum" "greatest" "I", Cond.methodLink RX1 29 Lib.Math.max.name, Cond.static Lib.Math.max.name, Cond.code Lib.Math.max.name Lib.Math.max.code 2 (some .int), Cond.methodLink RX6 65 yX2_setting]
def wsL_level_r9 : List Cond := [Cond.instanceMethod yX2_setting, Cond.selects RX2 yX2_setting yX2_setting, Cond.code yX2_setting cX2_setting 2 (some .int), Cond.fieldLink RX2 33 "BaroRuns$State" "gustLimit" "I", Cond.methodLink RL 15 yX6_reading, Cond.instanceMethod yX6_reading, Cond.selects RX6 yX6_reading yX6_reading, Cond.code yX6_reading cX6_reading 4 (some .int), Cond.constant RX6 108 (-2000000004), Cond.methodLink RX6 88 yX6_isReadingOf, Cond.instanceMethod yX6_isReadingOf, Cond.selects RX6 yX6_isReadingOf yX6_isReadingOf, Cond.code yX6_isReadingOf cX6_isReadingOf 3 (some .boolean), Cond.methodLink RX6 81 yX6_isCell, Cond.static yX6_isCell, Cond.code yX6_isCell cX6_isCell 1 (some .boolean), Cond.methodLink RX6 105 yX6_within, Cond.static yX6_within, Cond.code yX6_within cX6_within 3 (some .boolean), Cond.methodLink RX6 116 yX3_isGust, Cond.methodLink RX6 119 yX3_isGood, Cond.methodLink RX6 122 yX5_value, Cond.methodLink RL 39 yX6_baseAt, Cond.instanceMethod yX6_baseAt]
def wsL_level_r10 : List Cond := [Cond.selects RX6 yX6_baseAt yX6_baseAt, Cond.code yX6_baseAt cX6_baseAt 3 (some .int), Cond.methodLink RX6 151 yX6_isTime, Cond.static yX6_isTime, Cond.code yX6_isTime cX6_isTime 1 (some .boolean), Cond.methodLink RX6 154 yX2_baseValue, Cond.methodLink RL 42 yX6_would, Cond.instanceMethod yX6_would, Cond.selects RX6 yX6_would yX6_would, Cond.code yX6_would cX6_would 4 (some .int), Cond.methodLink RX6 73 yX6_isReading, Cond.static yX6_isReading, Cond.code yX6_isReading cX6_isReading 3 (some .boolean), Cond.constant RX6 172 (50000), Cond.constant RX6 235 (110000), Cond.methodLink RX6 167 yX6_isTemperature, Cond.static yX6_isTemperature, Cond.code yX6_isTemperature cX6_isTemperature 1 (some .boolean), Cond.methodLink RX6 163 yX2_heightAt]
def wsL_level : List Cond := .code yL_level cL_level 4 (some .boolean) :: ((wsL_level_r1 ++ (wsL_level_r2 ++ (wsL_level_r3 ++ (wsL_level_r4 ++ (wsL_level_r5 ++ (wsL_level_r6 ++ (wsL_level_r7 ++ (wsL_level_r8 ++ (wsL_level_r9 ++ wsL_level_r10))))))))) ++ wsX60 ++ wsX50 ++ wsX30 ++ wsX00 ++ wsX40 ++ wsX20 ++ wsX10)
abbrev vwCl : List vw_C := [(RX0, TX0, 3), (RX1, TX1, 4), (RX2, TX2, 7), (RX3, TX3, 12), (RX4, TX4, 11), (RX5, TX5, 3), (RX6, TX6, 9)]
end
section
set_option maxRecDepth 20000 in
theorem ggX0_init_X2_init : GoodIn wsX0_init wsX2_init := goodIn_r _ [10, 11, 2, 3, 12, 13, 14, 15, 16, 17, 18, 19, 20, 21, 22, 23, 24, 25, 26, 27, 28, 29, 30, 31, 32, 43, 44, 45, 36, 37, 38, 39, 40, 41, 42] (by decide +kernel) (by decide +kernel)
set_option maxRecDepth 20000 in
theorem gX0_init_X2_init : GoodIn wsX0_init (wsX2_init) := ggX0_init_X2_init
theorem dX0_init_0 : decode cX0_init 0 = .ok (.aload_n 0, 1) := by decide +kernel
theorem dX0_init_1 : decode cX0_init 1 = .ok (.invokespecial 3, 3) := by decide +kernel
theorem dX0_init_4 : decode cX0_init 4 = .ok (.aload_n 0, 1) := by decide +kernel
theorem dX0_init_5 : decode cX0_init 5 = .ok (.iconst 5, 1) := by decide +kernel
theorem dX0_init_6 : decode cX0_init 6 = .ok (.anewarray 9, 3) := by decide +kernel
theorem dX0_init_9 : decode cX0_init 9 = .ok (.putfield 11, 3) := by decide +kernel
theorem dX0_init_12 : decode cX0_init 12 = .ok (.iconst 0, 1) := by decide +kernel
theorem dX0_init_13 : decode cX0_init 13 = .ok (.istore_n 1, 1) := by decide +kernel
theorem dX0_init_14 : decode cX0_init 14 = .ok (.iload_n 1, 1) := by decide +kernel
theorem dX0_init_15 : decode cX0_init 15 = .ok (.aload_n 0, 1) := by decide +kernel
theorem dX0_init_16 : decode cX0_init 16 = .ok (.getfield 11, 3) := by decide +kernel
theorem dX0_init_19 : decode cX0_init 19 = .ok (.arraylength, 1) := by decide +kernel
theorem dX0_init_20 : decode cX0_init 20 = .ok (.if_icmp .ge 22, 3) := by decide +kernel
theorem dX0_init_23 : decode cX0_init 23 = .ok (.aload_n 0, 1) := by decide +kernel
theorem dX0_init_24 : decode cX0_init 24 = .ok (.getfield 11, 3) := by decide +kernel
theorem dX0_init_27 : decode cX0_init 27 = .ok (.iload_n 1, 1) := by decide +kernel
theorem dX0_init_28 : decode cX0_init 28 = .ok (.new 9, 3) := by decide +kernel
theorem dX0_init_31 : decode cX0_init 31 = .ok (.dup, 1) := by decide +kernel
theorem dX0_init_32 : decode cX0_init 32 = .ok (.invokespecial 17, 3) := by decide +kernel
theorem dX0_init_35 : decode cX0_init 35 = .ok (.aastore, 1) := by decide +kernel
theorem dX0_init_36 : decode cX0_init 36 = .ok (.iinc 1 1, 3) := by decide +kernel
theorem dX0_init_39 : decode cX0_init 39 = .ok (.goto (-25), 3) := by decide +kernel
theorem dX0_init_42 : decode cX0_init 42 = .ok (.return_, 1) := by decide +kernel
set_option maxRecDepth 20000 in
theorem ggX0_keep_X0_place : GoodIn wsX0_keep wsX0_place := goodIn_r _ [7, 2, 8, 36, 37, 38] (by decide +kernel) (by decide +kernel)
set_option maxRecDepth 20000 in
theorem gX0_keep_X0_place : GoodIn wsX0_keep (wsV RX0 25 RX0 yX0_place wsX0_place) := goodIn_app (goodIn_of _ (by decide +kernel)) ggX0_keep_X0_place
set_option maxRecDepth 20000 in
theorem ggX0_keep_X2_copyFrom : GoodIn wsX0_keep wsX2_copyFrom := goodIn_r _ [13, 14, 15, 16, 17, 18, 19, 20, 21, 22, 23, 24, 25, 26, 27, 28, 29, 30, 31, 32, 33, 34, 35, 39, 40, 41, 42, 43, 44, 45, 46, 47, 48] (by decide +kernel) (by decide +kernel)
set_option maxRecDepth 20000 in
theorem gX0_keep_X2_copyFrom : GoodIn wsX0_keep (wsV RX0 29 RX2 yX2_copyFrom wsX2_copyFrom) := goodIn_app (goodIn_of _ (by decide +kernel)) ggX0_keep_X2_copyFrom
theorem dX0_keep_0 : decode cX0_keep 0 = .ok (.aload_n 0, 1) := by decide +kernel
theorem dX0_keep_1 : decode cX0_keep 1 = .ok (.getfield 18, 3) := by decide +kernel
theorem dX0_keep_4 : decode cX0_keep 4 = .ok (.iconst 5, 1) := by decide +kernel
theorem dX0_keep_5 : decode cX0_keep 5 = .ok (.if_icmp .lt 25, 3) := by decide +kernel
theorem dX0_keep_8 : decode cX0_keep 8 = .ok (.aload_n 0, 1) := by decide +kernel
theorem dX0_keep_9 : decode cX0_keep 9 = .ok (.aload_n 0, 1) := by decide +kernel
theorem dX0_keep_10 : decode cX0_keep 10 = .ok (.getfield 22, 3) := by decide +kernel
theorem dX0_keep_13 : decode cX0_keep 13 = .ok (.iconst 1, 1) := by decide +kernel
theorem dX0_keep_14 : decode cX0_keep 14 = .ok (.iadd, 1) := by decide +kernel
theorem dX0_keep_15 : decode cX0_keep 15 = .ok (.iconst 5, 1) := by decide +kernel
theorem dX0_keep_16 : decode cX0_keep 16 = .ok (.irem, 1) := by decide +kernel
theorem dX0_keep_17 : decode cX0_keep 17 = .ok (.putfield 22, 3) := by decide +kernel
theorem dX0_keep_20 : decode cX0_keep 20 = .ok (.aload_n 0, 1) := by decide +kernel
theorem dX0_keep_21 : decode cX0_keep 21 = .ok (.dup, 1) := by decide +kernel
theorem dX0_keep_22 : decode cX0_keep 22 = .ok (.getfield 18, 3) := by decide +kernel
theorem dX0_keep_25 : decode cX0_keep 25 = .ok (.iconst 1, 1) := by decide +kernel
theorem dX0_keep_26 : decode cX0_keep 26 = .ok (.isub, 1) := by decide +kernel
theorem dX0_keep_27 : decode cX0_keep 27 = .ok (.putfield 18, 3) := by decide +kernel
theorem dX0_keep_30 : decode cX0_keep 30 = .ok (.aload_n 0, 1) := by decide +kernel
theorem dX0_keep_31 : decode cX0_keep 31 = .ok (.aload_n 0, 1) := by decide +kernel
theorem dX0_keep_32 : decode cX0_keep 32 = .ok (.getfield 18, 3) := by decide +kernel
theorem dX0_keep_35 : decode cX0_keep 35 = .ok (.invokevirtual 25, 3) := by decide +kernel
theorem dX0_keep_38 : decode cX0_keep 38 = .ok (.astore_n 2, 1) := by decide +kernel
theorem dX0_keep_39 : decode cX0_keep 39 = .ok (.aload_n 2, 1) := by decide +kernel
theorem dX0_keep_40 : decode cX0_keep 40 = .ok (.ifnull 18, 3) := by decide +kernel
theorem dX0_keep_43 : decode cX0_keep 43 = .ok (.aload_n 2, 1) := by decide +kernel
theorem dX0_keep_44 : decode cX0_keep 44 = .ok (.aload_n 1, 1) := by decide +kernel
theorem dX0_keep_45 : decode cX0_keep 45 = .ok (.invokevirtual 29, 3) := by decide +kernel
theorem dX0_keep_48 : decode cX0_keep 48 = .ok (.aload_n 0, 1) := by decide +kernel
theorem dX0_keep_49 : decode cX0_keep 49 = .ok (.dup, 1) := by decide +kernel
theorem dX0_keep_50 : decode cX0_keep 50 = .ok (.getfield 18, 3) := by decide +kernel
theorem dX0_keep_53 : decode cX0_keep 53 = .ok (.iconst 1, 1) := by decide +kernel
theorem dX0_keep_54 : decode cX0_keep 54 = .ok (.iadd, 1) := by decide +kernel
theorem dX0_keep_55 : decode cX0_keep 55 = .ok (.putfield 18, 3) := by decide +kernel
theorem dX0_keep_58 : decode cX0_keep 58 = .ok (.return_, 1) := by decide +kernel
set_option maxRecDepth 20000 in
theorem ggX0_giveBack_X0_place : GoodIn wsX0_giveBack wsX0_place := goodIn_r _ [6, 7, 8, 36, 37, 38] (by decide +kernel) (by decide +kernel)
set_option maxRecDepth 20000 in
theorem gX0_giveBack_X0_place : GoodIn wsX0_giveBack (wsV RX0 25 RX0 yX0_place wsX0_place) := goodIn_app (goodIn_of _ (by decide +kernel)) ggX0_giveBack_X0_place
set_option maxRecDepth 20000 in
theorem ggX0_giveBack_X2_copyFrom : GoodIn wsX0_giveBack wsX2_copyFrom := goodIn_r _ [13, 14, 15, 16, 17, 18, 19, 20, 21, 22, 23, 24, 25, 26, 27, 28, 29, 30, 31, 32, 33, 34, 35, 39, 40, 41, 42, 43, 44, 45, 46, 47, 48] (by decide +kernel) (by decide +kernel)
set_option maxRecDepth 20000 in
theorem gX0_giveBack_X2_copyFrom : GoodIn wsX0_giveBack (wsV RX0 29 RX2 yX2_copyFrom wsX2_copyFrom) := goodIn_app (goodIn_of _ (by decide +kernel)) ggX0_giveBack_X2_copyFrom
theorem dX0_giveBack_0 : decode cX0_giveBack 0 = .ok (.aload_n 0, 1) := by decide +kernel
theorem dX0_giveBack_1 : decode cX0_giveBack 1 = .ok (.aload_n 0, 1) := by decide +kernel
theorem dX0_giveBack_2 : decode cX0_giveBack 2 = .ok (.getfield 18, 3) := by decide +kernel
theorem dX0_giveBack_5 : decode cX0_giveBack 5 = .ok (.iconst 1, 1) := by decide +kernel
theorem dX0_giveBack_6 : decode cX0_giveBack 6 = .ok (.isub, 1) := by decide +kernel
theorem dX0_giveBack_7 : decode cX0_giveBack 7 = .ok (.invokevirtual 25, 3) := by decide +kernel
theorem dX0_giveBack_10 : decode cX0_giveBack 10 = .ok (.astore_n 2, 1) := by decide +kernel
theorem dX0_giveBack_11 : decode cX0_giveBack 11 = .ok (.aload_n 2, 1) := by decide +kernel
theorem dX0_giveBack_12 : decode cX0_giveBack 12 = .ok (.ifnull 18, 3) := by decide +kernel
theorem dX0_giveBack_15 : decode cX0_giveBack 15 = .ok (.aload_n 1, 1) := by decide +kernel
theorem dX0_giveBack_16 : decode cX0_giveBack 16 = .ok (.aload_n 2, 1) := by decide +kernel
theorem dX0_giveBack_17 : decode cX0_giveBack 17 = .ok (.invokevirtual 29, 3) := by decide +kernel
theorem dX0_giveBack_20 : decode cX0_giveBack 20 = .ok (.aload_n 0, 1) := by decide +kernel
theorem dX0_giveBack_21 : decode cX0_giveBack 21 = .ok (.dup, 1) := by decide +kernel
theorem dX0_giveBack_22 : decode cX0_giveBack 22 = .ok (.getfield 18, 3) := by decide +kernel
theorem dX0_giveBack_25 : decode cX0_giveBack 25 = .ok (.iconst 1, 1) := by decide +kernel
theorem dX0_giveBack_26 : decode cX0_giveBack 26 = .ok (.isub, 1) := by decide +kernel
theorem dX0_giveBack_27 : decode cX0_giveBack 27 = .ok (.putfield 18, 3) := by decide +kernel
theorem dX0_giveBack_30 : decode cX0_giveBack 30 = .ok (.return_, 1) := by decide +kernel
theorem dX0_place_0 : decode cX0_place 0 = .ok (.aload_n 0, 1) := by decide +kernel
theorem dX0_place_1 : decode cX0_place 1 = .ok (.getfield 22, 3) := by decide +kernel
theorem dX0_place_4 : decode cX0_place 4 = .ok (.iload_n 1, 1) := by decide +kernel
theorem dX0_place_5 : decode cX0_place 5 = .ok (.iadd, 1) := by decide +kernel
theorem dX0_place_6 : decode cX0_place 6 = .ok (.iconst 5, 1) := by decide +kernel
theorem dX0_place_7 : decode cX0_place 7 = .ok (.irem, 1) := by decide +kernel
theorem dX0_place_8 : decode cX0_place 8 = .ok (.istore_n 2, 1) := by decide +kernel
theorem dX0_place_9 : decode cX0_place 9 = .ok (.iload_n 2, 1) := by decide +kernel
theorem dX0_place_10 : decode cX0_place 10 = .ok (.ifCond .lt 21, 3) := by decide +kernel
theorem dX0_place_13 : decode cX0_place 13 = .ok (.iload_n 2, 1) := by decide +kernel
theorem dX0_place_14 : decode cX0_place 14 = .ok (.aload_n 0, 1) := by decide +kernel
theorem dX0_place_15 : decode cX0_place 15 = .ok (.getfield 11, 3) := by decide +kernel
theorem dX0_place_18 : decode cX0_place 18 = .ok (.arraylength, 1) := by decide +kernel
theorem dX0_place_19 : decode cX0_place 19 = .ok (.if_icmp .ge 12, 3) := by decide +kernel
theorem dX0_place_22 : decode cX0_place 22 = .ok (.aload_n 0, 1) := by decide +kernel
theorem dX0_place_23 : decode cX0_place 23 = .ok (.getfield 11, 3) := by decide +kernel
theorem dX0_place_26 : decode cX0_place 26 = .ok (.iload_n 2, 1) := by decide +kernel
theorem dX0_place_27 : decode cX0_place 27 = .ok (.aaload, 1) := by decide +kernel
theorem dX0_place_28 : decode cX0_place 28 = .ok (.goto 4, 3) := by decide +kernel
theorem dX0_place_31 : decode cX0_place 31 = .ok (.aconst_null, 1) := by decide +kernel
theorem dX0_place_32 : decode cX0_place 32 = .ok (.areturn, 1) := by decide +kernel
theorem dX1_init_0 : decode cX1_init 0 = .ok (.aload_n 0, 1) := by decide +kernel
theorem dX1_init_1 : decode cX1_init 1 = .ok (.invokespecial 1, 3) := by decide +kernel
theorem dX1_init_4 : decode cX1_init 4 = .ok (.return_, 1) := by decide +kernel
theorem dX1_clear_0 : decode cX1_clear 0 = .ok (.aload_n 0, 1) := by decide +kernel
theorem dX1_clear_1 : decode cX1_clear 1 = .ok (.lconst 0, 1) := by decide +kernel
theorem dX1_clear_2 : decode cX1_clear 2 = .ok (.putfield 7, 3) := by decide +kernel
theorem dX1_clear_5 : decode cX1_clear 5 = .ok (.aload_n 0, 1) := by decide +kernel
theorem dX1_clear_6 : decode cX1_clear 6 = .ok (.iconst 0, 1) := by decide +kernel
theorem dX1_clear_7 : decode cX1_clear 7 = .ok (.putfield 13, 3) := by decide +kernel
theorem dX1_clear_10 : decode cX1_clear 10 = .ok (.return_, 1) := by decide +kernel
theorem dX1_add_0 : decode cX1_add 0 = .ok (.aload_n 0, 1) := by decide +kernel
theorem dX1_add_1 : decode cX1_add 1 = .ok (.aload_n 0, 1) := by decide +kernel
theorem dX1_add_2 : decode cX1_add 2 = .ok (.getfield 13, 3) := by decide +kernel
theorem dX1_add_5 : decode cX1_add 5 = .ok (.ifCond .ne 7, 3) := by decide +kernel
theorem dX1_add_8 : decode cX1_add 8 = .ok (.iload_n 1, 1) := by decide +kernel
theorem dX1_add_9 : decode cX1_add 9 = .ok (.goto 11, 3) := by decide +kernel
theorem dX1_add_12 : decode cX1_add 12 = .ok (.aload_n 0, 1) := by decide +kernel
theorem dX1_add_13 : decode cX1_add 13 = .ok (.getfield 17, 3) := by decide +kernel
theorem dX1_add_16 : decode cX1_add 16 = .ok (.iload_n 1, 1) := by decide +kernel
theorem dX1_add_17 : decode cX1_add 17 = .ok (.invokestatic 20, 3) := by decide +kernel
theorem dX1_add_20 : decode cX1_add 20 = .ok (.putfield 17, 3) := by decide +kernel
theorem dX1_add_23 : decode cX1_add 23 = .ok (.aload_n 0, 1) := by decide +kernel
theorem dX1_add_24 : decode cX1_add 24 = .ok (.aload_n 0, 1) := by decide +kernel
theorem dX1_add_25 : decode cX1_add 25 = .ok (.getfield 13, 3) := by decide +kernel
theorem dX1_add_28 : decode cX1_add 28 = .ok (.ifCond .ne 7, 3) := by decide +kernel
theorem dX1_add_31 : decode cX1_add 31 = .ok (.iload_n 1, 1) := by decide +kernel
theorem dX1_add_32 : decode cX1_add 32 = .ok (.goto 11, 3) := by decide +kernel
theorem dX1_add_35 : decode cX1_add 35 = .ok (.aload_n 0, 1) := by decide +kernel
theorem dX1_add_36 : decode cX1_add 36 = .ok (.getfield 26, 3) := by decide +kernel
theorem dX1_add_39 : decode cX1_add 39 = .ok (.iload_n 1, 1) := by decide +kernel
theorem dX1_add_40 : decode cX1_add 40 = .ok (.invokestatic 29, 3) := by decide +kernel
theorem dX1_add_43 : decode cX1_add 43 = .ok (.putfield 26, 3) := by decide +kernel
theorem dX1_add_46 : decode cX1_add 46 = .ok (.aload_n 0, 1) := by decide +kernel
theorem dX1_add_47 : decode cX1_add 47 = .ok (.dup, 1) := by decide +kernel
theorem dX1_add_48 : decode cX1_add 48 = .ok (.getfield 7, 3) := by decide +kernel
theorem dX1_add_51 : decode cX1_add 51 = .ok (.iload_n 1, 1) := by decide +kernel
theorem dX1_add_52 : decode cX1_add 52 = .ok (.i2l, 1) := by decide +kernel
theorem dX1_add_53 : decode cX1_add 53 = .ok (.ladd, 1) := by decide +kernel
theorem dX1_add_54 : decode cX1_add 54 = .ok (.putfield 7, 3) := by decide +kernel
theorem dX1_add_57 : decode cX1_add 57 = .ok (.aload_n 0, 1) := by decide +kernel
theorem dX1_add_58 : decode cX1_add 58 = .ok (.dup, 1) := by decide +kernel
theorem dX1_add_59 : decode cX1_add 59 = .ok (.getfield 13, 3) := by decide +kernel
theorem dX1_add_62 : decode cX1_add 62 = .ok (.iconst 1, 1) := by decide +kernel
theorem dX1_add_63 : decode cX1_add 63 = .ok (.iadd, 1) := by decide +kernel
theorem dX1_add_64 : decode cX1_add 64 = .ok (.putfield 13, 3) := by decide +kernel
theorem dX1_add_67 : decode cX1_add 67 = .ok (.return_, 1) := by decide +kernel
set_option maxRecDepth 20000 in
theorem ggX1_height_X6_divideDown : GoodIn wsX1_height wsX6_divideDown := goodIn_r _ [5, 6, 7, 8, 9] (by decide +kernel) (by decide +kernel)
set_option maxRecDepth 20000 in
theorem gX1_height_X6_divideDown_n32 : GoodIn wsX1_height (wsX6_divideDown) := ggX1_height_X6_divideDown
theorem dX1_height_0 : decode cX1_height 0 = .ok (.aload_n 0, 1) := by decide +kernel
theorem dX1_height_1 : decode cX1_height 1 = .ok (.getfield 7, 3) := by decide +kernel
theorem dX1_height_4 : decode cX1_height 4 = .ok (.aload_n 0, 1) := by decide +kernel
theorem dX1_height_5 : decode cX1_height 5 = .ok (.getfield 13, 3) := by decide +kernel
theorem dX1_height_8 : decode cX1_height 8 = .ok (.i2l, 1) := by decide +kernel
theorem dX1_height_9 : decode cX1_height 9 = .ok (.invokestatic 32, 3) := by decide +kernel
theorem dX1_height_12 : decode cX1_height 12 = .ok (.l2i, 1) := by decide +kernel
theorem dX1_height_13 : decode cX1_height 13 = .ok (.ireturn, 1) := by decide +kernel
theorem dX1_spread_0 : decode cX1_spread 0 = .ok (.aload_n 0, 1) := by decide +kernel
theorem dX1_spread_1 : decode cX1_spread 1 = .ok (.getfield 26, 3) := by decide +kernel
theorem dX1_spread_4 : decode cX1_spread 4 = .ok (.aload_n 0, 1) := by decide +kernel
theorem dX1_spread_5 : decode cX1_spread 5 = .ok (.getfield 17, 3) := by decide +kernel
theorem dX1_spread_8 : decode cX1_spread 8 = .ok (.isub, 1) := by decide +kernel
theorem dX1_spread_9 : decode cX1_spread 9 = .ok (.ireturn, 1) := by decide +kernel
set_option maxRecDepth 20000 in
theorem ggX2_init_X5_init : GoodIn wsX2_init wsX5_init := goodIn_r _ [16, 17, 2, 3, 18, 19, 20, 21, 22, 23, 24, 25, 26, 27] (by decide +kernel) (by decide +kernel)
set_option maxRecDepth 20000 in
theorem gX2_init_X5_init : GoodIn wsX2_init (wsX5_init) := ggX2_init_X5_init
theorem dX2_init_0 : decode cX2_init 0 = .ok (.aload_n 0, 1) := by decide +kernel
theorem dX2_init_1 : decode cX2_init 1 = .ok (.invokespecial 3, 3) := by decide +kernel
theorem dX2_init_4 : decode cX2_init 4 = .ok (.aload_n 0, 1) := by decide +kernel
theorem dX2_init_5 : decode cX2_init 5 = .ok (.new 9, 3) := by decide +kernel
theorem dX2_init_8 : decode cX2_init 8 = .ok (.dup, 1) := by decide +kernel
theorem dX2_init_9 : decode cX2_init 9 = .ok (.bipush 12, 2) := by decide +kernel
theorem dX2_init_11 : decode cX2_init 11 = .ok (.invokespecial 11, 3) := by decide +kernel
theorem dX2_init_14 : decode cX2_init 14 = .ok (.putfield 14, 3) := by decide +kernel
theorem dX2_init_17 : decode cX2_init 17 = .ok (.aload_n 0, 1) := by decide +kernel
theorem dX2_init_18 : decode cX2_init 18 = .ok (.new 9, 3) := by decide +kernel
theorem dX2_init_21 : decode cX2_init 21 = .ok (.dup, 1) := by decide +kernel
theorem dX2_init_22 : decode cX2_init 22 = .ok (.bipush 20, 2) := by decide +kernel
theorem dX2_init_24 : decode cX2_init 24 = .ok (.invokespecial 11, 3) := by decide +kernel
theorem dX2_init_27 : decode cX2_init 27 = .ok (.putfield 20, 3) := by decide +kernel
theorem dX2_init_30 : decode cX2_init 30 = .ok (.aload_n 0, 1) := by decide +kernel
theorem dX2_init_31 : decode cX2_init 31 = .ok (.new 9, 3) := by decide +kernel
theorem dX2_init_34 : decode cX2_init 34 = .ok (.dup, 1) := by decide +kernel
theorem dX2_init_35 : decode cX2_init 35 = .ok (.bipush 20, 2) := by decide +kernel
theorem dX2_init_37 : decode cX2_init 37 = .ok (.invokespecial 11, 3) := by decide +kernel
theorem dX2_init_40 : decode cX2_init 40 = .ok (.putfield 23, 3) := by decide +kernel
theorem dX2_init_43 : decode cX2_init 43 = .ok (.aload_n 0, 1) := by decide +kernel
theorem dX2_init_44 : decode cX2_init 44 = .ok (.new 9, 3) := by decide +kernel
theorem dX2_init_47 : decode cX2_init 47 = .ok (.dup, 1) := by decide +kernel
theorem dX2_init_48 : decode cX2_init 48 = .ok (.bipush 20, 2) := by decide +kernel
theorem dX2_init_50 : decode cX2_init 50 = .ok (.invokespecial 11, 3) := by decide +kernel
theorem dX2_init_53 : decode cX2_init 53 = .ok (.putfield 26, 3) := by decide +kernel
theorem dX2_init_56 : decode cX2_init 56 = .ok (.aload_n 0, 1) := by decide +kernel
theorem dX2_init_57 : decode cX2_init 57 = .ok (.iconst 0, 1) := by decide +kernel
theorem dX2_init_58 : decode cX2_init 58 = .ok (.putfield 29, 3) := by decide +kernel
theorem dX2_init_61 : decode cX2_init 61 = .ok (.aload_n 0, 1) := by decide +kernel
theorem dX2_init_62 : decode cX2_init 62 = .ok (.bipush 60, 2) := by decide +kernel
theorem dX2_init_64 : decode cX2_init 64 = .ok (.putfield 33, 3) := by decide +kernel
theorem dX2_init_67 : decode cX2_init 67 = .ok (.aload_n 0, 1) := by decide +kernel
theorem dX2_init_68 : decode cX2_init 68 = .ok (.bipush 50, 2) := by decide +kernel
theorem dX2_init_70 : decode cX2_init 70 = .ok (.putfield 36, 3) := by decide +kernel
theorem dX2_init_73 : decode cX2_init 73 = .ok (.return_, 1) := by decide +kernel
theorem dX2_track_0 : decode cX2_track 0 = .ok (.iload_n 1, 1) := by decide +kernel
theorem dX2_track_1 : decode cX2_track 1 = .ok (.tableswitch 42 0 2 #[27, 32, 37], 27) := by decide +kernel
theorem dX2_track_28 : decode cX2_track 28 = .ok (.aload_n 0, 1) := by decide +kernel
theorem dX2_track_29 : decode cX2_track 29 = .ok (.getfield 20, 3) := by decide +kernel
theorem dX2_track_32 : decode cX2_track 32 = .ok (.areturn, 1) := by decide +kernel
theorem dX2_track_33 : decode cX2_track 33 = .ok (.aload_n 0, 1) := by decide +kernel
theorem dX2_track_34 : decode cX2_track 34 = .ok (.getfield 23, 3) := by decide +kernel
theorem dX2_track_37 : decode cX2_track 37 = .ok (.areturn, 1) := by decide +kernel
theorem dX2_track_38 : decode cX2_track 38 = .ok (.aload_n 0, 1) := by decide +kernel
theorem dX2_track_39 : decode cX2_track 39 = .ok (.getfield 26, 3) := by decide +kernel
theorem dX2_track_42 : decode cX2_track 42 = .ok (.areturn, 1) := by decide +kernel
theorem dX2_track_43 : decode cX2_track 43 = .ok (.aload_n 0, 1) := by decide +kernel
theorem dX2_track_44 : decode cX2_track 44 = .ok (.getfield 14, 3) := by decide +kernel
theorem dX2_track_47 : decode cX2_track 47 = .ok (.areturn, 1) := by decide +kernel
theorem dX2_setting_0 : decode cX2_setting 0 = .ok (.iload_n 1, 1) := by decide +kernel
theorem dX2_setting_1 : decode cX2_setting 1 = .ok (.lookupswitch 37 #[(0, 27), (1, 32)], 27) := by decide +kernel
theorem dX2_setting_28 : decode cX2_setting 28 = .ok (.aload_n 0, 1) := by decide +kernel
theorem dX2_setting_29 : decode cX2_setting 29 = .ok (.getfield 29, 3) := by decide +kernel
theorem dX2_setting_32 : decode cX2_setting 32 = .ok (.ireturn, 1) := by decide +kernel
theorem dX2_setting_33 : decode cX2_setting 33 = .ok (.aload_n 0, 1) := by decide +kernel
theorem dX2_setting_34 : decode cX2_setting 34 = .ok (.getfield 33, 3) := by decide +kernel
theorem dX2_setting_37 : decode cX2_setting 37 = .ok (.ireturn, 1) := by decide +kernel
theorem dX2_setting_38 : decode cX2_setting 38 = .ok (.aload_n 0, 1) := by decide +kernel
theorem dX2_setting_39 : decode cX2_setting 39 = .ok (.getfield 36, 3) := by decide +kernel
theorem dX2_setting_42 : decode cX2_setting 42 = .ok (.ireturn, 1) := by decide +kernel
theorem dX2_putSetting_0 : decode cX2_putSetting 0 = .ok (.iload_n 1, 1) := by decide +kernel
theorem dX2_putSetting_1 : decode cX2_putSetting 1 = .ok (.lookupswitch 43 #[(0, 27), (1, 35)], 27) := by decide +kernel
theorem dX2_putSetting_28 : decode cX2_putSetting 28 = .ok (.aload_n 0, 1) := by decide +kernel
theorem dX2_putSetting_29 : decode cX2_putSetting 29 = .ok (.iload_n 2, 1) := by decide +kernel
theorem dX2_putSetting_30 : decode cX2_putSetting 30 = .ok (.putfield 29, 3) := by decide +kernel
theorem dX2_putSetting_33 : decode cX2_putSetting 33 = .ok (.goto 16, 3) := by decide +kernel
theorem dX2_putSetting_36 : decode cX2_putSetting 36 = .ok (.aload_n 0, 1) := by decide +kernel
theorem dX2_putSetting_37 : decode cX2_putSetting 37 = .ok (.iload_n 2, 1) := by decide +kernel
theorem dX2_putSetting_38 : decode cX2_putSetting 38 = .ok (.putfield 33, 3) := by decide +kernel
theorem dX2_putSetting_41 : decode cX2_putSetting 41 = .ok (.goto 8, 3) := by decide +kernel
theorem dX2_putSetting_44 : decode cX2_putSetting 44 = .ok (.aload_n 0, 1) := by decide +kernel
theorem dX2_putSetting_45 : decode cX2_putSetting 45 = .ok (.iload_n 2, 1) := by decide +kernel
theorem dX2_putSetting_46 : decode cX2_putSetting 46 = .ok (.putfield 36, 3) := by decide +kernel
theorem dX2_putSetting_49 : decode cX2_putSetting 49 = .ok (.return_, 1) := by decide +kernel
set_option maxRecDepth 20000 in
theorem ggX2_copyFrom_X5_copyFrom : GoodIn wsX2_copyFrom wsX5_copyFrom := goodIn_r _ [12, 13, 14, 15, 16, 17, 18, 19, 20, 21, 22, 30, 31, 32] (by decide +kernel) (by decide +kernel)
set_option maxRecDepth 20000 in
theorem gX2_copyFrom_X5_copyFrom : GoodIn wsX2_copyFrom (wsV RX2 39 RX5 yX5_copyFrom wsX5_copyFrom) := goodIn_app (goodIn_of _ (by decide +kernel)) ggX2_copyFrom_X5_copyFrom
theorem dX2_copyFrom_0 : decode cX2_copyFrom 0 = .ok (.aload_n 0, 1) := by decide +kernel
theorem dX2_copyFrom_1 : decode cX2_copyFrom 1 = .ok (.getfield 14, 3) := by decide +kernel
theorem dX2_copyFrom_4 : decode cX2_copyFrom 4 = .ok (.aload_n 1, 1) := by decide +kernel
theorem dX2_copyFrom_5 : decode cX2_copyFrom 5 = .ok (.getfield 14, 3) := by decide +kernel
theorem dX2_copyFrom_8 : decode cX2_copyFrom 8 = .ok (.invokevirtual 39, 3) := by decide +kernel
theorem dX2_copyFrom_11 : decode cX2_copyFrom 11 = .ok (.aload_n 0, 1) := by decide +kernel
theorem dX2_copyFrom_12 : decode cX2_copyFrom 12 = .ok (.getfield 20, 3) := by decide +kernel
theorem dX2_copyFrom_15 : decode cX2_copyFrom 15 = .ok (.aload_n 1, 1) := by decide +kernel
theorem dX2_copyFrom_16 : decode cX2_copyFrom 16 = .ok (.getfield 20, 3) := by decide +kernel
theorem dX2_copyFrom_19 : decode cX2_copyFrom 19 = .ok (.invokevirtual 39, 3) := by decide +kernel
theorem dX2_copyFrom_22 : decode cX2_copyFrom 22 = .ok (.aload_n 0, 1) := by decide +kernel
theorem dX2_copyFrom_23 : decode cX2_copyFrom 23 = .ok (.getfield 23, 3) := by decide +kernel
theorem dX2_copyFrom_26 : decode cX2_copyFrom 26 = .ok (.aload_n 1, 1) := by decide +kernel
theorem dX2_copyFrom_27 : decode cX2_copyFrom 27 = .ok (.getfield 23, 3) := by decide +kernel
theorem dX2_copyFrom_30 : decode cX2_copyFrom 30 = .ok (.invokevirtual 39, 3) := by decide +kernel
theorem dX2_copyFrom_33 : decode cX2_copyFrom 33 = .ok (.aload_n 0, 1) := by decide +kernel
theorem dX2_copyFrom_34 : decode cX2_copyFrom 34 = .ok (.getfield 26, 3) := by decide +kernel
theorem dX2_copyFrom_37 : decode cX2_copyFrom 37 = .ok (.aload_n 1, 1) := by decide +kernel
theorem dX2_copyFrom_38 : decode cX2_copyFrom 38 = .ok (.getfield 26, 3) := by decide +kernel
theorem dX2_copyFrom_41 : decode cX2_copyFrom 41 = .ok (.invokevirtual 39, 3) := by decide +kernel
theorem dX2_copyFrom_44 : decode cX2_copyFrom 44 = .ok (.aload_n 0, 1) := by decide +kernel
theorem dX2_copyFrom_45 : decode cX2_copyFrom 45 = .ok (.aload_n 1, 1) := by decide +kernel
theorem dX2_copyFrom_46 : decode cX2_copyFrom 46 = .ok (.getfield 29, 3) := by decide +kernel
theorem dX2_copyFrom_49 : decode cX2_copyFrom 49 = .ok (.putfield 29, 3) := by decide +kernel
theorem dX2_copyFrom_52 : decode cX2_copyFrom 52 = .ok (.aload_n 0, 1) := by decide +kernel
theorem dX2_copyFrom_53 : decode cX2_copyFrom 53 = .ok (.aload_n 1, 1) := by decide +kernel
theorem dX2_copyFrom_54 : decode cX2_copyFrom 54 = .ok (.getfield 33, 3) := by decide +kernel
theorem dX2_copyFrom_57 : decode cX2_copyFrom 57 = .ok (.putfield 33, 3) := by decide +kernel
theorem dX2_copyFrom_60 : decode cX2_copyFrom 60 = .ok (.aload_n 0, 1) := by decide +kernel
theorem dX2_copyFrom_61 : decode cX2_copyFrom 61 = .ok (.aload_n 1, 1) := by decide +kernel
theorem dX2_copyFrom_62 : decode cX2_copyFrom 62 = .ok (.getfield 36, 3) := by decide +kernel
theorem dX2_copyFrom_65 : decode cX2_copyFrom 65 = .ok (.putfield 36, 3) := by decide +kernel
theorem dX2_copyFrom_68 : decode cX2_copyFrom 68 = .ok (.return_, 1) := by decide +kernel
set_option maxRecDepth 20000 in
theorem ggX2_baseValue_X5_value : GoodIn wsX2_baseValue wsX5_value := goodIn_r _ [7, 8, 9, 10, 11, 25, 26, 27] (by decide +kernel) (by decide +kernel)
set_option maxRecDepth 20000 in
theorem gX2_baseValue_X5_value : GoodIn wsX2_baseValue (wsV RX2 46 RX5 yX5_value wsX5_value) := goodIn_app (goodIn_of _ (by decide +kernel)) ggX2_baseValue_X5_value
set_option maxRecDepth 20000 in
theorem ggX2_baseValue_X6_divideDown : GoodIn wsX2_baseValue wsX6_divideDown := goodIn_r _ [13, 14, 15, 16, 17] (by decide +kernel) (by decide +kernel)
set_option maxRecDepth 20000 in
theorem gX2_baseValue_X6_divideDown_n51 : GoodIn wsX2_baseValue (wsX6_divideDown) := ggX2_baseValue_X6_divideDown
theorem dX2_baseValue_0 : decode cX2_baseValue 0 = .ok (.iconst 0, 1) := by decide +kernel
theorem dX2_baseValue_1 : decode cX2_baseValue 1 = .ok (.istore_n 3, 1) := by decide +kernel
theorem dX2_baseValue_2 : decode cX2_baseValue 2 = .ok (.iload_n 3, 1) := by decide +kernel
theorem dX2_baseValue_3 : decode cX2_baseValue 3 = .ok (.aload_n 0, 1) := by decide +kernel
theorem dX2_baseValue_4 : decode cX2_baseValue 4 = .ok (.getfield 14, 3) := by decide +kernel
theorem dX2_baseValue_7 : decode cX2_baseValue 7 = .ok (.getfield 43, 3) := by decide +kernel
theorem dX2_baseValue_10 : decode cX2_baseValue 10 = .ok (.if_icmp .ge 22, 3) := by decide +kernel
theorem dX2_baseValue_13 : decode cX2_baseValue 13 = .ok (.aload_n 0, 1) := by decide +kernel
theorem dX2_baseValue_14 : decode cX2_baseValue 14 = .ok (.getfield 14, 3) := by decide +kernel
theorem dX2_baseValue_17 : decode cX2_baseValue 17 = .ok (.iload_n 3, 1) := by decide +kernel
theorem dX2_baseValue_18 : decode cX2_baseValue 18 = .ok (.iconst 0, 1) := by decide +kernel
theorem dX2_baseValue_19 : decode cX2_baseValue 19 = .ok (.invokevirtual 46, 3) := by decide +kernel
theorem dX2_baseValue_22 : decode cX2_baseValue 22 = .ok (.iload_n 1, 1) := by decide +kernel
theorem dX2_baseValue_23 : decode cX2_baseValue 23 = .ok (.if_icmp .ge 9, 3) := by decide +kernel
theorem dX2_baseValue_26 : decode cX2_baseValue 26 = .ok (.iinc 3 1, 3) := by decide +kernel
theorem dX2_baseValue_29 : decode cX2_baseValue 29 = .ok (.goto (-27), 3) := by decide +kernel
theorem dX2_baseValue_32 : decode cX2_baseValue 32 = .ok (.iload_n 3, 1) := by decide +kernel
theorem dX2_baseValue_33 : decode cX2_baseValue 33 = .ok (.aload_n 0, 1) := by decide +kernel
theorem dX2_baseValue_34 : decode cX2_baseValue 34 = .ok (.getfield 14, 3) := by decide +kernel
theorem dX2_baseValue_37 : decode cX2_baseValue 37 = .ok (.getfield 43, 3) := by decide +kernel
theorem dX2_baseValue_40 : decode cX2_baseValue 40 = .ok (.if_icmp .lt 6, 3) := by decide +kernel
theorem dX2_baseValue_43 : decode cX2_baseValue 43 = .ok (.ldc 50, 2) := by decide +kernel
theorem dX2_baseValue_45 : decode cX2_baseValue 45 = .ok (.ireturn, 1) := by decide +kernel
theorem dX2_baseValue_46 : decode cX2_baseValue 46 = .ok (.aload_n 0, 1) := by decide +kernel
theorem dX2_baseValue_47 : decode cX2_baseValue 47 = .ok (.getfield 14, 3) := by decide +kernel
theorem dX2_baseValue_50 : decode cX2_baseValue 50 = .ok (.iload_n 3, 1) := by decide +kernel
theorem dX2_baseValue_51 : decode cX2_baseValue 51 = .ok (.iconst 0, 1) := by decide +kernel
theorem dX2_baseValue_52 : decode cX2_baseValue 52 = .ok (.invokevirtual 46, 3) := by decide +kernel
theorem dX2_baseValue_55 : decode cX2_baseValue 55 = .ok (.istore 4, 2) := by decide +kernel
theorem dX2_baseValue_57 : decode cX2_baseValue 57 = .ok (.aload_n 0, 1) := by decide +kernel
theorem dX2_baseValue_58 : decode cX2_baseValue 58 = .ok (.getfield 14, 3) := by decide +kernel
theorem dX2_baseValue_61 : decode cX2_baseValue 61 = .ok (.iload_n 3, 1) := by decide +kernel
theorem dX2_baseValue_62 : decode cX2_baseValue 62 = .ok (.iload_n 2, 1) := by decide +kernel
theorem dX2_baseValue_63 : decode cX2_baseValue 63 = .ok (.invokevirtual 46, 3) := by decide +kernel
theorem dX2_baseValue_66 : decode cX2_baseValue 66 = .ok (.istore 5, 2) := by decide +kernel
theorem dX2_baseValue_68 : decode cX2_baseValue 68 = .ok (.iload 4, 2) := by decide +kernel
theorem dX2_baseValue_70 : decode cX2_baseValue 70 = .ok (.iload_n 1, 1) := by decide +kernel
theorem dX2_baseValue_71 : decode cX2_baseValue 71 = .ok (.if_icmp .ne 6, 3) := by decide +kernel
theorem dX2_baseValue_74 : decode cX2_baseValue 74 = .ok (.iload 5, 2) := by decide +kernel
theorem dX2_baseValue_76 : decode cX2_baseValue 76 = .ok (.ireturn, 1) := by decide +kernel
theorem dX2_baseValue_77 : decode cX2_baseValue 77 = .ok (.iload_n 3, 1) := by decide +kernel
theorem dX2_baseValue_78 : decode cX2_baseValue 78 = .ok (.ifCond .ne 6, 3) := by decide +kernel
theorem dX2_baseValue_81 : decode cX2_baseValue 81 = .ok (.ldc 50, 2) := by decide +kernel
theorem dX2_baseValue_83 : decode cX2_baseValue 83 = .ok (.ireturn, 1) := by decide +kernel
theorem dX2_baseValue_84 : decode cX2_baseValue 84 = .ok (.aload_n 0, 1) := by decide +kernel
theorem dX2_baseValue_85 : decode cX2_baseValue 85 = .ok (.getfield 14, 3) := by decide +kernel
theorem dX2_baseValue_88 : decode cX2_baseValue 88 = .ok (.iload_n 3, 1) := by decide +kernel
theorem dX2_baseValue_89 : decode cX2_baseValue 89 = .ok (.iconst 1, 1) := by decide +kernel
theorem dX2_baseValue_90 : decode cX2_baseValue 90 = .ok (.isub, 1) := by decide +kernel
theorem dX2_baseValue_91 : decode cX2_baseValue 91 = .ok (.iconst 0, 1) := by decide +kernel
theorem dX2_baseValue_92 : decode cX2_baseValue 92 = .ok (.invokevirtual 46, 3) := by decide +kernel
theorem dX2_baseValue_95 : decode cX2_baseValue 95 = .ok (.istore 6, 2) := by decide +kernel
theorem dX2_baseValue_97 : decode cX2_baseValue 97 = .ok (.aload_n 0, 1) := by decide +kernel
theorem dX2_baseValue_98 : decode cX2_baseValue 98 = .ok (.getfield 14, 3) := by decide +kernel
theorem dX2_baseValue_101 : decode cX2_baseValue 101 = .ok (.iload_n 3, 1) := by decide +kernel
theorem dX2_baseValue_102 : decode cX2_baseValue 102 = .ok (.iconst 1, 1) := by decide +kernel
theorem dX2_baseValue_103 : decode cX2_baseValue 103 = .ok (.isub, 1) := by decide +kernel
theorem dX2_baseValue_104 : decode cX2_baseValue 104 = .ok (.iload_n 2, 1) := by decide +kernel
theorem dX2_baseValue_105 : decode cX2_baseValue 105 = .ok (.invokevirtual 46, 3) := by decide +kernel
theorem dX2_baseValue_108 : decode cX2_baseValue 108 = .ok (.istore 7, 2) := by decide +kernel
theorem dX2_baseValue_110 : decode cX2_baseValue 110 = .ok (.iload 5, 2) := by decide +kernel
theorem dX2_baseValue_112 : decode cX2_baseValue 112 = .ok (.iload 7, 2) := by decide +kernel
theorem dX2_baseValue_114 : decode cX2_baseValue 114 = .ok (.isub, 1) := by decide +kernel
theorem dX2_baseValue_115 : decode cX2_baseValue 115 = .ok (.i2l, 1) := by decide +kernel
theorem dX2_baseValue_116 : decode cX2_baseValue 116 = .ok (.iload_n 1, 1) := by decide +kernel
theorem dX2_baseValue_117 : decode cX2_baseValue 117 = .ok (.iload 6, 2) := by decide +kernel
theorem dX2_baseValue_119 : decode cX2_baseValue 119 = .ok (.isub, 1) := by decide +kernel
theorem dX2_baseValue_120 : decode cX2_baseValue 120 = .ok (.i2l, 1) := by decide +kernel
theorem dX2_baseValue_121 : decode cX2_baseValue 121 = .ok (.lmul, 1) := by decide +kernel
theorem dX2_baseValue_122 : decode cX2_baseValue 122 = .ok (.lstore 8, 2) := by decide +kernel
theorem dX2_baseValue_124 : decode cX2_baseValue 124 = .ok (.iload 7, 2) := by decide +kernel
theorem dX2_baseValue_126 : decode cX2_baseValue 126 = .ok (.i2l, 1) := by decide +kernel
theorem dX2_baseValue_127 : decode cX2_baseValue 127 = .ok (.lload 8, 2) := by decide +kernel
theorem dX2_baseValue_129 : decode cX2_baseValue 129 = .ok (.iload 4, 2) := by decide +kernel
theorem dX2_baseValue_131 : decode cX2_baseValue 131 = .ok (.iload 6, 2) := by decide +kernel
theorem dX2_baseValue_133 : decode cX2_baseValue 133 = .ok (.isub, 1) := by decide +kernel
theorem dX2_baseValue_134 : decode cX2_baseValue 134 = .ok (.i2l, 1) := by decide +kernel
theorem dX2_baseValue_135 : decode cX2_baseValue 135 = .ok (.invokestatic 51, 3) := by decide +kernel
theorem dX2_baseValue_138 : decode cX2_baseValue 138 = .ok (.ladd, 1) := by decide +kernel
theorem dX2_baseValue_139 : decode cX2_baseValue 139 = .ok (.l2i, 1) := by decide +kernel
theorem dX2_baseValue_140 : decode cX2_baseValue 140 = .ok (.ireturn, 1) := by decide +kernel
set_option maxRecDepth 20000 in
theorem ggX2_heightAt_X2_baseValue : GoodIn wsX2_heightAt wsX2_baseValue := goodIn_r _ [8, 9, 1, 10, 11, 12, 13, 14, 15, 16, 17, 18, 19, 20, 21, 22, 23, 24, 28, 29, 30, 31, 32, 33, 34, 35, 36, 37] (by decide +kernel) (by decide +kernel)
set_option maxRecDepth 20000 in
theorem gX2_heightAt_X2_baseValue : GoodIn wsX2_heightAt (wsV RX2 55 RX2 yX2_baseValue wsX2_baseValue) := goodIn_app (goodIn_of _ (by decide +kernel)) ggX2_heightAt_X2_baseValue
set_option maxRecDepth 20000 in
theorem ggX2_heightAt_J9_floorDiv_7cf53 : GoodIn wsX2_heightAt wsJ9_floorDiv_7cf53 := goodIn_r _ [27] (by decide +kernel) (by decide +kernel)
set_option maxRecDepth 20000 in
theorem gX2_heightAt_J9_floorDiv_7cf53 : GoodIn wsX2_heightAt (va_wsS RX2 58 yJ9_floorDiv_7cf53 wsJ9_floorDiv_7cf53) := goodIn_app (goodIn_of _ (by decide +kernel)) ggX2_heightAt_J9_floorDiv_7cf53
set_option maxRecDepth 20000 in
theorem ggX2_heightAt_X6_divideDown : GoodIn wsX2_heightAt wsX6_divideDown := goodIn_r _ [20, 21, 22, 23, 24] (by decide +kernel) (by decide +kernel)
set_option maxRecDepth 20000 in
theorem gX2_heightAt_X6_divideDown_n51 : GoodIn wsX2_heightAt (wsX6_divideDown) := ggX2_heightAt_X6_divideDown
theorem dX2_heightAt_0 : decode cX2_heightAt 0 = .ok (.aload_n 0, 1) := by decide +kernel
theorem dX2_heightAt_1 : decode cX2_heightAt 1 = .ok (.iload_n 1, 1) := by decide +kernel
theorem dX2_heightAt_2 : decode cX2_heightAt 2 = .ok (.iconst 1, 1) := by decide +kernel
theorem dX2_heightAt_3 : decode cX2_heightAt 3 = .ok (.invokevirtual 55, 3) := by decide +kernel
theorem dX2_heightAt_6 : decode cX2_heightAt 6 = .ok (.istore 4, 2) := by decide +kernel
theorem dX2_heightAt_8 : decode cX2_heightAt 8 = .ok (.iload 4, 2) := by decide +kernel
theorem dX2_heightAt_10 : decode cX2_heightAt 10 = .ok (.ldc 50, 2) := by decide +kernel
theorem dX2_heightAt_12 : decode cX2_heightAt 12 = .ok (.if_icmp .ne 6, 3) := by decide +kernel
theorem dX2_heightAt_15 : decode cX2_heightAt 15 = .ok (.ldc 50, 2) := by decide +kernel
theorem dX2_heightAt_17 : decode cX2_heightAt 17 = .ok (.ireturn, 1) := by decide +kernel
theorem dX2_heightAt_18 : decode cX2_heightAt 18 = .ok (.aload_n 0, 1) := by decide +kernel
theorem dX2_heightAt_19 : decode cX2_heightAt 19 = .ok (.iload_n 1, 1) := by decide +kernel
theorem dX2_heightAt_20 : decode cX2_heightAt 20 = .ok (.iconst 2, 1) := by decide +kernel
theorem dX2_heightAt_21 : decode cX2_heightAt 21 = .ok (.invokevirtual 55, 3) := by decide +kernel
theorem dX2_heightAt_24 : decode cX2_heightAt 24 = .ok (.istore 5, 2) := by decide +kernel
theorem dX2_heightAt_26 : decode cX2_heightAt 26 = .ok (.sipush 2732, 3) := by decide +kernel
theorem dX2_heightAt_29 : decode cX2_heightAt 29 = .ok (.iload 5, 2) := by decide +kernel
theorem dX2_heightAt_31 : decode cX2_heightAt 31 = .ok (.iload_n 3, 1) := by decide +kernel
theorem dX2_heightAt_32 : decode cX2_heightAt 32 = .ok (.iadd, 1) := by decide +kernel
theorem dX2_heightAt_33 : decode cX2_heightAt 33 = .ok (.iconst 2, 1) := by decide +kernel
theorem dX2_heightAt_34 : decode cX2_heightAt 34 = .ok (.invokestatic 58, 3) := by decide +kernel
theorem dX2_heightAt_37 : decode cX2_heightAt 37 = .ok (.iadd, 1) := by decide +kernel
theorem dX2_heightAt_38 : decode cX2_heightAt 38 = .ok (.i2l, 1) := by decide +kernel
theorem dX2_heightAt_39 : decode cX2_heightAt 39 = .ok (.lstore 6, 2) := by decide +kernel
theorem dX2_heightAt_41 : decode cX2_heightAt 41 = .ok (.iload 4, 2) := by decide +kernel
theorem dX2_heightAt_43 : decode cX2_heightAt 43 = .ok (.iload_n 2, 1) := by decide +kernel
theorem dX2_heightAt_44 : decode cX2_heightAt 44 = .ok (.iadd, 1) := by decide +kernel
theorem dX2_heightAt_45 : decode cX2_heightAt 45 = .ok (.iconst 2, 1) := by decide +kernel
theorem dX2_heightAt_46 : decode cX2_heightAt 46 = .ok (.invokestatic 58, 3) := by decide +kernel
theorem dX2_heightAt_49 : decode cX2_heightAt 49 = .ok (.i2l, 1) := by decide +kernel
theorem dX2_heightAt_50 : decode cX2_heightAt 50 = .ok (.lstore 8, 2) := by decide +kernel
theorem dX2_heightAt_52 : decode cX2_heightAt 52 = .ok (.ldc2_w 63, 3) := by decide +kernel
theorem dX2_heightAt_55 : decode cX2_heightAt 55 = .ok (.lload 6, 2) := by decide +kernel
theorem dX2_heightAt_57 : decode cX2_heightAt 57 = .ok (.lmul, 1) := by decide +kernel
theorem dX2_heightAt_58 : decode cX2_heightAt 58 = .ok (.iload 4, 2) := by decide +kernel
theorem dX2_heightAt_60 : decode cX2_heightAt 60 = .ok (.iload_n 2, 1) := by decide +kernel
theorem dX2_heightAt_61 : decode cX2_heightAt 61 = .ok (.isub, 1) := by decide +kernel
theorem dX2_heightAt_62 : decode cX2_heightAt 62 = .ok (.i2l, 1) := by decide +kernel
theorem dX2_heightAt_63 : decode cX2_heightAt 63 = .ok (.lmul, 1) := by decide +kernel
theorem dX2_heightAt_64 : decode cX2_heightAt 64 = .ok (.lstore 10, 2) := by decide +kernel
theorem dX2_heightAt_66 : decode cX2_heightAt 66 = .ok (.aload_n 0, 1) := by decide +kernel
theorem dX2_heightAt_67 : decode cX2_heightAt 67 = .ok (.getfield 29, 3) := by decide +kernel
theorem dX2_heightAt_70 : decode cX2_heightAt 70 = .ok (.i2l, 1) := by decide +kernel
theorem dX2_heightAt_71 : decode cX2_heightAt 71 = .ok (.lload 10, 2) := by decide +kernel
theorem dX2_heightAt_73 : decode cX2_heightAt 73 = .ok (.lload 8, 2) := by decide +kernel
theorem dX2_heightAt_75 : decode cX2_heightAt 75 = .ok (.invokestatic 51, 3) := by decide +kernel
theorem dX2_heightAt_78 : decode cX2_heightAt 78 = .ok (.ladd, 1) := by decide +kernel
theorem dX2_heightAt_79 : decode cX2_heightAt 79 = .ok (.l2i, 1) := by decide +kernel
theorem dX2_heightAt_80 : decode cX2_heightAt 80 = .ok (.ireturn, 1) := by decide +kernel
set_option maxRecDepth 20000 in
theorem ggX2_isStepEnd_X5_value : GoodIn wsX2_isStepEnd wsX5_value := goodIn_r _ [11, 12, 13, 14, 15, 23, 24, 25] (by decide +kernel) (by decide +kernel)
set_option maxRecDepth 20000 in
theorem gX2_isStepEnd_X5_value : GoodIn wsX2_isStepEnd (wsV RX2 46 RX5 yX5_value wsX5_value) := goodIn_app (goodIn_of _ (by decide +kernel)) ggX2_isStepEnd_X5_value
theorem dX2_isStepEnd_0 : decode cX2_isStepEnd 0 = .ok (.aload_n 0, 1) := by decide +kernel
theorem dX2_isStepEnd_1 : decode cX2_isStepEnd 1 = .ok (.getfield 14, 3) := by decide +kernel
theorem dX2_isStepEnd_4 : decode cX2_isStepEnd 4 = .ok (.iload_n 1, 1) := by decide +kernel
theorem dX2_isStepEnd_5 : decode cX2_isStepEnd 5 = .ok (.iconst 2, 1) := by decide +kernel
theorem dX2_isStepEnd_6 : decode cX2_isStepEnd 6 = .ok (.invokevirtual 46, 3) := by decide +kernel
theorem dX2_isStepEnd_9 : decode cX2_isStepEnd 9 = .ok (.aload_n 0, 1) := by decide +kernel
theorem dX2_isStepEnd_10 : decode cX2_isStepEnd 10 = .ok (.getfield 14, 3) := by decide +kernel
theorem dX2_isStepEnd_13 : decode cX2_isStepEnd 13 = .ok (.iload_n 1, 1) := by decide +kernel
theorem dX2_isStepEnd_14 : decode cX2_isStepEnd 14 = .ok (.iconst 1, 1) := by decide +kernel
theorem dX2_isStepEnd_15 : decode cX2_isStepEnd 15 = .ok (.isub, 1) := by decide +kernel
theorem dX2_isStepEnd_16 : decode cX2_isStepEnd 16 = .ok (.iconst 2, 1) := by decide +kernel
theorem dX2_isStepEnd_17 : decode cX2_isStepEnd 17 = .ok (.invokevirtual 46, 3) := by decide +kernel
theorem dX2_isStepEnd_20 : decode cX2_isStepEnd 20 = .ok (.isub, 1) := by decide +kernel
theorem dX2_isStepEnd_21 : decode cX2_isStepEnd 21 = .ok (.istore_n 2, 1) := by decide +kernel
theorem dX2_isStepEnd_22 : decode cX2_isStepEnd 22 = .ok (.iload_n 2, 1) := by decide +kernel
theorem dX2_isStepEnd_23 : decode cX2_isStepEnd 23 = .ok (.invokestatic 65, 3) := by decide +kernel
theorem dX2_isStepEnd_26 : decode cX2_isStepEnd 26 = .ok (.aload_n 0, 1) := by decide +kernel
theorem dX2_isStepEnd_27 : decode cX2_isStepEnd 27 = .ok (.getfield 36, 3) := by decide +kernel
theorem dX2_isStepEnd_30 : decode cX2_isStepEnd 30 = .ok (.if_icmp .lt 7, 3) := by decide +kernel
theorem dX2_isStepEnd_33 : decode cX2_isStepEnd 33 = .ok (.iconst 1, 1) := by decide +kernel
theorem dX2_isStepEnd_34 : decode cX2_isStepEnd 34 = .ok (.goto 4, 3) := by decide +kernel
theorem dX2_isStepEnd_37 : decode cX2_isStepEnd 37 = .ok (.iconst 0, 1) := by decide +kernel
theorem dX2_isStepEnd_38 : decode cX2_isStepEnd 38 = .ok (.ireturn, 1) := by decide +kernel
set_option maxRecDepth 20000 in
theorem ggX2_steps_X2_isStepEnd : GoodIn wsX2_steps wsX2_isStepEnd := goodIn_r _ [6, 1, 7, 8, 9, 10, 11, 12, 13, 14, 15, 16, 17, 18, 19, 20, 21, 22, 23, 24, 25, 26, 27, 28, 29, 30] (by decide +kernel) (by decide +kernel)
set_option maxRecDepth 20000 in
theorem gX2_steps_X2_isStepEnd : GoodIn wsX2_steps (wsV RX2 69 RX2 yX2_isStepEnd wsX2_isStepEnd) := goodIn_app (goodIn_of _ (by decide +kernel)) ggX2_steps_X2_isStepEnd
theorem dX2_steps_0 : decode cX2_steps 0 = .ok (.iconst 0, 1) := by decide +kernel
theorem dX2_steps_1 : decode cX2_steps 1 = .ok (.istore_n 1, 1) := by decide +kernel
theorem dX2_steps_2 : decode cX2_steps 2 = .ok (.iconst 1, 1) := by decide +kernel
theorem dX2_steps_3 : decode cX2_steps 3 = .ok (.istore_n 2, 1) := by decide +kernel
theorem dX2_steps_4 : decode cX2_steps 4 = .ok (.iload_n 2, 1) := by decide +kernel
theorem dX2_steps_5 : decode cX2_steps 5 = .ok (.aload_n 0, 1) := by decide +kernel
theorem dX2_steps_6 : decode cX2_steps 6 = .ok (.getfield 14, 3) := by decide +kernel
theorem dX2_steps_9 : decode cX2_steps 9 = .ok (.getfield 43, 3) := by decide +kernel
theorem dX2_steps_12 : decode cX2_steps 12 = .ok (.if_icmp .ge 25, 3) := by decide +kernel
theorem dX2_steps_15 : decode cX2_steps 15 = .ok (.iload_n 1, 1) := by decide +kernel
theorem dX2_steps_16 : decode cX2_steps 16 = .ok (.aload_n 0, 1) := by decide +kernel
theorem dX2_steps_17 : decode cX2_steps 17 = .ok (.iload_n 2, 1) := by decide +kernel
theorem dX2_steps_18 : decode cX2_steps 18 = .ok (.invokevirtual 69, 3) := by decide +kernel
theorem dX2_steps_21 : decode cX2_steps 21 = .ok (.ifCond .eq 7, 3) := by decide +kernel
theorem dX2_steps_24 : decode cX2_steps 24 = .ok (.iconst 1, 1) := by decide +kernel
theorem dX2_steps_25 : decode cX2_steps 25 = .ok (.goto 4, 3) := by decide +kernel
theorem dX2_steps_28 : decode cX2_steps 28 = .ok (.iconst 0, 1) := by decide +kernel
theorem dX2_steps_29 : decode cX2_steps 29 = .ok (.iadd, 1) := by decide +kernel
theorem dX2_steps_30 : decode cX2_steps 30 = .ok (.istore_n 1, 1) := by decide +kernel
theorem dX2_steps_31 : decode cX2_steps 31 = .ok (.iinc 2 1, 3) := by decide +kernel
theorem dX2_steps_34 : decode cX2_steps 34 = .ok (.goto (-30), 3) := by decide +kernel
theorem dX2_steps_37 : decode cX2_steps 37 = .ok (.iload_n 1, 1) := by decide +kernel
theorem dX2_steps_38 : decode cX2_steps 38 = .ok (.ireturn, 1) := by decide +kernel
theorem dX5_init_0 : decode cX5_init 0 = .ok (.aload_n 0, 1) := by decide +kernel
theorem dX5_init_1 : decode cX5_init 1 = .ok (.invokespecial 3, 3) := by decide +kernel
theorem dX5_init_4 : decode cX5_init 4 = .ok (.aload_n 0, 1) := by decide +kernel
theorem dX5_init_5 : decode cX5_init 5 = .ok (.bipush 80, 2) := by decide +kernel
theorem dX5_init_7 : decode cX5_init 7 = .ok (.newarray .int, 2) := by decide +kernel
theorem dX5_init_9 : decode cX5_init 9 = .ok (.putfield 9, 3) := by decide +kernel
theorem dX5_init_12 : decode cX5_init 12 = .ok (.aload_n 0, 1) := by decide +kernel
theorem dX5_init_13 : decode cX5_init 13 = .ok (.iload_n 1, 1) := by decide +kernel
theorem dX5_init_14 : decode cX5_init 14 = .ok (.bipush 20, 2) := by decide +kernel
theorem dX5_init_16 : decode cX5_init 16 = .ok (.invokestatic 15, 3) := by decide +kernel
theorem dX5_init_19 : decode cX5_init 19 = .ok (.putfield 21, 3) := by decide +kernel
theorem dX5_init_22 : decode cX5_init 22 = .ok (.return_, 1) := by decide +kernel
set_option maxRecDepth 20000 in
theorem ggX5_value_X6_at : GoodIn wsX5_value wsX6_at := goodIn_r _ [4] (by decide +kernel) (by decide +kernel)
set_option maxRecDepth 20000 in
theorem gX5_value_X6_at_n25 : GoodIn wsX5_value (wsX6_at) := ggX5_value_X6_at
theorem dX5_value_0 : decode cX5_value 0 = .ok (.aload_n 0, 1) := by decide +kernel
theorem dX5_value_1 : decode cX5_value 1 = .ok (.getfield 9, 3) := by decide +kernel
theorem dX5_value_4 : decode cX5_value 4 = .ok (.iload_n 1, 1) := by decide +kernel
theorem dX5_value_5 : decode cX5_value 5 = .ok (.iconst 4, 1) := by decide +kernel
theorem dX5_value_6 : decode cX5_value 6 = .ok (.imul, 1) := by decide +kernel
theorem dX5_value_7 : decode cX5_value 7 = .ok (.iload_n 2, 1) := by decide +kernel
theorem dX5_value_8 : decode cX5_value 8 = .ok (.iadd, 1) := by decide +kernel
theorem dX5_value_9 : decode cX5_value 9 = .ok (.invokestatic 25, 3) := by decide +kernel
theorem dX5_value_12 : decode cX5_value 12 = .ok (.ireturn, 1) := by decide +kernel
theorem dX5_isFull_0 : decode cX5_isFull 0 = .ok (.aload_n 0, 1) := by decide +kernel
theorem dX5_isFull_1 : decode cX5_isFull 1 = .ok (.getfield 29, 3) := by decide +kernel
theorem dX5_isFull_4 : decode cX5_isFull 4 = .ok (.aload_n 0, 1) := by decide +kernel
theorem dX5_isFull_5 : decode cX5_isFull 5 = .ok (.getfield 21, 3) := by decide +kernel
theorem dX5_isFull_8 : decode cX5_isFull 8 = .ok (.if_icmp .lt 7, 3) := by decide +kernel
theorem dX5_isFull_11 : decode cX5_isFull 11 = .ok (.iconst 1, 1) := by decide +kernel
theorem dX5_isFull_12 : decode cX5_isFull 12 = .ok (.goto 4, 3) := by decide +kernel
theorem dX5_isFull_15 : decode cX5_isFull 15 = .ok (.iconst 0, 1) := by decide +kernel
theorem dX5_isFull_16 : decode cX5_isFull 16 = .ok (.ireturn, 1) := by decide +kernel
set_option maxRecDepth 20000 in
theorem ggX5_hasTime_X5_value : GoodIn wsX5_hasTime wsX5_value := goodIn_r _ [6, 7, 8, 9, 10, 11, 12, 13] (by decide +kernel) (by decide +kernel)
set_option maxRecDepth 20000 in
theorem gX5_hasTime_X5_value : GoodIn wsX5_hasTime (wsV RX5 32 RX5 yX5_value wsX5_value) := goodIn_app (goodIn_of _ (by decide +kernel)) ggX5_hasTime_X5_value
theorem dX5_hasTime_0 : decode cX5_hasTime 0 = .ok (.iconst 0, 1) := by decide +kernel
theorem dX5_hasTime_1 : decode cX5_hasTime 1 = .ok (.istore_n 2, 1) := by decide +kernel
theorem dX5_hasTime_2 : decode cX5_hasTime 2 = .ok (.iload_n 2, 1) := by decide +kernel
theorem dX5_hasTime_3 : decode cX5_hasTime 3 = .ok (.aload_n 0, 1) := by decide +kernel
theorem dX5_hasTime_4 : decode cX5_hasTime 4 = .ok (.getfield 29, 3) := by decide +kernel
theorem dX5_hasTime_7 : decode cX5_hasTime 7 = .ok (.if_icmp .ge 21, 3) := by decide +kernel
theorem dX5_hasTime_10 : decode cX5_hasTime 10 = .ok (.aload_n 0, 1) := by decide +kernel
theorem dX5_hasTime_11 : decode cX5_hasTime 11 = .ok (.iload_n 2, 1) := by decide +kernel
theorem dX5_hasTime_12 : decode cX5_hasTime 12 = .ok (.iconst 0, 1) := by decide +kernel
theorem dX5_hasTime_13 : decode cX5_hasTime 13 = .ok (.invokevirtual 32, 3) := by decide +kernel
theorem dX5_hasTime_16 : decode cX5_hasTime 16 = .ok (.iload_n 1, 1) := by decide +kernel
theorem dX5_hasTime_17 : decode cX5_hasTime 17 = .ok (.if_icmp .ne 5, 3) := by decide +kernel
theorem dX5_hasTime_20 : decode cX5_hasTime 20 = .ok (.iconst 1, 1) := by decide +kernel
theorem dX5_hasTime_21 : decode cX5_hasTime 21 = .ok (.ireturn, 1) := by decide +kernel
theorem dX5_hasTime_22 : decode cX5_hasTime 22 = .ok (.iinc 2 1, 3) := by decide +kernel
theorem dX5_hasTime_25 : decode cX5_hasTime 25 = .ok (.goto (-23), 3) := by decide +kernel
theorem dX5_hasTime_28 : decode cX5_hasTime 28 = .ok (.iconst 0, 1) := by decide +kernel
theorem dX5_hasTime_29 : decode cX5_hasTime 29 = .ok (.ireturn, 1) := by decide +kernel
set_option maxRecDepth 20000 in
theorem ggX5_standsOut_X5_value : GoodIn wsX5_standsOut wsX5_value := goodIn_r _ [6, 7, 8, 9, 10, 11, 12, 13] (by decide +kernel) (by decide +kernel)
set_option maxRecDepth 20000 in
theorem gX5_standsOut_X5_value : GoodIn wsX5_standsOut (wsV RX5 32 RX5 yX5_value wsX5_value) := goodIn_app (goodIn_of _ (by decide +kernel)) ggX5_standsOut_X5_value
theorem dX5_standsOut_0 : decode cX5_standsOut 0 = .ok (.iload_n 1, 1) := by decide +kernel
theorem dX5_standsOut_1 : decode cX5_standsOut 1 = .ok (.ifCond .le 13, 3) := by decide +kernel
theorem dX5_standsOut_4 : decode cX5_standsOut 4 = .ok (.iload_n 1, 1) := by decide +kernel
theorem dX5_standsOut_5 : decode cX5_standsOut 5 = .ok (.aload_n 0, 1) := by decide +kernel
theorem dX5_standsOut_6 : decode cX5_standsOut 6 = .ok (.getfield 29, 3) := by decide +kernel
theorem dX5_standsOut_9 : decode cX5_standsOut 9 = .ok (.iconst 1, 1) := by decide +kernel
theorem dX5_standsOut_10 : decode cX5_standsOut 10 = .ok (.isub, 1) := by decide +kernel
theorem dX5_standsOut_11 : decode cX5_standsOut 11 = .ok (.if_icmp .lt 5, 3) := by decide +kernel
theorem dX5_standsOut_14 : decode cX5_standsOut 14 = .ok (.iconst 0, 1) := by decide +kernel
theorem dX5_standsOut_15 : decode cX5_standsOut 15 = .ok (.ireturn, 1) := by decide +kernel
theorem dX5_standsOut_16 : decode cX5_standsOut 16 = .ok (.aload_n 0, 1) := by decide +kernel
theorem dX5_standsOut_17 : decode cX5_standsOut 17 = .ok (.iload_n 1, 1) := by decide +kernel
theorem dX5_standsOut_18 : decode cX5_standsOut 18 = .ok (.iconst 1, 1) := by decide +kernel
theorem dX5_standsOut_19 : decode cX5_standsOut 19 = .ok (.invokevirtual 32, 3) := by decide +kernel
theorem dX5_standsOut_22 : decode cX5_standsOut 22 = .ok (.istore_n 3, 1) := by decide +kernel
theorem dX5_standsOut_23 : decode cX5_standsOut 23 = .ok (.iload_n 3, 1) := by decide +kernel
theorem dX5_standsOut_24 : decode cX5_standsOut 24 = .ok (.aload_n 0, 1) := by decide +kernel
theorem dX5_standsOut_25 : decode cX5_standsOut 25 = .ok (.iload_n 1, 1) := by decide +kernel
theorem dX5_standsOut_26 : decode cX5_standsOut 26 = .ok (.iconst 1, 1) := by decide +kernel
theorem dX5_standsOut_27 : decode cX5_standsOut 27 = .ok (.isub, 1) := by decide +kernel
theorem dX5_standsOut_28 : decode cX5_standsOut 28 = .ok (.iconst 1, 1) := by decide +kernel
theorem dX5_standsOut_29 : decode cX5_standsOut 29 = .ok (.invokevirtual 32, 3) := by decide +kernel
theorem dX5_standsOut_32 : decode cX5_standsOut 32 = .ok (.isub, 1) := by decide +kernel
theorem dX5_standsOut_33 : decode cX5_standsOut 33 = .ok (.istore 4, 2) := by decide +kernel
theorem dX5_standsOut_35 : decode cX5_standsOut 35 = .ok (.iload_n 3, 1) := by decide +kernel
theorem dX5_standsOut_36 : decode cX5_standsOut 36 = .ok (.aload_n 0, 1) := by decide +kernel
theorem dX5_standsOut_37 : decode cX5_standsOut 37 = .ok (.iload_n 1, 1) := by decide +kernel
theorem dX5_standsOut_38 : decode cX5_standsOut 38 = .ok (.iconst 1, 1) := by decide +kernel
theorem dX5_standsOut_39 : decode cX5_standsOut 39 = .ok (.iadd, 1) := by decide +kernel
theorem dX5_standsOut_40 : decode cX5_standsOut 40 = .ok (.iconst 1, 1) := by decide +kernel
theorem dX5_standsOut_41 : decode cX5_standsOut 41 = .ok (.invokevirtual 32, 3) := by decide +kernel
theorem dX5_standsOut_44 : decode cX5_standsOut 44 = .ok (.isub, 1) := by decide +kernel
theorem dX5_standsOut_45 : decode cX5_standsOut 45 = .ok (.istore 5, 2) := by decide +kernel
theorem dX5_standsOut_47 : decode cX5_standsOut 47 = .ok (.iload 4, 2) := by decide +kernel
theorem dX5_standsOut_49 : decode cX5_standsOut 49 = .ok (.iload_n 2, 1) := by decide +kernel
theorem dX5_standsOut_50 : decode cX5_standsOut 50 = .ok (.if_icmp .le 9, 3) := by decide +kernel
theorem dX5_standsOut_53 : decode cX5_standsOut 53 = .ok (.iload 5, 2) := by decide +kernel
theorem dX5_standsOut_55 : decode cX5_standsOut 55 = .ok (.iload_n 2, 1) := by decide +kernel
theorem dX5_standsOut_56 : decode cX5_standsOut 56 = .ok (.if_icmp .gt 17, 3) := by decide +kernel
theorem dX5_standsOut_59 : decode cX5_standsOut 59 = .ok (.iload 4, 2) := by decide +kernel
theorem dX5_standsOut_61 : decode cX5_standsOut 61 = .ok (.iload_n 2, 1) := by decide +kernel
theorem dX5_standsOut_62 : decode cX5_standsOut 62 = .ok (.ineg, 1) := by decide +kernel
theorem dX5_standsOut_63 : decode cX5_standsOut 63 = .ok (.if_icmp .ge 14, 3) := by decide +kernel
theorem dX5_standsOut_66 : decode cX5_standsOut 66 = .ok (.iload 5, 2) := by decide +kernel
theorem dX5_standsOut_68 : decode cX5_standsOut 68 = .ok (.iload_n 2, 1) := by decide +kernel
theorem dX5_standsOut_69 : decode cX5_standsOut 69 = .ok (.ineg, 1) := by decide +kernel
theorem dX5_standsOut_70 : decode cX5_standsOut 70 = .ok (.if_icmp .ge 7, 3) := by decide +kernel
theorem dX5_standsOut_73 : decode cX5_standsOut 73 = .ok (.iconst 1, 1) := by decide +kernel
theorem dX5_standsOut_74 : decode cX5_standsOut 74 = .ok (.goto 4, 3) := by decide +kernel
theorem dX5_standsOut_77 : decode cX5_standsOut 77 = .ok (.iconst 0, 1) := by decide +kernel
theorem dX5_standsOut_78 : decode cX5_standsOut 78 = .ok (.ireturn, 1) := by decide +kernel
set_option maxRecDepth 20000 in
theorem ggX5_insert_X5_value : GoodIn wsX5_insert wsX5_value := goodIn_r _ [7, 2, 8, 9, 10, 17, 18, 19] (by decide +kernel) (by decide +kernel)
set_option maxRecDepth 20000 in
theorem gX5_insert_X5_value : GoodIn wsX5_insert (wsV RX5 32 RX5 yX5_value wsX5_value) := goodIn_app (goodIn_of _ (by decide +kernel)) ggX5_insert_X5_value
set_option maxRecDepth 20000 in
theorem ggX5_insert_X5_move : GoodIn wsX5_insert wsX5_move := goodIn_r _ [14, 2, 3, 4, 5, 6, 7, 8, 9, 10, 15, 16, 17, 18, 19] (by decide +kernel) (by decide +kernel)
set_option maxRecDepth 20000 in
theorem gX5_insert_X5_move : GoodIn wsX5_insert (wsV RX5 35 RX5 yX5_move wsX5_move) := goodIn_app (goodIn_of _ (by decide +kernel)) ggX5_insert_X5_move
set_option maxRecDepth 20000 in
theorem ggX5_insert_X6_put : GoodIn wsX5_insert wsX6_put := goodIn_r _ [16] (by decide +kernel) (by decide +kernel)
set_option maxRecDepth 20000 in
theorem gX5_insert_X6_put_n39 : GoodIn wsX5_insert (wsX6_put) := ggX5_insert_X6_put
theorem dX5_insert_0 : decode cX5_insert 0 = .ok (.aload_n 0, 1) := by decide +kernel
theorem dX5_insert_1 : decode cX5_insert 1 = .ok (.getfield 29, 3) := by decide +kernel
theorem dX5_insert_4 : decode cX5_insert 4 = .ok (.istore 5, 2) := by decide +kernel
theorem dX5_insert_6 : decode cX5_insert 6 = .ok (.iload 5, 2) := by decide +kernel
theorem dX5_insert_8 : decode cX5_insert 8 = .ok (.ifCond .le 32, 3) := by decide +kernel
theorem dX5_insert_11 : decode cX5_insert 11 = .ok (.aload_n 0, 1) := by decide +kernel
theorem dX5_insert_12 : decode cX5_insert 12 = .ok (.iload 5, 2) := by decide +kernel
theorem dX5_insert_14 : decode cX5_insert 14 = .ok (.iconst 1, 1) := by decide +kernel
theorem dX5_insert_15 : decode cX5_insert 15 = .ok (.isub, 1) := by decide +kernel
theorem dX5_insert_16 : decode cX5_insert 16 = .ok (.iconst 0, 1) := by decide +kernel
theorem dX5_insert_17 : decode cX5_insert 17 = .ok (.invokevirtual 32, 3) := by decide +kernel
theorem dX5_insert_20 : decode cX5_insert 20 = .ok (.iload_n 2, 1) := by decide +kernel
theorem dX5_insert_21 : decode cX5_insert 21 = .ok (.if_icmp .le 19, 3) := by decide +kernel
theorem dX5_insert_24 : decode cX5_insert 24 = .ok (.aload_n 0, 1) := by decide +kernel
theorem dX5_insert_25 : decode cX5_insert 25 = .ok (.iload 5, 2) := by decide +kernel
theorem dX5_insert_27 : decode cX5_insert 27 = .ok (.iconst 1, 1) := by decide +kernel
theorem dX5_insert_28 : decode cX5_insert 28 = .ok (.isub, 1) := by decide +kernel
theorem dX5_insert_29 : decode cX5_insert 29 = .ok (.iload 5, 2) := by decide +kernel
theorem dX5_insert_31 : decode cX5_insert 31 = .ok (.invokevirtual 35, 3) := by decide +kernel
theorem dX5_insert_34 : decode cX5_insert 34 = .ok (.iinc 5 (-1), 3) := by decide +kernel
theorem dX5_insert_37 : decode cX5_insert 37 = .ok (.goto (-31), 3) := by decide +kernel
theorem dX5_insert_40 : decode cX5_insert 40 = .ok (.iload 5, 2) := by decide +kernel
theorem dX5_insert_42 : decode cX5_insert 42 = .ok (.iconst 4, 1) := by decide +kernel
theorem dX5_insert_43 : decode cX5_insert 43 = .ok (.imul, 1) := by decide +kernel
theorem dX5_insert_44 : decode cX5_insert 44 = .ok (.istore 6, 2) := by decide +kernel
theorem dX5_insert_46 : decode cX5_insert 46 = .ok (.aload_n 0, 1) := by decide +kernel
theorem dX5_insert_47 : decode cX5_insert 47 = .ok (.getfield 9, 3) := by decide +kernel
theorem dX5_insert_50 : decode cX5_insert 50 = .ok (.iload 6, 2) := by decide +kernel
theorem dX5_insert_52 : decode cX5_insert 52 = .ok (.iconst 0, 1) := by decide +kernel
theorem dX5_insert_53 : decode cX5_insert 53 = .ok (.iadd, 1) := by decide +kernel
theorem dX5_insert_54 : decode cX5_insert 54 = .ok (.iload_n 2, 1) := by decide +kernel
theorem dX5_insert_55 : decode cX5_insert 55 = .ok (.invokestatic 39, 3) := by decide +kernel
theorem dX5_insert_58 : decode cX5_insert 58 = .ok (.aload_n 0, 1) := by decide +kernel
theorem dX5_insert_59 : decode cX5_insert 59 = .ok (.getfield 9, 3) := by decide +kernel
theorem dX5_insert_62 : decode cX5_insert 62 = .ok (.iload 6, 2) := by decide +kernel
theorem dX5_insert_64 : decode cX5_insert 64 = .ok (.iconst 1, 1) := by decide +kernel
theorem dX5_insert_65 : decode cX5_insert 65 = .ok (.iadd, 1) := by decide +kernel
theorem dX5_insert_66 : decode cX5_insert 66 = .ok (.iload_n 3, 1) := by decide +kernel
theorem dX5_insert_67 : decode cX5_insert 67 = .ok (.invokestatic 39, 3) := by decide +kernel
theorem dX5_insert_70 : decode cX5_insert 70 = .ok (.aload_n 0, 1) := by decide +kernel
theorem dX5_insert_71 : decode cX5_insert 71 = .ok (.getfield 9, 3) := by decide +kernel
theorem dX5_insert_74 : decode cX5_insert 74 = .ok (.iload 6, 2) := by decide +kernel
theorem dX5_insert_76 : decode cX5_insert 76 = .ok (.iconst 2, 1) := by decide +kernel
theorem dX5_insert_77 : decode cX5_insert 77 = .ok (.iadd, 1) := by decide +kernel
theorem dX5_insert_78 : decode cX5_insert 78 = .ok (.iload 4, 2) := by decide +kernel
theorem dX5_insert_80 : decode cX5_insert 80 = .ok (.invokestatic 39, 3) := by decide +kernel
theorem dX5_insert_83 : decode cX5_insert 83 = .ok (.aload_n 0, 1) := by decide +kernel
theorem dX5_insert_84 : decode cX5_insert 84 = .ok (.getfield 9, 3) := by decide +kernel
theorem dX5_insert_87 : decode cX5_insert 87 = .ok (.iload 6, 2) := by decide +kernel
theorem dX5_insert_89 : decode cX5_insert 89 = .ok (.iconst 3, 1) := by decide +kernel
theorem dX5_insert_90 : decode cX5_insert 90 = .ok (.iadd, 1) := by decide +kernel
theorem dX5_insert_91 : decode cX5_insert 91 = .ok (.iload_n 1, 1) := by decide +kernel
theorem dX5_insert_92 : decode cX5_insert 92 = .ok (.invokestatic 39, 3) := by decide +kernel
theorem dX5_insert_95 : decode cX5_insert 95 = .ok (.aload_n 0, 1) := by decide +kernel
theorem dX5_insert_96 : decode cX5_insert 96 = .ok (.dup, 1) := by decide +kernel
theorem dX5_insert_97 : decode cX5_insert 97 = .ok (.getfield 29, 3) := by decide +kernel
theorem dX5_insert_100 : decode cX5_insert 100 = .ok (.iconst 1, 1) := by decide +kernel
theorem dX5_insert_101 : decode cX5_insert 101 = .ok (.iadd, 1) := by decide +kernel
theorem dX5_insert_102 : decode cX5_insert 102 = .ok (.putfield 29, 3) := by decide +kernel
theorem dX5_insert_105 : decode cX5_insert 105 = .ok (.iload 5, 2) := by decide +kernel
theorem dX5_insert_107 : decode cX5_insert 107 = .ok (.ireturn, 1) := by decide +kernel
set_option maxRecDepth 20000 in
theorem ggX5_remove_X5_move : GoodIn wsX5_remove wsX5_move := goodIn_r _ [6, 7, 8, 9, 10, 5, 11, 12, 13, 14, 15, 16, 17, 18, 19] (by decide +kernel) (by decide +kernel)
set_option maxRecDepth 20000 in
theorem gX5_remove_X5_move : GoodIn wsX5_remove (wsV RX5 35 RX5 yX5_move wsX5_move) := goodIn_app (goodIn_of _ (by decide +kernel)) ggX5_remove_X5_move
theorem dX5_remove_0 : decode cX5_remove 0 = .ok (.iload_n 1, 1) := by decide +kernel
theorem dX5_remove_1 : decode cX5_remove 1 = .ok (.iconst 1, 1) := by decide +kernel
theorem dX5_remove_2 : decode cX5_remove 2 = .ok (.iadd, 1) := by decide +kernel
theorem dX5_remove_3 : decode cX5_remove 3 = .ok (.istore_n 2, 1) := by decide +kernel
theorem dX5_remove_4 : decode cX5_remove 4 = .ok (.iload_n 2, 1) := by decide +kernel
theorem dX5_remove_5 : decode cX5_remove 5 = .ok (.aload_n 0, 1) := by decide +kernel
theorem dX5_remove_6 : decode cX5_remove 6 = .ok (.getfield 29, 3) := by decide +kernel
theorem dX5_remove_9 : decode cX5_remove 9 = .ok (.if_icmp .ge 17, 3) := by decide +kernel
theorem dX5_remove_12 : decode cX5_remove 12 = .ok (.aload_n 0, 1) := by decide +kernel
theorem dX5_remove_13 : decode cX5_remove 13 = .ok (.iload_n 2, 1) := by decide +kernel
theorem dX5_remove_14 : decode cX5_remove 14 = .ok (.iload_n 2, 1) := by decide +kernel
theorem dX5_remove_15 : decode cX5_remove 15 = .ok (.iconst 1, 1) := by decide +kernel
theorem dX5_remove_16 : decode cX5_remove 16 = .ok (.isub, 1) := by decide +kernel
theorem dX5_remove_17 : decode cX5_remove 17 = .ok (.invokevirtual 35, 3) := by decide +kernel
theorem dX5_remove_20 : decode cX5_remove 20 = .ok (.iinc 2 1, 3) := by decide +kernel
theorem dX5_remove_23 : decode cX5_remove 23 = .ok (.goto (-19), 3) := by decide +kernel
theorem dX5_remove_26 : decode cX5_remove 26 = .ok (.aload_n 0, 1) := by decide +kernel
theorem dX5_remove_27 : decode cX5_remove 27 = .ok (.dup, 1) := by decide +kernel
theorem dX5_remove_28 : decode cX5_remove 28 = .ok (.getfield 29, 3) := by decide +kernel
theorem dX5_remove_31 : decode cX5_remove 31 = .ok (.iconst 1, 1) := by decide +kernel
theorem dX5_remove_32 : decode cX5_remove 32 = .ok (.isub, 1) := by decide +kernel
theorem dX5_remove_33 : decode cX5_remove 33 = .ok (.putfield 29, 3) := by decide +kernel
theorem dX5_remove_36 : decode cX5_remove 36 = .ok (.return_, 1) := by decide +kernel
theorem dX5_copyFrom_0 : decode cX5_copyFrom 0 = .ok (.aload_n 1, 1) := by decide +kernel
theorem dX5_copyFrom_1 : decode cX5_copyFrom 1 = .ok (.getfield 9, 3) := by decide +kernel
theorem dX5_copyFrom_4 : decode cX5_copyFrom 4 = .ok (.iconst 0, 1) := by decide +kernel
theorem dX5_copyFrom_5 : decode cX5_copyFrom 5 = .ok (.aload_n 0, 1) := by decide +kernel
theorem dX5_copyFrom_6 : decode cX5_copyFrom 6 = .ok (.getfield 9, 3) := by decide +kernel
theorem dX5_copyFrom_9 : decode cX5_copyFrom 9 = .ok (.iconst 0, 1) := by decide +kernel
theorem dX5_copyFrom_10 : decode cX5_copyFrom 10 = .ok (.aload_n 1, 1) := by decide +kernel
theorem dX5_copyFrom_11 : decode cX5_copyFrom 11 = .ok (.getfield 9, 3) := by decide +kernel
theorem dX5_copyFrom_14 : decode cX5_copyFrom 14 = .ok (.arraylength, 1) := by decide +kernel
theorem dX5_copyFrom_15 : decode cX5_copyFrom 15 = .ok (.aload_n 0, 1) := by decide +kernel
theorem dX5_copyFrom_16 : decode cX5_copyFrom 16 = .ok (.getfield 9, 3) := by decide +kernel
theorem dX5_copyFrom_19 : decode cX5_copyFrom 19 = .ok (.arraylength, 1) := by decide +kernel
theorem dX5_copyFrom_20 : decode cX5_copyFrom 20 = .ok (.invokestatic 15, 3) := by decide +kernel
theorem dX5_copyFrom_23 : decode cX5_copyFrom 23 = .ok (.invokestatic 43, 3) := by decide +kernel
theorem dX5_copyFrom_26 : decode cX5_copyFrom 26 = .ok (.aload_n 0, 1) := by decide +kernel
theorem dX5_copyFrom_27 : decode cX5_copyFrom 27 = .ok (.aload_n 1, 1) := by decide +kernel
theorem dX5_copyFrom_28 : decode cX5_copyFrom 28 = .ok (.getfield 29, 3) := by decide +kernel
theorem dX5_copyFrom_31 : decode cX5_copyFrom 31 = .ok (.putfield 29, 3) := by decide +kernel
theorem dX5_copyFrom_34 : decode cX5_copyFrom 34 = .ok (.return_, 1) := by decide +kernel
set_option maxRecDepth 20000 in
theorem ggX5_move_X5_value : GoodIn wsX5_move wsX5_value := goodIn_r _ [6, 1, 7, 8, 9, 12, 13, 14] (by decide +kernel) (by decide +kernel)
set_option maxRecDepth 20000 in
theorem gX5_move_X5_value : GoodIn wsX5_move (wsV RX5 32 RX5 yX5_value wsX5_value) := goodIn_app (goodIn_of _ (by decide +kernel)) ggX5_move_X5_value
set_option maxRecDepth 20000 in
theorem ggX5_move_X6_put : GoodIn wsX5_move wsX6_put := goodIn_r _ [11] (by decide +kernel) (by decide +kernel)
set_option maxRecDepth 20000 in
theorem gX5_move_X6_put_n39 : GoodIn wsX5_move (wsX6_put) := ggX5_move_X6_put
theorem dX5_move_0 : decode cX5_move 0 = .ok (.iconst 0, 1) := by decide +kernel
theorem dX5_move_1 : decode cX5_move 1 = .ok (.istore_n 3, 1) := by decide +kernel
theorem dX5_move_2 : decode cX5_move 2 = .ok (.iload_n 3, 1) := by decide +kernel
theorem dX5_move_3 : decode cX5_move 3 = .ok (.iconst 4, 1) := by decide +kernel
theorem dX5_move_4 : decode cX5_move 4 = .ok (.if_icmp .ge 27, 3) := by decide +kernel
theorem dX5_move_7 : decode cX5_move 7 = .ok (.aload_n 0, 1) := by decide +kernel
theorem dX5_move_8 : decode cX5_move 8 = .ok (.getfield 9, 3) := by decide +kernel
theorem dX5_move_11 : decode cX5_move 11 = .ok (.iload_n 2, 1) := by decide +kernel
theorem dX5_move_12 : decode cX5_move 12 = .ok (.iconst 4, 1) := by decide +kernel
theorem dX5_move_13 : decode cX5_move 13 = .ok (.imul, 1) := by decide +kernel
theorem dX5_move_14 : decode cX5_move 14 = .ok (.iload_n 3, 1) := by decide +kernel
theorem dX5_move_15 : decode cX5_move 15 = .ok (.iadd, 1) := by decide +kernel
theorem dX5_move_16 : decode cX5_move 16 = .ok (.aload_n 0, 1) := by decide +kernel
theorem dX5_move_17 : decode cX5_move 17 = .ok (.iload_n 1, 1) := by decide +kernel
theorem dX5_move_18 : decode cX5_move 18 = .ok (.iload_n 3, 1) := by decide +kernel
theorem dX5_move_19 : decode cX5_move 19 = .ok (.invokevirtual 32, 3) := by decide +kernel
theorem dX5_move_22 : decode cX5_move 22 = .ok (.invokestatic 39, 3) := by decide +kernel
theorem dX5_move_25 : decode cX5_move 25 = .ok (.iinc 3 1, 3) := by decide +kernel
theorem dX5_move_28 : decode cX5_move 28 = .ok (.goto (-26), 3) := by decide +kernel
theorem dX5_move_31 : decode cX5_move 31 = .ok (.return_, 1) := by decide +kernel
theorem dJ9_floorDiv_7cf53_0 : decode cJ9_floorDiv_7cf53 0 = .ok (.iload_n 0, 1) := by decide +kernel
theorem dJ9_floorDiv_7cf53_1 : decode cJ9_floorDiv_7cf53 1 = .ok (.iload_n 1, 1) := by decide +kernel
theorem dJ9_floorDiv_7cf53_2 : decode cJ9_floorDiv_7cf53 2 = .ok (.idiv, 1) := by decide +kernel
theorem dJ9_floorDiv_7cf53_3 : decode cJ9_floorDiv_7cf53 3 = .ok (.istore_n 2, 1) := by decide +kernel
theorem dJ9_floorDiv_7cf53_4 : decode cJ9_floorDiv_7cf53 4 = .ok (.iload_n 0, 1) := by decide +kernel
theorem dJ9_floorDiv_7cf53_5 : decode cJ9_floorDiv_7cf53 5 = .ok (.iload_n 1, 1) := by decide +kernel
theorem dJ9_floorDiv_7cf53_6 : decode cJ9_floorDiv_7cf53 6 = .ok (.ixor, 1) := by decide +kernel
theorem dJ9_floorDiv_7cf53_7 : decode cJ9_floorDiv_7cf53 7 = .ok (.ifCond .ge 14, 3) := by decide +kernel
theorem dJ9_floorDiv_7cf53_10 : decode cJ9_floorDiv_7cf53 10 = .ok (.iload_n 2, 1) := by decide +kernel
theorem dJ9_floorDiv_7cf53_11 : decode cJ9_floorDiv_7cf53 11 = .ok (.iload_n 1, 1) := by decide +kernel
theorem dJ9_floorDiv_7cf53_12 : decode cJ9_floorDiv_7cf53 12 = .ok (.imul, 1) := by decide +kernel
theorem dJ9_floorDiv_7cf53_13 : decode cJ9_floorDiv_7cf53 13 = .ok (.iload_n 0, 1) := by decide +kernel
theorem dJ9_floorDiv_7cf53_14 : decode cJ9_floorDiv_7cf53 14 = .ok (.if_icmp .eq 7, 3) := by decide +kernel
theorem dJ9_floorDiv_7cf53_17 : decode cJ9_floorDiv_7cf53 17 = .ok (.iload_n 2, 1) := by decide +kernel
theorem dJ9_floorDiv_7cf53_18 : decode cJ9_floorDiv_7cf53 18 = .ok (.iconst 1, 1) := by decide +kernel
theorem dJ9_floorDiv_7cf53_19 : decode cJ9_floorDiv_7cf53 19 = .ok (.isub, 1) := by decide +kernel
theorem dJ9_floorDiv_7cf53_20 : decode cJ9_floorDiv_7cf53 20 = .ok (.ireturn, 1) := by decide +kernel
theorem dJ9_floorDiv_7cf53_21 : decode cJ9_floorDiv_7cf53 21 = .ok (.iload_n 2, 1) := by decide +kernel
theorem dJ9_floorDiv_7cf53_22 : decode cJ9_floorDiv_7cf53 22 = .ok (.ireturn, 1) := by decide +kernel
theorem dJ9_floorDiv_f86c9_0 : decode cJ9_floorDiv_f86c9 0 = .ok (.lload_n 0, 1) := by decide +kernel
theorem dJ9_floorDiv_f86c9_1 : decode cJ9_floorDiv_f86c9 1 = .ok (.lload_n 2, 1) := by decide +kernel
theorem dJ9_floorDiv_f86c9_2 : decode cJ9_floorDiv_f86c9 2 = .ok (.ldiv, 1) := by decide +kernel
theorem dJ9_floorDiv_f86c9_3 : decode cJ9_floorDiv_f86c9 3 = .ok (.lstore 4, 2) := by decide +kernel
theorem dJ9_floorDiv_f86c9_5 : decode cJ9_floorDiv_f86c9 5 = .ok (.lload_n 0, 1) := by decide +kernel
theorem dJ9_floorDiv_f86c9_6 : decode cJ9_floorDiv_f86c9 6 = .ok (.lload_n 2, 1) := by decide +kernel
theorem dJ9_floorDiv_f86c9_7 : decode cJ9_floorDiv_f86c9 7 = .ok (.lxor, 1) := by decide +kernel
theorem dJ9_floorDiv_f86c9_8 : decode cJ9_floorDiv_f86c9 8 = .ok (.lconst 0, 1) := by decide +kernel
theorem dJ9_floorDiv_f86c9_9 : decode cJ9_floorDiv_f86c9 9 = .ok (.lcmp, 1) := by decide +kernel
theorem dJ9_floorDiv_f86c9_10 : decode cJ9_floorDiv_f86c9 10 = .ok (.ifCond .ge 17, 3) := by decide +kernel
theorem dJ9_floorDiv_f86c9_13 : decode cJ9_floorDiv_f86c9 13 = .ok (.lload 4, 2) := by decide +kernel
theorem dJ9_floorDiv_f86c9_15 : decode cJ9_floorDiv_f86c9 15 = .ok (.lload_n 2, 1) := by decide +kernel
theorem dJ9_floorDiv_f86c9_16 : decode cJ9_floorDiv_f86c9 16 = .ok (.lmul, 1) := by decide +kernel
theorem dJ9_floorDiv_f86c9_17 : decode cJ9_floorDiv_f86c9 17 = .ok (.lload_n 0, 1) := by decide +kernel
theorem dJ9_floorDiv_f86c9_18 : decode cJ9_floorDiv_f86c9 18 = .ok (.lcmp, 1) := by decide +kernel
theorem dJ9_floorDiv_f86c9_19 : decode cJ9_floorDiv_f86c9 19 = .ok (.ifCond .eq 8, 3) := by decide +kernel
theorem dJ9_floorDiv_f86c9_22 : decode cJ9_floorDiv_f86c9 22 = .ok (.lload 4, 2) := by decide +kernel
theorem dJ9_floorDiv_f86c9_24 : decode cJ9_floorDiv_f86c9 24 = .ok (.lconst 1, 1) := by decide +kernel
theorem dJ9_floorDiv_f86c9_25 : decode cJ9_floorDiv_f86c9 25 = .ok (.lsub, 1) := by decide +kernel
theorem dJ9_floorDiv_f86c9_26 : decode cJ9_floorDiv_f86c9 26 = .ok (.lreturn, 1) := by decide +kernel
theorem dJ9_floorDiv_f86c9_27 : decode cJ9_floorDiv_f86c9 27 = .ok (.lload 4, 2) := by decide +kernel
theorem dJ9_floorDiv_f86c9_29 : decode cJ9_floorDiv_f86c9 29 = .ok (.lreturn, 1) := by decide +kernel
theorem dJ9_abs_0f7a4_0 : decode cJ9_abs_0f7a4 0 = .ok (.iload_n 0, 1) := by decide +kernel
theorem dJ9_abs_0f7a4_1 : decode cJ9_abs_0f7a4 1 = .ok (.ifCond .ge 8, 3) := by decide +kernel
theorem dJ9_abs_0f7a4_4 : decode cJ9_abs_0f7a4 4 = .ok (.iload_n 0, 1) := by decide +kernel
theorem dJ9_abs_0f7a4_5 : decode cJ9_abs_0f7a4 5 = .ok (.ineg, 1) := by decide +kernel
theorem dJ9_abs_0f7a4_6 : decode cJ9_abs_0f7a4 6 = .ok (.goto 4, 3) := by decide +kernel
theorem dJ9_abs_0f7a4_9 : decode cJ9_abs_0f7a4 9 = .ok (.iload_n 0, 1) := by decide +kernel
theorem dJ9_abs_0f7a4_10 : decode cJ9_abs_0f7a4 10 = .ok (.ireturn, 1) := by decide +kernel
theorem dJ9_max_7cf53_0 : decode cJ9_max_7cf53 0 = .ok (.iload_n 0, 1) := by decide +kernel
theorem dJ9_max_7cf53_1 : decode cJ9_max_7cf53 1 = .ok (.iload_n 1, 1) := by decide +kernel
theorem dJ9_max_7cf53_2 : decode cJ9_max_7cf53 2 = .ok (.if_icmp .lt 7, 3) := by decide +kernel
theorem dJ9_max_7cf53_5 : decode cJ9_max_7cf53 5 = .ok (.iload_n 0, 1) := by decide +kernel
theorem dJ9_max_7cf53_6 : decode cJ9_max_7cf53 6 = .ok (.goto 4, 3) := by decide +kernel
theorem dJ9_max_7cf53_9 : decode cJ9_max_7cf53 9 = .ok (.iload_n 1, 1) := by decide +kernel
theorem dJ9_max_7cf53_10 : decode cJ9_max_7cf53 10 = .ok (.ireturn, 1) := by decide +kernel
theorem dJ9_min_7cf53_0 : decode cJ9_min_7cf53 0 = .ok (.iload_n 0, 1) := by decide +kernel
theorem dJ9_min_7cf53_1 : decode cJ9_min_7cf53 1 = .ok (.iload_n 1, 1) := by decide +kernel
theorem dJ9_min_7cf53_2 : decode cJ9_min_7cf53 2 = .ok (.if_icmp .gt 7, 3) := by decide +kernel
theorem dJ9_min_7cf53_5 : decode cJ9_min_7cf53 5 = .ok (.iload_n 0, 1) := by decide +kernel
theorem dJ9_min_7cf53_6 : decode cJ9_min_7cf53 6 = .ok (.goto 4, 3) := by decide +kernel
theorem dJ9_min_7cf53_9 : decode cJ9_min_7cf53 9 = .ok (.iload_n 1, 1) := by decide +kernel
theorem dJ9_min_7cf53_10 : decode cJ9_min_7cf53 10 = .ok (.ireturn, 1) := by decide +kernel
end
section
theorem dX3_init_0 : decode cX3_init 0 = .ok (.aload_n 0, 1) := by decide +kernel
theorem dX3_init_1 : decode cX3_init 1 = .ok (.invokespecial 3, 3) := by decide +kernel
theorem dX3_init_4 : decode cX3_init 4 = .ok (.aload_n 0, 1) := by decide +kernel
theorem dX3_init_5 : decode cX3_init 5 = .ok (.bipush 20, 2) := by decide +kernel
theorem dX3_init_7 : decode cX3_init 7 = .ok (.newarray .int, 2) := by decide +kernel
theorem dX3_init_9 : decode cX3_init 9 = .ok (.putfield 9, 3) := by decide +kernel
theorem dX3_init_12 : decode cX3_init 12 = .ok (.aload_n 0, 1) := by decide +kernel
theorem dX3_init_13 : decode cX3_init 13 = .ok (.bipush 20, 2) := by decide +kernel
theorem dX3_init_15 : decode cX3_init 15 = .ok (.newarray .int, 2) := by decide +kernel
theorem dX3_init_17 : decode cX3_init 17 = .ok (.putfield 15, 3) := by decide +kernel
theorem dX3_init_20 : decode cX3_init 20 = .ok (.aload_n 0, 1) := by decide +kernel
theorem dX3_init_21 : decode cX3_init 21 = .ok (.bipush 20, 2) := by decide +kernel
theorem dX3_init_23 : decode cX3_init 23 = .ok (.newarray .int, 2) := by decide +kernel
theorem dX3_init_25 : decode cX3_init 25 = .ok (.putfield 18, 3) := by decide +kernel
theorem dX3_init_28 : decode cX3_init 28 = .ok (.aload_n 0, 1) := by decide +kernel
theorem dX3_init_29 : decode cX3_init 29 = .ok (.bipush 20, 2) := by decide +kernel
theorem dX3_init_31 : decode cX3_init 31 = .ok (.newarray .int, 2) := by decide +kernel
theorem dX3_init_33 : decode cX3_init 33 = .ok (.putfield 21, 3) := by decide +kernel
theorem dX3_init_36 : decode cX3_init 36 = .ok (.aload_n 0, 1) := by decide +kernel
theorem dX3_init_37 : decode cX3_init 37 = .ok (.bipush 20, 2) := by decide +kernel
theorem dX3_init_39 : decode cX3_init 39 = .ok (.newarray .int, 2) := by decide +kernel
theorem dX3_init_41 : decode cX3_init 41 = .ok (.putfield 24, 3) := by decide +kernel
theorem dX3_init_44 : decode cX3_init 44 = .ok (.aload_n 0, 1) := by decide +kernel
theorem dX3_init_45 : decode cX3_init 45 = .ok (.bipush 20, 2) := by decide +kernel
theorem dX3_init_47 : decode cX3_init 47 = .ok (.newarray .int, 2) := by decide +kernel
theorem dX3_init_49 : decode cX3_init 49 = .ok (.putfield 27, 3) := by decide +kernel
theorem dX3_init_52 : decode cX3_init 52 = .ok (.aload_n 0, 1) := by decide +kernel
theorem dX3_init_53 : decode cX3_init 53 = .ok (.bipush 20, 2) := by decide +kernel
theorem dX3_init_55 : decode cX3_init 55 = .ok (.newarray .int, 2) := by decide +kernel
theorem dX3_init_57 : decode cX3_init 57 = .ok (.putfield 30, 3) := by decide +kernel
theorem dX3_init_60 : decode cX3_init 60 = .ok (.aload_n 0, 1) := by decide +kernel
theorem dX3_init_61 : decode cX3_init 61 = .ok (.bipush 20, 2) := by decide +kernel
theorem dX3_init_63 : decode cX3_init 63 = .ok (.newarray .int, 2) := by decide +kernel
theorem dX3_init_65 : decode cX3_init 65 = .ok (.putfield 33, 3) := by decide +kernel
theorem dX3_init_68 : decode cX3_init 68 = .ok (.return_, 1) := by decide +kernel
set_option maxRecDepth 20000 in
theorem ggX3_workOut_X2_track : GoodIn wsX3_workOut wsX2_track := goodIn_r _ [12, 13, 14, 15, 16, 129, 130, 131, 132, 133, 134, 135] (by decide +kernel) (by decide +kernel)
set_option maxRecDepth 20000 in
theorem gX3_workOut_X2_track : GoodIn wsX3_workOut (wsV RX3 36 RX2 yX2_track wsX2_track) := goodIn_app (goodIn_of _ (by decide +kernel)) ggX3_workOut_X2_track
set_option maxRecDepth 20000 in
theorem ggX3_workOut_X5_value : GoodIn wsX3_workOut wsX5_value := goodIn_r _ [21, 22, 23, 24, 25, 114, 115, 116] (by decide +kernel) (by decide +kernel)
set_option maxRecDepth 20000 in
theorem gX3_workOut_X5_value : GoodIn wsX3_workOut (wsV RX3 49 RX5 yX5_value wsX5_value) := goodIn_app (goodIn_of _ (by decide +kernel)) ggX3_workOut_X5_value
set_option maxRecDepth 20000 in
theorem ggX3_workOut_X6_put : GoodIn wsX3_workOut wsX6_put := goodIn_r _ [27] (by decide +kernel) (by decide +kernel)
set_option maxRecDepth 20000 in
theorem gX3_workOut_X6_put_n53 : GoodIn wsX3_workOut (wsX6_put) := ggX3_workOut_X6_put
set_option maxRecDepth 20000 in
theorem ggX3_workOut_X2_heightAt : GoodIn wsX3_workOut wsX2_heightAt := goodIn_r _ [31, 32, 33, 34, 35, 36, 37, 11, 38, 16, 39, 18, 19, 20, 21, 22, 23, 24, 25, 40, 41, 42, 43, 44, 45, 46, 47, 48, 129, 130, 131, 132, 133, 134, 135, 114, 115, 116] (by decide +kernel) (by decide +kernel)
set_option maxRecDepth 20000 in
theorem gX3_workOut_X2_heightAt : GoodIn wsX3_workOut (wsV RX3 57 RX2 yX2_heightAt wsX2_heightAt) := goodIn_app (goodIn_of _ (by decide +kernel)) ggX3_workOut_X2_heightAt
set_option maxRecDepth 20000 in
theorem ggX3_workOut_X5_standsOut : GoodIn wsX3_workOut wsX5_standsOut := goodIn_r _ [52, 53, 54, 18, 19, 20, 21, 22, 23, 24, 25, 114, 115, 116] (by decide +kernel) (by decide +kernel)
set_option maxRecDepth 20000 in
theorem gX3_workOut_X5_standsOut : GoodIn wsX3_workOut (wsV RX3 64 RX5 yX5_standsOut wsX5_standsOut) := goodIn_app (goodIn_of _ (by decide +kernel)) ggX3_workOut_X5_standsOut
set_option maxRecDepth 20000 in
theorem ggX3_workOut_X3_countKinds : GoodIn wsX3_workOut wsX3_countKinds := goodIn_r _ [59, 60, 61, 1, 62, 63, 64, 58, 65, 5, 23, 24, 25, 66, 67, 68, 69, 4, 70, 117, 118, 119, 120, 121, 122, 123, 124, 125, 126, 127, 128] (by decide +kernel) (by decide +kernel)
set_option maxRecDepth 20000 in
theorem gX3_workOut_X3_countKinds : GoodIn wsX3_workOut (wsV RX3 68 RX3 yX3_countKinds wsX3_countKinds) := goodIn_app (goodIn_of _ (by decide +kernel)) ggX3_workOut_X3_countKinds
set_option maxRecDepth 20000 in
theorem ggX3_workOut_X3_findLoops : GoodIn wsX3_workOut wsX3_findLoops := goodIn_r _ [74, 75, 1, 76, 77, 66, 67, 68, 58, 69, 4, 70, 5, 23, 24, 25, 78, 79, 80, 81, 3, 26, 27, 117, 118, 119, 120, 121, 122, 123, 124, 125, 126, 127, 128] (by decide +kernel) (by decide +kernel)
set_option maxRecDepth 20000 in
theorem gX3_workOut_X3_findLoops : GoodIn wsX3_workOut (wsV RX3 71 RX3 yX3_findLoops wsX3_findLoops) := goodIn_app (goodIn_of _ (by decide +kernel)) ggX3_workOut_X3_findLoops
set_option maxRecDepth 20000 in
theorem ggX3_workOut_X3_shortestLoop : GoodIn wsX3_workOut wsX3_shortestLoop := goodIn_r _ [85, 75, 66, 67, 68, 58, 69, 4, 70, 5, 23, 24, 25, 86, 87, 88, 89, 76, 90, 91, 92, 93, 77, 94, 95, 96, 97, 2, 117, 118, 119, 120, 121, 122, 123, 124, 125, 126, 127, 128] (by decide +kernel) (by decide +kernel)
set_option maxRecDepth 20000 in
theorem gX3_workOut_X3_shortestLoop : GoodIn wsX3_workOut (wsV RX3 74 RX3 yX3_shortestLoop wsX3_shortestLoop) := goodIn_app (goodIn_of _ (by decide +kernel)) ggX3_workOut_X3_shortestLoop
set_option maxRecDepth 20000 in
theorem ggX3_workOut_X3_withoutDrift : GoodIn wsX3_workOut wsX3_withoutDrift := goodIn_r _ [101, 70, 2, 66, 67, 68, 58, 69, 4, 5, 23, 24, 25, 102, 103, 104, 105, 6, 106, 107, 108, 109, 86, 87, 88, 89, 76, 110, 111, 112, 113, 90, 91, 92, 93, 77, 94, 95, 96, 97, 40, 41, 42, 43, 44, 45, 117, 118, 119, 120, 121, 122, 123, 124, 125, 126, 127, 128] (by decide +kernel) (by decide +kernel)
set_option maxRecDepth 20000 in
theorem gX3_workOut_X3_withoutDrift : GoodIn wsX3_workOut (wsV RX3 78 RX3 yX3_withoutDrift wsX3_withoutDrift) := goodIn_app (goodIn_of _ (by decide +kernel)) ggX3_workOut_X3_withoutDrift
theorem dX3_workOut_0 : decode cX3_workOut 0 = .ok (.aload_n 1, 1) := by decide +kernel
theorem dX3_workOut_1 : decode cX3_workOut 1 = .ok (.iload_n 2, 1) := by decide +kernel
theorem dX3_workOut_2 : decode cX3_workOut 2 = .ok (.invokevirtual 36, 3) := by decide +kernel
theorem dX3_workOut_5 : decode cX3_workOut 5 = .ok (.astore_n 3, 1) := by decide +kernel
theorem dX3_workOut_6 : decode cX3_workOut 6 = .ok (.aload_n 0, 1) := by decide +kernel
theorem dX3_workOut_7 : decode cX3_workOut 7 = .ok (.aload_n 3, 1) := by decide +kernel
theorem dX3_workOut_8 : decode cX3_workOut 8 = .ok (.getfield 42, 3) := by decide +kernel
theorem dX3_workOut_11 : decode cX3_workOut 11 = .ok (.putfield 48, 3) := by decide +kernel
theorem dX3_workOut_14 : decode cX3_workOut 14 = .ok (.iconst 0, 1) := by decide +kernel
theorem dX3_workOut_15 : decode cX3_workOut 15 = .ok (.istore 4, 2) := by decide +kernel
theorem dX3_workOut_17 : decode cX3_workOut 17 = .ok (.iload 4, 2) := by decide +kernel
theorem dX3_workOut_19 : decode cX3_workOut 19 = .ok (.aload_n 0, 1) := by decide +kernel
theorem dX3_workOut_20 : decode cX3_workOut 20 = .ok (.getfield 48, 3) := by decide +kernel
theorem dX3_workOut_23 : decode cX3_workOut 23 = .ok (.if_icmp .ge 109, 3) := by decide +kernel
theorem dX3_workOut_26 : decode cX3_workOut 26 = .ok (.aload_n 3, 1) := by decide +kernel
theorem dX3_workOut_27 : decode cX3_workOut 27 = .ok (.iload 4, 2) := by decide +kernel
theorem dX3_workOut_29 : decode cX3_workOut 29 = .ok (.iconst 0, 1) := by decide +kernel
theorem dX3_workOut_30 : decode cX3_workOut 30 = .ok (.invokevirtual 49, 3) := by decide +kernel
theorem dX3_workOut_33 : decode cX3_workOut 33 = .ok (.istore 5, 2) := by decide +kernel
theorem dX3_workOut_35 : decode cX3_workOut 35 = .ok (.aload_n 3, 1) := by decide +kernel
theorem dX3_workOut_36 : decode cX3_workOut 36 = .ok (.iload 4, 2) := by decide +kernel
theorem dX3_workOut_38 : decode cX3_workOut 38 = .ok (.iconst 1, 1) := by decide +kernel
theorem dX3_workOut_39 : decode cX3_workOut 39 = .ok (.invokevirtual 49, 3) := by decide +kernel
theorem dX3_workOut_42 : decode cX3_workOut 42 = .ok (.istore 6, 2) := by decide +kernel
theorem dX3_workOut_44 : decode cX3_workOut 44 = .ok (.aload_n 3, 1) := by decide +kernel
theorem dX3_workOut_45 : decode cX3_workOut 45 = .ok (.iload 4, 2) := by decide +kernel
theorem dX3_workOut_47 : decode cX3_workOut 47 = .ok (.iconst 2, 1) := by decide +kernel
theorem dX3_workOut_48 : decode cX3_workOut 48 = .ok (.invokevirtual 49, 3) := by decide +kernel
theorem dX3_workOut_51 : decode cX3_workOut 51 = .ok (.istore 7, 2) := by decide +kernel
theorem dX3_workOut_53 : decode cX3_workOut 53 = .ok (.aload_n 0, 1) := by decide +kernel
theorem dX3_workOut_54 : decode cX3_workOut 54 = .ok (.getfield 9, 3) := by decide +kernel
theorem dX3_workOut_57 : decode cX3_workOut 57 = .ok (.iload 4, 2) := by decide +kernel
theorem dX3_workOut_59 : decode cX3_workOut 59 = .ok (.iload 5, 2) := by decide +kernel
theorem dX3_workOut_61 : decode cX3_workOut 61 = .ok (.invokestatic 53, 3) := by decide +kernel
theorem dX3_workOut_64 : decode cX3_workOut 64 = .ok (.aload_n 0, 1) := by decide +kernel
theorem dX3_workOut_65 : decode cX3_workOut 65 = .ok (.getfield 15, 3) := by decide +kernel
theorem dX3_workOut_68 : decode cX3_workOut 68 = .ok (.iload 4, 2) := by decide +kernel
theorem dX3_workOut_70 : decode cX3_workOut 70 = .ok (.aload_n 3, 1) := by decide +kernel
theorem dX3_workOut_71 : decode cX3_workOut 71 = .ok (.iload 4, 2) := by decide +kernel
theorem dX3_workOut_73 : decode cX3_workOut 73 = .ok (.iconst 3, 1) := by decide +kernel
theorem dX3_workOut_74 : decode cX3_workOut 74 = .ok (.invokevirtual 49, 3) := by decide +kernel
theorem dX3_workOut_77 : decode cX3_workOut 77 = .ok (.invokestatic 53, 3) := by decide +kernel
theorem dX3_workOut_80 : decode cX3_workOut 80 = .ok (.aload_n 0, 1) := by decide +kernel
theorem dX3_workOut_81 : decode cX3_workOut 81 = .ok (.getfield 18, 3) := by decide +kernel
theorem dX3_workOut_84 : decode cX3_workOut 84 = .ok (.iload 4, 2) := by decide +kernel
theorem dX3_workOut_86 : decode cX3_workOut 86 = .ok (.aload_n 1, 1) := by decide +kernel
theorem dX3_workOut_87 : decode cX3_workOut 87 = .ok (.iload 5, 2) := by decide +kernel
theorem dX3_workOut_89 : decode cX3_workOut 89 = .ok (.iload 6, 2) := by decide +kernel
theorem dX3_workOut_91 : decode cX3_workOut 91 = .ok (.iload 7, 2) := by decide +kernel
theorem dX3_workOut_93 : decode cX3_workOut 93 = .ok (.invokevirtual 57, 3) := by decide +kernel
theorem dX3_workOut_96 : decode cX3_workOut 96 = .ok (.invokestatic 53, 3) := by decide +kernel
theorem dX3_workOut_99 : decode cX3_workOut 99 = .ok (.aload_n 0, 1) := by decide +kernel
theorem dX3_workOut_100 : decode cX3_workOut 100 = .ok (.getfield 21, 3) := by decide +kernel
theorem dX3_workOut_103 : decode cX3_workOut 103 = .ok (.iload 4, 2) := by decide +kernel
theorem dX3_workOut_105 : decode cX3_workOut 105 = .ok (.aload_n 3, 1) := by decide +kernel
theorem dX3_workOut_106 : decode cX3_workOut 106 = .ok (.iload 4, 2) := by decide +kernel
theorem dX3_workOut_108 : decode cX3_workOut 108 = .ok (.aload_n 1, 1) := by decide +kernel
theorem dX3_workOut_109 : decode cX3_workOut 109 = .ok (.getfield 61, 3) := by decide +kernel
theorem dX3_workOut_112 : decode cX3_workOut 112 = .ok (.invokevirtual 64, 3) := by decide +kernel
theorem dX3_workOut_115 : decode cX3_workOut 115 = .ok (.ifCond .eq 7, 3) := by decide +kernel
theorem dX3_workOut_118 : decode cX3_workOut 118 = .ok (.iconst 1, 1) := by decide +kernel
theorem dX3_workOut_119 : decode cX3_workOut 119 = .ok (.goto 4, 3) := by decide +kernel
theorem dX3_workOut_122 : decode cX3_workOut 122 = .ok (.iconst 0, 1) := by decide +kernel
theorem dX3_workOut_123 : decode cX3_workOut 123 = .ok (.invokestatic 53, 3) := by decide +kernel
theorem dX3_workOut_126 : decode cX3_workOut 126 = .ok (.iinc 4 1, 3) := by decide +kernel
theorem dX3_workOut_129 : decode cX3_workOut 129 = .ok (.goto (-112), 3) := by decide +kernel
theorem dX3_workOut_132 : decode cX3_workOut 132 = .ok (.aload_n 0, 1) := by decide +kernel
theorem dX3_workOut_133 : decode cX3_workOut 133 = .ok (.invokevirtual 68, 3) := by decide +kernel
theorem dX3_workOut_136 : decode cX3_workOut 136 = .ok (.aload_n 0, 1) := by decide +kernel
theorem dX3_workOut_137 : decode cX3_workOut 137 = .ok (.invokevirtual 71, 3) := by decide +kernel
theorem dX3_workOut_140 : decode cX3_workOut 140 = .ok (.iconst 0, 1) := by decide +kernel
theorem dX3_workOut_141 : decode cX3_workOut 141 = .ok (.istore 4, 2) := by decide +kernel
theorem dX3_workOut_143 : decode cX3_workOut 143 = .ok (.iload 4, 2) := by decide +kernel
theorem dX3_workOut_145 : decode cX3_workOut 145 = .ok (.aload_n 0, 1) := by decide +kernel
theorem dX3_workOut_146 : decode cX3_workOut 146 = .ok (.getfield 48, 3) := by decide +kernel
theorem dX3_workOut_149 : decode cX3_workOut 149 = .ok (.if_icmp .ge 39, 3) := by decide +kernel
theorem dX3_workOut_152 : decode cX3_workOut 152 = .ok (.aload_n 0, 1) := by decide +kernel
theorem dX3_workOut_153 : decode cX3_workOut 153 = .ok (.getfield 24, 3) := by decide +kernel
theorem dX3_workOut_156 : decode cX3_workOut 156 = .ok (.iload 4, 2) := by decide +kernel
theorem dX3_workOut_158 : decode cX3_workOut 158 = .ok (.aload_n 0, 1) := by decide +kernel
theorem dX3_workOut_159 : decode cX3_workOut 159 = .ok (.iload 4, 2) := by decide +kernel
theorem dX3_workOut_161 : decode cX3_workOut 161 = .ok (.invokevirtual 74, 3) := by decide +kernel
theorem dX3_workOut_164 : decode cX3_workOut 164 = .ok (.invokestatic 53, 3) := by decide +kernel
theorem dX3_workOut_167 : decode cX3_workOut 167 = .ok (.aload_n 0, 1) := by decide +kernel
theorem dX3_workOut_168 : decode cX3_workOut 168 = .ok (.getfield 27, 3) := by decide +kernel
theorem dX3_workOut_171 : decode cX3_workOut 171 = .ok (.iload 4, 2) := by decide +kernel
theorem dX3_workOut_173 : decode cX3_workOut 173 = .ok (.aload_n 0, 1) := by decide +kernel
theorem dX3_workOut_174 : decode cX3_workOut 174 = .ok (.iload 4, 2) := by decide +kernel
theorem dX3_workOut_176 : decode cX3_workOut 176 = .ok (.invokevirtual 78, 3) := by decide +kernel
theorem dX3_workOut_179 : decode cX3_workOut 179 = .ok (.invokestatic 53, 3) := by decide +kernel
theorem dX3_workOut_182 : decode cX3_workOut 182 = .ok (.iinc 4 1, 3) := by decide +kernel
theorem dX3_workOut_185 : decode cX3_workOut 185 = .ok (.goto (-42), 3) := by decide +kernel
theorem dX3_workOut_188 : decode cX3_workOut 188 = .ok (.return_, 1) := by decide +kernel
set_option maxRecDepth 20000 in
theorem ggX3_isGust_X6_at : GoodIn wsX3_isGust wsX6_at := goodIn_r _ [4] (by decide +kernel) (by decide +kernel)
set_option maxRecDepth 20000 in
theorem gX3_isGust_X6_at_n81 : GoodIn wsX3_isGust (wsX6_at) := ggX3_isGust_X6_at
theorem dX3_isGust_0 : decode cX3_isGust 0 = .ok (.aload_n 0, 1) := by decide +kernel
theorem dX3_isGust_1 : decode cX3_isGust 1 = .ok (.getfield 21, 3) := by decide +kernel
theorem dX3_isGust_4 : decode cX3_isGust 4 = .ok (.iload_n 1, 1) := by decide +kernel
theorem dX3_isGust_5 : decode cX3_isGust 5 = .ok (.invokestatic 81, 3) := by decide +kernel
theorem dX3_isGust_8 : decode cX3_isGust 8 = .ok (.iconst 1, 1) := by decide +kernel
theorem dX3_isGust_9 : decode cX3_isGust 9 = .ok (.if_icmp .ne 7, 3) := by decide +kernel
theorem dX3_isGust_12 : decode cX3_isGust 12 = .ok (.iconst 1, 1) := by decide +kernel
theorem dX3_isGust_13 : decode cX3_isGust 13 = .ok (.goto 4, 3) := by decide +kernel
theorem dX3_isGust_16 : decode cX3_isGust 16 = .ok (.iconst 0, 1) := by decide +kernel
theorem dX3_isGust_17 : decode cX3_isGust 17 = .ok (.ireturn, 1) := by decide +kernel
set_option maxRecDepth 20000 in
theorem ggX3_rawHeight_X6_at : GoodIn wsX3_rawHeight wsX6_at := goodIn_r _ [4] (by decide +kernel) (by decide +kernel)
set_option maxRecDepth 20000 in
theorem gX3_rawHeight_X6_at_n81 : GoodIn wsX3_rawHeight (wsX6_at) := ggX3_rawHeight_X6_at
theorem dX3_rawHeight_0 : decode cX3_rawHeight 0 = .ok (.aload_n 0, 1) := by decide +kernel
theorem dX3_rawHeight_1 : decode cX3_rawHeight 1 = .ok (.getfield 18, 3) := by decide +kernel
theorem dX3_rawHeight_4 : decode cX3_rawHeight 4 = .ok (.iload_n 1, 1) := by decide +kernel
theorem dX3_rawHeight_5 : decode cX3_rawHeight 5 = .ok (.invokestatic 81, 3) := by decide +kernel
theorem dX3_rawHeight_8 : decode cX3_rawHeight 8 = .ok (.ireturn, 1) := by decide +kernel
set_option maxRecDepth 20000 in
theorem ggX3_isGood_X6_at : GoodIn wsX3_isGood wsX6_at := goodIn_r _ [6] (by decide +kernel) (by decide +kernel)
set_option maxRecDepth 20000 in
theorem gX3_isGood_X6_at_n81 : GoodIn wsX3_isGood (wsX6_at) := ggX3_isGood_X6_at
theorem dX3_isGood_0 : decode cX3_isGood 0 = .ok (.aload_n 0, 1) := by decide +kernel
theorem dX3_isGood_1 : decode cX3_isGood 1 = .ok (.getfield 18, 3) := by decide +kernel
theorem dX3_isGood_4 : decode cX3_isGood 4 = .ok (.iload_n 1, 1) := by decide +kernel
theorem dX3_isGood_5 : decode cX3_isGood 5 = .ok (.invokestatic 81, 3) := by decide +kernel
theorem dX3_isGood_8 : decode cX3_isGood 8 = .ok (.ldc 85, 2) := by decide +kernel
theorem dX3_isGood_10 : decode cX3_isGood 10 = .ok (.if_icmp .eq 18, 3) := by decide +kernel
theorem dX3_isGood_13 : decode cX3_isGood 13 = .ok (.aload_n 0, 1) := by decide +kernel
theorem dX3_isGood_14 : decode cX3_isGood 14 = .ok (.getfield 21, 3) := by decide +kernel
theorem dX3_isGood_17 : decode cX3_isGood 17 = .ok (.iload_n 1, 1) := by decide +kernel
theorem dX3_isGood_18 : decode cX3_isGood 18 = .ok (.invokestatic 81, 3) := by decide +kernel
theorem dX3_isGood_21 : decode cX3_isGood 21 = .ok (.ifCond .ne 7, 3) := by decide +kernel
theorem dX3_isGood_24 : decode cX3_isGood 24 = .ok (.iconst 1, 1) := by decide +kernel
theorem dX3_isGood_25 : decode cX3_isGood 25 = .ok (.goto 4, 3) := by decide +kernel
theorem dX3_isGood_28 : decode cX3_isGood 28 = .ok (.iconst 0, 1) := by decide +kernel
theorem dX3_isGood_29 : decode cX3_isGood 29 = .ok (.ireturn, 1) := by decide +kernel
set_option maxRecDepth 20000 in
theorem ggX3_openLoopOf_X6_at : GoodIn wsX3_openLoopOf wsX6_at := goodIn_r _ [4] (by decide +kernel) (by decide +kernel)
set_option maxRecDepth 20000 in
theorem gX3_openLoopOf_X6_at_n81 : GoodIn wsX3_openLoopOf (wsX6_at) := ggX3_openLoopOf_X6_at
theorem dX3_openLoopOf_0 : decode cX3_openLoopOf 0 = .ok (.aload_n 0, 1) := by decide +kernel
theorem dX3_openLoopOf_1 : decode cX3_openLoopOf 1 = .ok (.getfield 24, 3) := by decide +kernel
theorem dX3_openLoopOf_4 : decode cX3_openLoopOf 4 = .ok (.iload_n 1, 1) := by decide +kernel
theorem dX3_openLoopOf_5 : decode cX3_openLoopOf 5 = .ok (.invokestatic 81, 3) := by decide +kernel
theorem dX3_openLoopOf_8 : decode cX3_openLoopOf 8 = .ok (.ireturn, 1) := by decide +kernel
set_option maxRecDepth 20000 in
theorem ggX3_correctedHeight_X6_at : GoodIn wsX3_correctedHeight wsX6_at := goodIn_r _ [4] (by decide +kernel) (by decide +kernel)
set_option maxRecDepth 20000 in
theorem gX3_correctedHeight_X6_at_n81 : GoodIn wsX3_correctedHeight (wsX6_at) := ggX3_correctedHeight_X6_at
theorem dX3_correctedHeight_0 : decode cX3_correctedHeight 0 = .ok (.aload_n 0, 1) := by decide +kernel
theorem dX3_correctedHeight_1 : decode cX3_correctedHeight 1 = .ok (.getfield 27, 3) := by decide +kernel
theorem dX3_correctedHeight_4 : decode cX3_correctedHeight 4 = .ok (.iload_n 1, 1) := by decide +kernel
theorem dX3_correctedHeight_5 : decode cX3_correctedHeight 5 = .ok (.invokestatic 81, 3) := by decide +kernel
theorem dX3_correctedHeight_8 : decode cX3_correctedHeight 8 = .ok (.ireturn, 1) := by decide +kernel
set_option maxRecDepth 20000 in
theorem ggX3_begin_X6_at : GoodIn wsX3_begin wsX6_at := goodIn_r _ [4] (by decide +kernel) (by decide +kernel)
set_option maxRecDepth 20000 in
theorem gX3_begin_X6_at_n81 : GoodIn wsX3_begin (wsX6_at) := ggX3_begin_X6_at
theorem dX3_begin_0 : decode cX3_begin 0 = .ok (.aload_n 0, 1) := by decide +kernel
theorem dX3_begin_1 : decode cX3_begin 1 = .ok (.getfield 30, 3) := by decide +kernel
theorem dX3_begin_4 : decode cX3_begin 4 = .ok (.iload_n 1, 1) := by decide +kernel
theorem dX3_begin_5 : decode cX3_begin 5 = .ok (.invokestatic 81, 3) := by decide +kernel
theorem dX3_begin_8 : decode cX3_begin 8 = .ok (.ireturn, 1) := by decide +kernel
set_option maxRecDepth 20000 in
theorem ggX3_end_X6_at : GoodIn wsX3_end wsX6_at := goodIn_r _ [4] (by decide +kernel) (by decide +kernel)
set_option maxRecDepth 20000 in
theorem gX3_end_X6_at_n81 : GoodIn wsX3_end (wsX6_at) := ggX3_end_X6_at
theorem dX3_end_0 : decode cX3_end 0 = .ok (.aload_n 0, 1) := by decide +kernel
theorem dX3_end_1 : decode cX3_end 1 = .ok (.getfield 33, 3) := by decide +kernel
theorem dX3_end_4 : decode cX3_end 4 = .ok (.iload_n 1, 1) := by decide +kernel
theorem dX3_end_5 : decode cX3_end 5 = .ok (.invokestatic 81, 3) := by decide +kernel
theorem dX3_end_8 : decode cX3_end 8 = .ok (.ireturn, 1) := by decide +kernel
set_option maxRecDepth 20000 in
theorem ggX3_minutes_X3_end : GoodIn wsX3_minutes wsX3_end := goodIn_r _ [6, 7, 8, 9, 10, 16, 17, 18, 19, 20, 21, 22, 23, 24, 25, 26, 27] (by decide +kernel) (by decide +kernel)
set_option maxRecDepth 20000 in
theorem gX3_minutes_X3_end : GoodIn wsX3_minutes (wsV RX3 86 RX3 yX3_end wsX3_end) := goodIn_app (goodIn_of _ (by decide +kernel)) ggX3_minutes_X3_end
set_option maxRecDepth 20000 in
theorem ggX3_minutes_X6_at : GoodIn wsX3_minutes wsX6_at := goodIn_r _ [10] (by decide +kernel) (by decide +kernel)
set_option maxRecDepth 20000 in
theorem gX3_minutes_X6_at_n81 : GoodIn wsX3_minutes (wsX6_at) := ggX3_minutes_X6_at
set_option maxRecDepth 20000 in
theorem ggX3_minutes_X3_begin : GoodIn wsX3_minutes wsX3_begin := goodIn_r _ [14, 15, 8, 9, 10, 16, 17, 18, 19, 20, 21, 22, 23, 24, 25, 26, 27] (by decide +kernel) (by decide +kernel)
set_option maxRecDepth 20000 in
theorem gX3_minutes_X3_begin : GoodIn wsX3_minutes (wsV RX3 89 RX3 yX3_begin wsX3_begin) := goodIn_app (goodIn_of _ (by decide +kernel)) ggX3_minutes_X3_begin
theorem dX3_minutes_0 : decode cX3_minutes 0 = .ok (.aload_n 0, 1) := by decide +kernel
theorem dX3_minutes_1 : decode cX3_minutes 1 = .ok (.getfield 9, 3) := by decide +kernel
theorem dX3_minutes_4 : decode cX3_minutes 4 = .ok (.aload_n 0, 1) := by decide +kernel
theorem dX3_minutes_5 : decode cX3_minutes 5 = .ok (.iload_n 1, 1) := by decide +kernel
theorem dX3_minutes_6 : decode cX3_minutes 6 = .ok (.invokevirtual 86, 3) := by decide +kernel
theorem dX3_minutes_9 : decode cX3_minutes 9 = .ok (.invokestatic 81, 3) := by decide +kernel
theorem dX3_minutes_12 : decode cX3_minutes 12 = .ok (.aload_n 0, 1) := by decide +kernel
theorem dX3_minutes_13 : decode cX3_minutes 13 = .ok (.getfield 9, 3) := by decide +kernel
theorem dX3_minutes_16 : decode cX3_minutes 16 = .ok (.aload_n 0, 1) := by decide +kernel
theorem dX3_minutes_17 : decode cX3_minutes 17 = .ok (.iload_n 1, 1) := by decide +kernel
theorem dX3_minutes_18 : decode cX3_minutes 18 = .ok (.invokevirtual 89, 3) := by decide +kernel
theorem dX3_minutes_21 : decode cX3_minutes 21 = .ok (.invokestatic 81, 3) := by decide +kernel
theorem dX3_minutes_24 : decode cX3_minutes 24 = .ok (.isub, 1) := by decide +kernel
theorem dX3_minutes_25 : decode cX3_minutes 25 = .ok (.ireturn, 1) := by decide +kernel
set_option maxRecDepth 20000 in
theorem ggX3_misclosure_X3_end : GoodIn wsX3_misclosure wsX3_end := goodIn_r _ [5, 6, 7, 8, 9, 20, 21, 22, 23, 24, 25, 26, 27, 28, 29, 30, 31] (by decide +kernel) (by decide +kernel)
set_option maxRecDepth 20000 in
theorem gX3_misclosure_X3_end : GoodIn wsX3_misclosure (wsV RX3 86 RX3 yX3_end wsX3_end) := goodIn_app (goodIn_of _ (by decide +kernel)) ggX3_misclosure_X3_end
set_option maxRecDepth 20000 in
theorem ggX3_misclosure_X3_rawHeight : GoodIn wsX3_misclosure wsX3_rawHeight := goodIn_r _ [13, 14, 7, 8, 9, 20, 21, 22, 23, 24, 25, 26, 27, 28, 29, 30, 31] (by decide +kernel) (by decide +kernel)
set_option maxRecDepth 20000 in
theorem gX3_misclosure_X3_rawHeight : GoodIn wsX3_misclosure (wsV RX3 92 RX3 yX3_rawHeight wsX3_rawHeight) := goodIn_app (goodIn_of _ (by decide +kernel)) ggX3_misclosure_X3_rawHeight
set_option maxRecDepth 20000 in
theorem ggX3_misclosure_X3_begin : GoodIn wsX3_misclosure wsX3_begin := goodIn_r _ [18, 19, 7, 8, 9, 20, 21, 22, 23, 24, 25, 26, 27, 28, 29, 30, 31] (by decide +kernel) (by decide +kernel)
set_option maxRecDepth 20000 in
theorem gX3_misclosure_X3_begin : GoodIn wsX3_misclosure (wsV RX3 89 RX3 yX3_begin wsX3_begin) := goodIn_app (goodIn_of _ (by decide +kernel)) ggX3_misclosure_X3_begin
theorem dX3_misclosure_0 : decode cX3_misclosure 0 = .ok (.aload_n 0, 1) := by decide +kernel
theorem dX3_misclosure_1 : decode cX3_misclosure 1 = .ok (.aload_n 0, 1) := by decide +kernel
theorem dX3_misclosure_2 : decode cX3_misclosure 2 = .ok (.iload_n 1, 1) := by decide +kernel
theorem dX3_misclosure_3 : decode cX3_misclosure 3 = .ok (.invokevirtual 86, 3) := by decide +kernel
theorem dX3_misclosure_6 : decode cX3_misclosure 6 = .ok (.invokevirtual 92, 3) := by decide +kernel
theorem dX3_misclosure_9 : decode cX3_misclosure 9 = .ok (.aload_n 0, 1) := by decide +kernel
theorem dX3_misclosure_10 : decode cX3_misclosure 10 = .ok (.aload_n 0, 1) := by decide +kernel
theorem dX3_misclosure_11 : decode cX3_misclosure 11 = .ok (.iload_n 1, 1) := by decide +kernel
theorem dX3_misclosure_12 : decode cX3_misclosure 12 = .ok (.invokevirtual 89, 3) := by decide +kernel
theorem dX3_misclosure_15 : decode cX3_misclosure 15 = .ok (.invokevirtual 92, 3) := by decide +kernel
theorem dX3_misclosure_18 : decode cX3_misclosure 18 = .ok (.isub, 1) := by decide +kernel
theorem dX3_misclosure_19 : decode cX3_misclosure 19 = .ok (.ireturn, 1) := by decide +kernel
set_option maxRecDepth 20000 in
theorem ggX3_misclosureBySteps_X3_begin : GoodIn wsX3_misclosureBySteps wsX3_begin := goodIn_r _ [6, 7, 8, 9, 10, 27, 28, 29, 30, 31, 32, 33, 34, 35, 36, 37, 38] (by decide +kernel) (by decide +kernel)
set_option maxRecDepth 20000 in
theorem gX3_misclosureBySteps_X3_begin : GoodIn wsX3_misclosureBySteps (wsV RX3 89 RX3 yX3_begin wsX3_begin) := goodIn_app (goodIn_of _ (by decide +kernel)) ggX3_misclosureBySteps_X3_begin
set_option maxRecDepth 20000 in
theorem ggX3_misclosureBySteps_X3_rawHeight : GoodIn wsX3_misclosureBySteps wsX3_rawHeight := goodIn_r _ [14, 15, 8, 9, 10, 27, 28, 29, 30, 31, 32, 33, 34, 35, 36, 37, 38] (by decide +kernel) (by decide +kernel)
set_option maxRecDepth 20000 in
theorem gX3_misclosureBySteps_X3_rawHeight : GoodIn wsX3_misclosureBySteps (wsV RX3 92 RX3 yX3_rawHeight wsX3_rawHeight) := goodIn_app (goodIn_of _ (by decide +kernel)) ggX3_misclosureBySteps_X3_rawHeight
set_option maxRecDepth 20000 in
theorem ggX3_misclosureBySteps_X3_end : GoodIn wsX3_misclosureBySteps wsX3_end := goodIn_r _ [19, 20, 8, 9, 10, 27, 28, 29, 30, 31, 32, 33, 34, 35, 36, 37, 38] (by decide +kernel) (by decide +kernel)
set_option maxRecDepth 20000 in
theorem gX3_misclosureBySteps_X3_end : GoodIn wsX3_misclosureBySteps (wsV RX3 86 RX3 yX3_end wsX3_end) := goodIn_app (goodIn_of _ (by decide +kernel)) ggX3_misclosureBySteps_X3_end
set_option maxRecDepth 20000 in
theorem ggX3_misclosureBySteps_X3_isGood : GoodIn wsX3_misclosureBySteps wsX3_isGood := goodIn_r _ [24, 15, 25, 26, 8, 9, 10, 27, 28, 29, 30, 31, 32, 33, 34, 35, 36, 37, 38] (by decide +kernel) (by decide +kernel)
set_option maxRecDepth 20000 in
theorem gX3_misclosureBySteps_X3_isGood : GoodIn wsX3_misclosureBySteps (wsV RX3 95 RX3 yX3_isGood wsX3_isGood) := goodIn_app (goodIn_of _ (by decide +kernel)) ggX3_misclosureBySteps_X3_isGood
theorem dX3_misclosureBySteps_0 : decode cX3_misclosureBySteps 0 = .ok (.iconst 0, 1) := by decide +kernel
theorem dX3_misclosureBySteps_1 : decode cX3_misclosureBySteps 1 = .ok (.istore_n 2, 1) := by decide +kernel
theorem dX3_misclosureBySteps_2 : decode cX3_misclosureBySteps 2 = .ok (.aload_n 0, 1) := by decide +kernel
theorem dX3_misclosureBySteps_3 : decode cX3_misclosureBySteps 3 = .ok (.aload_n 0, 1) := by decide +kernel
theorem dX3_misclosureBySteps_4 : decode cX3_misclosureBySteps 4 = .ok (.iload_n 1, 1) := by decide +kernel
theorem dX3_misclosureBySteps_5 : decode cX3_misclosureBySteps 5 = .ok (.invokevirtual 89, 3) := by decide +kernel
theorem dX3_misclosureBySteps_8 : decode cX3_misclosureBySteps 8 = .ok (.invokevirtual 92, 3) := by decide +kernel
theorem dX3_misclosureBySteps_11 : decode cX3_misclosureBySteps 11 = .ok (.istore_n 3, 1) := by decide +kernel
theorem dX3_misclosureBySteps_12 : decode cX3_misclosureBySteps 12 = .ok (.aload_n 0, 1) := by decide +kernel
theorem dX3_misclosureBySteps_13 : decode cX3_misclosureBySteps 13 = .ok (.iload_n 1, 1) := by decide +kernel
theorem dX3_misclosureBySteps_14 : decode cX3_misclosureBySteps 14 = .ok (.invokevirtual 89, 3) := by decide +kernel
theorem dX3_misclosureBySteps_17 : decode cX3_misclosureBySteps 17 = .ok (.iconst 1, 1) := by decide +kernel
theorem dX3_misclosureBySteps_18 : decode cX3_misclosureBySteps 18 = .ok (.iadd, 1) := by decide +kernel
theorem dX3_misclosureBySteps_19 : decode cX3_misclosureBySteps 19 = .ok (.istore 4, 2) := by decide +kernel
theorem dX3_misclosureBySteps_21 : decode cX3_misclosureBySteps 21 = .ok (.iload 4, 2) := by decide +kernel
theorem dX3_misclosureBySteps_23 : decode cX3_misclosureBySteps 23 = .ok (.aload_n 0, 1) := by decide +kernel
theorem dX3_misclosureBySteps_24 : decode cX3_misclosureBySteps 24 = .ok (.iload_n 1, 1) := by decide +kernel
theorem dX3_misclosureBySteps_25 : decode cX3_misclosureBySteps 25 = .ok (.invokevirtual 86, 3) := by decide +kernel
theorem dX3_misclosureBySteps_28 : decode cX3_misclosureBySteps 28 = .ok (.if_icmp .gt 45, 3) := by decide +kernel
theorem dX3_misclosureBySteps_31 : decode cX3_misclosureBySteps 31 = .ok (.iload 4, 2) := by decide +kernel
theorem dX3_misclosureBySteps_33 : decode cX3_misclosureBySteps 33 = .ok (.aload_n 0, 1) := by decide +kernel
theorem dX3_misclosureBySteps_34 : decode cX3_misclosureBySteps 34 = .ok (.getfield 48, 3) := by decide +kernel
theorem dX3_misclosureBySteps_37 : decode cX3_misclosureBySteps 37 = .ok (.if_icmp .ge 36, 3) := by decide +kernel
theorem dX3_misclosureBySteps_40 : decode cX3_misclosureBySteps 40 = .ok (.aload_n 0, 1) := by decide +kernel
theorem dX3_misclosureBySteps_41 : decode cX3_misclosureBySteps 41 = .ok (.iload 4, 2) := by decide +kernel
theorem dX3_misclosureBySteps_43 : decode cX3_misclosureBySteps 43 = .ok (.invokevirtual 95, 3) := by decide +kernel
theorem dX3_misclosureBySteps_46 : decode cX3_misclosureBySteps 46 = .ok (.ifCond .eq 21, 3) := by decide +kernel
theorem dX3_misclosureBySteps_49 : decode cX3_misclosureBySteps 49 = .ok (.iload_n 2, 1) := by decide +kernel
theorem dX3_misclosureBySteps_50 : decode cX3_misclosureBySteps 50 = .ok (.aload_n 0, 1) := by decide +kernel
theorem dX3_misclosureBySteps_51 : decode cX3_misclosureBySteps 51 = .ok (.iload 4, 2) := by decide +kernel
theorem dX3_misclosureBySteps_53 : decode cX3_misclosureBySteps 53 = .ok (.invokevirtual 92, 3) := by decide +kernel
theorem dX3_misclosureBySteps_56 : decode cX3_misclosureBySteps 56 = .ok (.iload_n 3, 1) := by decide +kernel
theorem dX3_misclosureBySteps_57 : decode cX3_misclosureBySteps 57 = .ok (.isub, 1) := by decide +kernel
theorem dX3_misclosureBySteps_58 : decode cX3_misclosureBySteps 58 = .ok (.iadd, 1) := by decide +kernel
theorem dX3_misclosureBySteps_59 : decode cX3_misclosureBySteps 59 = .ok (.istore_n 2, 1) := by decide +kernel
theorem dX3_misclosureBySteps_60 : decode cX3_misclosureBySteps 60 = .ok (.aload_n 0, 1) := by decide +kernel
theorem dX3_misclosureBySteps_61 : decode cX3_misclosureBySteps 61 = .ok (.iload 4, 2) := by decide +kernel
theorem dX3_misclosureBySteps_63 : decode cX3_misclosureBySteps 63 = .ok (.invokevirtual 92, 3) := by decide +kernel
theorem dX3_misclosureBySteps_66 : decode cX3_misclosureBySteps 66 = .ok (.istore_n 3, 1) := by decide +kernel
theorem dX3_misclosureBySteps_67 : decode cX3_misclosureBySteps 67 = .ok (.iinc 4 1, 3) := by decide +kernel
theorem dX3_misclosureBySteps_70 : decode cX3_misclosureBySteps 70 = .ok (.goto (-49), 3) := by decide +kernel
theorem dX3_misclosureBySteps_73 : decode cX3_misclosureBySteps 73 = .ok (.iload_n 2, 1) := by decide +kernel
theorem dX3_misclosureBySteps_74 : decode cX3_misclosureBySteps 74 = .ok (.ireturn, 1) := by decide +kernel
set_option maxRecDepth 20000 in
theorem ggX3_addTo_X3_isGood : GoodIn wsX3_addTo wsX3_isGood := goodIn_r _ [7, 8, 9, 10, 11, 12, 13, 49, 50, 51, 52, 53, 54, 55, 56, 57, 58, 59, 60] (by decide +kernel) (by decide +kernel)
set_option maxRecDepth 20000 in
theorem gX3_addTo_X3_isGood : GoodIn wsX3_addTo (wsV RX3 95 RX3 yX3_isGood wsX3_isGood) := goodIn_app (goodIn_of _ (by decide +kernel)) ggX3_addTo_X3_isGood
set_option maxRecDepth 20000 in
theorem ggX3_addTo_X6_at : GoodIn wsX3_addTo wsX6_at := goodIn_r _ [13] (by decide +kernel) (by decide +kernel)
set_option maxRecDepth 20000 in
theorem gX3_addTo_X6_at_n81 : GoodIn wsX3_addTo (wsX6_at) := ggX3_addTo_X6_at
set_option maxRecDepth 20000 in
theorem ggX3_addTo_X3_endsOpenLoop : GoodIn wsX3_addTo wsX3_endsOpenLoop := goodIn_r _ [17, 18, 19, 20, 6, 21, 22, 11, 12, 13, 23, 24, 25, 26, 27, 49, 50, 51, 52, 53, 54, 55, 56, 57, 58, 59, 60] (by decide +kernel) (by decide +kernel)
set_option maxRecDepth 20000 in
theorem gX3_addTo_X3_endsOpenLoop : GoodIn wsX3_addTo (wsV RX3 99 RX3 yX3_endsOpenLoop wsX3_endsOpenLoop) := goodIn_app (goodIn_of _ (by decide +kernel)) ggX3_addTo_X3_endsOpenLoop
set_option maxRecDepth 20000 in
theorem ggX3_addTo_X3_correctedHeight : GoodIn wsX3_addTo wsX3_correctedHeight := goodIn_r _ [31, 32, 11, 12, 13, 49, 50, 51, 52, 53, 54, 55, 56, 57, 58, 59, 60] (by decide +kernel) (by decide +kernel)
set_option maxRecDepth 20000 in
theorem gX3_addTo_X3_correctedHeight : GoodIn wsX3_addTo (wsV RX3 102 RX3 yX3_correctedHeight wsX3_correctedHeight) := goodIn_app (goodIn_of _ (by decide +kernel)) ggX3_addTo_X3_correctedHeight
set_option maxRecDepth 20000 in
theorem ggX3_addTo_X1_add : GoodIn wsX3_addTo wsX1_add := goodIn_r _ [37, 38, 39, 40, 41, 42, 43, 44, 45, 46, 47, 48, 61, 62, 63, 64] (by decide +kernel) (by decide +kernel)
set_option maxRecDepth 20000 in
theorem gX3_addTo_X1_add : GoodIn wsX3_addTo (wsV RX3 105 RX1 yX1_add wsX1_add) := goodIn_app (goodIn_of _ (by decide +kernel)) ggX3_addTo_X1_add
theorem dX3_addTo_0 : decode cX3_addTo 0 = .ok (.iconst 0, 1) := by decide +kernel
theorem dX3_addTo_1 : decode cX3_addTo 1 = .ok (.istore_n 3, 1) := by decide +kernel
theorem dX3_addTo_2 : decode cX3_addTo 2 = .ok (.iload_n 3, 1) := by decide +kernel
theorem dX3_addTo_3 : decode cX3_addTo 3 = .ok (.aload_n 0, 1) := by decide +kernel
theorem dX3_addTo_4 : decode cX3_addTo 4 = .ok (.getfield 48, 3) := by decide +kernel
theorem dX3_addTo_7 : decode cX3_addTo 7 = .ok (.if_icmp .ge 46, 3) := by decide +kernel
theorem dX3_addTo_10 : decode cX3_addTo 10 = .ok (.aload_n 0, 1) := by decide +kernel
theorem dX3_addTo_11 : decode cX3_addTo 11 = .ok (.iload_n 3, 1) := by decide +kernel
theorem dX3_addTo_12 : decode cX3_addTo 12 = .ok (.invokevirtual 95, 3) := by decide +kernel
theorem dX3_addTo_15 : decode cX3_addTo 15 = .ok (.ifCond .eq 32, 3) := by decide +kernel
theorem dX3_addTo_18 : decode cX3_addTo 18 = .ok (.aload_n 0, 1) := by decide +kernel
theorem dX3_addTo_19 : decode cX3_addTo 19 = .ok (.getfield 15, 3) := by decide +kernel
theorem dX3_addTo_22 : decode cX3_addTo 22 = .ok (.iload_n 3, 1) := by decide +kernel
theorem dX3_addTo_23 : decode cX3_addTo 23 = .ok (.invokestatic 81, 3) := by decide +kernel
theorem dX3_addTo_26 : decode cX3_addTo 26 = .ok (.iload_n 2, 1) := by decide +kernel
theorem dX3_addTo_27 : decode cX3_addTo 27 = .ok (.if_icmp .ne 20, 3) := by decide +kernel
theorem dX3_addTo_30 : decode cX3_addTo 30 = .ok (.aload_n 0, 1) := by decide +kernel
theorem dX3_addTo_31 : decode cX3_addTo 31 = .ok (.iload_n 3, 1) := by decide +kernel
theorem dX3_addTo_32 : decode cX3_addTo 32 = .ok (.invokevirtual 99, 3) := by decide +kernel
theorem dX3_addTo_35 : decode cX3_addTo 35 = .ok (.ifCond .ne 12, 3) := by decide +kernel
theorem dX3_addTo_38 : decode cX3_addTo 38 = .ok (.aload_n 1, 1) := by decide +kernel
theorem dX3_addTo_39 : decode cX3_addTo 39 = .ok (.aload_n 0, 1) := by decide +kernel
theorem dX3_addTo_40 : decode cX3_addTo 40 = .ok (.iload_n 3, 1) := by decide +kernel
theorem dX3_addTo_41 : decode cX3_addTo 41 = .ok (.invokevirtual 102, 3) := by decide +kernel
theorem dX3_addTo_44 : decode cX3_addTo 44 = .ok (.invokevirtual 105, 3) := by decide +kernel
theorem dX3_addTo_47 : decode cX3_addTo 47 = .ok (.iinc 3 1, 3) := by decide +kernel
theorem dX3_addTo_50 : decode cX3_addTo 50 = .ok (.goto (-48), 3) := by decide +kernel
theorem dX3_addTo_53 : decode cX3_addTo 53 = .ok (.return_, 1) := by decide +kernel
set_option maxRecDepth 20000 in
theorem ggX3_endsOpenLoop_X3_openLoopOf : GoodIn wsX3_endsOpenLoop wsX3_openLoopOf := goodIn_r _ [5, 6, 7, 8, 9, 15, 16, 17, 18, 19, 20, 21, 22, 23, 24, 25, 26] (by decide +kernel) (by decide +kernel)
set_option maxRecDepth 20000 in
theorem gX3_endsOpenLoop_X3_openLoopOf : GoodIn wsX3_endsOpenLoop (wsV RX3 111 RX3 yX3_openLoopOf wsX3_openLoopOf) := goodIn_app (goodIn_of _ (by decide +kernel)) ggX3_endsOpenLoop_X3_openLoopOf
set_option maxRecDepth 20000 in
theorem ggX3_endsOpenLoop_X3_end : GoodIn wsX3_endsOpenLoop wsX3_end := goodIn_r _ [13, 14, 7, 8, 9, 15, 16, 17, 18, 19, 20, 21, 22, 23, 24, 25, 26] (by decide +kernel) (by decide +kernel)
set_option maxRecDepth 20000 in
theorem gX3_endsOpenLoop_X3_end : GoodIn wsX3_endsOpenLoop (wsV RX3 86 RX3 yX3_end wsX3_end) := goodIn_app (goodIn_of _ (by decide +kernel)) ggX3_endsOpenLoop_X3_end
theorem dX3_endsOpenLoop_0 : decode cX3_endsOpenLoop 0 = .ok (.aload_n 0, 1) := by decide +kernel
theorem dX3_endsOpenLoop_1 : decode cX3_endsOpenLoop 1 = .ok (.iload_n 1, 1) := by decide +kernel
theorem dX3_endsOpenLoop_2 : decode cX3_endsOpenLoop 2 = .ok (.invokevirtual 111, 3) := by decide +kernel
theorem dX3_endsOpenLoop_5 : decode cX3_endsOpenLoop 5 = .ok (.istore_n 2, 1) := by decide +kernel
theorem dX3_endsOpenLoop_6 : decode cX3_endsOpenLoop 6 = .ok (.iload_n 2, 1) := by decide +kernel
theorem dX3_endsOpenLoop_7 : decode cX3_endsOpenLoop 7 = .ok (.iconst (-1), 1) := by decide +kernel
theorem dX3_endsOpenLoop_8 : decode cX3_endsOpenLoop 8 = .ok (.if_icmp .eq 16, 3) := by decide +kernel
theorem dX3_endsOpenLoop_11 : decode cX3_endsOpenLoop 11 = .ok (.aload_n 0, 1) := by decide +kernel
theorem dX3_endsOpenLoop_12 : decode cX3_endsOpenLoop 12 = .ok (.iload_n 2, 1) := by decide +kernel
theorem dX3_endsOpenLoop_13 : decode cX3_endsOpenLoop 13 = .ok (.invokevirtual 86, 3) := by decide +kernel
theorem dX3_endsOpenLoop_16 : decode cX3_endsOpenLoop 16 = .ok (.iload_n 1, 1) := by decide +kernel
theorem dX3_endsOpenLoop_17 : decode cX3_endsOpenLoop 17 = .ok (.if_icmp .ne 7, 3) := by decide +kernel
theorem dX3_endsOpenLoop_20 : decode cX3_endsOpenLoop 20 = .ok (.iconst 1, 1) := by decide +kernel
theorem dX3_endsOpenLoop_21 : decode cX3_endsOpenLoop 21 = .ok (.goto 4, 3) := by decide +kernel
theorem dX3_endsOpenLoop_24 : decode cX3_endsOpenLoop 24 = .ok (.iconst 0, 1) := by decide +kernel
theorem dX3_endsOpenLoop_25 : decode cX3_endsOpenLoop 25 = .ok (.ireturn, 1) := by decide +kernel
set_option maxRecDepth 20000 in
theorem ggX3_countKinds_X3_isGust : GoodIn wsX3_countKinds wsX3_isGust := goodIn_r _ [8, 9, 10, 11, 12, 19, 20, 21, 22, 23, 24, 25, 26, 27, 28, 29, 30] (by decide +kernel) (by decide +kernel)
set_option maxRecDepth 20000 in
theorem gX3_countKinds_X3_isGust : GoodIn wsX3_countKinds (wsV RX3 120 RX3 yX3_isGust wsX3_isGust) := goodIn_app (goodIn_of _ (by decide +kernel)) ggX3_countKinds_X3_isGust
set_option maxRecDepth 20000 in
theorem ggX3_countKinds_X3_isGood : GoodIn wsX3_countKinds wsX3_isGood := goodIn_r _ [16, 17, 18, 9, 10, 11, 12, 19, 20, 21, 22, 23, 24, 25, 26, 27, 28, 29, 30] (by decide +kernel) (by decide +kernel)
set_option maxRecDepth 20000 in
theorem gX3_countKinds_X3_isGood : GoodIn wsX3_countKinds (wsV RX3 95 RX3 yX3_isGood wsX3_isGood) := goodIn_app (goodIn_of _ (by decide +kernel)) ggX3_countKinds_X3_isGood
theorem dX3_countKinds_0 : decode cX3_countKinds 0 = .ok (.aload_n 0, 1) := by decide +kernel
theorem dX3_countKinds_1 : decode cX3_countKinds 1 = .ok (.iconst 0, 1) := by decide +kernel
theorem dX3_countKinds_2 : decode cX3_countKinds 2 = .ok (.putfield 114, 3) := by decide +kernel
theorem dX3_countKinds_5 : decode cX3_countKinds 5 = .ok (.aload_n 0, 1) := by decide +kernel
theorem dX3_countKinds_6 : decode cX3_countKinds 6 = .ok (.iconst 0, 1) := by decide +kernel
theorem dX3_countKinds_7 : decode cX3_countKinds 7 = .ok (.putfield 117, 3) := by decide +kernel
theorem dX3_countKinds_10 : decode cX3_countKinds 10 = .ok (.iconst 0, 1) := by decide +kernel
theorem dX3_countKinds_11 : decode cX3_countKinds 11 = .ok (.istore_n 1, 1) := by decide +kernel
theorem dX3_countKinds_12 : decode cX3_countKinds 12 = .ok (.iload_n 1, 1) := by decide +kernel
theorem dX3_countKinds_13 : decode cX3_countKinds 13 = .ok (.aload_n 0, 1) := by decide +kernel
theorem dX3_countKinds_14 : decode cX3_countKinds 14 = .ok (.getfield 48, 3) := by decide +kernel
theorem dX3_countKinds_17 : decode cX3_countKinds 17 = .ok (.if_icmp .ge 53, 3) := by decide +kernel
theorem dX3_countKinds_20 : decode cX3_countKinds 20 = .ok (.aload_n 0, 1) := by decide +kernel
theorem dX3_countKinds_21 : decode cX3_countKinds 21 = .ok (.dup, 1) := by decide +kernel
theorem dX3_countKinds_22 : decode cX3_countKinds 22 = .ok (.getfield 114, 3) := by decide +kernel
theorem dX3_countKinds_25 : decode cX3_countKinds 25 = .ok (.aload_n 0, 1) := by decide +kernel
theorem dX3_countKinds_26 : decode cX3_countKinds 26 = .ok (.iload_n 1, 1) := by decide +kernel
theorem dX3_countKinds_27 : decode cX3_countKinds 27 = .ok (.invokevirtual 120, 3) := by decide +kernel
theorem dX3_countKinds_30 : decode cX3_countKinds 30 = .ok (.ifCond .eq 7, 3) := by decide +kernel
theorem dX3_countKinds_33 : decode cX3_countKinds 33 = .ok (.iconst 1, 1) := by decide +kernel
theorem dX3_countKinds_34 : decode cX3_countKinds 34 = .ok (.goto 4, 3) := by decide +kernel
theorem dX3_countKinds_37 : decode cX3_countKinds 37 = .ok (.iconst 0, 1) := by decide +kernel
theorem dX3_countKinds_38 : decode cX3_countKinds 38 = .ok (.iadd, 1) := by decide +kernel
theorem dX3_countKinds_39 : decode cX3_countKinds 39 = .ok (.putfield 114, 3) := by decide +kernel
theorem dX3_countKinds_42 : decode cX3_countKinds 42 = .ok (.aload_n 0, 1) := by decide +kernel
theorem dX3_countKinds_43 : decode cX3_countKinds 43 = .ok (.dup, 1) := by decide +kernel
theorem dX3_countKinds_44 : decode cX3_countKinds 44 = .ok (.getfield 117, 3) := by decide +kernel
theorem dX3_countKinds_47 : decode cX3_countKinds 47 = .ok (.aload_n 0, 1) := by decide +kernel
theorem dX3_countKinds_48 : decode cX3_countKinds 48 = .ok (.iload_n 1, 1) := by decide +kernel
theorem dX3_countKinds_49 : decode cX3_countKinds 49 = .ok (.invokevirtual 95, 3) := by decide +kernel
theorem dX3_countKinds_52 : decode cX3_countKinds 52 = .ok (.ifCond .eq 7, 3) := by decide +kernel
theorem dX3_countKinds_55 : decode cX3_countKinds 55 = .ok (.iconst 1, 1) := by decide +kernel
theorem dX3_countKinds_56 : decode cX3_countKinds 56 = .ok (.goto 4, 3) := by decide +kernel
theorem dX3_countKinds_59 : decode cX3_countKinds 59 = .ok (.iconst 0, 1) := by decide +kernel
theorem dX3_countKinds_60 : decode cX3_countKinds 60 = .ok (.iadd, 1) := by decide +kernel
theorem dX3_countKinds_61 : decode cX3_countKinds 61 = .ok (.putfield 117, 3) := by decide +kernel
theorem dX3_countKinds_64 : decode cX3_countKinds 64 = .ok (.iinc 1 1, 3) := by decide +kernel
theorem dX3_countKinds_67 : decode cX3_countKinds 67 = .ok (.goto (-55), 3) := by decide +kernel
theorem dX3_countKinds_70 : decode cX3_countKinds 70 = .ok (.return_, 1) := by decide +kernel
set_option maxRecDepth 20000 in
theorem ggX3_findLoops_X3_isGood : GoodIn wsX3_findLoops wsX3_isGood := goodIn_r _ [9, 10, 11, 12, 13, 14, 15, 23, 24, 25, 26, 27, 28, 29, 30, 31, 32, 33, 34] (by decide +kernel) (by decide +kernel)
set_option maxRecDepth 20000 in
theorem gX3_findLoops_X3_isGood : GoodIn wsX3_findLoops (wsV RX3 95 RX3 yX3_isGood wsX3_isGood) := goodIn_app (goodIn_of _ (by decide +kernel)) ggX3_findLoops_X3_isGood
set_option maxRecDepth 20000 in
theorem ggX3_findLoops_X3_lastVisit : GoodIn wsX3_findLoops wsX3_lastVisit := goodIn_r _ [19, 20, 13, 14, 15, 5, 6, 7, 8, 9, 10, 11, 12, 23, 24, 25, 26, 27, 28, 29, 30, 31, 32, 33, 34] (by decide +kernel) (by decide +kernel)
set_option maxRecDepth 20000 in
theorem gX3_findLoops_X3_lastVisit : GoodIn wsX3_findLoops (wsV RX3 126 RX3 yX3_lastVisit wsX3_lastVisit) := goodIn_app (goodIn_of _ (by decide +kernel)) ggX3_findLoops_X3_lastVisit
set_option maxRecDepth 20000 in
theorem ggX3_findLoops_X6_put : GoodIn wsX3_findLoops wsX6_put := goodIn_r _ [22] (by decide +kernel) (by decide +kernel)
set_option maxRecDepth 20000 in
theorem gX3_findLoops_X6_put_n53 : GoodIn wsX3_findLoops (wsX6_put) := ggX3_findLoops_X6_put
theorem dX3_findLoops_0 : decode cX3_findLoops 0 = .ok (.aload_n 0, 1) := by decide +kernel
theorem dX3_findLoops_1 : decode cX3_findLoops 1 = .ok (.iconst 0, 1) := by decide +kernel
theorem dX3_findLoops_2 : decode cX3_findLoops 2 = .ok (.putfield 123, 3) := by decide +kernel
theorem dX3_findLoops_5 : decode cX3_findLoops 5 = .ok (.iconst 0, 1) := by decide +kernel
theorem dX3_findLoops_6 : decode cX3_findLoops 6 = .ok (.istore_n 1, 1) := by decide +kernel
theorem dX3_findLoops_7 : decode cX3_findLoops 7 = .ok (.iload_n 1, 1) := by decide +kernel
theorem dX3_findLoops_8 : decode cX3_findLoops 8 = .ok (.aload_n 0, 1) := by decide +kernel
theorem dX3_findLoops_9 : decode cX3_findLoops 9 = .ok (.getfield 48, 3) := by decide +kernel
theorem dX3_findLoops_12 : decode cX3_findLoops 12 = .ok (.if_icmp .ge 66, 3) := by decide +kernel
theorem dX3_findLoops_15 : decode cX3_findLoops 15 = .ok (.aload_n 0, 1) := by decide +kernel
theorem dX3_findLoops_16 : decode cX3_findLoops 16 = .ok (.iload_n 1, 1) := by decide +kernel
theorem dX3_findLoops_17 : decode cX3_findLoops 17 = .ok (.invokevirtual 95, 3) := by decide +kernel
theorem dX3_findLoops_20 : decode cX3_findLoops 20 = .ok (.ifCond .eq 11, 3) := by decide +kernel
theorem dX3_findLoops_23 : decode cX3_findLoops 23 = .ok (.aload_n 0, 1) := by decide +kernel
theorem dX3_findLoops_24 : decode cX3_findLoops 24 = .ok (.iload_n 1, 1) := by decide +kernel
theorem dX3_findLoops_25 : decode cX3_findLoops 25 = .ok (.invokevirtual 126, 3) := by decide +kernel
theorem dX3_findLoops_28 : decode cX3_findLoops 28 = .ok (.goto 4, 3) := by decide +kernel
theorem dX3_findLoops_31 : decode cX3_findLoops 31 = .ok (.iconst (-1), 1) := by decide +kernel
theorem dX3_findLoops_32 : decode cX3_findLoops 32 = .ok (.istore_n 2, 1) := by decide +kernel
theorem dX3_findLoops_33 : decode cX3_findLoops 33 = .ok (.iload_n 2, 1) := by decide +kernel
theorem dX3_findLoops_34 : decode cX3_findLoops 34 = .ok (.iconst (-1), 1) := by decide +kernel
theorem dX3_findLoops_35 : decode cX3_findLoops 35 = .ok (.if_icmp .eq 37, 3) := by decide +kernel
theorem dX3_findLoops_38 : decode cX3_findLoops 38 = .ok (.aload_n 0, 1) := by decide +kernel
theorem dX3_findLoops_39 : decode cX3_findLoops 39 = .ok (.getfield 30, 3) := by decide +kernel
theorem dX3_findLoops_42 : decode cX3_findLoops 42 = .ok (.aload_n 0, 1) := by decide +kernel
theorem dX3_findLoops_43 : decode cX3_findLoops 43 = .ok (.getfield 123, 3) := by decide +kernel
theorem dX3_findLoops_46 : decode cX3_findLoops 46 = .ok (.iload_n 2, 1) := by decide +kernel
theorem dX3_findLoops_47 : decode cX3_findLoops 47 = .ok (.invokestatic 53, 3) := by decide +kernel
theorem dX3_findLoops_50 : decode cX3_findLoops 50 = .ok (.aload_n 0, 1) := by decide +kernel
theorem dX3_findLoops_51 : decode cX3_findLoops 51 = .ok (.getfield 33, 3) := by decide +kernel
theorem dX3_findLoops_54 : decode cX3_findLoops 54 = .ok (.aload_n 0, 1) := by decide +kernel
theorem dX3_findLoops_55 : decode cX3_findLoops 55 = .ok (.getfield 123, 3) := by decide +kernel
theorem dX3_findLoops_58 : decode cX3_findLoops 58 = .ok (.iload_n 1, 1) := by decide +kernel
theorem dX3_findLoops_59 : decode cX3_findLoops 59 = .ok (.invokestatic 53, 3) := by decide +kernel
theorem dX3_findLoops_62 : decode cX3_findLoops 62 = .ok (.aload_n 0, 1) := by decide +kernel
theorem dX3_findLoops_63 : decode cX3_findLoops 63 = .ok (.dup, 1) := by decide +kernel
theorem dX3_findLoops_64 : decode cX3_findLoops 64 = .ok (.getfield 123, 3) := by decide +kernel
theorem dX3_findLoops_67 : decode cX3_findLoops 67 = .ok (.iconst 1, 1) := by decide +kernel
theorem dX3_findLoops_68 : decode cX3_findLoops 68 = .ok (.iadd, 1) := by decide +kernel
theorem dX3_findLoops_69 : decode cX3_findLoops 69 = .ok (.putfield 123, 3) := by decide +kernel
theorem dX3_findLoops_72 : decode cX3_findLoops 72 = .ok (.iinc 1 1, 3) := by decide +kernel
theorem dX3_findLoops_75 : decode cX3_findLoops 75 = .ok (.goto (-68), 3) := by decide +kernel
theorem dX3_findLoops_78 : decode cX3_findLoops 78 = .ok (.return_, 1) := by decide +kernel
set_option maxRecDepth 20000 in
theorem ggX3_lastVisit_X6_at : GoodIn wsX3_lastVisit wsX6_at := goodIn_r _ [4] (by decide +kernel) (by decide +kernel)
set_option maxRecDepth 20000 in
theorem gX3_lastVisit_X6_at_n81 : GoodIn wsX3_lastVisit (wsX6_at) := ggX3_lastVisit_X6_at
set_option maxRecDepth 20000 in
theorem ggX3_lastVisit_X3_isGood : GoodIn wsX3_lastVisit wsX3_isGood := goodIn_r _ [9, 10, 11, 12, 2, 3, 4, 13, 14, 15, 16, 17, 18, 19, 20, 21, 22, 23, 24] (by decide +kernel) (by decide +kernel)
set_option maxRecDepth 20000 in
theorem gX3_lastVisit_X3_isGood : GoodIn wsX3_lastVisit (wsV RX3 95 RX3 yX3_isGood wsX3_isGood) := goodIn_app (goodIn_of _ (by decide +kernel)) ggX3_lastVisit_X3_isGood
theorem dX3_lastVisit_0 : decode cX3_lastVisit 0 = .ok (.aload_n 0, 1) := by decide +kernel
theorem dX3_lastVisit_1 : decode cX3_lastVisit 1 = .ok (.getfield 15, 3) := by decide +kernel
theorem dX3_lastVisit_4 : decode cX3_lastVisit 4 = .ok (.iload_n 1, 1) := by decide +kernel
theorem dX3_lastVisit_5 : decode cX3_lastVisit 5 = .ok (.invokestatic 81, 3) := by decide +kernel
theorem dX3_lastVisit_8 : decode cX3_lastVisit 8 = .ok (.istore_n 2, 1) := by decide +kernel
theorem dX3_lastVisit_9 : decode cX3_lastVisit 9 = .ok (.iload_n 1, 1) := by decide +kernel
theorem dX3_lastVisit_10 : decode cX3_lastVisit 10 = .ok (.iconst 1, 1) := by decide +kernel
theorem dX3_lastVisit_11 : decode cX3_lastVisit 11 = .ok (.isub, 1) := by decide +kernel
theorem dX3_lastVisit_12 : decode cX3_lastVisit 12 = .ok (.istore_n 3, 1) := by decide +kernel
theorem dX3_lastVisit_13 : decode cX3_lastVisit 13 = .ok (.iload_n 3, 1) := by decide +kernel
theorem dX3_lastVisit_14 : decode cX3_lastVisit 14 = .ok (.ifCond .lt 31, 3) := by decide +kernel
theorem dX3_lastVisit_17 : decode cX3_lastVisit 17 = .ok (.aload_n 0, 1) := by decide +kernel
theorem dX3_lastVisit_18 : decode cX3_lastVisit 18 = .ok (.iload_n 3, 1) := by decide +kernel
theorem dX3_lastVisit_19 : decode cX3_lastVisit 19 = .ok (.invokevirtual 95, 3) := by decide +kernel
theorem dX3_lastVisit_22 : decode cX3_lastVisit 22 = .ok (.ifCond .eq 17, 3) := by decide +kernel
theorem dX3_lastVisit_25 : decode cX3_lastVisit 25 = .ok (.aload_n 0, 1) := by decide +kernel
theorem dX3_lastVisit_26 : decode cX3_lastVisit 26 = .ok (.getfield 15, 3) := by decide +kernel
theorem dX3_lastVisit_29 : decode cX3_lastVisit 29 = .ok (.iload_n 3, 1) := by decide +kernel
theorem dX3_lastVisit_30 : decode cX3_lastVisit 30 = .ok (.invokestatic 81, 3) := by decide +kernel
theorem dX3_lastVisit_33 : decode cX3_lastVisit 33 = .ok (.iload_n 2, 1) := by decide +kernel
theorem dX3_lastVisit_34 : decode cX3_lastVisit 34 = .ok (.if_icmp .ne 5, 3) := by decide +kernel
theorem dX3_lastVisit_37 : decode cX3_lastVisit 37 = .ok (.iload_n 3, 1) := by decide +kernel
theorem dX3_lastVisit_38 : decode cX3_lastVisit 38 = .ok (.ireturn, 1) := by decide +kernel
theorem dX3_lastVisit_39 : decode cX3_lastVisit 39 = .ok (.iinc 3 (-1), 3) := by decide +kernel
theorem dX3_lastVisit_42 : decode cX3_lastVisit 42 = .ok (.goto (-29), 3) := by decide +kernel
theorem dX3_lastVisit_45 : decode cX3_lastVisit 45 = .ok (.iconst (-1), 1) := by decide +kernel
theorem dX3_lastVisit_46 : decode cX3_lastVisit 46 = .ok (.ireturn, 1) := by decide +kernel
set_option maxRecDepth 20000 in
theorem ggX3_shortestLoop_X3_isGood : GoodIn wsX3_shortestLoop wsX3_isGood := goodIn_r _ [6, 7, 8, 9, 10, 11, 12, 28, 29, 30, 31, 32, 33, 34, 35, 36, 37, 38, 39] (by decide +kernel) (by decide +kernel)
set_option maxRecDepth 20000 in
theorem gX3_shortestLoop_X3_isGood : GoodIn wsX3_shortestLoop (wsV RX3 95 RX3 yX3_isGood wsX3_isGood) := goodIn_app (goodIn_of _ (by decide +kernel)) ggX3_shortestLoop_X3_isGood
set_option maxRecDepth 20000 in
theorem ggX3_shortestLoop_X3_begin : GoodIn wsX3_shortestLoop wsX3_begin := goodIn_r _ [16, 17, 10, 11, 12, 28, 29, 30, 31, 32, 33, 34, 35, 36, 37, 38, 39] (by decide +kernel) (by decide +kernel)
set_option maxRecDepth 20000 in
theorem gX3_shortestLoop_X3_begin : GoodIn wsX3_shortestLoop (wsV RX3 89 RX3 yX3_begin wsX3_begin) := goodIn_app (goodIn_of _ (by decide +kernel)) ggX3_shortestLoop_X3_begin
set_option maxRecDepth 20000 in
theorem ggX3_shortestLoop_X3_end : GoodIn wsX3_shortestLoop wsX3_end := goodIn_r _ [21, 22, 10, 11, 12, 28, 29, 30, 31, 32, 33, 34, 35, 36, 37, 38, 39] (by decide +kernel) (by decide +kernel)
set_option maxRecDepth 20000 in
theorem gX3_shortestLoop_X3_end : GoodIn wsX3_shortestLoop (wsV RX3 86 RX3 yX3_end wsX3_end) := goodIn_app (goodIn_of _ (by decide +kernel)) ggX3_shortestLoop_X3_end
set_option maxRecDepth 20000 in
theorem ggX3_shortestLoop_X3_minutes : GoodIn wsX3_shortestLoop wsX3_minutes := goodIn_r _ [26, 27, 18, 19, 20, 5, 21, 22, 10, 11, 12, 13, 14, 15, 16, 17, 28, 29, 30, 31, 32, 33, 34, 35, 36, 37, 38, 39] (by decide +kernel) (by decide +kernel)
set_option maxRecDepth 20000 in
theorem gX3_shortestLoop_X3_minutes : GoodIn wsX3_shortestLoop (wsV RX3 129 RX3 yX3_minutes wsX3_minutes) := goodIn_app (goodIn_of _ (by decide +kernel)) ggX3_shortestLoop_X3_minutes
theorem dX3_shortestLoop_0 : decode cX3_shortestLoop 0 = .ok (.iconst (-1), 1) := by decide +kernel
theorem dX3_shortestLoop_1 : decode cX3_shortestLoop 1 = .ok (.istore_n 2, 1) := by decide +kernel
theorem dX3_shortestLoop_2 : decode cX3_shortestLoop 2 = .ok (.aload_n 0, 1) := by decide +kernel
theorem dX3_shortestLoop_3 : decode cX3_shortestLoop 3 = .ok (.iload_n 1, 1) := by decide +kernel
theorem dX3_shortestLoop_4 : decode cX3_shortestLoop 4 = .ok (.invokevirtual 95, 3) := by decide +kernel
theorem dX3_shortestLoop_7 : decode cX3_shortestLoop 7 = .ok (.ifCond .ne 5, 3) := by decide +kernel
theorem dX3_shortestLoop_10 : decode cX3_shortestLoop 10 = .ok (.iconst (-1), 1) := by decide +kernel
theorem dX3_shortestLoop_11 : decode cX3_shortestLoop 11 = .ok (.ireturn, 1) := by decide +kernel
theorem dX3_shortestLoop_12 : decode cX3_shortestLoop 12 = .ok (.iconst 0, 1) := by decide +kernel
theorem dX3_shortestLoop_13 : decode cX3_shortestLoop 13 = .ok (.istore_n 3, 1) := by decide +kernel
theorem dX3_shortestLoop_14 : decode cX3_shortestLoop 14 = .ok (.iload_n 3, 1) := by decide +kernel
theorem dX3_shortestLoop_15 : decode cX3_shortestLoop 15 = .ok (.aload_n 0, 1) := by decide +kernel
theorem dX3_shortestLoop_16 : decode cX3_shortestLoop 16 = .ok (.getfield 123, 3) := by decide +kernel
theorem dX3_shortestLoop_19 : decode cX3_shortestLoop 19 = .ok (.if_icmp .ge 59, 3) := by decide +kernel
theorem dX3_shortestLoop_22 : decode cX3_shortestLoop 22 = .ok (.aload_n 0, 1) := by decide +kernel
theorem dX3_shortestLoop_23 : decode cX3_shortestLoop 23 = .ok (.iload_n 3, 1) := by decide +kernel
theorem dX3_shortestLoop_24 : decode cX3_shortestLoop 24 = .ok (.invokevirtual 89, 3) := by decide +kernel
theorem dX3_shortestLoop_27 : decode cX3_shortestLoop 27 = .ok (.iload_n 1, 1) := by decide +kernel
theorem dX3_shortestLoop_28 : decode cX3_shortestLoop 28 = .ok (.if_icmp .gt 16, 3) := by decide +kernel
theorem dX3_shortestLoop_31 : decode cX3_shortestLoop 31 = .ok (.iload_n 1, 1) := by decide +kernel
theorem dX3_shortestLoop_32 : decode cX3_shortestLoop 32 = .ok (.aload_n 0, 1) := by decide +kernel
theorem dX3_shortestLoop_33 : decode cX3_shortestLoop 33 = .ok (.iload_n 3, 1) := by decide +kernel
theorem dX3_shortestLoop_34 : decode cX3_shortestLoop 34 = .ok (.invokevirtual 86, 3) := by decide +kernel
theorem dX3_shortestLoop_37 : decode cX3_shortestLoop 37 = .ok (.if_icmp .gt 7, 3) := by decide +kernel
theorem dX3_shortestLoop_40 : decode cX3_shortestLoop 40 = .ok (.iconst 1, 1) := by decide +kernel
theorem dX3_shortestLoop_41 : decode cX3_shortestLoop 41 = .ok (.goto 4, 3) := by decide +kernel
theorem dX3_shortestLoop_44 : decode cX3_shortestLoop 44 = .ok (.iconst 0, 1) := by decide +kernel
theorem dX3_shortestLoop_45 : decode cX3_shortestLoop 45 = .ok (.istore 4, 2) := by decide +kernel
theorem dX3_shortestLoop_47 : decode cX3_shortestLoop 47 = .ok (.iload 4, 2) := by decide +kernel
theorem dX3_shortestLoop_49 : decode cX3_shortestLoop 49 = .ok (.ifCond .eq 23, 3) := by decide +kernel
theorem dX3_shortestLoop_52 : decode cX3_shortestLoop 52 = .ok (.iload_n 2, 1) := by decide +kernel
theorem dX3_shortestLoop_53 : decode cX3_shortestLoop 53 = .ok (.iconst (-1), 1) := by decide +kernel
theorem dX3_shortestLoop_54 : decode cX3_shortestLoop 54 = .ok (.if_icmp .eq 16, 3) := by decide +kernel
theorem dX3_shortestLoop_57 : decode cX3_shortestLoop 57 = .ok (.aload_n 0, 1) := by decide +kernel
theorem dX3_shortestLoop_58 : decode cX3_shortestLoop 58 = .ok (.iload_n 3, 1) := by decide +kernel
theorem dX3_shortestLoop_59 : decode cX3_shortestLoop 59 = .ok (.invokevirtual 129, 3) := by decide +kernel
theorem dX3_shortestLoop_62 : decode cX3_shortestLoop 62 = .ok (.aload_n 0, 1) := by decide +kernel
theorem dX3_shortestLoop_63 : decode cX3_shortestLoop 63 = .ok (.iload_n 2, 1) := by decide +kernel
theorem dX3_shortestLoop_64 : decode cX3_shortestLoop 64 = .ok (.invokevirtual 129, 3) := by decide +kernel
theorem dX3_shortestLoop_67 : decode cX3_shortestLoop 67 = .ok (.if_icmp .ge 5, 3) := by decide +kernel
theorem dX3_shortestLoop_70 : decode cX3_shortestLoop 70 = .ok (.iload_n 3, 1) := by decide +kernel
theorem dX3_shortestLoop_71 : decode cX3_shortestLoop 71 = .ok (.istore_n 2, 1) := by decide +kernel
theorem dX3_shortestLoop_72 : decode cX3_shortestLoop 72 = .ok (.iinc 3 1, 3) := by decide +kernel
theorem dX3_shortestLoop_75 : decode cX3_shortestLoop 75 = .ok (.goto (-61), 3) := by decide +kernel
theorem dX3_shortestLoop_78 : decode cX3_shortestLoop 78 = .ok (.iload_n 2, 1) := by decide +kernel
theorem dX3_shortestLoop_79 : decode cX3_shortestLoop 79 = .ok (.ireturn, 1) := by decide +kernel
set_option maxRecDepth 20000 in
theorem ggX3_withoutDrift_X3_isGood : GoodIn wsX3_withoutDrift wsX3_isGood := goodIn_r _ [7, 8, 1, 9, 10, 11, 12, 46, 47, 48, 49, 50, 51, 52, 53, 54, 55, 56, 57] (by decide +kernel) (by decide +kernel)
set_option maxRecDepth 20000 in
theorem gX3_withoutDrift_X3_isGood : GoodIn wsX3_withoutDrift (wsV RX3 95 RX3 yX3_isGood wsX3_isGood) := goodIn_app (goodIn_of _ (by decide +kernel)) ggX3_withoutDrift_X3_isGood
set_option maxRecDepth 20000 in
theorem ggX3_withoutDrift_X3_openLoopOf : GoodIn wsX3_withoutDrift wsX3_openLoopOf := goodIn_r _ [16, 17, 10, 11, 12, 46, 47, 48, 49, 50, 51, 52, 53, 54, 55, 56, 57] (by decide +kernel) (by decide +kernel)
set_option maxRecDepth 20000 in
theorem gX3_withoutDrift_X3_openLoopOf : GoodIn wsX3_withoutDrift (wsV RX3 111 RX3 yX3_openLoopOf wsX3_openLoopOf) := goodIn_app (goodIn_of _ (by decide +kernel)) ggX3_withoutDrift_X3_openLoopOf
set_option maxRecDepth 20000 in
theorem ggX3_withoutDrift_X3_rawHeight : GoodIn wsX3_withoutDrift wsX3_rawHeight := goodIn_r _ [21, 8, 10, 11, 12, 46, 47, 48, 49, 50, 51, 52, 53, 54, 55, 56, 57] (by decide +kernel) (by decide +kernel)
set_option maxRecDepth 20000 in
theorem gX3_withoutDrift_X3_rawHeight : GoodIn wsX3_withoutDrift (wsV RX3 92 RX3 yX3_rawHeight wsX3_rawHeight) := goodIn_app (goodIn_of _ (by decide +kernel)) ggX3_withoutDrift_X3_rawHeight
set_option maxRecDepth 20000 in
theorem ggX3_withoutDrift_X6_at : GoodIn wsX3_withoutDrift wsX6_at := goodIn_r _ [12] (by decide +kernel) (by decide +kernel)
set_option maxRecDepth 20000 in
theorem gX3_withoutDrift_X6_at_n81 : GoodIn wsX3_withoutDrift (wsX6_at) := ggX3_withoutDrift_X6_at
set_option maxRecDepth 20000 in
theorem ggX3_withoutDrift_X3_begin : GoodIn wsX3_withoutDrift wsX3_begin := goodIn_r _ [25, 26, 10, 11, 12, 46, 47, 48, 49, 50, 51, 52, 53, 54, 55, 56, 57] (by decide +kernel) (by decide +kernel)
set_option maxRecDepth 20000 in
theorem gX3_withoutDrift_X3_begin : GoodIn wsX3_withoutDrift (wsV RX3 89 RX3 yX3_begin wsX3_begin) := goodIn_app (goodIn_of _ (by decide +kernel)) ggX3_withoutDrift_X3_begin
set_option maxRecDepth 20000 in
theorem ggX3_withoutDrift_X3_misclosure : GoodIn wsX3_withoutDrift wsX3_misclosure := goodIn_r _ [30, 31, 32, 33, 6, 34, 35, 10, 11, 12, 18, 19, 20, 21, 8, 22, 23, 24, 25, 26, 46, 47, 48, 49, 50, 51, 52, 53, 54, 55, 56, 57] (by decide +kernel) (by decide +kernel)
set_option maxRecDepth 20000 in
theorem gX3_withoutDrift_X3_misclosure : GoodIn wsX3_withoutDrift (wsV RX3 132 RX3 yX3_misclosure wsX3_misclosure) := goodIn_app (goodIn_of _ (by decide +kernel)) ggX3_withoutDrift_X3_misclosure
set_option maxRecDepth 20000 in
theorem ggX3_withoutDrift_X3_minutes : GoodIn wsX3_withoutDrift wsX3_minutes := goodIn_r _ [39, 2, 31, 32, 33, 6, 34, 35, 10, 11, 12, 22, 23, 24, 25, 26, 46, 47, 48, 49, 50, 51, 52, 53, 54, 55, 56, 57] (by decide +kernel) (by decide +kernel)
set_option maxRecDepth 20000 in
theorem gX3_withoutDrift_X3_minutes : GoodIn wsX3_withoutDrift (wsV RX3 129 RX3 yX3_minutes wsX3_minutes) := goodIn_app (goodIn_of _ (by decide +kernel)) ggX3_withoutDrift_X3_minutes
set_option maxRecDepth 20000 in
theorem ggX3_withoutDrift_X6_divideDown : GoodIn wsX3_withoutDrift wsX6_divideDown := goodIn_r _ [41, 42, 43, 44, 45] (by decide +kernel) (by decide +kernel)
set_option maxRecDepth 20000 in
theorem gX3_withoutDrift_X6_divideDown_n135 : GoodIn wsX3_withoutDrift (wsX6_divideDown) := ggX3_withoutDrift_X6_divideDown
theorem dX3_withoutDrift_0 : decode cX3_withoutDrift 0 = .ok (.aload_n 0, 1) := by decide +kernel
theorem dX3_withoutDrift_1 : decode cX3_withoutDrift 1 = .ok (.iload_n 1, 1) := by decide +kernel
theorem dX3_withoutDrift_2 : decode cX3_withoutDrift 2 = .ok (.invokevirtual 95, 3) := by decide +kernel
theorem dX3_withoutDrift_5 : decode cX3_withoutDrift 5 = .ok (.ifCond .ne 6, 3) := by decide +kernel
theorem dX3_withoutDrift_8 : decode cX3_withoutDrift 8 = .ok (.ldc 85, 2) := by decide +kernel
theorem dX3_withoutDrift_10 : decode cX3_withoutDrift 10 = .ok (.ireturn, 1) := by decide +kernel
theorem dX3_withoutDrift_11 : decode cX3_withoutDrift 11 = .ok (.aload_n 0, 1) := by decide +kernel
theorem dX3_withoutDrift_12 : decode cX3_withoutDrift 12 = .ok (.iload_n 1, 1) := by decide +kernel
theorem dX3_withoutDrift_13 : decode cX3_withoutDrift 13 = .ok (.invokevirtual 111, 3) := by decide +kernel
theorem dX3_withoutDrift_16 : decode cX3_withoutDrift 16 = .ok (.istore_n 2, 1) := by decide +kernel
theorem dX3_withoutDrift_17 : decode cX3_withoutDrift 17 = .ok (.iload_n 2, 1) := by decide +kernel
theorem dX3_withoutDrift_18 : decode cX3_withoutDrift 18 = .ok (.iconst (-1), 1) := by decide +kernel
theorem dX3_withoutDrift_19 : decode cX3_withoutDrift 19 = .ok (.if_icmp .ne 9, 3) := by decide +kernel
theorem dX3_withoutDrift_22 : decode cX3_withoutDrift 22 = .ok (.aload_n 0, 1) := by decide +kernel
theorem dX3_withoutDrift_23 : decode cX3_withoutDrift 23 = .ok (.iload_n 1, 1) := by decide +kernel
theorem dX3_withoutDrift_24 : decode cX3_withoutDrift 24 = .ok (.invokevirtual 92, 3) := by decide +kernel
theorem dX3_withoutDrift_27 : decode cX3_withoutDrift 27 = .ok (.ireturn, 1) := by decide +kernel
theorem dX3_withoutDrift_28 : decode cX3_withoutDrift 28 = .ok (.aload_n 0, 1) := by decide +kernel
theorem dX3_withoutDrift_29 : decode cX3_withoutDrift 29 = .ok (.getfield 9, 3) := by decide +kernel
theorem dX3_withoutDrift_32 : decode cX3_withoutDrift 32 = .ok (.iload_n 1, 1) := by decide +kernel
theorem dX3_withoutDrift_33 : decode cX3_withoutDrift 33 = .ok (.invokestatic 81, 3) := by decide +kernel
theorem dX3_withoutDrift_36 : decode cX3_withoutDrift 36 = .ok (.aload_n 0, 1) := by decide +kernel
theorem dX3_withoutDrift_37 : decode cX3_withoutDrift 37 = .ok (.getfield 9, 3) := by decide +kernel
theorem dX3_withoutDrift_40 : decode cX3_withoutDrift 40 = .ok (.aload_n 0, 1) := by decide +kernel
theorem dX3_withoutDrift_41 : decode cX3_withoutDrift 41 = .ok (.iload_n 2, 1) := by decide +kernel
theorem dX3_withoutDrift_42 : decode cX3_withoutDrift 42 = .ok (.invokevirtual 89, 3) := by decide +kernel
theorem dX3_withoutDrift_45 : decode cX3_withoutDrift 45 = .ok (.invokestatic 81, 3) := by decide +kernel
theorem dX3_withoutDrift_48 : decode cX3_withoutDrift 48 = .ok (.isub, 1) := by decide +kernel
theorem dX3_withoutDrift_49 : decode cX3_withoutDrift 49 = .ok (.i2l, 1) := by decide +kernel
theorem dX3_withoutDrift_50 : decode cX3_withoutDrift 50 = .ok (.lstore_n 3, 1) := by decide +kernel
theorem dX3_withoutDrift_51 : decode cX3_withoutDrift 51 = .ok (.aload_n 0, 1) := by decide +kernel
theorem dX3_withoutDrift_52 : decode cX3_withoutDrift 52 = .ok (.iload_n 1, 1) := by decide +kernel
theorem dX3_withoutDrift_53 : decode cX3_withoutDrift 53 = .ok (.invokevirtual 92, 3) := by decide +kernel
theorem dX3_withoutDrift_56 : decode cX3_withoutDrift 56 = .ok (.i2l, 1) := by decide +kernel
theorem dX3_withoutDrift_57 : decode cX3_withoutDrift 57 = .ok (.aload_n 0, 1) := by decide +kernel
theorem dX3_withoutDrift_58 : decode cX3_withoutDrift 58 = .ok (.iload_n 2, 1) := by decide +kernel
theorem dX3_withoutDrift_59 : decode cX3_withoutDrift 59 = .ok (.invokevirtual 132, 3) := by decide +kernel
theorem dX3_withoutDrift_62 : decode cX3_withoutDrift 62 = .ok (.i2l, 1) := by decide +kernel
theorem dX3_withoutDrift_63 : decode cX3_withoutDrift 63 = .ok (.lload_n 3, 1) := by decide +kernel
theorem dX3_withoutDrift_64 : decode cX3_withoutDrift 64 = .ok (.lmul, 1) := by decide +kernel
theorem dX3_withoutDrift_65 : decode cX3_withoutDrift 65 = .ok (.aload_n 0, 1) := by decide +kernel
theorem dX3_withoutDrift_66 : decode cX3_withoutDrift 66 = .ok (.iload_n 2, 1) := by decide +kernel
theorem dX3_withoutDrift_67 : decode cX3_withoutDrift 67 = .ok (.invokevirtual 129, 3) := by decide +kernel
theorem dX3_withoutDrift_70 : decode cX3_withoutDrift 70 = .ok (.i2l, 1) := by decide +kernel
theorem dX3_withoutDrift_71 : decode cX3_withoutDrift 71 = .ok (.invokestatic 135, 3) := by decide +kernel
theorem dX3_withoutDrift_74 : decode cX3_withoutDrift 74 = .ok (.lsub, 1) := by decide +kernel
theorem dX3_withoutDrift_75 : decode cX3_withoutDrift 75 = .ok (.l2i, 1) := by decide +kernel
theorem dX3_withoutDrift_76 : decode cX3_withoutDrift 76 = .ok (.ireturn, 1) := by decide +kernel
theorem dX4_init_0 : decode cX4_init 0 = .ok (.aload_n 0, 1) := by decide +kernel
theorem dX4_init_1 : decode cX4_init 1 = .ok (.invokespecial 3, 3) := by decide +kernel
theorem dX4_init_4 : decode cX4_init 4 = .ok (.aload_n 0, 1) := by decide +kernel
theorem dX4_init_5 : decode cX4_init 5 = .ok (.bipush 100, 2) := by decide +kernel
theorem dX4_init_7 : decode cX4_init 7 = .ok (.newarray .int, 2) := by decide +kernel
theorem dX4_init_9 : decode cX4_init 9 = .ok (.putfield 9, 3) := by decide +kernel
theorem dX4_init_12 : decode cX4_init 12 = .ok (.aload_n 0, 1) := by decide +kernel
theorem dX4_init_13 : decode cX4_init 13 = .ok (.iconst (-1), 1) := by decide +kernel
theorem dX4_init_14 : decode cX4_init 14 = .ok (.putfield 15, 3) := by decide +kernel
theorem dX4_init_17 : decode cX4_init 17 = .ok (.return_, 1) := by decide +kernel
end
section
set_option maxRecDepth 20000 in
theorem ggX6_init_X2_init : GoodIn wsX6_init wsX2_init := goodIn_r _ [30, 31, 2, 3, 32, 33, 34, 35, 36, 37, 38, 39, 40, 41, 42, 43, 44, 45, 46, 47, 48, 49, 50, 51, 52, 128, 129, 130, 82, 83, 84, 85, 86, 87, 88] (by decide +kernel) (by decide +kernel)
set_option maxRecDepth 20000 in
theorem gX6_init_X2_init : GoodIn wsX6_init (wsX2_init) := ggX6_init_X2_init
set_option maxRecDepth 20000 in
theorem ggX6_init_X0_init : GoodIn wsX6_init wsX0_init := goodIn_r _ [55, 56, 2, 3, 57, 58, 5, 6, 59, 29, 30, 31, 32, 33, 34, 35, 36, 37, 38, 39, 40, 41, 42, 43, 44, 45, 46, 47, 48, 49, 50, 51, 52, 98, 99, 100, 82, 83, 84, 85, 86, 87, 88, 128, 129, 130] (by decide +kernel) (by decide +kernel)
set_option maxRecDepth 20000 in
theorem gX6_init_X0_init : GoodIn wsX6_init (wsX0_init) := ggX6_init_X0_init
set_option maxRecDepth 20000 in
theorem ggX6_init_X3_init : GoodIn wsX6_init wsX3_init := goodIn_r _ [62, 63, 2, 3, 46, 64, 65, 66, 67, 68, 69, 70, 71, 101, 102, 103, 104, 105, 106, 107, 108, 109, 110, 111, 112] (by decide +kernel) (by decide +kernel)
set_option maxRecDepth 20000 in
theorem gX6_init_X3_init : GoodIn wsX6_init (wsX3_init) := ggX6_init_X3_init
set_option maxRecDepth 20000 in
theorem ggX6_init_X1_init : GoodIn wsX6_init wsX1_init := goodIn_r _ [74, 75, 2, 3] (by decide +kernel) (by decide +kernel)
set_option maxRecDepth 20000 in
theorem gX6_init_X1_init : GoodIn wsX6_init (wsX1_init) := ggX6_init_X1_init
set_option maxRecDepth 20000 in
theorem ggX6_init_X4_init : GoodIn wsX6_init wsX4_init := goodIn_r _ [78, 79, 2, 3, 46, 80, 81, 117, 118, 119, 120, 121, 122, 123, 124, 125, 126, 127] (by decide +kernel) (by decide +kernel)
set_option maxRecDepth 20000 in
theorem gX6_init_X4_init : GoodIn wsX6_init (wsX4_init) := ggX6_init_X4_init
theorem dX6_init_0 : decode cX6_init 0 = .ok (.aload_n 0, 1) := by decide +kernel
theorem dX6_init_1 : decode cX6_init 1 = .ok (.invokespecial 1, 3) := by decide +kernel
theorem dX6_init_4 : decode cX6_init 4 = .ok (.aload_n 0, 1) := by decide +kernel
theorem dX6_init_5 : decode cX6_init 5 = .ok (.new 7, 3) := by decide +kernel
theorem dX6_init_8 : decode cX6_init 8 = .ok (.dup, 1) := by decide +kernel
theorem dX6_init_9 : decode cX6_init 9 = .ok (.invokespecial 9, 3) := by decide +kernel
theorem dX6_init_12 : decode cX6_init 12 = .ok (.putfield 10, 3) := by decide +kernel
theorem dX6_init_15 : decode cX6_init 15 = .ok (.aload_n 0, 1) := by decide +kernel
theorem dX6_init_16 : decode cX6_init 16 = .ok (.new 7, 3) := by decide +kernel
theorem dX6_init_19 : decode cX6_init 19 = .ok (.dup, 1) := by decide +kernel
theorem dX6_init_20 : decode cX6_init 20 = .ok (.invokespecial 9, 3) := by decide +kernel
theorem dX6_init_23 : decode cX6_init 23 = .ok (.putfield 16, 3) := by decide +kernel
theorem dX6_init_26 : decode cX6_init 26 = .ok (.aload_n 0, 1) := by decide +kernel
theorem dX6_init_27 : decode cX6_init 27 = .ok (.new 19, 3) := by decide +kernel
theorem dX6_init_30 : decode cX6_init 30 = .ok (.dup, 1) := by decide +kernel
theorem dX6_init_31 : decode cX6_init 31 = .ok (.invokespecial 21, 3) := by decide +kernel
theorem dX6_init_34 : decode cX6_init 34 = .ok (.putfield 22, 3) := by decide +kernel
theorem dX6_init_37 : decode cX6_init 37 = .ok (.aload_n 0, 1) := by decide +kernel
theorem dX6_init_38 : decode cX6_init 38 = .ok (.new 26, 3) := by decide +kernel
theorem dX6_init_41 : decode cX6_init 41 = .ok (.dup, 1) := by decide +kernel
theorem dX6_init_42 : decode cX6_init 42 = .ok (.invokespecial 28, 3) := by decide +kernel
theorem dX6_init_45 : decode cX6_init 45 = .ok (.putfield 29, 3) := by decide +kernel
theorem dX6_init_48 : decode cX6_init 48 = .ok (.aload_n 0, 1) := by decide +kernel
theorem dX6_init_49 : decode cX6_init 49 = .ok (.new 26, 3) := by decide +kernel
theorem dX6_init_52 : decode cX6_init 52 = .ok (.dup, 1) := by decide +kernel
theorem dX6_init_53 : decode cX6_init 53 = .ok (.invokespecial 28, 3) := by decide +kernel
theorem dX6_init_56 : decode cX6_init 56 = .ok (.putfield 33, 3) := by decide +kernel
theorem dX6_init_59 : decode cX6_init 59 = .ok (.aload_n 0, 1) := by decide +kernel
theorem dX6_init_60 : decode cX6_init 60 = .ok (.new 26, 3) := by decide +kernel
theorem dX6_init_63 : decode cX6_init 63 = .ok (.dup, 1) := by decide +kernel
theorem dX6_init_64 : decode cX6_init 64 = .ok (.invokespecial 28, 3) := by decide +kernel
theorem dX6_init_67 : decode cX6_init 67 = .ok (.putfield 36, 3) := by decide +kernel
theorem dX6_init_70 : decode cX6_init 70 = .ok (.aload_n 0, 1) := by decide +kernel
theorem dX6_init_71 : decode cX6_init 71 = .ok (.new 39, 3) := by decide +kernel
theorem dX6_init_74 : decode cX6_init 74 = .ok (.dup, 1) := by decide +kernel
theorem dX6_init_75 : decode cX6_init 75 = .ok (.invokespecial 41, 3) := by decide +kernel
theorem dX6_init_78 : decode cX6_init 78 = .ok (.putfield 42, 3) := by decide +kernel
theorem dX6_init_81 : decode cX6_init 81 = .ok (.aload_n 0, 1) := by decide +kernel
theorem dX6_init_82 : decode cX6_init 82 = .ok (.new 46, 3) := by decide +kernel
theorem dX6_init_85 : decode cX6_init 85 = .ok (.dup, 1) := by decide +kernel
theorem dX6_init_86 : decode cX6_init 86 = .ok (.invokespecial 48, 3) := by decide +kernel
theorem dX6_init_89 : decode cX6_init 89 = .ok (.putfield 49, 3) := by decide +kernel
theorem dX6_init_92 : decode cX6_init 92 = .ok (.aload_n 0, 1) := by decide +kernel
theorem dX6_init_93 : decode cX6_init 93 = .ok (.iconst 1, 1) := by decide +kernel
theorem dX6_init_94 : decode cX6_init 94 = .ok (.putfield 53, 3) := by decide +kernel
theorem dX6_init_97 : decode cX6_init 97 = .ok (.return_, 1) := by decide +kernel
set_option maxRecDepth 20000 in
theorem ggX6_set_X6_isSetting : GoodIn wsX6_set wsX6_isSetting := goodIn_r _ [6, 7, 8, 9, 10, 5, 11] (by decide +kernel) (by decide +kernel)
set_option maxRecDepth 20000 in
theorem gX6_set_X6_isSetting : GoodIn wsX6_set (va_wsS RX6 57 yX6_isSetting wsX6_isSetting) := goodIn_app (goodIn_of _ (by decide +kernel)) ggX6_set_X6_isSetting
set_option maxRecDepth 20000 in
theorem ggX6_set_X6_record : GoodIn wsX6_set wsX6_record := goodIn_r _ [15, 16, 2, 17, 18, 19, 20, 21, 22, 23, 24, 25, 26, 27, 28, 29, 30, 31, 32, 33, 34, 35, 36, 37, 38, 39, 40, 41, 42, 43, 44, 45, 46, 47, 48, 49, 50, 51, 52, 53, 54, 55, 56, 65, 66, 67, 68, 69, 70, 71, 72, 73, 74, 75, 76, 77, 78, 79, 80, 81, 82, 83, 84, 85, 86] (by decide +kernel) (by decide +kernel)
set_option maxRecDepth 20000 in
theorem gX6_set_X6_record : GoodIn wsX6_set (wsV RX6 62 RX6 yX6_record wsX6_record) := goodIn_app (goodIn_of _ (by decide +kernel)) ggX6_set_X6_record
set_option maxRecDepth 20000 in
theorem ggX6_set_X2_setting : GoodIn wsX6_set wsX2_setting := goodIn_r _ [60, 39, 40, 41, 77, 78, 79, 80, 81, 82, 83] (by decide +kernel) (by decide +kernel)
set_option maxRecDepth 20000 in
theorem gX6_set_X2_setting : GoodIn wsX6_set (wsV RX6 65 RX2 yX2_setting wsX2_setting) := goodIn_app (goodIn_of _ (by decide +kernel)) ggX6_set_X2_setting
set_option maxRecDepth 20000 in
theorem ggX6_set_X2_putSetting : GoodIn wsX6_set wsX2_putSetting := goodIn_r _ [64, 39, 40, 41, 77, 78, 79, 80, 81, 82, 83] (by decide +kernel) (by decide +kernel)
set_option maxRecDepth 20000 in
theorem gX6_set_X2_putSetting : GoodIn wsX6_set (wsV RX6 69 RX2 yX2_putSetting wsX2_putSetting) := goodIn_app (goodIn_of _ (by decide +kernel)) ggX6_set_X2_putSetting
theorem dX6_set_0 : decode cX6_set 0 = .ok (.iload_n 1, 1) := by decide +kernel
theorem dX6_set_1 : decode cX6_set 1 = .ok (.iload_n 2, 1) := by decide +kernel
theorem dX6_set_2 : decode cX6_set 2 = .ok (.invokestatic 57, 3) := by decide +kernel
theorem dX6_set_5 : decode cX6_set 5 = .ok (.ifCond .ne 6, 3) := by decide +kernel
theorem dX6_set_8 : decode cX6_set 8 = .ok (.ldc 61, 2) := by decide +kernel
theorem dX6_set_10 : decode cX6_set 10 = .ok (.ireturn, 1) := by decide +kernel
theorem dX6_set_11 : decode cX6_set 11 = .ok (.aload_n 0, 1) := by decide +kernel
theorem dX6_set_12 : decode cX6_set 12 = .ok (.invokevirtual 62, 3) := by decide +kernel
theorem dX6_set_15 : decode cX6_set 15 = .ok (.aload_n 0, 1) := by decide +kernel
theorem dX6_set_16 : decode cX6_set 16 = .ok (.getfield 10, 3) := by decide +kernel
theorem dX6_set_19 : decode cX6_set 19 = .ok (.iload_n 1, 1) := by decide +kernel
theorem dX6_set_20 : decode cX6_set 20 = .ok (.invokevirtual 65, 3) := by decide +kernel
theorem dX6_set_23 : decode cX6_set 23 = .ok (.istore_n 3, 1) := by decide +kernel
theorem dX6_set_24 : decode cX6_set 24 = .ok (.aload_n 0, 1) := by decide +kernel
theorem dX6_set_25 : decode cX6_set 25 = .ok (.getfield 10, 3) := by decide +kernel
theorem dX6_set_28 : decode cX6_set 28 = .ok (.iload_n 1, 1) := by decide +kernel
theorem dX6_set_29 : decode cX6_set 29 = .ok (.iload_n 2, 1) := by decide +kernel
theorem dX6_set_30 : decode cX6_set 30 = .ok (.invokevirtual 69, 3) := by decide +kernel
theorem dX6_set_33 : decode cX6_set 33 = .ok (.iload_n 3, 1) := by decide +kernel
theorem dX6_set_34 : decode cX6_set 34 = .ok (.ireturn, 1) := by decide +kernel
set_option maxRecDepth 20000 in
theorem ggX6_base_X6_isReading : GoodIn wsX6_base wsX6_isReading := goodIn_r _ [5, 6, 7, 8, 9, 4, 10, 11, 12, 13, 14, 15, 16] (by decide +kernel) (by decide +kernel)
set_option maxRecDepth 20000 in
theorem gX6_base_X6_isReading : GoodIn wsX6_base (va_wsS RX6 73 yX6_isReading wsX6_isReading) := goodIn_app (goodIn_of _ (by decide +kernel)) ggX6_base_X6_isReading
set_option maxRecDepth 20000 in
theorem ggX6_base_X6_take : GoodIn wsX6_base wsX6_take := goodIn_r _ [20, 21, 22, 23, 24, 25, 26, 27, 28, 29, 30, 31, 32, 33, 34, 35, 36, 37, 38, 39, 40, 41, 42, 43, 44, 4, 45, 46, 47, 48, 49, 50, 51, 52, 53, 54, 55, 56, 57, 58, 59, 60, 61, 62, 63, 64, 65, 66, 67, 68, 69, 70, 71, 72, 73, 74, 75, 76, 77, 78, 79, 80, 81, 82, 83, 84, 85, 86, 87, 88, 89, 90, 91, 92, 93, 94, 95, 96, 97, 98, 99, 100, 101, 102, 103, 104, 105, 106, 107, 108, 109, 110, 111, 112, 113, 114, 115, 116, 117, 118, 119] (by decide +kernel) (by decide +kernel)
set_option maxRecDepth 20000 in
theorem gX6_base_X6_take : GoodIn wsX6_base (wsV RX6 77 RX6 yX6_take wsX6_take) := goodIn_app (goodIn_of _ (by decide +kernel)) ggX6_base_X6_take
theorem dX6_base_0 : decode cX6_base 0 = .ok (.iload_n 1, 1) := by decide +kernel
theorem dX6_base_1 : decode cX6_base 1 = .ok (.iload_n 2, 1) := by decide +kernel
theorem dX6_base_2 : decode cX6_base 2 = .ok (.iload_n 3, 1) := by decide +kernel
theorem dX6_base_3 : decode cX6_base 3 = .ok (.invokestatic 73, 3) := by decide +kernel
theorem dX6_base_6 : decode cX6_base 6 = .ok (.ifCond .ne 6, 3) := by decide +kernel
theorem dX6_base_9 : decode cX6_base 9 = .ok (.ldc 61, 2) := by decide +kernel
theorem dX6_base_11 : decode cX6_base 11 = .ok (.ireturn, 1) := by decide +kernel
theorem dX6_base_12 : decode cX6_base 12 = .ok (.aload_n 0, 1) := by decide +kernel
theorem dX6_base_13 : decode cX6_base 13 = .ok (.iconst (-1), 1) := by decide +kernel
theorem dX6_base_14 : decode cX6_base 14 = .ok (.iconst 0, 1) := by decide +kernel
theorem dX6_base_15 : decode cX6_base 15 = .ok (.iload_n 1, 1) := by decide +kernel
theorem dX6_base_16 : decode cX6_base 16 = .ok (.iload_n 2, 1) := by decide +kernel
theorem dX6_base_17 : decode cX6_base 17 = .ok (.iload_n 3, 1) := by decide +kernel
theorem dX6_base_18 : decode cX6_base 18 = .ok (.invokevirtual 77, 3) := by decide +kernel
theorem dX6_base_21 : decode cX6_base 21 = .ok (.ireturn, 1) := by decide +kernel
set_option maxRecDepth 20000 in
theorem ggX6_read_X6_isCell : GoodIn wsX6_read wsX6_isCell := goodIn_r _ [5, 6, 7, 4, 8] (by decide +kernel) (by decide +kernel)
set_option maxRecDepth 20000 in
theorem gX6_read_X6_isCell : GoodIn wsX6_read (va_wsS RX6 81 yX6_isCell wsX6_isCell) := goodIn_app (goodIn_of _ (by decide +kernel)) ggX6_read_X6_isCell
set_option maxRecDepth 20000 in
theorem ggX6_read_X6_isPoint : GoodIn wsX6_read wsX6_isPoint := goodIn_r _ [11, 6, 7, 4, 8] (by decide +kernel) (by decide +kernel)
set_option maxRecDepth 20000 in
theorem gX6_read_X6_isPoint : GoodIn wsX6_read (va_wsS RX6 85 yX6_isPoint wsX6_isPoint) := goodIn_app (goodIn_of _ (by decide +kernel)) ggX6_read_X6_isPoint
set_option maxRecDepth 20000 in
theorem ggX6_read_X6_isReading : GoodIn wsX6_read wsX6_isReading := goodIn_r _ [14, 15, 16, 17, 18, 4, 19, 6, 7, 8, 20, 21, 22] (by decide +kernel) (by decide +kernel)
set_option maxRecDepth 20000 in
theorem gX6_read_X6_isReading : GoodIn wsX6_read (va_wsS RX6 73 yX6_isReading wsX6_isReading) := goodIn_app (goodIn_of _ (by decide +kernel)) ggX6_read_X6_isReading
set_option maxRecDepth 20000 in
theorem ggX6_read_X6_take : GoodIn wsX6_read wsX6_take := goodIn_r _ [26, 27, 28, 29, 30, 31, 32, 33, 34, 35, 36, 37, 38, 39, 40, 41, 42, 43, 44, 45, 46, 47, 48, 49, 50, 4, 51, 52, 53, 54, 55, 56, 57, 58, 59, 60, 61, 62, 63, 64, 65, 66, 67, 68, 69, 70, 71, 72, 73, 74, 75, 76, 77, 78, 79, 80, 81, 82, 83, 84, 85, 86, 87, 88, 89, 90, 91, 92, 93, 94, 95, 96, 97, 98, 99, 100, 101, 102, 103, 104, 105, 106, 107, 108, 109, 110, 111, 112, 113, 114, 115, 116, 117, 118, 119, 120, 121, 122, 123, 124, 125] (by decide +kernel) (by decide +kernel)
set_option maxRecDepth 20000 in
theorem gX6_read_X6_take : GoodIn wsX6_read (wsV RX6 77 RX6 yX6_take wsX6_take) := goodIn_app (goodIn_of _ (by decide +kernel)) ggX6_read_X6_take
theorem dX6_read_0 : decode cX6_read 0 = .ok (.iload_n 1, 1) := by decide +kernel
theorem dX6_read_1 : decode cX6_read 1 = .ok (.invokestatic 81, 3) := by decide +kernel
theorem dX6_read_4 : decode cX6_read 4 = .ok (.ifCond .eq 21, 3) := by decide +kernel
theorem dX6_read_7 : decode cX6_read 7 = .ok (.iload_n 2, 1) := by decide +kernel
theorem dX6_read_8 : decode cX6_read 8 = .ok (.invokestatic 85, 3) := by decide +kernel
theorem dX6_read_11 : decode cX6_read 11 = .ok (.ifCond .eq 14, 3) := by decide +kernel
theorem dX6_read_14 : decode cX6_read 14 = .ok (.iload_n 3, 1) := by decide +kernel
theorem dX6_read_15 : decode cX6_read 15 = .ok (.iload 4, 2) := by decide +kernel
theorem dX6_read_17 : decode cX6_read 17 = .ok (.iload 5, 2) := by decide +kernel
theorem dX6_read_19 : decode cX6_read 19 = .ok (.invokestatic 73, 3) := by decide +kernel
theorem dX6_read_22 : decode cX6_read 22 = .ok (.ifCond .ne 6, 3) := by decide +kernel
theorem dX6_read_25 : decode cX6_read 25 = .ok (.ldc 61, 2) := by decide +kernel
theorem dX6_read_27 : decode cX6_read 27 = .ok (.ireturn, 1) := by decide +kernel
theorem dX6_read_28 : decode cX6_read 28 = .ok (.aload_n 0, 1) := by decide +kernel
theorem dX6_read_29 : decode cX6_read 29 = .ok (.iload_n 1, 1) := by decide +kernel
theorem dX6_read_30 : decode cX6_read 30 = .ok (.iload_n 2, 1) := by decide +kernel
theorem dX6_read_31 : decode cX6_read 31 = .ok (.iload_n 3, 1) := by decide +kernel
theorem dX6_read_32 : decode cX6_read 32 = .ok (.iload 4, 2) := by decide +kernel
theorem dX6_read_34 : decode cX6_read 34 = .ok (.iload 5, 2) := by decide +kernel
theorem dX6_read_36 : decode cX6_read 36 = .ok (.invokevirtual 77, 3) := by decide +kernel
theorem dX6_read_39 : decode cX6_read 39 = .ok (.ireturn, 1) := by decide +kernel
set_option maxRecDepth 20000 in
theorem ggX6_drop_X6_isReadingOf : GoodIn wsX6_drop wsX6_isReadingOf := goodIn_r _ [7, 2, 8, 9, 6, 10, 11, 12, 13, 14, 15, 16, 17, 18, 19, 20, 21, 22, 79, 80, 81, 82, 83, 84, 85, 86, 87, 88, 89, 90, 91, 92, 93, 94, 95, 96, 97] (by decide +kernel) (by decide +kernel)
set_option maxRecDepth 20000 in
theorem gX6_drop_X6_isReadingOf : GoodIn wsX6_drop (wsV RX6 88 RX6 yX6_isReadingOf wsX6_isReadingOf) := goodIn_app (goodIn_of _ (by decide +kernel)) ggX6_drop_X6_isReadingOf
set_option maxRecDepth 20000 in
theorem ggX6_drop_X6_record : GoodIn wsX6_drop wsX6_record := goodIn_r _ [26, 27, 2, 28, 29, 30, 31, 32, 33, 34, 35, 36, 37, 38, 39, 40, 41, 42, 43, 17, 44, 22, 19, 20, 21, 45, 46, 47, 48, 49, 50, 51, 52, 53, 54, 55, 56, 57, 58, 59, 60, 61, 62, 79, 80, 81, 82, 83, 84, 85, 86, 87, 98, 99, 100, 91, 92, 93, 94, 95, 96, 97, 88, 89, 90] (by decide +kernel) (by decide +kernel)
set_option maxRecDepth 20000 in
theorem gX6_drop_X6_record : GoodIn wsX6_drop (wsV RX6 62 RX6 yX6_record wsX6_record) := goodIn_app (goodIn_of _ (by decide +kernel)) ggX6_drop_X6_record
set_option maxRecDepth 20000 in
theorem ggX6_drop_X2_track : GoodIn wsX6_drop wsX2_track := goodIn_r _ [18, 19, 20, 21, 22, 91, 92, 93, 94, 95, 96, 97] (by decide +kernel) (by decide +kernel)
set_option maxRecDepth 20000 in
theorem gX6_drop_X2_track : GoodIn wsX6_drop (wsV RX6 91 RX2 yX2_track wsX2_track) := goodIn_app (goodIn_of _ (by decide +kernel)) ggX6_drop_X2_track
set_option maxRecDepth 20000 in
theorem ggX6_drop_X5_remove : GoodIn wsX6_drop wsX5_remove := goodIn_r _ [66, 62, 67, 68, 69, 51, 70, 53, 71, 72, 73, 74, 75, 6, 76, 77, 78, 88, 89, 90] (by decide +kernel) (by decide +kernel)
set_option maxRecDepth 20000 in
theorem gX6_drop_X5_remove : GoodIn wsX6_drop (wsV RX6 95 RX5 yX5_remove wsX5_remove) := goodIn_app (goodIn_of _ (by decide +kernel)) ggX6_drop_X5_remove
theorem dX6_drop_0 : decode cX6_drop 0 = .ok (.aload_n 0, 1) := by decide +kernel
theorem dX6_drop_1 : decode cX6_drop 1 = .ok (.iload_n 1, 1) := by decide +kernel
theorem dX6_drop_2 : decode cX6_drop 2 = .ok (.iload_n 2, 1) := by decide +kernel
theorem dX6_drop_3 : decode cX6_drop 3 = .ok (.invokevirtual 88, 3) := by decide +kernel
theorem dX6_drop_6 : decode cX6_drop 6 = .ok (.ifCond .ne 6, 3) := by decide +kernel
theorem dX6_drop_9 : decode cX6_drop 9 = .ok (.ldc 61, 2) := by decide +kernel
theorem dX6_drop_11 : decode cX6_drop 11 = .ok (.ireturn, 1) := by decide +kernel
theorem dX6_drop_12 : decode cX6_drop 12 = .ok (.aload_n 0, 1) := by decide +kernel
theorem dX6_drop_13 : decode cX6_drop 13 = .ok (.invokevirtual 62, 3) := by decide +kernel
theorem dX6_drop_16 : decode cX6_drop 16 = .ok (.aload_n 0, 1) := by decide +kernel
theorem dX6_drop_17 : decode cX6_drop 17 = .ok (.getfield 10, 3) := by decide +kernel
theorem dX6_drop_20 : decode cX6_drop 20 = .ok (.iload_n 1, 1) := by decide +kernel
theorem dX6_drop_21 : decode cX6_drop 21 = .ok (.invokevirtual 91, 3) := by decide +kernel
theorem dX6_drop_24 : decode cX6_drop 24 = .ok (.astore_n 3, 1) := by decide +kernel
theorem dX6_drop_25 : decode cX6_drop 25 = .ok (.aload_n 3, 1) := by decide +kernel
theorem dX6_drop_26 : decode cX6_drop 26 = .ok (.iload_n 2, 1) := by decide +kernel
theorem dX6_drop_27 : decode cX6_drop 27 = .ok (.invokevirtual 95, 3) := by decide +kernel
theorem dX6_drop_30 : decode cX6_drop 30 = .ok (.aload_n 3, 1) := by decide +kernel
theorem dX6_drop_31 : decode cX6_drop 31 = .ok (.getfield 101, 3) := by decide +kernel
theorem dX6_drop_34 : decode cX6_drop 34 = .ok (.ireturn, 1) := by decide +kernel
set_option maxRecDepth 20000 in
theorem ggX6_reading_X6_isReadingOf : GoodIn wsX6_reading wsX6_isReadingOf := goodIn_r _ [8, 3, 9, 10, 7, 11, 12, 13, 14, 15, 16, 17, 18, 19, 20, 21, 22, 23, 147, 148, 149, 150, 151, 152, 153, 154, 155, 156, 157, 158, 159, 160, 161, 162, 163, 164, 165] (by decide +kernel) (by decide +kernel)
set_option maxRecDepth 20000 in
theorem gX6_reading_X6_isReadingOf : GoodIn wsX6_reading (wsV RX6 88 RX6 yX6_isReadingOf wsX6_isReadingOf) := goodIn_app (goodIn_of _ (by decide +kernel)) ggX6_reading_X6_isReadingOf
set_option maxRecDepth 20000 in
theorem ggX6_reading_X6_within : GoodIn wsX6_reading wsX6_within := goodIn_r _ [14] (by decide +kernel) (by decide +kernel)
set_option maxRecDepth 20000 in
theorem gX6_reading_X6_within : GoodIn wsX6_reading (va_wsS RX6 105 yX6_within wsX6_within) := goodIn_app (goodIn_of _ (by decide +kernel)) ggX6_reading_X6_within
set_option maxRecDepth 20000 in
theorem ggX6_reading_X6_refresh : GoodIn wsX6_reading wsX6_refresh := goodIn_r _ [27, 28, 29, 3, 30, 31, 32, 33, 34, 35, 36, 37, 38, 39, 40, 41, 42, 43, 44, 16, 17, 18, 19, 20, 21, 22, 23, 45, 46, 47, 48, 49, 50, 51, 7, 52, 53, 54, 55, 56, 57, 58, 59, 60, 61, 62, 63, 64, 65, 66, 67, 68, 69, 70, 71, 72, 73, 74, 75, 76, 77, 78, 79, 80, 81, 82, 83, 84, 85, 86, 87, 88, 89, 90, 91, 92, 93, 94, 95, 96, 97, 98, 99, 100, 101, 102, 103, 104, 105, 106, 107, 108, 109, 110, 111, 112, 113, 114, 115, 116, 117, 118, 119, 120, 121, 122, 123, 124, 125, 126, 127, 128, 129, 130, 131, 132, 133, 134, 135, 136, 137, 138, 139, 147, 148, 149, 150, 151, 152, 153, 154, 155, 156, 157, 158, 166, 167, 168, 169, 170, 171, 172, 173, 174, 175, 176, 177, 159, 160, 161, 162, 163, 164, 165] (by decide +kernel) (by decide +kernel)
set_option maxRecDepth 20000 in
theorem gX6_reading_X6_refresh : GoodIn wsX6_reading (wsV RX6 109 RX6 yX6_refresh wsX6_refresh) := goodIn_app (goodIn_of _ (by decide +kernel)) ggX6_reading_X6_refresh
set_option maxRecDepth 20000 in
theorem ggX6_reading_X6_surveyOf : GoodIn wsX6_reading wsX6_surveyOf := goodIn_r _ [143, 29, 30, 31, 147, 148, 149, 150, 151, 152, 153, 154, 155] (by decide +kernel) (by decide +kernel)
set_option maxRecDepth 20000 in
theorem gX6_reading_X6_surveyOf : GoodIn wsX6_reading (wsV RX6 112 RX6 yX6_surveyOf wsX6_surveyOf) := goodIn_app (goodIn_of _ (by decide +kernel)) ggX6_reading_X6_surveyOf
set_option maxRecDepth 20000 in
theorem ggX6_reading_X3_isGust : GoodIn wsX6_reading wsX3_isGust := goodIn_r _ [91, 41, 51, 7, 52, 166, 167, 168, 169, 170, 171, 172, 173, 174, 175, 176, 177] (by decide +kernel) (by decide +kernel)
set_option maxRecDepth 20000 in
theorem gX6_reading_X3_isGust : GoodIn wsX6_reading (wsV RX6 116 RX3 yX3_isGust wsX3_isGust) := goodIn_app (goodIn_of _ (by decide +kernel)) ggX6_reading_X3_isGust
set_option maxRecDepth 20000 in
theorem ggX6_reading_X3_isGood : GoodIn wsX6_reading wsX3_isGood := goodIn_r _ [95, 40, 96, 41, 51, 7, 52, 166, 167, 168, 169, 170, 171, 172, 173, 174, 175, 176, 177] (by decide +kernel) (by decide +kernel)
set_option maxRecDepth 20000 in
theorem gX6_reading_X3_isGood : GoodIn wsX6_reading (wsV RX6 119 RX3 yX3_isGood wsX3_isGood) := goodIn_app (goodIn_of _ (by decide +kernel)) ggX6_reading_X3_isGood
set_option maxRecDepth 20000 in
theorem ggX6_reading_X2_track : GoodIn wsX6_reading wsX2_track := goodIn_r _ [19, 20, 21, 22, 23, 159, 160, 161, 162, 163, 164, 165] (by decide +kernel) (by decide +kernel)
set_option maxRecDepth 20000 in
theorem gX6_reading_X2_track : GoodIn wsX6_reading (wsV RX6 91 RX2 yX2_track wsX2_track) := goodIn_app (goodIn_of _ (by decide +kernel)) ggX6_reading_X2_track
set_option maxRecDepth 20000 in
theorem ggX6_reading_X5_value : GoodIn wsX6_reading wsX5_value := goodIn_r _ [49, 50, 51, 7, 52, 156, 157, 158] (by decide +kernel) (by decide +kernel)
set_option maxRecDepth 20000 in
theorem gX6_reading_X5_value : GoodIn wsX6_reading (wsV RX6 122 RX5 yX5_value wsX5_value) := goodIn_app (goodIn_of _ (by decide +kernel)) ggX6_reading_X5_value
theorem dX6_reading_0 : decode cX6_reading 0 = .ok (.aload_n 0, 1) := by decide +kernel
theorem dX6_reading_1 : decode cX6_reading 1 = .ok (.iload_n 1, 1) := by decide +kernel
theorem dX6_reading_2 : decode cX6_reading 2 = .ok (.iload_n 2, 1) := by decide +kernel
theorem dX6_reading_3 : decode cX6_reading 3 = .ok (.invokevirtual 88, 3) := by decide +kernel
theorem dX6_reading_6 : decode cX6_reading 6 = .ok (.ifCond .eq 12, 3) := by decide +kernel
theorem dX6_reading_9 : decode cX6_reading 9 = .ok (.iload_n 3, 1) := by decide +kernel
theorem dX6_reading_10 : decode cX6_reading 10 = .ok (.iconst 0, 1) := by decide +kernel
theorem dX6_reading_11 : decode cX6_reading 11 = .ok (.iconst 5, 1) := by decide +kernel
theorem dX6_reading_12 : decode cX6_reading 12 = .ok (.invokestatic 105, 3) := by decide +kernel
theorem dX6_reading_15 : decode cX6_reading 15 = .ok (.ifCond .ne 6, 3) := by decide +kernel
theorem dX6_reading_18 : decode cX6_reading 18 = .ok (.ldc 61, 2) := by decide +kernel
theorem dX6_reading_20 : decode cX6_reading 20 = .ok (.ireturn, 1) := by decide +kernel
theorem dX6_reading_21 : decode cX6_reading 21 = .ok (.iload_n 1, 1) := by decide +kernel
theorem dX6_reading_22 : decode cX6_reading 22 = .ok (.iconst (-1), 1) := by decide +kernel
theorem dX6_reading_23 : decode cX6_reading 23 = .ok (.if_icmp .ne 11, 3) := by decide +kernel
theorem dX6_reading_26 : decode cX6_reading 26 = .ok (.iload_n 3, 1) := by decide +kernel
theorem dX6_reading_27 : decode cX6_reading 27 = .ok (.iconst 3, 1) := by decide +kernel
theorem dX6_reading_28 : decode cX6_reading 28 = .ok (.if_icmp .lt 6, 3) := by decide +kernel
theorem dX6_reading_31 : decode cX6_reading 31 = .ok (.ldc 108, 2) := by decide +kernel
theorem dX6_reading_33 : decode cX6_reading 33 = .ok (.ireturn, 1) := by decide +kernel
theorem dX6_reading_34 : decode cX6_reading 34 = .ok (.aload_n 0, 1) := by decide +kernel
theorem dX6_reading_35 : decode cX6_reading 35 = .ok (.invokevirtual 109, 3) := by decide +kernel
theorem dX6_reading_38 : decode cX6_reading 38 = .ok (.iload_n 3, 1) := by decide +kernel
theorem dX6_reading_39 : decode cX6_reading 39 = .ok (.lookupswitch 61 #[(4, 25), (5, 43)], 25) := by decide +kernel
theorem dX6_reading_64 : decode cX6_reading 64 = .ok (.aload_n 0, 1) := by decide +kernel
theorem dX6_reading_65 : decode cX6_reading 65 = .ok (.iload_n 1, 1) := by decide +kernel
theorem dX6_reading_66 : decode cX6_reading 66 = .ok (.invokevirtual 112, 3) := by decide +kernel
theorem dX6_reading_69 : decode cX6_reading 69 = .ok (.iload_n 2, 1) := by decide +kernel
theorem dX6_reading_70 : decode cX6_reading 70 = .ok (.invokevirtual 116, 3) := by decide +kernel
theorem dX6_reading_73 : decode cX6_reading 73 = .ok (.ifCond .eq 7, 3) := by decide +kernel
theorem dX6_reading_76 : decode cX6_reading 76 = .ok (.iconst 1, 1) := by decide +kernel
theorem dX6_reading_77 : decode cX6_reading 77 = .ok (.goto 4, 3) := by decide +kernel
theorem dX6_reading_80 : decode cX6_reading 80 = .ok (.iconst 0, 1) := by decide +kernel
theorem dX6_reading_81 : decode cX6_reading 81 = .ok (.ireturn, 1) := by decide +kernel
theorem dX6_reading_82 : decode cX6_reading 82 = .ok (.aload_n 0, 1) := by decide +kernel
theorem dX6_reading_83 : decode cX6_reading 83 = .ok (.iload_n 1, 1) := by decide +kernel
theorem dX6_reading_84 : decode cX6_reading 84 = .ok (.invokevirtual 112, 3) := by decide +kernel
theorem dX6_reading_87 : decode cX6_reading 87 = .ok (.iload_n 2, 1) := by decide +kernel
theorem dX6_reading_88 : decode cX6_reading 88 = .ok (.invokevirtual 119, 3) := by decide +kernel
theorem dX6_reading_91 : decode cX6_reading 91 = .ok (.ifCond .eq 7, 3) := by decide +kernel
theorem dX6_reading_94 : decode cX6_reading 94 = .ok (.iconst 1, 1) := by decide +kernel
theorem dX6_reading_95 : decode cX6_reading 95 = .ok (.goto 4, 3) := by decide +kernel
theorem dX6_reading_98 : decode cX6_reading 98 = .ok (.iconst 0, 1) := by decide +kernel
theorem dX6_reading_99 : decode cX6_reading 99 = .ok (.ireturn, 1) := by decide +kernel
theorem dX6_reading_100 : decode cX6_reading 100 = .ok (.aload_n 0, 1) := by decide +kernel
theorem dX6_reading_101 : decode cX6_reading 101 = .ok (.getfield 10, 3) := by decide +kernel
theorem dX6_reading_104 : decode cX6_reading 104 = .ok (.iload_n 1, 1) := by decide +kernel
theorem dX6_reading_105 : decode cX6_reading 105 = .ok (.invokevirtual 91, 3) := by decide +kernel
theorem dX6_reading_108 : decode cX6_reading 108 = .ok (.iload_n 2, 1) := by decide +kernel
theorem dX6_reading_109 : decode cX6_reading 109 = .ok (.iload_n 3, 1) := by decide +kernel
theorem dX6_reading_110 : decode cX6_reading 110 = .ok (.invokevirtual 122, 3) := by decide +kernel
theorem dX6_reading_113 : decode cX6_reading 113 = .ok (.ireturn, 1) := by decide +kernel
set_option maxRecDepth 20000 in
theorem ggX6_count_X6_refresh : GoodIn wsX6_count wsX6_refresh := goodIn_r _ [12, 13, 2, 1, 3, 4, 14, 15, 16, 17, 18, 19, 20, 21, 22, 23, 24, 25, 26, 27, 28, 29, 30, 31, 32, 33, 34, 35, 36, 37, 38, 39, 40, 41, 11, 42, 43, 44, 45, 46, 47, 48, 49, 50, 51, 52, 53, 54, 55, 56, 57, 58, 59, 60, 61, 62, 63, 64, 65, 66, 67, 68, 69, 70, 71, 72, 73, 74, 75, 76, 77, 78, 79, 80, 81, 82, 83, 84, 85, 86, 87, 88, 89, 90, 91, 92, 93, 94, 95, 96, 97, 98, 99, 100, 101, 102, 103, 104, 105, 106, 107, 108, 109, 110, 111, 112, 113, 114, 115, 116, 117, 118, 119, 120, 121, 122, 123, 124, 125, 126, 127, 128, 129, 193, 194, 195, 196, 197, 198, 199, 200, 201, 202, 203, 204, 205, 206, 207, 208, 209, 210, 211, 212, 213, 214, 215, 216, 231, 232, 233, 234, 235, 236, 237] (by decide +kernel) (by decide +kernel)
set_option maxRecDepth 20000 in
theorem gX6_count_X6_refresh : GoodIn wsX6_count (wsV RX6 109 RX6 yX6_refresh wsX6_refresh) := goodIn_app (goodIn_of _ (by decide +kernel)) ggX6_count_X6_refresh
set_option maxRecDepth 20000 in
theorem ggX6_count_X2_track : GoodIn wsX6_count wsX2_track := goodIn_r _ [30, 31, 32, 33, 34, 231, 232, 233, 234, 235, 236, 237] (by decide +kernel) (by decide +kernel)
set_option maxRecDepth 20000 in
theorem gX6_count_X2_track : GoodIn wsX6_count (wsV RX6 91 RX2 yX2_track wsX2_track) := goodIn_app (goodIn_of _ (by decide +kernel)) ggX6_count_X2_track
set_option maxRecDepth 20000 in
theorem ggX6_count_X2_steps : GoodIn wsX6_count wsX2_steps := goodIn_r _ [134, 34, 135, 136, 137, 29, 138, 139, 140, 141, 142, 143, 56, 36, 37, 38, 39, 40, 41, 11, 42, 231, 232, 233, 234, 235, 236, 237, 202, 203, 204] (by decide +kernel) (by decide +kernel)
set_option maxRecDepth 20000 in
theorem gX6_count_X2_steps : GoodIn wsX6_count (wsV RX6 132 RX2 yX2_steps wsX2_steps) := goodIn_app (goodIn_of _ (by decide +kernel)) ggX6_count_X2_steps
set_option maxRecDepth 20000 in
theorem ggX6_count_X6_pointsWithHeight : GoodIn wsX6_count wsX6_pointsWithHeight := goodIn_r _ [147, 148, 149, 150, 151, 11, 152, 153, 154, 155, 156, 157, 158, 159, 160, 161, 162, 163, 2, 3, 4, 164, 165, 166, 17, 167, 19, 21, 82, 83, 84, 85, 22, 86, 23, 41, 42, 168, 169, 170, 171, 118, 119, 120, 121, 24, 106, 107, 108, 109, 93, 172, 173, 174, 175, 25, 176, 177, 178, 179, 180, 181, 182, 141, 183, 184, 185, 186, 187, 193, 194, 195, 196, 197, 198, 199, 200, 201, 238, 239, 240, 241, 205, 206, 207, 208, 209, 210, 211, 212, 213, 214, 215, 216] (by decide +kernel) (by decide +kernel)
set_option maxRecDepth 20000 in
theorem gX6_count_X6_pointsWithHeight : GoodIn wsX6_count (wsV RX6 136 RX6 yX6_pointsWithHeight wsX6_pointsWithHeight) := goodIn_app (goodIn_of _ (by decide +kernel)) ggX6_count_X6_pointsWithHeight
set_option maxRecDepth 20000 in
theorem ggX6_count_X2_setting : GoodIn wsX6_count wsX2_setting := goodIn_r _ [191, 51, 192, 143, 231, 232, 233, 234, 235, 236, 237] (by decide +kernel) (by decide +kernel)
set_option maxRecDepth 20000 in
theorem gX6_count_X2_setting : GoodIn wsX6_count (wsV RX6 65 RX2 yX2_setting wsX2_setting) := goodIn_app (goodIn_of _ (by decide +kernel)) ggX6_count_X2_setting
theorem dX6_count_0 : decode cX6_count 0 = .ok (.aload_n 0, 1) := by decide +kernel
theorem dX6_count_1 : decode cX6_count 1 = .ok (.invokevirtual 109, 3) := by decide +kernel
theorem dX6_count_4 : decode cX6_count 4 = .ok (.iload_n 1, 1) := by decide +kernel
theorem dX6_count_5 : decode cX6_count 5 = .ok (.tableswitch 198 0 13 #[71, 71, 71, 71, 85, 109, 133, 141, 146, 154, 162, 162, 162, 174], 71) := by decide +kernel
theorem dX6_count_76 : decode cX6_count 76 = .ok (.aload_n 0, 1) := by decide +kernel
theorem dX6_count_77 : decode cX6_count 77 = .ok (.getfield 10, 3) := by decide +kernel
theorem dX6_count_80 : decode cX6_count 80 = .ok (.iload_n 1, 1) := by decide +kernel
theorem dX6_count_81 : decode cX6_count 81 = .ok (.iconst 1, 1) := by decide +kernel
theorem dX6_count_82 : decode cX6_count 82 = .ok (.isub, 1) := by decide +kernel
theorem dX6_count_83 : decode cX6_count 83 = .ok (.invokevirtual 91, 3) := by decide +kernel
theorem dX6_count_86 : decode cX6_count 86 = .ok (.getfield 101, 3) := by decide +kernel
theorem dX6_count_89 : decode cX6_count 89 = .ok (.ireturn, 1) := by decide +kernel
theorem dX6_count_90 : decode cX6_count 90 = .ok (.aload_n 0, 1) := by decide +kernel
theorem dX6_count_91 : decode cX6_count 91 = .ok (.getfield 29, 3) := by decide +kernel
theorem dX6_count_94 : decode cX6_count 94 = .ok (.getfield 126, 3) := by decide +kernel
theorem dX6_count_97 : decode cX6_count 97 = .ok (.aload_n 0, 1) := by decide +kernel
theorem dX6_count_98 : decode cX6_count 98 = .ok (.getfield 33, 3) := by decide +kernel
theorem dX6_count_101 : decode cX6_count 101 = .ok (.getfield 126, 3) := by decide +kernel
theorem dX6_count_104 : decode cX6_count 104 = .ok (.iadd, 1) := by decide +kernel
theorem dX6_count_105 : decode cX6_count 105 = .ok (.aload_n 0, 1) := by decide +kernel
theorem dX6_count_106 : decode cX6_count 106 = .ok (.getfield 36, 3) := by decide +kernel
theorem dX6_count_109 : decode cX6_count 109 = .ok (.getfield 126, 3) := by decide +kernel
theorem dX6_count_112 : decode cX6_count 112 = .ok (.iadd, 1) := by decide +kernel
theorem dX6_count_113 : decode cX6_count 113 = .ok (.ireturn, 1) := by decide +kernel
theorem dX6_count_114 : decode cX6_count 114 = .ok (.aload_n 0, 1) := by decide +kernel
theorem dX6_count_115 : decode cX6_count 115 = .ok (.getfield 29, 3) := by decide +kernel
theorem dX6_count_118 : decode cX6_count 118 = .ok (.getfield 129, 3) := by decide +kernel
theorem dX6_count_121 : decode cX6_count 121 = .ok (.aload_n 0, 1) := by decide +kernel
theorem dX6_count_122 : decode cX6_count 122 = .ok (.getfield 33, 3) := by decide +kernel
theorem dX6_count_125 : decode cX6_count 125 = .ok (.getfield 129, 3) := by decide +kernel
theorem dX6_count_128 : decode cX6_count 128 = .ok (.iadd, 1) := by decide +kernel
theorem dX6_count_129 : decode cX6_count 129 = .ok (.aload_n 0, 1) := by decide +kernel
theorem dX6_count_130 : decode cX6_count 130 = .ok (.getfield 36, 3) := by decide +kernel
theorem dX6_count_133 : decode cX6_count 133 = .ok (.getfield 129, 3) := by decide +kernel
theorem dX6_count_136 : decode cX6_count 136 = .ok (.iadd, 1) := by decide +kernel
theorem dX6_count_137 : decode cX6_count 137 = .ok (.ireturn, 1) := by decide +kernel
theorem dX6_count_138 : decode cX6_count 138 = .ok (.aload_n 0, 1) := by decide +kernel
theorem dX6_count_139 : decode cX6_count 139 = .ok (.getfield 10, 3) := by decide +kernel
theorem dX6_count_142 : decode cX6_count 142 = .ok (.invokevirtual 132, 3) := by decide +kernel
theorem dX6_count_145 : decode cX6_count 145 = .ok (.ireturn, 1) := by decide +kernel
theorem dX6_count_146 : decode cX6_count 146 = .ok (.aload_n 0, 1) := by decide +kernel
theorem dX6_count_147 : decode cX6_count 147 = .ok (.invokevirtual 136, 3) := by decide +kernel
theorem dX6_count_150 : decode cX6_count 150 = .ok (.ireturn, 1) := by decide +kernel
theorem dX6_count_151 : decode cX6_count 151 = .ok (.aload_n 0, 1) := by decide +kernel
theorem dX6_count_152 : decode cX6_count 152 = .ok (.getfield 22, 3) := by decide +kernel
theorem dX6_count_155 : decode cX6_count 155 = .ok (.getfield 139, 3) := by decide +kernel
theorem dX6_count_158 : decode cX6_count 158 = .ok (.ireturn, 1) := by decide +kernel
theorem dX6_count_159 : decode cX6_count 159 = .ok (.aload_n 0, 1) := by decide +kernel
theorem dX6_count_160 : decode cX6_count 160 = .ok (.getfield 49, 3) := by decide +kernel
theorem dX6_count_163 : decode cX6_count 163 = .ok (.getfield 140, 3) := by decide +kernel
theorem dX6_count_166 : decode cX6_count 166 = .ok (.ireturn, 1) := by decide +kernel
theorem dX6_count_167 : decode cX6_count 167 = .ok (.aload_n 0, 1) := by decide +kernel
theorem dX6_count_168 : decode cX6_count 168 = .ok (.getfield 10, 3) := by decide +kernel
theorem dX6_count_171 : decode cX6_count 171 = .ok (.iload_n 1, 1) := by decide +kernel
theorem dX6_count_172 : decode cX6_count 172 = .ok (.bipush 10, 2) := by decide +kernel
theorem dX6_count_174 : decode cX6_count 174 = .ok (.isub, 1) := by decide +kernel
theorem dX6_count_175 : decode cX6_count 175 = .ok (.invokevirtual 65, 3) := by decide +kernel
theorem dX6_count_178 : decode cX6_count 178 = .ok (.ireturn, 1) := by decide +kernel
theorem dX6_count_179 : decode cX6_count 179 = .ok (.aload_n 0, 1) := by decide +kernel
theorem dX6_count_180 : decode cX6_count 180 = .ok (.getfield 29, 3) := by decide +kernel
theorem dX6_count_183 : decode cX6_count 183 = .ok (.getfield 143, 3) := by decide +kernel
theorem dX6_count_186 : decode cX6_count 186 = .ok (.aload_n 0, 1) := by decide +kernel
theorem dX6_count_187 : decode cX6_count 187 = .ok (.getfield 33, 3) := by decide +kernel
theorem dX6_count_190 : decode cX6_count 190 = .ok (.getfield 143, 3) := by decide +kernel
theorem dX6_count_193 : decode cX6_count 193 = .ok (.iadd, 1) := by decide +kernel
theorem dX6_count_194 : decode cX6_count 194 = .ok (.aload_n 0, 1) := by decide +kernel
theorem dX6_count_195 : decode cX6_count 195 = .ok (.getfield 36, 3) := by decide +kernel
theorem dX6_count_198 : decode cX6_count 198 = .ok (.getfield 143, 3) := by decide +kernel
theorem dX6_count_201 : decode cX6_count 201 = .ok (.iadd, 1) := by decide +kernel
theorem dX6_count_202 : decode cX6_count 202 = .ok (.ireturn, 1) := by decide +kernel
theorem dX6_count_203 : decode cX6_count 203 = .ok (.ldc 61, 2) := by decide +kernel
theorem dX6_count_205 : decode cX6_count 205 = .ok (.ireturn, 1) := by decide +kernel
set_option maxRecDepth 20000 in
theorem ggX6_undo_X0_giveBack : GoodIn wsX6_undo wsX0_giveBack := goodIn_r _ [9, 10, 11, 12, 13, 8, 14, 15, 16, 17, 18, 19, 20, 21, 22, 23, 24, 25, 26, 27, 28, 29, 30, 31, 32, 33, 34, 35, 36, 37, 38, 39, 40, 41, 42, 43, 53, 54, 55, 56, 57, 58, 59, 60, 61, 62, 63, 64, 65] (by decide +kernel) (by decide +kernel)
set_option maxRecDepth 20000 in
theorem gX6_undo_X0_giveBack : GoodIn wsX6_undo (wsV RX6 147 RX0 yX0_giveBack wsX0_giveBack) := goodIn_app (goodIn_of _ (by decide +kernel)) ggX6_undo_X0_giveBack
theorem dX6_undo_0 : decode cX6_undo 0 = .ok (.aload_n 0, 1) := by decide +kernel
theorem dX6_undo_1 : decode cX6_undo 1 = .ok (.getfield 22, 3) := by decide +kernel
theorem dX6_undo_4 : decode cX6_undo 4 = .ok (.getfield 139, 3) := by decide +kernel
theorem dX6_undo_7 : decode cX6_undo 7 = .ok (.ifCond .ne 6, 3) := by decide +kernel
theorem dX6_undo_10 : decode cX6_undo 10 = .ok (.ldc 146, 2) := by decide +kernel
theorem dX6_undo_12 : decode cX6_undo 12 = .ok (.ireturn, 1) := by decide +kernel
theorem dX6_undo_13 : decode cX6_undo 13 = .ok (.aload_n 0, 1) := by decide +kernel
theorem dX6_undo_14 : decode cX6_undo 14 = .ok (.getfield 22, 3) := by decide +kernel
theorem dX6_undo_17 : decode cX6_undo 17 = .ok (.aload_n 0, 1) := by decide +kernel
theorem dX6_undo_18 : decode cX6_undo 18 = .ok (.getfield 10, 3) := by decide +kernel
theorem dX6_undo_21 : decode cX6_undo 21 = .ok (.invokevirtual 147, 3) := by decide +kernel
theorem dX6_undo_24 : decode cX6_undo 24 = .ok (.aload_n 0, 1) := by decide +kernel
theorem dX6_undo_25 : decode cX6_undo 25 = .ok (.iconst 1, 1) := by decide +kernel
theorem dX6_undo_26 : decode cX6_undo 26 = .ok (.putfield 53, 3) := by decide +kernel
theorem dX6_undo_29 : decode cX6_undo 29 = .ok (.aload_n 0, 1) := by decide +kernel
theorem dX6_undo_30 : decode cX6_undo 30 = .ok (.getfield 22, 3) := by decide +kernel
theorem dX6_undo_33 : decode cX6_undo 33 = .ok (.getfield 139, 3) := by decide +kernel
theorem dX6_undo_36 : decode cX6_undo 36 = .ok (.ireturn, 1) := by decide +kernel
set_option maxRecDepth 20000 in
theorem ggX6_baseAt_X6_isTime : GoodIn wsX6_baseAt wsX6_isTime := goodIn_r _ [6, 7, 8, 5, 9] (by decide +kernel) (by decide +kernel)
set_option maxRecDepth 20000 in
theorem gX6_baseAt_X6_isTime : GoodIn wsX6_baseAt (va_wsS RX6 151 yX6_isTime wsX6_isTime) := goodIn_app (goodIn_of _ (by decide +kernel)) ggX6_baseAt_X6_isTime
set_option maxRecDepth 20000 in
theorem ggX6_baseAt_X6_within : GoodIn wsX6_baseAt wsX6_within := goodIn_r _ [9] (by decide +kernel) (by decide +kernel)
set_option maxRecDepth 20000 in
theorem gX6_baseAt_X6_within : GoodIn wsX6_baseAt (va_wsS RX6 105 yX6_within wsX6_within) := goodIn_app (goodIn_of _ (by decide +kernel)) ggX6_baseAt_X6_within
set_option maxRecDepth 20000 in
theorem ggX6_baseAt_X2_baseValue : GoodIn wsX6_baseAt wsX2_baseValue := goodIn_r _ [14, 15, 16, 17, 18, 19, 20, 21, 22, 23, 5, 24, 25, 26, 27, 28, 29, 30, 40, 41, 42, 43, 44, 45, 46, 47, 48, 49] (by decide +kernel) (by decide +kernel)
set_option maxRecDepth 20000 in
theorem gX6_baseAt_X2_baseValue : GoodIn wsX6_baseAt (wsV RX6 154 RX2 yX2_baseValue wsX2_baseValue) := goodIn_app (goodIn_of _ (by decide +kernel)) ggX6_baseAt_X2_baseValue
theorem dX6_baseAt_0 : decode cX6_baseAt 0 = .ok (.iload_n 1, 1) := by decide +kernel
theorem dX6_baseAt_1 : decode cX6_baseAt 1 = .ok (.invokestatic 151, 3) := by decide +kernel
theorem dX6_baseAt_4 : decode cX6_baseAt 4 = .ok (.ifCond .eq 12, 3) := by decide +kernel
theorem dX6_baseAt_7 : decode cX6_baseAt 7 = .ok (.iload_n 2, 1) := by decide +kernel
theorem dX6_baseAt_8 : decode cX6_baseAt 8 = .ok (.iconst 0, 1) := by decide +kernel
theorem dX6_baseAt_9 : decode cX6_baseAt 9 = .ok (.iconst 1, 1) := by decide +kernel
theorem dX6_baseAt_10 : decode cX6_baseAt 10 = .ok (.invokestatic 105, 3) := by decide +kernel
theorem dX6_baseAt_13 : decode cX6_baseAt 13 = .ok (.ifCond .ne 6, 3) := by decide +kernel
theorem dX6_baseAt_16 : decode cX6_baseAt 16 = .ok (.ldc 61, 2) := by decide +kernel
theorem dX6_baseAt_18 : decode cX6_baseAt 18 = .ok (.ireturn, 1) := by decide +kernel
theorem dX6_baseAt_19 : decode cX6_baseAt 19 = .ok (.aload_n 0, 1) := by decide +kernel
theorem dX6_baseAt_20 : decode cX6_baseAt 20 = .ok (.getfield 10, 3) := by decide +kernel
theorem dX6_baseAt_23 : decode cX6_baseAt 23 = .ok (.iload_n 1, 1) := by decide +kernel
theorem dX6_baseAt_24 : decode cX6_baseAt 24 = .ok (.iload_n 2, 1) := by decide +kernel
theorem dX6_baseAt_25 : decode cX6_baseAt 25 = .ok (.ifCond .ne 7, 3) := by decide +kernel
theorem dX6_baseAt_28 : decode cX6_baseAt 28 = .ok (.iconst 1, 1) := by decide +kernel
theorem dX6_baseAt_29 : decode cX6_baseAt 29 = .ok (.goto 4, 3) := by decide +kernel
theorem dX6_baseAt_32 : decode cX6_baseAt 32 = .ok (.iconst 2, 1) := by decide +kernel
theorem dX6_baseAt_33 : decode cX6_baseAt 33 = .ok (.invokevirtual 154, 3) := by decide +kernel
theorem dX6_baseAt_36 : decode cX6_baseAt 36 = .ok (.ireturn, 1) := by decide +kernel
set_option maxRecDepth 20000 in
theorem ggX6_raw_X6_isCell : GoodIn wsX6_raw wsX6_isCell := goodIn_r _ [5, 6, 7, 4, 8] (by decide +kernel) (by decide +kernel)
set_option maxRecDepth 20000 in
theorem gX6_raw_X6_isCell : GoodIn wsX6_raw (va_wsS RX6 81 yX6_isCell wsX6_isCell) := goodIn_app (goodIn_of _ (by decide +kernel)) ggX6_raw_X6_isCell
set_option maxRecDepth 20000 in
theorem ggX6_raw_X6_isReadingOf : GoodIn wsX6_raw wsX6_isReadingOf := goodIn_r _ [12, 13, 2, 3, 4, 5, 6, 7, 8, 14, 15, 16, 17, 18, 19, 20, 21, 22, 144, 145, 146, 147, 148, 149, 150, 151, 152, 153, 154, 155, 156, 157, 158, 159, 160, 161, 162] (by decide +kernel) (by decide +kernel)
set_option maxRecDepth 20000 in
theorem gX6_raw_X6_isReadingOf : GoodIn wsX6_raw (wsV RX6 88 RX6 yX6_isReadingOf wsX6_isReadingOf) := goodIn_app (goodIn_of _ (by decide +kernel)) ggX6_raw_X6_isReadingOf
set_option maxRecDepth 20000 in
theorem ggX6_raw_X6_refresh : GoodIn wsX6_raw wsX6_refresh := goodIn_r _ [26, 27, 28, 13, 29, 30, 31, 32, 33, 34, 35, 36, 37, 38, 39, 40, 41, 42, 43, 15, 16, 17, 18, 19, 20, 21, 22, 44, 45, 46, 47, 48, 49, 50, 4, 51, 52, 53, 54, 55, 56, 57, 58, 59, 60, 61, 62, 63, 64, 65, 66, 67, 68, 69, 70, 71, 72, 73, 74, 75, 76, 77, 78, 79, 80, 81, 82, 83, 84, 85, 86, 87, 88, 89, 90, 91, 92, 93, 94, 95, 96, 97, 98, 99, 100, 101, 102, 103, 104, 105, 106, 107, 108, 109, 110, 111, 112, 113, 114, 115, 116, 117, 118, 119, 120, 121, 122, 123, 124, 125, 126, 127, 128, 129, 130, 131, 132, 133, 134, 135, 136, 137, 138, 144, 145, 146, 147, 148, 149, 150, 151, 152, 153, 154, 155, 163, 164, 165, 166, 167, 168, 169, 170, 171, 172, 173, 174, 156, 157, 158, 159, 160, 161, 162] (by decide +kernel) (by decide +kernel)
set_option maxRecDepth 20000 in
theorem gX6_raw_X6_refresh : GoodIn wsX6_raw (wsV RX6 109 RX6 yX6_refresh wsX6_refresh) := goodIn_app (goodIn_of _ (by decide +kernel)) ggX6_raw_X6_refresh
set_option maxRecDepth 20000 in
theorem ggX6_raw_X6_surveyOf : GoodIn wsX6_raw wsX6_surveyOf := goodIn_r _ [142, 28, 29, 30, 144, 145, 146, 147, 148, 149, 150, 151, 152] (by decide +kernel) (by decide +kernel)
set_option maxRecDepth 20000 in
theorem gX6_raw_X6_surveyOf : GoodIn wsX6_raw (wsV RX6 112 RX6 yX6_surveyOf wsX6_surveyOf) := goodIn_app (goodIn_of _ (by decide +kernel)) ggX6_raw_X6_surveyOf
set_option maxRecDepth 20000 in
theorem ggX6_raw_X3_rawHeight : GoodIn wsX6_raw wsX3_rawHeight := goodIn_r _ [134, 39, 50, 4, 51, 163, 164, 165, 166, 167, 168, 169, 170, 171, 172, 173, 174] (by decide +kernel) (by decide +kernel)
set_option maxRecDepth 20000 in
theorem gX6_raw_X3_rawHeight : GoodIn wsX6_raw (wsV RX6 160 RX3 yX3_rawHeight wsX3_rawHeight) := goodIn_app (goodIn_of _ (by decide +kernel)) ggX6_raw_X3_rawHeight
theorem dX6_raw_0 : decode cX6_raw 0 = .ok (.iload_n 1, 1) := by decide +kernel
theorem dX6_raw_1 : decode cX6_raw 1 = .ok (.invokestatic 81, 3) := by decide +kernel
theorem dX6_raw_4 : decode cX6_raw 4 = .ok (.ifCond .eq 12, 3) := by decide +kernel
theorem dX6_raw_7 : decode cX6_raw 7 = .ok (.aload_n 0, 1) := by decide +kernel
theorem dX6_raw_8 : decode cX6_raw 8 = .ok (.iload_n 1, 1) := by decide +kernel
theorem dX6_raw_9 : decode cX6_raw 9 = .ok (.iload_n 2, 1) := by decide +kernel
theorem dX6_raw_10 : decode cX6_raw 10 = .ok (.invokevirtual 88, 3) := by decide +kernel
theorem dX6_raw_13 : decode cX6_raw 13 = .ok (.ifCond .ne 6, 3) := by decide +kernel
theorem dX6_raw_16 : decode cX6_raw 16 = .ok (.ldc 61, 2) := by decide +kernel
theorem dX6_raw_18 : decode cX6_raw 18 = .ok (.ireturn, 1) := by decide +kernel
theorem dX6_raw_19 : decode cX6_raw 19 = .ok (.aload_n 0, 1) := by decide +kernel
theorem dX6_raw_20 : decode cX6_raw 20 = .ok (.invokevirtual 109, 3) := by decide +kernel
theorem dX6_raw_23 : decode cX6_raw 23 = .ok (.aload_n 0, 1) := by decide +kernel
theorem dX6_raw_24 : decode cX6_raw 24 = .ok (.iload_n 1, 1) := by decide +kernel
theorem dX6_raw_25 : decode cX6_raw 25 = .ok (.invokevirtual 112, 3) := by decide +kernel
theorem dX6_raw_28 : decode cX6_raw 28 = .ok (.iload_n 2, 1) := by decide +kernel
theorem dX6_raw_29 : decode cX6_raw 29 = .ok (.invokevirtual 160, 3) := by decide +kernel
theorem dX6_raw_32 : decode cX6_raw 32 = .ok (.ireturn, 1) := by decide +kernel
set_option maxRecDepth 20000 in
theorem ggX6_would_X6_isReading : GoodIn wsX6_would wsX6_isReading := goodIn_r _ [6, 7, 8, 9, 10, 5, 11, 12, 13, 14, 15, 16, 17] (by decide +kernel) (by decide +kernel)
set_option maxRecDepth 20000 in
theorem gX6_would_X6_isReading : GoodIn wsX6_would (va_wsS RX6 73 yX6_isReading wsX6_isReading) := goodIn_app (goodIn_of _ (by decide +kernel)) ggX6_would_X6_isReading
set_option maxRecDepth 20000 in
theorem ggX6_would_X2_heightAt : GoodIn wsX6_would wsX2_heightAt := goodIn_r _ [22, 23, 24, 25, 26, 27, 28, 21, 29, 30, 31, 32, 33, 34, 35, 36, 37, 5, 38, 39, 40, 41, 42, 43, 44, 45, 46, 47, 57, 58, 59, 60, 61, 62, 63, 64, 65, 66] (by decide +kernel) (by decide +kernel)
set_option maxRecDepth 20000 in
theorem gX6_would_X2_heightAt : GoodIn wsX6_would (wsV RX6 163 RX2 yX2_heightAt wsX2_heightAt) := goodIn_app (goodIn_of _ (by decide +kernel)) ggX6_would_X2_heightAt
theorem dX6_would_0 : decode cX6_would 0 = .ok (.iload_n 1, 1) := by decide +kernel
theorem dX6_would_1 : decode cX6_would 1 = .ok (.iload_n 2, 1) := by decide +kernel
theorem dX6_would_2 : decode cX6_would 2 = .ok (.iload_n 3, 1) := by decide +kernel
theorem dX6_would_3 : decode cX6_would 3 = .ok (.invokestatic 73, 3) := by decide +kernel
theorem dX6_would_6 : decode cX6_would 6 = .ok (.ifCond .ne 6, 3) := by decide +kernel
theorem dX6_would_9 : decode cX6_would 9 = .ok (.ldc 61, 2) := by decide +kernel
theorem dX6_would_11 : decode cX6_would 11 = .ok (.ireturn, 1) := by decide +kernel
theorem dX6_would_12 : decode cX6_would 12 = .ok (.aload_n 0, 1) := by decide +kernel
theorem dX6_would_13 : decode cX6_would 13 = .ok (.getfield 10, 3) := by decide +kernel
theorem dX6_would_16 : decode cX6_would 16 = .ok (.iload_n 1, 1) := by decide +kernel
theorem dX6_would_17 : decode cX6_would 17 = .ok (.iload_n 2, 1) := by decide +kernel
theorem dX6_would_18 : decode cX6_would 18 = .ok (.iload_n 3, 1) := by decide +kernel
theorem dX6_would_19 : decode cX6_would 19 = .ok (.invokevirtual 163, 3) := by decide +kernel
theorem dX6_would_22 : decode cX6_would 22 = .ok (.ireturn, 1) := by decide +kernel
set_option maxRecDepth 20000 in
theorem ggX6_loops_X6_isCell : GoodIn wsX6_loops wsX6_isCell := goodIn_r _ [5, 6, 7, 4, 8] (by decide +kernel) (by decide +kernel)
set_option maxRecDepth 20000 in
theorem gX6_loops_X6_isCell : GoodIn wsX6_loops (va_wsS RX6 81 yX6_isCell wsX6_isCell) := goodIn_app (goodIn_of _ (by decide +kernel)) ggX6_loops_X6_isCell
set_option maxRecDepth 20000 in
theorem ggX6_loops_X6_refresh : GoodIn wsX6_loops wsX6_refresh := goodIn_r _ [12, 13, 14, 15, 16, 17, 18, 19, 20, 21, 22, 23, 24, 25, 26, 27, 28, 29, 30, 31, 32, 33, 34, 35, 36, 37, 38, 39, 40, 41, 42, 43, 44, 45, 4, 46, 47, 48, 49, 50, 51, 52, 53, 54, 55, 56, 57, 58, 59, 60, 61, 62, 63, 64, 65, 66, 67, 68, 69, 70, 71, 72, 73, 74, 75, 76, 77, 78, 79, 80, 81, 82, 83, 84, 85, 86, 87, 88, 89, 90, 91, 92, 93, 94, 95, 96, 97, 98, 99, 100, 101, 102, 103, 104, 105, 106, 107, 108, 109, 110, 111, 112, 113, 114, 115, 116, 117, 118, 119, 120, 121, 122, 123, 124, 125, 126, 127, 128, 129, 130, 131, 132, 133, 150, 151, 152, 153, 154, 155, 156, 157, 158, 159, 160, 161, 138, 139, 140, 141, 142, 143, 144, 145, 146, 147, 148, 149, 162, 163, 164, 165, 166, 167, 168] (by decide +kernel) (by decide +kernel)
set_option maxRecDepth 20000 in
theorem gX6_loops_X6_refresh : GoodIn wsX6_loops (wsV RX6 109 RX6 yX6_refresh wsX6_refresh) := goodIn_app (goodIn_of _ (by decide +kernel)) ggX6_loops_X6_refresh
set_option maxRecDepth 20000 in
theorem ggX6_loops_X6_surveyOf : GoodIn wsX6_loops wsX6_surveyOf := goodIn_r _ [137, 14, 16, 17, 150, 151, 152, 153, 154, 155, 156, 157, 158] (by decide +kernel) (by decide +kernel)
set_option maxRecDepth 20000 in
theorem gX6_loops_X6_surveyOf : GoodIn wsX6_loops (wsV RX6 112 RX6 yX6_surveyOf wsX6_surveyOf) := goodIn_app (goodIn_of _ (by decide +kernel)) ggX6_loops_X6_surveyOf
theorem dX6_loops_0 : decode cX6_loops 0 = .ok (.iload_n 1, 1) := by decide +kernel
theorem dX6_loops_1 : decode cX6_loops 1 = .ok (.invokestatic 81, 3) := by decide +kernel
theorem dX6_loops_4 : decode cX6_loops 4 = .ok (.ifCond .ne 6, 3) := by decide +kernel
theorem dX6_loops_7 : decode cX6_loops 7 = .ok (.ldc 61, 2) := by decide +kernel
theorem dX6_loops_9 : decode cX6_loops 9 = .ok (.ireturn, 1) := by decide +kernel
theorem dX6_loops_10 : decode cX6_loops 10 = .ok (.aload_n 0, 1) := by decide +kernel
theorem dX6_loops_11 : decode cX6_loops 11 = .ok (.invokevirtual 109, 3) := by decide +kernel
theorem dX6_loops_14 : decode cX6_loops 14 = .ok (.aload_n 0, 1) := by decide +kernel
theorem dX6_loops_15 : decode cX6_loops 15 = .ok (.iload_n 1, 1) := by decide +kernel
theorem dX6_loops_16 : decode cX6_loops 16 = .ok (.invokevirtual 112, 3) := by decide +kernel
theorem dX6_loops_19 : decode cX6_loops 19 = .ok (.getfield 129, 3) := by decide +kernel
theorem dX6_loops_22 : decode cX6_loops 22 = .ok (.ireturn, 1) := by decide +kernel
set_option maxRecDepth 20000 in
theorem ggX6_loop_X6_isCell : GoodIn wsX6_loop wsX6_isCell := goodIn_r _ [5, 6, 7, 4, 8] (by decide +kernel) (by decide +kernel)
set_option maxRecDepth 20000 in
theorem gX6_loop_X6_isCell : GoodIn wsX6_loop (va_wsS RX6 81 yX6_isCell wsX6_isCell) := goodIn_app (goodIn_of _ (by decide +kernel)) ggX6_loop_X6_isCell
set_option maxRecDepth 20000 in
theorem ggX6_loop_X6_refresh : GoodIn wsX6_loop wsX6_refresh := goodIn_r _ [12, 13, 14, 15, 16, 17, 18, 19, 20, 21, 22, 23, 24, 25, 26, 27, 28, 29, 30, 31, 32, 33, 34, 35, 36, 37, 38, 39, 40, 41, 42, 43, 44, 45, 4, 46, 47, 48, 49, 50, 51, 52, 53, 54, 55, 56, 57, 58, 59, 60, 61, 62, 63, 64, 65, 66, 67, 68, 69, 70, 71, 72, 73, 74, 75, 76, 77, 78, 79, 80, 81, 82, 83, 84, 85, 86, 87, 88, 89, 90, 91, 92, 93, 94, 95, 96, 97, 98, 99, 100, 101, 102, 103, 104, 105, 106, 107, 108, 109, 110, 111, 112, 113, 114, 115, 116, 117, 118, 119, 120, 121, 122, 123, 124, 125, 126, 127, 128, 129, 130, 131, 132, 133, 158, 159, 160, 161, 162, 163, 164, 165, 166, 167, 168, 169, 146, 147, 148, 149, 150, 151, 152, 153, 154, 155, 156, 157, 170, 171, 172, 173, 174, 175, 176] (by decide +kernel) (by decide +kernel)
set_option maxRecDepth 20000 in
theorem gX6_loop_X6_refresh : GoodIn wsX6_loop (wsV RX6 109 RX6 yX6_refresh wsX6_refresh) := goodIn_app (goodIn_of _ (by decide +kernel)) ggX6_loop_X6_refresh
set_option maxRecDepth 20000 in
theorem ggX6_loop_X6_surveyOf : GoodIn wsX6_loop wsX6_surveyOf := goodIn_r _ [137, 14, 16, 17, 158, 159, 160, 161, 162, 163, 164, 165, 166] (by decide +kernel) (by decide +kernel)
set_option maxRecDepth 20000 in
theorem gX6_loop_X6_surveyOf : GoodIn wsX6_loop (wsV RX6 112 RX6 yX6_surveyOf wsX6_surveyOf) := goodIn_app (goodIn_of _ (by decide +kernel)) ggX6_loop_X6_surveyOf
set_option maxRecDepth 20000 in
theorem ggX6_loop_X6_within : GoodIn wsX6_loop wsX6_within := goodIn_r _ [8] (by decide +kernel) (by decide +kernel)
set_option maxRecDepth 20000 in
theorem gX6_loop_X6_within : GoodIn wsX6_loop (va_wsS RX6 105 yX6_within wsX6_within) := goodIn_app (goodIn_of _ (by decide +kernel)) ggX6_loop_X6_within
set_option maxRecDepth 20000 in
theorem ggX6_loop_X3_begin : GoodIn wsX6_loop wsX3_begin := goodIn_r _ [109, 96, 45, 4, 46, 146, 147, 148, 149, 150, 151, 152, 153, 154, 155, 156, 157] (by decide +kernel) (by decide +kernel)
set_option maxRecDepth 20000 in
theorem gX6_loop_X3_begin : GoodIn wsX6_loop (wsV RX6 176 RX3 yX3_begin wsX3_begin) := goodIn_app (goodIn_of _ (by decide +kernel)) ggX6_loop_X3_begin
set_option maxRecDepth 20000 in
theorem ggX6_loop_X3_end : GoodIn wsX6_loop wsX3_end := goodIn_r _ [113, 97, 45, 4, 46, 146, 147, 148, 149, 150, 151, 152, 153, 154, 155, 156, 157] (by decide +kernel) (by decide +kernel)
set_option maxRecDepth 20000 in
theorem gX6_loop_X3_end : GoodIn wsX6_loop (wsV RX6 179 RX3 yX3_end wsX3_end) := goodIn_app (goodIn_of _ (by decide +kernel)) ggX6_loop_X3_end
set_option maxRecDepth 20000 in
theorem ggX6_loop_X3_misclosure : GoodIn wsX6_loop wsX3_misclosure := goodIn_r _ [133, 110, 111, 112, 21, 113, 97, 45, 4, 46, 126, 127, 128, 129, 26, 106, 107, 108, 109, 96, 146, 147, 148, 149, 150, 151, 152, 153, 154, 155, 156, 157] (by decide +kernel) (by decide +kernel)
set_option maxRecDepth 20000 in
theorem gX6_loop_X3_misclosure : GoodIn wsX6_loop (wsV RX6 182 RX3 yX3_misclosure wsX3_misclosure) := goodIn_app (goodIn_of _ (by decide +kernel)) ggX6_loop_X3_misclosure
set_option maxRecDepth 20000 in
theorem ggX6_loop_X3_misclosureBySteps : GoodIn wsX6_loop wsX3_misclosureBySteps := goodIn_r _ [144, 23, 106, 107, 108, 21, 109, 96, 45, 4, 46, 126, 127, 128, 129, 26, 110, 111, 112, 113, 97, 86, 87, 88, 89, 90, 27, 146, 147, 148, 149, 150, 151, 152, 153, 154, 155, 156, 157] (by decide +kernel) (by decide +kernel)
set_option maxRecDepth 20000 in
theorem gX6_loop_X3_misclosureBySteps : GoodIn wsX6_loop (wsV RX6 185 RX3 yX3_misclosureBySteps wsX3_misclosureBySteps) := goodIn_app (goodIn_of _ (by decide +kernel)) ggX6_loop_X3_misclosureBySteps
end
section
set_option maxRecDepth 20000 in
theorem ggX6_loop_X3_minutes : GoodIn wsX6_loop wsX3_minutes := goodIn_r _ [117, 24, 110, 111, 112, 21, 113, 97, 45, 4, 46, 106, 107, 108, 109, 96, 146, 147, 148, 149, 150, 151, 152, 153, 154, 155, 156, 157] (by decide +kernel) (by decide +kernel)
set_option maxRecDepth 20000 in
theorem gX6_loop_X3_minutes : GoodIn wsX6_loop (wsV RX6 188 RX3 yX3_minutes wsX3_minutes) := goodIn_app (goodIn_of _ (by decide +kernel)) ggX6_loop_X3_minutes
theorem dX6_loop_0 : decode cX6_loop 0 = .ok (.iload_n 1, 1) := by decide +kernel
theorem dX6_loop_1 : decode cX6_loop 1 = .ok (.invokestatic 81, 3) := by decide +kernel
theorem dX6_loop_4 : decode cX6_loop 4 = .ok (.ifCond .ne 6, 3) := by decide +kernel
theorem dX6_loop_7 : decode cX6_loop 7 = .ok (.ldc 61, 2) := by decide +kernel
theorem dX6_loop_9 : decode cX6_loop 9 = .ok (.ireturn, 1) := by decide +kernel
theorem dX6_loop_10 : decode cX6_loop 10 = .ok (.aload_n 0, 1) := by decide +kernel
theorem dX6_loop_11 : decode cX6_loop 11 = .ok (.invokevirtual 109, 3) := by decide +kernel
theorem dX6_loop_14 : decode cX6_loop 14 = .ok (.aload_n 0, 1) := by decide +kernel
theorem dX6_loop_15 : decode cX6_loop 15 = .ok (.iload_n 1, 1) := by decide +kernel
theorem dX6_loop_16 : decode cX6_loop 16 = .ok (.invokevirtual 112, 3) := by decide +kernel
theorem dX6_loop_19 : decode cX6_loop 19 = .ok (.astore 4, 2) := by decide +kernel
theorem dX6_loop_21 : decode cX6_loop 21 = .ok (.iload_n 2, 1) := by decide +kernel
theorem dX6_loop_22 : decode cX6_loop 22 = .ok (.iconst 0, 1) := by decide +kernel
theorem dX6_loop_23 : decode cX6_loop 23 = .ok (.aload 4, 2) := by decide +kernel
theorem dX6_loop_25 : decode cX6_loop 25 = .ok (.getfield 129, 3) := by decide +kernel
theorem dX6_loop_28 : decode cX6_loop 28 = .ok (.iconst 1, 1) := by decide +kernel
theorem dX6_loop_29 : decode cX6_loop 29 = .ok (.isub, 1) := by decide +kernel
theorem dX6_loop_30 : decode cX6_loop 30 = .ok (.invokestatic 105, 3) := by decide +kernel
theorem dX6_loop_33 : decode cX6_loop 33 = .ok (.ifCond .ne 6, 3) := by decide +kernel
theorem dX6_loop_36 : decode cX6_loop 36 = .ok (.ldc 61, 2) := by decide +kernel
theorem dX6_loop_38 : decode cX6_loop 38 = .ok (.ireturn, 1) := by decide +kernel
theorem dX6_loop_39 : decode cX6_loop 39 = .ok (.iload_n 3, 1) := by decide +kernel
theorem dX6_loop_40 : decode cX6_loop 40 = .ok (.tableswitch 71 0 4 #[36, 43, 50, 57, 64], 36) := by decide +kernel
theorem dX6_loop_76 : decode cX6_loop 76 = .ok (.aload 4, 2) := by decide +kernel
theorem dX6_loop_78 : decode cX6_loop 78 = .ok (.iload_n 2, 1) := by decide +kernel
theorem dX6_loop_79 : decode cX6_loop 79 = .ok (.invokevirtual 176, 3) := by decide +kernel
theorem dX6_loop_82 : decode cX6_loop 82 = .ok (.ireturn, 1) := by decide +kernel
theorem dX6_loop_83 : decode cX6_loop 83 = .ok (.aload 4, 2) := by decide +kernel
theorem dX6_loop_85 : decode cX6_loop 85 = .ok (.iload_n 2, 1) := by decide +kernel
theorem dX6_loop_86 : decode cX6_loop 86 = .ok (.invokevirtual 179, 3) := by decide +kernel
theorem dX6_loop_89 : decode cX6_loop 89 = .ok (.ireturn, 1) := by decide +kernel
theorem dX6_loop_90 : decode cX6_loop 90 = .ok (.aload 4, 2) := by decide +kernel
theorem dX6_loop_92 : decode cX6_loop 92 = .ok (.iload_n 2, 1) := by decide +kernel
theorem dX6_loop_93 : decode cX6_loop 93 = .ok (.invokevirtual 182, 3) := by decide +kernel
theorem dX6_loop_96 : decode cX6_loop 96 = .ok (.ireturn, 1) := by decide +kernel
theorem dX6_loop_97 : decode cX6_loop 97 = .ok (.aload 4, 2) := by decide +kernel
theorem dX6_loop_99 : decode cX6_loop 99 = .ok (.iload_n 2, 1) := by decide +kernel
theorem dX6_loop_100 : decode cX6_loop 100 = .ok (.invokevirtual 185, 3) := by decide +kernel
theorem dX6_loop_103 : decode cX6_loop 103 = .ok (.ireturn, 1) := by decide +kernel
theorem dX6_loop_104 : decode cX6_loop 104 = .ok (.aload 4, 2) := by decide +kernel
theorem dX6_loop_106 : decode cX6_loop 106 = .ok (.iload_n 2, 1) := by decide +kernel
theorem dX6_loop_107 : decode cX6_loop 107 = .ok (.invokevirtual 188, 3) := by decide +kernel
theorem dX6_loop_110 : decode cX6_loop 110 = .ok (.ireturn, 1) := by decide +kernel
theorem dX6_loop_111 : decode cX6_loop 111 = .ok (.ldc 61, 2) := by decide +kernel
theorem dX6_loop_113 : decode cX6_loop 113 = .ok (.ireturn, 1) := by decide +kernel
set_option maxRecDepth 20000 in
theorem ggX6_openLoop_X6_isCell : GoodIn wsX6_openLoop wsX6_isCell := goodIn_r _ [6, 7, 8, 5, 9] (by decide +kernel) (by decide +kernel)
set_option maxRecDepth 20000 in
theorem gX6_openLoop_X6_isCell : GoodIn wsX6_openLoop (va_wsS RX6 81 yX6_isCell wsX6_isCell) := goodIn_app (goodIn_of _ (by decide +kernel)) ggX6_openLoop_X6_isCell
set_option maxRecDepth 20000 in
theorem ggX6_openLoop_X6_isReadingOf : GoodIn wsX6_openLoop wsX6_isReadingOf := goodIn_r _ [13, 14, 3, 4, 5, 6, 7, 8, 9, 15, 16, 17, 18, 19, 20, 21, 22, 23, 145, 146, 147, 148, 149, 150, 151, 152, 153, 154, 155, 156, 157, 158, 159, 160, 161, 162, 163] (by decide +kernel) (by decide +kernel)
set_option maxRecDepth 20000 in
theorem gX6_openLoop_X6_isReadingOf : GoodIn wsX6_openLoop (wsV RX6 88 RX6 yX6_isReadingOf wsX6_isReadingOf) := goodIn_app (goodIn_of _ (by decide +kernel)) ggX6_openLoop_X6_isReadingOf
set_option maxRecDepth 20000 in
theorem ggX6_openLoop_X6_refresh : GoodIn wsX6_openLoop wsX6_refresh := goodIn_r _ [27, 28, 29, 14, 30, 31, 32, 33, 34, 35, 36, 37, 38, 39, 40, 41, 42, 43, 44, 16, 17, 18, 19, 20, 21, 22, 23, 45, 46, 47, 48, 49, 50, 51, 5, 52, 53, 54, 55, 56, 57, 58, 59, 60, 61, 62, 63, 64, 65, 66, 67, 68, 69, 70, 71, 72, 73, 74, 75, 76, 77, 78, 79, 80, 81, 82, 83, 84, 85, 86, 87, 88, 89, 90, 91, 92, 93, 94, 95, 96, 97, 98, 99, 100, 101, 102, 103, 104, 105, 106, 107, 108, 109, 110, 111, 112, 113, 114, 115, 116, 117, 118, 119, 120, 121, 122, 123, 124, 125, 126, 127, 128, 129, 130, 131, 132, 133, 134, 135, 136, 137, 138, 139, 145, 146, 147, 148, 149, 150, 151, 152, 153, 154, 155, 156, 164, 165, 166, 167, 168, 169, 170, 171, 172, 173, 174, 175, 157, 158, 159, 160, 161, 162, 163] (by decide +kernel) (by decide +kernel)
set_option maxRecDepth 20000 in
theorem gX6_openLoop_X6_refresh : GoodIn wsX6_openLoop (wsV RX6 109 RX6 yX6_refresh wsX6_refresh) := goodIn_app (goodIn_of _ (by decide +kernel)) ggX6_openLoop_X6_refresh
set_option maxRecDepth 20000 in
theorem ggX6_openLoop_X6_surveyOf : GoodIn wsX6_openLoop wsX6_surveyOf := goodIn_r _ [143, 29, 30, 31, 145, 146, 147, 148, 149, 150, 151, 152, 153] (by decide +kernel) (by decide +kernel)
set_option maxRecDepth 20000 in
theorem gX6_openLoop_X6_surveyOf : GoodIn wsX6_openLoop (wsV RX6 112 RX6 yX6_surveyOf wsX6_surveyOf) := goodIn_app (goodIn_of _ (by decide +kernel)) ggX6_openLoop_X6_surveyOf
set_option maxRecDepth 20000 in
theorem ggX6_openLoop_X3_openLoopOf : GoodIn wsX6_openLoop wsX3_openLoopOf := goodIn_r _ [131, 42, 51, 5, 52, 164, 165, 166, 167, 168, 169, 170, 171, 172, 173, 174, 175] (by decide +kernel) (by decide +kernel)
set_option maxRecDepth 20000 in
theorem gX6_openLoop_X3_openLoopOf : GoodIn wsX6_openLoop (wsV RX6 191 RX3 yX3_openLoopOf wsX3_openLoopOf) := goodIn_app (goodIn_of _ (by decide +kernel)) ggX6_openLoop_X3_openLoopOf
theorem dX6_openLoop_0 : decode cX6_openLoop 0 = .ok (.iload_n 1, 1) := by decide +kernel
theorem dX6_openLoop_1 : decode cX6_openLoop 1 = .ok (.invokestatic 81, 3) := by decide +kernel
theorem dX6_openLoop_4 : decode cX6_openLoop 4 = .ok (.ifCond .eq 12, 3) := by decide +kernel
theorem dX6_openLoop_7 : decode cX6_openLoop 7 = .ok (.aload_n 0, 1) := by decide +kernel
theorem dX6_openLoop_8 : decode cX6_openLoop 8 = .ok (.iload_n 1, 1) := by decide +kernel
theorem dX6_openLoop_9 : decode cX6_openLoop 9 = .ok (.iload_n 2, 1) := by decide +kernel
theorem dX6_openLoop_10 : decode cX6_openLoop 10 = .ok (.invokevirtual 88, 3) := by decide +kernel
theorem dX6_openLoop_13 : decode cX6_openLoop 13 = .ok (.ifCond .ne 6, 3) := by decide +kernel
theorem dX6_openLoop_16 : decode cX6_openLoop 16 = .ok (.ldc 61, 2) := by decide +kernel
theorem dX6_openLoop_18 : decode cX6_openLoop 18 = .ok (.ireturn, 1) := by decide +kernel
theorem dX6_openLoop_19 : decode cX6_openLoop 19 = .ok (.aload_n 0, 1) := by decide +kernel
theorem dX6_openLoop_20 : decode cX6_openLoop 20 = .ok (.invokevirtual 109, 3) := by decide +kernel
theorem dX6_openLoop_23 : decode cX6_openLoop 23 = .ok (.aload_n 0, 1) := by decide +kernel
theorem dX6_openLoop_24 : decode cX6_openLoop 24 = .ok (.iload_n 1, 1) := by decide +kernel
theorem dX6_openLoop_25 : decode cX6_openLoop 25 = .ok (.invokevirtual 112, 3) := by decide +kernel
theorem dX6_openLoop_28 : decode cX6_openLoop 28 = .ok (.iload_n 2, 1) := by decide +kernel
theorem dX6_openLoop_29 : decode cX6_openLoop 29 = .ok (.invokevirtual 191, 3) := by decide +kernel
theorem dX6_openLoop_32 : decode cX6_openLoop 32 = .ok (.istore_n 3, 1) := by decide +kernel
theorem dX6_openLoop_33 : decode cX6_openLoop 33 = .ok (.iload_n 3, 1) := by decide +kernel
theorem dX6_openLoop_34 : decode cX6_openLoop 34 = .ok (.iconst (-1), 1) := by decide +kernel
theorem dX6_openLoop_35 : decode cX6_openLoop 35 = .ok (.if_icmp .ne 8, 3) := by decide +kernel
theorem dX6_openLoop_38 : decode cX6_openLoop 38 = .ok (.ldc 108, 2) := by decide +kernel
theorem dX6_openLoop_40 : decode cX6_openLoop 40 = .ok (.goto 4, 3) := by decide +kernel
theorem dX6_openLoop_43 : decode cX6_openLoop 43 = .ok (.iload_n 3, 1) := by decide +kernel
theorem dX6_openLoop_44 : decode cX6_openLoop 44 = .ok (.ireturn, 1) := by decide +kernel
set_option maxRecDepth 20000 in
theorem ggX6_corrected_X6_isCell : GoodIn wsX6_corrected wsX6_isCell := goodIn_r _ [5, 6, 7, 4, 8] (by decide +kernel) (by decide +kernel)
set_option maxRecDepth 20000 in
theorem gX6_corrected_X6_isCell : GoodIn wsX6_corrected (va_wsS RX6 81 yX6_isCell wsX6_isCell) := goodIn_app (goodIn_of _ (by decide +kernel)) ggX6_corrected_X6_isCell
set_option maxRecDepth 20000 in
theorem ggX6_corrected_X6_isReadingOf : GoodIn wsX6_corrected wsX6_isReadingOf := goodIn_r _ [12, 13, 2, 3, 4, 5, 6, 7, 8, 14, 15, 16, 17, 18, 19, 20, 21, 22, 147, 148, 149, 150, 151, 152, 153, 154, 155, 156, 157, 158, 159, 160, 161, 162, 163, 164, 165] (by decide +kernel) (by decide +kernel)
set_option maxRecDepth 20000 in
theorem gX6_corrected_X6_isReadingOf : GoodIn wsX6_corrected (wsV RX6 88 RX6 yX6_isReadingOf wsX6_isReadingOf) := goodIn_app (goodIn_of _ (by decide +kernel)) ggX6_corrected_X6_isReadingOf
set_option maxRecDepth 20000 in
theorem ggX6_corrected_X6_refresh : GoodIn wsX6_corrected wsX6_refresh := goodIn_r _ [26, 27, 28, 13, 29, 30, 31, 32, 33, 34, 35, 36, 37, 38, 39, 40, 41, 42, 43, 15, 16, 17, 18, 19, 20, 21, 22, 44, 45, 46, 47, 48, 49, 50, 4, 51, 52, 53, 54, 55, 56, 57, 58, 59, 60, 61, 62, 63, 64, 65, 66, 67, 68, 69, 70, 71, 72, 73, 74, 75, 76, 77, 78, 79, 80, 81, 82, 83, 84, 85, 86, 87, 88, 89, 90, 91, 92, 93, 94, 95, 96, 97, 98, 99, 100, 101, 102, 103, 104, 105, 106, 107, 108, 109, 110, 111, 112, 113, 114, 115, 116, 117, 118, 119, 120, 121, 122, 123, 124, 125, 126, 127, 128, 129, 130, 131, 132, 133, 134, 135, 136, 137, 138, 147, 148, 149, 150, 151, 152, 153, 154, 155, 156, 157, 158, 166, 167, 168, 169, 170, 171, 172, 173, 174, 175, 176, 177, 159, 160, 161, 162, 163, 164, 165] (by decide +kernel) (by decide +kernel)
set_option maxRecDepth 20000 in
theorem gX6_corrected_X6_refresh : GoodIn wsX6_corrected (wsV RX6 109 RX6 yX6_refresh wsX6_refresh) := goodIn_app (goodIn_of _ (by decide +kernel)) ggX6_corrected_X6_refresh
set_option maxRecDepth 20000 in
theorem ggX6_corrected_X6_surveyOf : GoodIn wsX6_corrected wsX6_surveyOf := goodIn_r _ [142, 28, 29, 30, 147, 148, 149, 150, 151, 152, 153, 154, 155] (by decide +kernel) (by decide +kernel)
set_option maxRecDepth 20000 in
theorem gX6_corrected_X6_surveyOf : GoodIn wsX6_corrected (wsV RX6 112 RX6 yX6_surveyOf wsX6_surveyOf) := goodIn_app (goodIn_of _ (by decide +kernel)) ggX6_corrected_X6_surveyOf
set_option maxRecDepth 20000 in
theorem ggX6_corrected_X3_correctedHeight : GoodIn wsX6_corrected wsX3_correctedHeight := goodIn_r _ [146, 42, 50, 4, 51, 166, 167, 168, 169, 170, 171, 172, 173, 174, 175, 176, 177] (by decide +kernel) (by decide +kernel)
set_option maxRecDepth 20000 in
theorem gX6_corrected_X3_correctedHeight : GoodIn wsX6_corrected (wsV RX6 194 RX3 yX3_correctedHeight wsX3_correctedHeight) := goodIn_app (goodIn_of _ (by decide +kernel)) ggX6_corrected_X3_correctedHeight
theorem dX6_corrected_0 : decode cX6_corrected 0 = .ok (.iload_n 1, 1) := by decide +kernel
theorem dX6_corrected_1 : decode cX6_corrected 1 = .ok (.invokestatic 81, 3) := by decide +kernel
theorem dX6_corrected_4 : decode cX6_corrected 4 = .ok (.ifCond .eq 12, 3) := by decide +kernel
theorem dX6_corrected_7 : decode cX6_corrected 7 = .ok (.aload_n 0, 1) := by decide +kernel
theorem dX6_corrected_8 : decode cX6_corrected 8 = .ok (.iload_n 1, 1) := by decide +kernel
theorem dX6_corrected_9 : decode cX6_corrected 9 = .ok (.iload_n 2, 1) := by decide +kernel
theorem dX6_corrected_10 : decode cX6_corrected 10 = .ok (.invokevirtual 88, 3) := by decide +kernel
theorem dX6_corrected_13 : decode cX6_corrected 13 = .ok (.ifCond .ne 6, 3) := by decide +kernel
theorem dX6_corrected_16 : decode cX6_corrected 16 = .ok (.ldc 61, 2) := by decide +kernel
theorem dX6_corrected_18 : decode cX6_corrected 18 = .ok (.ireturn, 1) := by decide +kernel
theorem dX6_corrected_19 : decode cX6_corrected 19 = .ok (.aload_n 0, 1) := by decide +kernel
theorem dX6_corrected_20 : decode cX6_corrected 20 = .ok (.invokevirtual 109, 3) := by decide +kernel
theorem dX6_corrected_23 : decode cX6_corrected 23 = .ok (.aload_n 0, 1) := by decide +kernel
theorem dX6_corrected_24 : decode cX6_corrected 24 = .ok (.iload_n 1, 1) := by decide +kernel
theorem dX6_corrected_25 : decode cX6_corrected 25 = .ok (.invokevirtual 112, 3) := by decide +kernel
theorem dX6_corrected_28 : decode cX6_corrected 28 = .ok (.iload_n 2, 1) := by decide +kernel
theorem dX6_corrected_29 : decode cX6_corrected 29 = .ok (.invokevirtual 194, 3) := by decide +kernel
theorem dX6_corrected_32 : decode cX6_corrected 32 = .ok (.ireturn, 1) := by decide +kernel
set_option maxRecDepth 20000 in
theorem ggX6_point_X6_isPoint : GoodIn wsX6_point wsX6_isPoint := goodIn_r _ [7, 8, 9, 6, 10] (by decide +kernel) (by decide +kernel)
set_option maxRecDepth 20000 in
theorem gX6_point_X6_isPoint : GoodIn wsX6_point (va_wsS RX6 85 yX6_isPoint wsX6_isPoint) := goodIn_app (goodIn_of _ (by decide +kernel)) ggX6_point_X6_isPoint
set_option maxRecDepth 20000 in
theorem ggX6_point_X6_within : GoodIn wsX6_point wsX6_within := goodIn_r _ [10] (by decide +kernel) (by decide +kernel)
set_option maxRecDepth 20000 in
theorem gX6_point_X6_within : GoodIn wsX6_point (va_wsS RX6 105 yX6_within wsX6_within) := goodIn_app (goodIn_of _ (by decide +kernel)) ggX6_point_X6_within
set_option maxRecDepth 20000 in
theorem ggX6_point_X6_refresh : GoodIn wsX6_point wsX6_refresh := goodIn_r _ [14, 15, 16, 17, 18, 19, 20, 21, 22, 23, 24, 25, 26, 27, 28, 29, 30, 31, 32, 33, 34, 35, 36, 37, 38, 39, 40, 41, 42, 43, 44, 45, 46, 47, 6, 48, 49, 50, 51, 52, 53, 54, 55, 56, 57, 58, 59, 60, 61, 62, 63, 64, 65, 66, 67, 68, 69, 70, 71, 72, 73, 74, 75, 76, 77, 78, 79, 80, 81, 82, 83, 84, 85, 86, 87, 88, 89, 90, 91, 92, 93, 94, 95, 96, 97, 98, 99, 100, 101, 102, 103, 104, 105, 106, 107, 108, 109, 110, 111, 112, 113, 114, 115, 116, 117, 118, 119, 120, 121, 122, 123, 124, 125, 126, 127, 128, 129, 130, 131, 132, 133, 134, 135, 184, 185, 186, 187, 188, 189, 190, 191, 192, 197, 198, 199, 200, 201, 202, 203, 204, 205, 206, 207, 208, 209, 210, 211, 212, 213, 214, 215, 216, 217, 218] (by decide +kernel) (by decide +kernel)
set_option maxRecDepth 20000 in
theorem gX6_point_X6_refresh : GoodIn wsX6_point (wsV RX6 109 RX6 yX6_refresh wsX6_refresh) := goodIn_app (goodIn_of _ (by decide +kernel)) ggX6_point_X6_refresh
set_option maxRecDepth 20000 in
theorem ggX6_point_X6_gather : GoodIn wsX6_point wsX6_gather := goodIn_r _ [139, 2, 140, 141, 142, 143, 144, 145, 146, 147, 148, 149, 6, 150, 16, 18, 19, 151, 152, 153, 23, 154, 25, 27, 88, 89, 90, 91, 28, 92, 29, 47, 48, 155, 156, 157, 158, 124, 125, 126, 127, 30, 112, 113, 114, 115, 99, 159, 160, 161, 162, 31, 163, 164, 165, 166, 167, 168, 169, 170, 171, 172, 173, 174, 175, 184, 185, 186, 187, 188, 189, 190, 191, 192, 193, 194, 195, 196, 200, 201, 202, 203, 204, 205, 206, 207, 208, 209, 210, 211] (by decide +kernel) (by decide +kernel)
set_option maxRecDepth 20000 in
theorem gX6_point_X6_gather : GoodIn wsX6_point (wsV RX6 197 RX6 yX6_gather wsX6_gather) := goodIn_app (goodIn_of _ (by decide +kernel)) ggX6_point_X6_gather
set_option maxRecDepth 20000 in
theorem ggX6_point_X1_height : GoodIn wsX6_point wsX1_height := goodIn_r _ [179, 145, 146, 63, 6, 64, 65, 66, 67, 68, 193, 194, 195, 196] (by decide +kernel) (by decide +kernel)
set_option maxRecDepth 20000 in
theorem gX6_point_X1_height : GoodIn wsX6_point (wsV RX6 203 RX1 yX1_height wsX1_height) := goodIn_app (goodIn_of _ (by decide +kernel)) ggX6_point_X1_height
set_option maxRecDepth 20000 in
theorem ggX6_point_X1_spread : GoodIn wsX6_point wsX1_spread := goodIn_r _ [183, 172, 167, 193, 194, 195, 196] (by decide +kernel) (by decide +kernel)
set_option maxRecDepth 20000 in
theorem gX6_point_X1_spread : GoodIn wsX6_point (wsV RX6 206 RX1 yX1_spread wsX1_spread) := goodIn_app (goodIn_of _ (by decide +kernel)) ggX6_point_X1_spread
theorem dX6_point_0 : decode cX6_point 0 = .ok (.iload_n 1, 1) := by decide +kernel
theorem dX6_point_1 : decode cX6_point 1 = .ok (.invokestatic 85, 3) := by decide +kernel
theorem dX6_point_4 : decode cX6_point 4 = .ok (.ifCond .eq 12, 3) := by decide +kernel
theorem dX6_point_7 : decode cX6_point 7 = .ok (.iload_n 2, 1) := by decide +kernel
theorem dX6_point_8 : decode cX6_point 8 = .ok (.iconst 0, 1) := by decide +kernel
theorem dX6_point_9 : decode cX6_point 9 = .ok (.iconst 2, 1) := by decide +kernel
theorem dX6_point_10 : decode cX6_point 10 = .ok (.invokestatic 105, 3) := by decide +kernel
theorem dX6_point_13 : decode cX6_point 13 = .ok (.ifCond .ne 6, 3) := by decide +kernel
theorem dX6_point_16 : decode cX6_point 16 = .ok (.ldc 61, 2) := by decide +kernel
theorem dX6_point_18 : decode cX6_point 18 = .ok (.ireturn, 1) := by decide +kernel
theorem dX6_point_19 : decode cX6_point 19 = .ok (.aload_n 0, 1) := by decide +kernel
theorem dX6_point_20 : decode cX6_point 20 = .ok (.invokevirtual 109, 3) := by decide +kernel
theorem dX6_point_23 : decode cX6_point 23 = .ok (.aload_n 0, 1) := by decide +kernel
theorem dX6_point_24 : decode cX6_point 24 = .ok (.iload_n 1, 1) := by decide +kernel
theorem dX6_point_25 : decode cX6_point 25 = .ok (.invokevirtual 197, 3) := by decide +kernel
theorem dX6_point_28 : decode cX6_point 28 = .ok (.iload_n 2, 1) := by decide +kernel
theorem dX6_point_29 : decode cX6_point 29 = .ok (.iconst 2, 1) := by decide +kernel
theorem dX6_point_30 : decode cX6_point 30 = .ok (.if_icmp .ne 11, 3) := by decide +kernel
theorem dX6_point_33 : decode cX6_point 33 = .ok (.aload_n 0, 1) := by decide +kernel
theorem dX6_point_34 : decode cX6_point 34 = .ok (.getfield 42, 3) := by decide +kernel
theorem dX6_point_37 : decode cX6_point 37 = .ok (.getfield 200, 3) := by decide +kernel
theorem dX6_point_40 : decode cX6_point 40 = .ok (.ireturn, 1) := by decide +kernel
theorem dX6_point_41 : decode cX6_point 41 = .ok (.aload_n 0, 1) := by decide +kernel
theorem dX6_point_42 : decode cX6_point 42 = .ok (.getfield 42, 3) := by decide +kernel
theorem dX6_point_45 : decode cX6_point 45 = .ok (.getfield 200, 3) := by decide +kernel
theorem dX6_point_48 : decode cX6_point 48 = .ok (.ifCond .ne 6, 3) := by decide +kernel
theorem dX6_point_51 : decode cX6_point 51 = .ok (.ldc 108, 2) := by decide +kernel
theorem dX6_point_53 : decode cX6_point 53 = .ok (.ireturn, 1) := by decide +kernel
theorem dX6_point_54 : decode cX6_point 54 = .ok (.iload_n 2, 1) := by decide +kernel
theorem dX6_point_55 : decode cX6_point 55 = .ok (.ifCond .ne 13, 3) := by decide +kernel
theorem dX6_point_58 : decode cX6_point 58 = .ok (.aload_n 0, 1) := by decide +kernel
theorem dX6_point_59 : decode cX6_point 59 = .ok (.getfield 42, 3) := by decide +kernel
theorem dX6_point_62 : decode cX6_point 62 = .ok (.invokevirtual 203, 3) := by decide +kernel
theorem dX6_point_65 : decode cX6_point 65 = .ok (.goto 10, 3) := by decide +kernel
theorem dX6_point_68 : decode cX6_point 68 = .ok (.aload_n 0, 1) := by decide +kernel
theorem dX6_point_69 : decode cX6_point 69 = .ok (.getfield 42, 3) := by decide +kernel
theorem dX6_point_72 : decode cX6_point 72 = .ok (.invokevirtual 206, 3) := by decide +kernel
theorem dX6_point_75 : decode cX6_point 75 = .ok (.ireturn, 1) := by decide +kernel
theorem dX6_within_0 : decode cX6_within 0 = .ok (.iload_n 0, 1) := by decide +kernel
theorem dX6_within_1 : decode cX6_within 1 = .ok (.iload_n 1, 1) := by decide +kernel
theorem dX6_within_2 : decode cX6_within 2 = .ok (.if_icmp .lt 12, 3) := by decide +kernel
theorem dX6_within_5 : decode cX6_within 5 = .ok (.iload_n 0, 1) := by decide +kernel
theorem dX6_within_6 : decode cX6_within 6 = .ok (.iload_n 2, 1) := by decide +kernel
theorem dX6_within_7 : decode cX6_within 7 = .ok (.if_icmp .gt 7, 3) := by decide +kernel
theorem dX6_within_10 : decode cX6_within 10 = .ok (.iconst 1, 1) := by decide +kernel
theorem dX6_within_11 : decode cX6_within 11 = .ok (.goto 4, 3) := by decide +kernel
theorem dX6_within_14 : decode cX6_within 14 = .ok (.iconst 0, 1) := by decide +kernel
theorem dX6_within_15 : decode cX6_within 15 = .ok (.ireturn, 1) := by decide +kernel
set_option maxRecDepth 20000 in
theorem ggX6_isSetting_X6_within : GoodIn wsX6_isSetting wsX6_within := goodIn_r _ [6] (by decide +kernel) (by decide +kernel)
set_option maxRecDepth 20000 in
theorem gX6_isSetting_X6_within : GoodIn wsX6_isSetting (va_wsS RX6 105 yX6_within wsX6_within) := goodIn_app (goodIn_of _ (by decide +kernel)) ggX6_isSetting_X6_within
theorem dX6_isSetting_0 : decode cX6_isSetting 0 = .ok (.iload_n 0, 1) := by decide +kernel
theorem dX6_isSetting_1 : decode cX6_isSetting 1 = .ok (.tableswitch 54 0 2 #[27, 36, 45], 27) := by decide +kernel
theorem dX6_isSetting_28 : decode cX6_isSetting 28 = .ok (.iload_n 1, 1) := by decide +kernel
theorem dX6_isSetting_29 : decode cX6_isSetting 29 = .ok (.ldc 233, 2) := by decide +kernel
theorem dX6_isSetting_31 : decode cX6_isSetting 31 = .ok (.ldc 234, 2) := by decide +kernel
theorem dX6_isSetting_33 : decode cX6_isSetting 33 = .ok (.invokestatic 105, 3) := by decide +kernel
theorem dX6_isSetting_36 : decode cX6_isSetting 36 = .ok (.ireturn, 1) := by decide +kernel
theorem dX6_isSetting_37 : decode cX6_isSetting 37 = .ok (.iload_n 1, 1) := by decide +kernel
theorem dX6_isSetting_38 : decode cX6_isSetting 38 = .ok (.iconst 1, 1) := by decide +kernel
theorem dX6_isSetting_39 : decode cX6_isSetting 39 = .ok (.sipush 5000, 3) := by decide +kernel
theorem dX6_isSetting_42 : decode cX6_isSetting 42 = .ok (.invokestatic 105, 3) := by decide +kernel
theorem dX6_isSetting_45 : decode cX6_isSetting 45 = .ok (.ireturn, 1) := by decide +kernel
theorem dX6_isSetting_46 : decode cX6_isSetting 46 = .ok (.iload_n 1, 1) := by decide +kernel
theorem dX6_isSetting_47 : decode cX6_isSetting 47 = .ok (.iconst 1, 1) := by decide +kernel
theorem dX6_isSetting_48 : decode cX6_isSetting 48 = .ok (.sipush 500, 3) := by decide +kernel
theorem dX6_isSetting_51 : decode cX6_isSetting 51 = .ok (.invokestatic 105, 3) := by decide +kernel
theorem dX6_isSetting_54 : decode cX6_isSetting 54 = .ok (.ireturn, 1) := by decide +kernel
theorem dX6_isSetting_55 : decode cX6_isSetting 55 = .ok (.iconst 0, 1) := by decide +kernel
theorem dX6_isSetting_56 : decode cX6_isSetting 56 = .ok (.ireturn, 1) := by decide +kernel
set_option maxRecDepth 20000 in
theorem ggX6_isCell_X6_within : GoodIn wsX6_isCell wsX6_within := goodIn_r _ [4] (by decide +kernel) (by decide +kernel)
set_option maxRecDepth 20000 in
theorem gX6_isCell_X6_within : GoodIn wsX6_isCell (va_wsS RX6 105 yX6_within wsX6_within) := goodIn_app (goodIn_of _ (by decide +kernel)) ggX6_isCell_X6_within
theorem dX6_isCell_0 : decode cX6_isCell 0 = .ok (.iload_n 0, 1) := by decide +kernel
theorem dX6_isCell_1 : decode cX6_isCell 1 = .ok (.iconst 0, 1) := by decide +kernel
theorem dX6_isCell_2 : decode cX6_isCell 2 = .ok (.iconst 2, 1) := by decide +kernel
theorem dX6_isCell_3 : decode cX6_isCell 3 = .ok (.invokestatic 105, 3) := by decide +kernel
theorem dX6_isCell_6 : decode cX6_isCell 6 = .ok (.ireturn, 1) := by decide +kernel
set_option maxRecDepth 20000 in
theorem ggX6_isPoint_X6_within : GoodIn wsX6_isPoint wsX6_within := goodIn_r _ [4] (by decide +kernel) (by decide +kernel)
set_option maxRecDepth 20000 in
theorem gX6_isPoint_X6_within : GoodIn wsX6_isPoint (va_wsS RX6 105 yX6_within wsX6_within) := goodIn_app (goodIn_of _ (by decide +kernel)) ggX6_isPoint_X6_within
theorem dX6_isPoint_0 : decode cX6_isPoint 0 = .ok (.iload_n 0, 1) := by decide +kernel
theorem dX6_isPoint_1 : decode cX6_isPoint 1 = .ok (.iconst 0, 1) := by decide +kernel
theorem dX6_isPoint_2 : decode cX6_isPoint 2 = .ok (.bipush 9, 2) := by decide +kernel
theorem dX6_isPoint_4 : decode cX6_isPoint 4 = .ok (.invokestatic 105, 3) := by decide +kernel
theorem dX6_isPoint_7 : decode cX6_isPoint 7 = .ok (.ireturn, 1) := by decide +kernel
set_option maxRecDepth 20000 in
theorem ggX6_isTime_X6_within : GoodIn wsX6_isTime wsX6_within := goodIn_r _ [4] (by decide +kernel) (by decide +kernel)
set_option maxRecDepth 20000 in
theorem gX6_isTime_X6_within : GoodIn wsX6_isTime (va_wsS RX6 105 yX6_within wsX6_within) := goodIn_app (goodIn_of _ (by decide +kernel)) ggX6_isTime_X6_within
theorem dX6_isTime_0 : decode cX6_isTime 0 = .ok (.iload_n 0, 1) := by decide +kernel
theorem dX6_isTime_1 : decode cX6_isTime 1 = .ok (.iconst 0, 1) := by decide +kernel
theorem dX6_isTime_2 : decode cX6_isTime 2 = .ok (.sipush 10000, 3) := by decide +kernel
theorem dX6_isTime_5 : decode cX6_isTime 5 = .ok (.invokestatic 105, 3) := by decide +kernel
theorem dX6_isTime_8 : decode cX6_isTime 8 = .ok (.ireturn, 1) := by decide +kernel
set_option maxRecDepth 20000 in
theorem ggX6_isTemperature_X6_within : GoodIn wsX6_isTemperature wsX6_within := goodIn_r _ [4] (by decide +kernel) (by decide +kernel)
set_option maxRecDepth 20000 in
theorem gX6_isTemperature_X6_within : GoodIn wsX6_isTemperature (va_wsS RX6 105 yX6_within wsX6_within) := goodIn_app (goodIn_of _ (by decide +kernel)) ggX6_isTemperature_X6_within
theorem dX6_isTemperature_0 : decode cX6_isTemperature 0 = .ok (.iload_n 0, 1) := by decide +kernel
theorem dX6_isTemperature_1 : decode cX6_isTemperature 1 = .ok (.sipush (-300), 3) := by decide +kernel
theorem dX6_isTemperature_4 : decode cX6_isTemperature 4 = .ok (.sipush 500, 3) := by decide +kernel
theorem dX6_isTemperature_7 : decode cX6_isTemperature 7 = .ok (.invokestatic 105, 3) := by decide +kernel
theorem dX6_isTemperature_10 : decode cX6_isTemperature 10 = .ok (.ireturn, 1) := by decide +kernel
set_option maxRecDepth 20000 in
theorem ggX6_isReading_X6_isTime : GoodIn wsX6_isReading wsX6_isTime := goodIn_r _ [6, 7, 8, 5, 9] (by decide +kernel) (by decide +kernel)
set_option maxRecDepth 20000 in
theorem gX6_isReading_X6_isTime : GoodIn wsX6_isReading (va_wsS RX6 151 yX6_isTime wsX6_isTime) := goodIn_app (goodIn_of _ (by decide +kernel)) ggX6_isReading_X6_isTime
set_option maxRecDepth 20000 in
theorem ggX6_isReading_X6_within : GoodIn wsX6_isReading wsX6_within := goodIn_r _ [9] (by decide +kernel) (by decide +kernel)
set_option maxRecDepth 20000 in
theorem gX6_isReading_X6_within : GoodIn wsX6_isReading (va_wsS RX6 105 yX6_within wsX6_within) := goodIn_app (goodIn_of _ (by decide +kernel)) ggX6_isReading_X6_within
set_option maxRecDepth 20000 in
theorem ggX6_isReading_X6_isTemperature : GoodIn wsX6_isReading wsX6_isTemperature := goodIn_r _ [12, 7, 8, 5, 9] (by decide +kernel) (by decide +kernel)
set_option maxRecDepth 20000 in
theorem gX6_isReading_X6_isTemperature : GoodIn wsX6_isReading (va_wsS RX6 167 yX6_isTemperature wsX6_isTemperature) := goodIn_app (goodIn_of _ (by decide +kernel)) ggX6_isReading_X6_isTemperature
theorem dX6_isReading_0 : decode cX6_isReading 0 = .ok (.iload_n 0, 1) := by decide +kernel
theorem dX6_isReading_1 : decode cX6_isReading 1 = .ok (.invokestatic 151, 3) := by decide +kernel
theorem dX6_isReading_4 : decode cX6_isReading 4 = .ok (.ifCond .eq 25, 3) := by decide +kernel
theorem dX6_isReading_7 : decode cX6_isReading 7 = .ok (.iload_n 1, 1) := by decide +kernel
theorem dX6_isReading_8 : decode cX6_isReading 8 = .ok (.ldc 172, 2) := by decide +kernel
theorem dX6_isReading_10 : decode cX6_isReading 10 = .ok (.ldc 235, 2) := by decide +kernel
theorem dX6_isReading_12 : decode cX6_isReading 12 = .ok (.invokestatic 105, 3) := by decide +kernel
theorem dX6_isReading_15 : decode cX6_isReading 15 = .ok (.ifCond .eq 14, 3) := by decide +kernel
theorem dX6_isReading_18 : decode cX6_isReading 18 = .ok (.iload_n 2, 1) := by decide +kernel
theorem dX6_isReading_19 : decode cX6_isReading 19 = .ok (.invokestatic 167, 3) := by decide +kernel
theorem dX6_isReading_22 : decode cX6_isReading 22 = .ok (.ifCond .eq 7, 3) := by decide +kernel
theorem dX6_isReading_25 : decode cX6_isReading 25 = .ok (.iconst 1, 1) := by decide +kernel
theorem dX6_isReading_26 : decode cX6_isReading 26 = .ok (.goto 4, 3) := by decide +kernel
theorem dX6_isReading_29 : decode cX6_isReading 29 = .ok (.iconst 0, 1) := by decide +kernel
theorem dX6_isReading_30 : decode cX6_isReading 30 = .ok (.ireturn, 1) := by decide +kernel
set_option maxRecDepth 20000 in
theorem ggX6_isReadingOf_X6_isCell : GoodIn wsX6_isReadingOf wsX6_isCell := goodIn_r _ [5, 6, 7, 4, 8] (by decide +kernel) (by decide +kernel)
set_option maxRecDepth 20000 in
theorem gX6_isReadingOf_X6_isCell : GoodIn wsX6_isReadingOf (va_wsS RX6 81 yX6_isCell wsX6_isCell) := goodIn_app (goodIn_of _ (by decide +kernel)) ggX6_isReadingOf_X6_isCell
set_option maxRecDepth 20000 in
theorem ggX6_isReadingOf_X2_track : GoodIn wsX6_isReadingOf wsX2_track := goodIn_r _ [13, 14, 15, 16, 17, 30, 31, 32, 33, 34, 35, 36] (by decide +kernel) (by decide +kernel)
set_option maxRecDepth 20000 in
theorem gX6_isReadingOf_X2_track : GoodIn wsX6_isReadingOf (wsV RX6 91 RX2 yX2_track wsX2_track) := goodIn_app (goodIn_of _ (by decide +kernel)) ggX6_isReadingOf_X2_track
set_option maxRecDepth 20000 in
theorem ggX6_isReadingOf_X6_within : GoodIn wsX6_isReadingOf wsX6_within := goodIn_r _ [8] (by decide +kernel) (by decide +kernel)
set_option maxRecDepth 20000 in
theorem gX6_isReadingOf_X6_within : GoodIn wsX6_isReadingOf (va_wsS RX6 105 yX6_within wsX6_within) := goodIn_app (goodIn_of _ (by decide +kernel)) ggX6_isReadingOf_X6_within
theorem dX6_isReadingOf_0 : decode cX6_isReadingOf 0 = .ok (.iload_n 1, 1) := by decide +kernel
theorem dX6_isReadingOf_1 : decode cX6_isReadingOf 1 = .ok (.iconst (-1), 1) := by decide +kernel
theorem dX6_isReadingOf_2 : decode cX6_isReadingOf 2 = .ok (.if_icmp .eq 10, 3) := by decide +kernel
theorem dX6_isReadingOf_5 : decode cX6_isReadingOf 5 = .ok (.iload_n 1, 1) := by decide +kernel
theorem dX6_isReadingOf_6 : decode cX6_isReadingOf 6 = .ok (.invokestatic 81, 3) := by decide +kernel
theorem dX6_isReadingOf_9 : decode cX6_isReadingOf 9 = .ok (.ifCond .eq 28, 3) := by decide +kernel
theorem dX6_isReadingOf_12 : decode cX6_isReadingOf 12 = .ok (.iload_n 2, 1) := by decide +kernel
theorem dX6_isReadingOf_13 : decode cX6_isReadingOf 13 = .ok (.iconst 0, 1) := by decide +kernel
theorem dX6_isReadingOf_14 : decode cX6_isReadingOf 14 = .ok (.aload_n 0, 1) := by decide +kernel
theorem dX6_isReadingOf_15 : decode cX6_isReadingOf 15 = .ok (.getfield 10, 3) := by decide +kernel
theorem dX6_isReadingOf_18 : decode cX6_isReadingOf 18 = .ok (.iload_n 1, 1) := by decide +kernel
theorem dX6_isReadingOf_19 : decode cX6_isReadingOf 19 = .ok (.invokevirtual 91, 3) := by decide +kernel
theorem dX6_isReadingOf_22 : decode cX6_isReadingOf 22 = .ok (.getfield 101, 3) := by decide +kernel
theorem dX6_isReadingOf_25 : decode cX6_isReadingOf 25 = .ok (.iconst 1, 1) := by decide +kernel
theorem dX6_isReadingOf_26 : decode cX6_isReadingOf 26 = .ok (.isub, 1) := by decide +kernel
theorem dX6_isReadingOf_27 : decode cX6_isReadingOf 27 = .ok (.invokestatic 105, 3) := by decide +kernel
theorem dX6_isReadingOf_30 : decode cX6_isReadingOf 30 = .ok (.ifCond .eq 7, 3) := by decide +kernel
theorem dX6_isReadingOf_33 : decode cX6_isReadingOf 33 = .ok (.iconst 1, 1) := by decide +kernel
theorem dX6_isReadingOf_34 : decode cX6_isReadingOf 34 = .ok (.goto 4, 3) := by decide +kernel
theorem dX6_isReadingOf_37 : decode cX6_isReadingOf 37 = .ok (.iconst 0, 1) := by decide +kernel
theorem dX6_isReadingOf_38 : decode cX6_isReadingOf 38 = .ok (.ireturn, 1) := by decide +kernel
theorem dX6_at_0 : decode cX6_at 0 = .ok (.iload_n 1, 1) := by decide +kernel
theorem dX6_at_1 : decode cX6_at 1 = .ok (.ifCond .lt 15, 3) := by decide +kernel
theorem dX6_at_4 : decode cX6_at 4 = .ok (.iload_n 1, 1) := by decide +kernel
theorem dX6_at_5 : decode cX6_at 5 = .ok (.aload_n 0, 1) := by decide +kernel
theorem dX6_at_6 : decode cX6_at 6 = .ok (.arraylength, 1) := by decide +kernel
theorem dX6_at_7 : decode cX6_at 7 = .ok (.if_icmp .ge 9, 3) := by decide +kernel
theorem dX6_at_10 : decode cX6_at 10 = .ok (.aload_n 0, 1) := by decide +kernel
theorem dX6_at_11 : decode cX6_at 11 = .ok (.iload_n 1, 1) := by decide +kernel
theorem dX6_at_12 : decode cX6_at 12 = .ok (.iaload, 1) := by decide +kernel
theorem dX6_at_13 : decode cX6_at 13 = .ok (.goto 4, 3) := by decide +kernel
theorem dX6_at_16 : decode cX6_at 16 = .ok (.iconst 0, 1) := by decide +kernel
theorem dX6_at_17 : decode cX6_at 17 = .ok (.ireturn, 1) := by decide +kernel
theorem dX6_put_0 : decode cX6_put 0 = .ok (.iload_n 1, 1) := by decide +kernel
theorem dX6_put_1 : decode cX6_put 1 = .ok (.ifCond .lt 13, 3) := by decide +kernel
theorem dX6_put_4 : decode cX6_put 4 = .ok (.iload_n 1, 1) := by decide +kernel
theorem dX6_put_5 : decode cX6_put 5 = .ok (.aload_n 0, 1) := by decide +kernel
theorem dX6_put_6 : decode cX6_put 6 = .ok (.arraylength, 1) := by decide +kernel
theorem dX6_put_7 : decode cX6_put 7 = .ok (.if_icmp .ge 7, 3) := by decide +kernel
theorem dX6_put_10 : decode cX6_put 10 = .ok (.aload_n 0, 1) := by decide +kernel
theorem dX6_put_11 : decode cX6_put 11 = .ok (.iload_n 1, 1) := by decide +kernel
theorem dX6_put_12 : decode cX6_put 12 = .ok (.iload_n 2, 1) := by decide +kernel
theorem dX6_put_13 : decode cX6_put 13 = .ok (.iastore, 1) := by decide +kernel
theorem dX6_put_14 : decode cX6_put 14 = .ok (.return_, 1) := by decide +kernel
set_option maxRecDepth 20000 in
theorem ggX6_divideDown_J9_floorDiv_f86c9 : GoodIn wsX6_divideDown wsJ9_floorDiv_f86c9 := goodIn_r _ [4] (by decide +kernel) (by decide +kernel)
set_option maxRecDepth 20000 in
theorem gX6_divideDown_J9_floorDiv_f86c9 : GoodIn wsX6_divideDown (va_wsS RX6 236 yJ9_floorDiv_f86c9 wsJ9_floorDiv_f86c9) := goodIn_app (goodIn_of _ (by decide +kernel)) ggX6_divideDown_J9_floorDiv_f86c9
theorem dX6_divideDown_0 : decode cX6_divideDown 0 = .ok (.lload_n 2, 1) := by decide +kernel
theorem dX6_divideDown_1 : decode cX6_divideDown 1 = .ok (.lconst 0, 1) := by decide +kernel
theorem dX6_divideDown_2 : decode cX6_divideDown 2 = .ok (.lcmp, 1) := by decide +kernel
theorem dX6_divideDown_3 : decode cX6_divideDown 3 = .ok (.ifCond .ne 7, 3) := by decide +kernel
theorem dX6_divideDown_6 : decode cX6_divideDown 6 = .ok (.lconst 0, 1) := by decide +kernel
theorem dX6_divideDown_7 : decode cX6_divideDown 7 = .ok (.goto 8, 3) := by decide +kernel
theorem dX6_divideDown_10 : decode cX6_divideDown 10 = .ok (.lload_n 0, 1) := by decide +kernel
theorem dX6_divideDown_11 : decode cX6_divideDown 11 = .ok (.lload_n 2, 1) := by decide +kernel
theorem dX6_divideDown_12 : decode cX6_divideDown 12 = .ok (.invokestatic 236, 3) := by decide +kernel
theorem dX6_divideDown_15 : decode cX6_divideDown 15 = .ok (.lreturn, 1) := by decide +kernel
set_option maxRecDepth 20000 in
theorem ggX6_record_X0_keep : GoodIn wsX6_record wsX0_keep := goodIn_r _ [8, 9, 10, 11, 12, 13, 7, 14, 15, 16, 17, 18, 19, 20, 21, 22, 23, 24, 25, 26, 27, 28, 29, 30, 31, 32, 33, 34, 35, 36, 37, 38, 39, 40, 41, 42, 52, 53, 54, 55, 56, 57, 58, 59, 60, 61, 62, 63, 64] (by decide +kernel) (by decide +kernel)
set_option maxRecDepth 20000 in
theorem gX6_record_X0_keep : GoodIn wsX6_record (wsV RX6 240 RX0 yX0_keep wsX0_keep) := goodIn_app (goodIn_of _ (by decide +kernel)) ggX6_record_X0_keep
theorem dX6_record_0 : decode cX6_record 0 = .ok (.aload_n 0, 1) := by decide +kernel
theorem dX6_record_1 : decode cX6_record 1 = .ok (.getfield 22, 3) := by decide +kernel
theorem dX6_record_4 : decode cX6_record 4 = .ok (.aload_n 0, 1) := by decide +kernel
theorem dX6_record_5 : decode cX6_record 5 = .ok (.getfield 10, 3) := by decide +kernel
theorem dX6_record_8 : decode cX6_record 8 = .ok (.invokevirtual 240, 3) := by decide +kernel
theorem dX6_record_11 : decode cX6_record 11 = .ok (.aload_n 0, 1) := by decide +kernel
theorem dX6_record_12 : decode cX6_record 12 = .ok (.iconst 1, 1) := by decide +kernel
theorem dX6_record_13 : decode cX6_record 13 = .ok (.putfield 53, 3) := by decide +kernel
theorem dX6_record_16 : decode cX6_record 16 = .ok (.return_, 1) := by decide +kernel
set_option maxRecDepth 20000 in
theorem ggX6_take_X2_track : GoodIn wsX6_take wsX2_track := goodIn_r _ [8, 9, 10, 11, 12, 88, 89, 90, 91, 92, 93, 94] (by decide +kernel) (by decide +kernel)
set_option maxRecDepth 20000 in
theorem gX6_take_X2_track : GoodIn wsX6_take (wsV RX6 91 RX2 yX2_track wsX2_track) := goodIn_app (goodIn_of _ (by decide +kernel)) ggX6_take_X2_track
set_option maxRecDepth 20000 in
theorem ggX6_take_X5_hasTime : GoodIn wsX6_take wsX5_hasTime := goodIn_r _ [17, 18, 19, 20, 21, 16, 22, 23, 24, 25, 26, 95, 96, 97] (by decide +kernel) (by decide +kernel)
set_option maxRecDepth 20000 in
theorem gX6_take_X5_hasTime : GoodIn wsX6_take (wsV RX6 243 RX5 yX5_hasTime wsX5_hasTime) := goodIn_app (goodIn_of _ (by decide +kernel)) ggX6_take_X5_hasTime
set_option maxRecDepth 20000 in
theorem ggX6_take_X5_isFull : GoodIn wsX6_take wsX5_isFull := goodIn_r _ [30, 18, 31, 95, 96, 97] (by decide +kernel) (by decide +kernel)
set_option maxRecDepth 20000 in
theorem gX6_take_X5_isFull : GoodIn wsX6_take (wsV RX6 246 RX5 yX5_isFull wsX5_isFull) := goodIn_app (goodIn_of _ (by decide +kernel)) ggX6_take_X5_isFull
set_option maxRecDepth 20000 in
theorem ggX6_take_X6_record : GoodIn wsX6_take wsX6_record := goodIn_r _ [35, 36, 1, 37, 38, 39, 40, 41, 42, 43, 44, 45, 46, 47, 48, 49, 50, 51, 52, 7, 53, 12, 9, 10, 11, 54, 55, 56, 57, 58, 59, 16, 60, 23, 61, 62, 63, 64, 65, 66, 67, 68, 18, 79, 80, 81, 82, 83, 84, 85, 86, 87, 98, 99, 100, 88, 89, 90, 91, 92, 93, 94, 95, 96, 97] (by decide +kernel) (by decide +kernel)
set_option maxRecDepth 20000 in
theorem gX6_take_X6_record : GoodIn wsX6_take (wsV RX6 62 RX6 yX6_record wsX6_record) := goodIn_app (goodIn_of _ (by decide +kernel)) ggX6_take_X6_record
set_option maxRecDepth 20000 in
theorem ggX6_take_X5_insert : GoodIn wsX6_take wsX5_insert := goodIn_r _ [72, 18, 23, 19, 20, 21, 16, 22, 24, 25, 26, 73, 74, 75, 76, 77, 78, 95, 96, 97] (by decide +kernel) (by decide +kernel)
set_option maxRecDepth 20000 in
theorem gX6_take_X5_insert : GoodIn wsX6_take (wsV RX6 250 RX5 yX5_insert wsX5_insert) := goodIn_app (goodIn_of _ (by decide +kernel)) ggX6_take_X5_insert
theorem dX6_take_0 : decode cX6_take 0 = .ok (.aload_n 0, 1) := by decide +kernel
theorem dX6_take_1 : decode cX6_take 1 = .ok (.getfield 10, 3) := by decide +kernel
theorem dX6_take_4 : decode cX6_take 4 = .ok (.iload_n 1, 1) := by decide +kernel
theorem dX6_take_5 : decode cX6_take 5 = .ok (.invokevirtual 91, 3) := by decide +kernel
theorem dX6_take_8 : decode cX6_take 8 = .ok (.astore 6, 2) := by decide +kernel
theorem dX6_take_10 : decode cX6_take 10 = .ok (.aload 6, 2) := by decide +kernel
theorem dX6_take_12 : decode cX6_take 12 = .ok (.iload_n 3, 1) := by decide +kernel
theorem dX6_take_13 : decode cX6_take 13 = .ok (.invokevirtual 243, 3) := by decide +kernel
theorem dX6_take_16 : decode cX6_take 16 = .ok (.ifCond .eq 6, 3) := by decide +kernel
theorem dX6_take_19 : decode cX6_take 19 = .ok (.ldc 146, 2) := by decide +kernel
theorem dX6_take_21 : decode cX6_take 21 = .ok (.ireturn, 1) := by decide +kernel
theorem dX6_take_22 : decode cX6_take 22 = .ok (.aload 6, 2) := by decide +kernel
theorem dX6_take_24 : decode cX6_take 24 = .ok (.invokevirtual 246, 3) := by decide +kernel
theorem dX6_take_27 : decode cX6_take 27 = .ok (.ifCond .eq 6, 3) := by decide +kernel
theorem dX6_take_30 : decode cX6_take 30 = .ok (.ldc 214, 2) := by decide +kernel
theorem dX6_take_32 : decode cX6_take 32 = .ok (.ireturn, 1) := by decide +kernel
theorem dX6_take_33 : decode cX6_take 33 = .ok (.aload_n 0, 1) := by decide +kernel
theorem dX6_take_34 : decode cX6_take 34 = .ok (.invokevirtual 62, 3) := by decide +kernel
theorem dX6_take_37 : decode cX6_take 37 = .ok (.aload 6, 2) := by decide +kernel
theorem dX6_take_39 : decode cX6_take 39 = .ok (.iload_n 2, 1) := by decide +kernel
theorem dX6_take_40 : decode cX6_take 40 = .ok (.iload_n 3, 1) := by decide +kernel
theorem dX6_take_41 : decode cX6_take 41 = .ok (.iload 4, 2) := by decide +kernel
theorem dX6_take_43 : decode cX6_take 43 = .ok (.iload 5, 2) := by decide +kernel
theorem dX6_take_45 : decode cX6_take 45 = .ok (.invokevirtual 250, 3) := by decide +kernel
theorem dX6_take_48 : decode cX6_take 48 = .ok (.ireturn, 1) := by decide +kernel
set_option maxRecDepth 20000 in
theorem ggX6_refresh_X3_workOut : GoodIn wsX6_refresh wsX3_workOut := goodIn_r _ [10, 11, 12, 13, 14, 15, 16, 17, 18, 19, 20, 21, 22, 23, 24, 25, 26, 27, 28, 29, 30, 31, 32, 33, 34, 35, 36, 37, 38, 39, 40, 41, 42, 43, 44, 45, 46, 47, 48, 49, 50, 51, 52, 53, 54, 55, 56, 57, 58, 59, 60, 61, 62, 63, 64, 65, 66, 67, 9, 68, 69, 70, 71, 72, 73, 74, 75, 76, 77, 78, 79, 80, 81, 82, 83, 84, 85, 86, 87, 88, 89, 90, 91, 92, 93, 94, 95, 96, 97, 98, 99, 100, 101, 102, 103, 104, 105, 106, 107, 108, 109, 110, 111, 112, 113, 114, 115, 116, 117, 118, 119, 120, 121, 122, 132, 133, 134, 135, 136, 137, 138, 139, 140, 141, 142, 143, 144, 145, 146, 147, 148, 149, 150, 151, 152, 153] (by decide +kernel) (by decide +kernel)
set_option maxRecDepth 20000 in
theorem gX6_refresh_X3_workOut : GoodIn wsX6_refresh (wsV RX6 257 RX3 yX3_workOut wsX3_workOut) := goodIn_app (goodIn_of _ (by decide +kernel)) ggX6_refresh_X3_workOut
theorem dX6_refresh_0 : decode cX6_refresh 0 = .ok (.aload_n 0, 1) := by decide +kernel
theorem dX6_refresh_1 : decode cX6_refresh 1 = .ok (.getfield 53, 3) := by decide +kernel
theorem dX6_refresh_4 : decode cX6_refresh 4 = .ok (.ifCond .eq 44, 3) := by decide +kernel
theorem dX6_refresh_7 : decode cX6_refresh 7 = .ok (.aload_n 0, 1) := by decide +kernel
theorem dX6_refresh_8 : decode cX6_refresh 8 = .ok (.getfield 29, 3) := by decide +kernel
theorem dX6_refresh_11 : decode cX6_refresh 11 = .ok (.aload_n 0, 1) := by decide +kernel
theorem dX6_refresh_12 : decode cX6_refresh 12 = .ok (.getfield 10, 3) := by decide +kernel
theorem dX6_refresh_15 : decode cX6_refresh 15 = .ok (.iconst 0, 1) := by decide +kernel
theorem dX6_refresh_16 : decode cX6_refresh 16 = .ok (.invokevirtual 257, 3) := by decide +kernel
theorem dX6_refresh_19 : decode cX6_refresh 19 = .ok (.aload_n 0, 1) := by decide +kernel
theorem dX6_refresh_20 : decode cX6_refresh 20 = .ok (.getfield 33, 3) := by decide +kernel
theorem dX6_refresh_23 : decode cX6_refresh 23 = .ok (.aload_n 0, 1) := by decide +kernel
theorem dX6_refresh_24 : decode cX6_refresh 24 = .ok (.getfield 10, 3) := by decide +kernel
theorem dX6_refresh_27 : decode cX6_refresh 27 = .ok (.iconst 1, 1) := by decide +kernel
theorem dX6_refresh_28 : decode cX6_refresh 28 = .ok (.invokevirtual 257, 3) := by decide +kernel
theorem dX6_refresh_31 : decode cX6_refresh 31 = .ok (.aload_n 0, 1) := by decide +kernel
theorem dX6_refresh_32 : decode cX6_refresh 32 = .ok (.getfield 36, 3) := by decide +kernel
theorem dX6_refresh_35 : decode cX6_refresh 35 = .ok (.aload_n 0, 1) := by decide +kernel
theorem dX6_refresh_36 : decode cX6_refresh 36 = .ok (.getfield 10, 3) := by decide +kernel
theorem dX6_refresh_39 : decode cX6_refresh 39 = .ok (.iconst 2, 1) := by decide +kernel
theorem dX6_refresh_40 : decode cX6_refresh 40 = .ok (.invokevirtual 257, 3) := by decide +kernel
theorem dX6_refresh_43 : decode cX6_refresh 43 = .ok (.aload_n 0, 1) := by decide +kernel
theorem dX6_refresh_44 : decode cX6_refresh 44 = .ok (.iconst 0, 1) := by decide +kernel
theorem dX6_refresh_45 : decode cX6_refresh 45 = .ok (.putfield 53, 3) := by decide +kernel
theorem dX6_refresh_48 : decode cX6_refresh 48 = .ok (.return_, 1) := by decide +kernel
theorem dX6_surveyOf_0 : decode cX6_surveyOf 0 = .ok (.iload_n 1, 1) := by decide +kernel
theorem dX6_surveyOf_1 : decode cX6_surveyOf 1 = .ok (.lookupswitch 37 #[(0, 27), (1, 32)], 27) := by decide +kernel
theorem dX6_surveyOf_28 : decode cX6_surveyOf 28 = .ok (.aload_n 0, 1) := by decide +kernel
theorem dX6_surveyOf_29 : decode cX6_surveyOf 29 = .ok (.getfield 29, 3) := by decide +kernel
theorem dX6_surveyOf_32 : decode cX6_surveyOf 32 = .ok (.areturn, 1) := by decide +kernel
theorem dX6_surveyOf_33 : decode cX6_surveyOf 33 = .ok (.aload_n 0, 1) := by decide +kernel
theorem dX6_surveyOf_34 : decode cX6_surveyOf 34 = .ok (.getfield 33, 3) := by decide +kernel
theorem dX6_surveyOf_37 : decode cX6_surveyOf 37 = .ok (.areturn, 1) := by decide +kernel
theorem dX6_surveyOf_38 : decode cX6_surveyOf 38 = .ok (.aload_n 0, 1) := by decide +kernel
theorem dX6_surveyOf_39 : decode cX6_surveyOf 39 = .ok (.getfield 36, 3) := by decide +kernel
theorem dX6_surveyOf_42 : decode cX6_surveyOf 42 = .ok (.areturn, 1) := by decide +kernel
set_option maxRecDepth 20000 in
theorem ggX6_pointsWithHeight_X6_gather : GoodIn wsX6_pointsWithHeight wsX6_gather := goodIn_r _ [6, 1, 7, 8, 9, 10, 11, 12, 13, 14, 15, 16, 5, 17, 18, 19, 20, 21, 22, 23, 24, 25, 26, 27, 28, 29, 30, 31, 32, 33, 34, 35, 36, 37, 38, 39, 40, 41, 42, 43, 44, 45, 46, 47, 48, 49, 50, 51, 52, 53, 54, 55, 56, 57, 58, 59, 60, 61, 62, 63, 64, 65, 66, 67, 68, 69, 70, 71, 72, 73, 74, 75, 76, 77, 78, 79, 80, 81, 82, 83, 84, 85, 86, 87, 88, 89, 90, 91, 92, 93] (by decide +kernel) (by decide +kernel)
set_option maxRecDepth 20000 in
theorem gX6_pointsWithHeight_X6_gather : GoodIn wsX6_pointsWithHeight (wsV RX6 197 RX6 yX6_gather wsX6_gather) := goodIn_app (goodIn_of _ (by decide +kernel)) ggX6_pointsWithHeight_X6_gather
theorem dX6_pointsWithHeight_0 : decode cX6_pointsWithHeight 0 = .ok (.iconst 0, 1) := by decide +kernel
theorem dX6_pointsWithHeight_1 : decode cX6_pointsWithHeight 1 = .ok (.istore_n 1, 1) := by decide +kernel
theorem dX6_pointsWithHeight_2 : decode cX6_pointsWithHeight 2 = .ok (.iconst 0, 1) := by decide +kernel
theorem dX6_pointsWithHeight_3 : decode cX6_pointsWithHeight 3 = .ok (.istore_n 2, 1) := by decide +kernel
theorem dX6_pointsWithHeight_4 : decode cX6_pointsWithHeight 4 = .ok (.iload_n 2, 1) := by decide +kernel
theorem dX6_pointsWithHeight_5 : decode cX6_pointsWithHeight 5 = .ok (.bipush 10, 2) := by decide +kernel
theorem dX6_pointsWithHeight_7 : decode cX6_pointsWithHeight 7 = .ok (.if_icmp .ge 32, 3) := by decide +kernel
theorem dX6_pointsWithHeight_10 : decode cX6_pointsWithHeight 10 = .ok (.aload_n 0, 1) := by decide +kernel
theorem dX6_pointsWithHeight_11 : decode cX6_pointsWithHeight 11 = .ok (.iload_n 2, 1) := by decide +kernel
theorem dX6_pointsWithHeight_12 : decode cX6_pointsWithHeight 12 = .ok (.invokevirtual 197, 3) := by decide +kernel
theorem dX6_pointsWithHeight_15 : decode cX6_pointsWithHeight 15 = .ok (.iload_n 1, 1) := by decide +kernel
theorem dX6_pointsWithHeight_16 : decode cX6_pointsWithHeight 16 = .ok (.aload_n 0, 1) := by decide +kernel
theorem dX6_pointsWithHeight_17 : decode cX6_pointsWithHeight 17 = .ok (.getfield 42, 3) := by decide +kernel
theorem dX6_pointsWithHeight_20 : decode cX6_pointsWithHeight 20 = .ok (.getfield 200, 3) := by decide +kernel
theorem dX6_pointsWithHeight_23 : decode cX6_pointsWithHeight 23 = .ok (.ifCond .le 7, 3) := by decide +kernel
theorem dX6_pointsWithHeight_26 : decode cX6_pointsWithHeight 26 = .ok (.iconst 1, 1) := by decide +kernel
theorem dX6_pointsWithHeight_27 : decode cX6_pointsWithHeight 27 = .ok (.goto 4, 3) := by decide +kernel
theorem dX6_pointsWithHeight_30 : decode cX6_pointsWithHeight 30 = .ok (.iconst 0, 1) := by decide +kernel
theorem dX6_pointsWithHeight_31 : decode cX6_pointsWithHeight 31 = .ok (.iadd, 1) := by decide +kernel
theorem dX6_pointsWithHeight_32 : decode cX6_pointsWithHeight 32 = .ok (.istore_n 1, 1) := by decide +kernel
theorem dX6_pointsWithHeight_33 : decode cX6_pointsWithHeight 33 = .ok (.iinc 2 1, 3) := by decide +kernel
theorem dX6_pointsWithHeight_36 : decode cX6_pointsWithHeight 36 = .ok (.goto (-32), 3) := by decide +kernel
theorem dX6_pointsWithHeight_39 : decode cX6_pointsWithHeight 39 = .ok (.iload_n 1, 1) := by decide +kernel
theorem dX6_pointsWithHeight_40 : decode cX6_pointsWithHeight 40 = .ok (.ireturn, 1) := by decide +kernel
set_option maxRecDepth 20000 in
theorem ggX6_gather_X1_clear : GoodIn wsX6_gather wsX1_clear := goodIn_r _ [6, 7, 8, 74, 75, 76, 77] (by decide +kernel) (by decide +kernel)
set_option maxRecDepth 20000 in
theorem gX6_gather_X1_clear : GoodIn wsX6_gather (wsV RX6 261 RX1 yX1_clear wsX1_clear) := goodIn_app (goodIn_of _ (by decide +kernel)) ggX6_gather_X1_clear
set_option maxRecDepth 20000 in
theorem ggX6_gather_X6_surveyOf : GoodIn wsX6_gather wsX6_surveyOf := goodIn_r _ [13, 14, 15, 16, 65, 66, 67, 68, 69, 70, 71, 72, 73] (by decide +kernel) (by decide +kernel)
set_option maxRecDepth 20000 in
theorem gX6_gather_X6_surveyOf : GoodIn wsX6_gather (wsV RX6 112 RX6 yX6_surveyOf wsX6_surveyOf) := goodIn_app (goodIn_of _ (by decide +kernel)) ggX6_gather_X6_surveyOf
set_option maxRecDepth 20000 in
theorem ggX6_gather_X3_addTo : GoodIn wsX6_gather wsX3_addTo := goodIn_r _ [21, 22, 23, 24, 25, 26, 20, 27, 28, 29, 30, 31, 12, 32, 33, 34, 35, 36, 37, 38, 39, 40, 41, 42, 43, 44, 45, 46, 47, 48, 49, 50, 51, 52, 53, 54, 5, 55, 8, 56, 57, 58, 59, 60, 61, 62, 63, 64, 7, 78, 79, 80, 81, 82, 83, 84, 85, 86, 87, 88, 89, 74, 75, 76, 77] (by decide +kernel) (by decide +kernel)
set_option maxRecDepth 20000 in
theorem gX6_gather_X3_addTo : GoodIn wsX6_gather (wsV RX6 264 RX3 yX3_addTo wsX3_addTo) := goodIn_app (goodIn_of _ (by decide +kernel)) ggX6_gather_X3_addTo
theorem dX6_gather_0 : decode cX6_gather 0 = .ok (.aload_n 0, 1) := by decide +kernel
theorem dX6_gather_1 : decode cX6_gather 1 = .ok (.getfield 42, 3) := by decide +kernel
theorem dX6_gather_4 : decode cX6_gather 4 = .ok (.invokevirtual 261, 3) := by decide +kernel
theorem dX6_gather_7 : decode cX6_gather 7 = .ok (.iconst 0, 1) := by decide +kernel
theorem dX6_gather_8 : decode cX6_gather 8 = .ok (.istore_n 2, 1) := by decide +kernel
theorem dX6_gather_9 : decode cX6_gather 9 = .ok (.iload_n 2, 1) := by decide +kernel
theorem dX6_gather_10 : decode cX6_gather 10 = .ok (.iconst 3, 1) := by decide +kernel
theorem dX6_gather_11 : decode cX6_gather 11 = .ok (.if_icmp .ge 22, 3) := by decide +kernel
theorem dX6_gather_14 : decode cX6_gather 14 = .ok (.aload_n 0, 1) := by decide +kernel
theorem dX6_gather_15 : decode cX6_gather 15 = .ok (.iload_n 2, 1) := by decide +kernel
theorem dX6_gather_16 : decode cX6_gather 16 = .ok (.invokevirtual 112, 3) := by decide +kernel
theorem dX6_gather_19 : decode cX6_gather 19 = .ok (.aload_n 0, 1) := by decide +kernel
theorem dX6_gather_20 : decode cX6_gather 20 = .ok (.getfield 42, 3) := by decide +kernel
theorem dX6_gather_23 : decode cX6_gather 23 = .ok (.iload_n 1, 1) := by decide +kernel
theorem dX6_gather_24 : decode cX6_gather 24 = .ok (.invokevirtual 264, 3) := by decide +kernel
theorem dX6_gather_27 : decode cX6_gather 27 = .ok (.iinc 2 1, 3) := by decide +kernel
theorem dX6_gather_30 : decode cX6_gather 30 = .ok (.goto (-21), 3) := by decide +kernel
theorem dX6_gather_33 : decode cX6_gather 33 = .ok (.return_, 1) := by decide +kernel
end
section
theorem dL_cell_0 : decode cL_cell 0 = .ok (.iload_n 1, 1) := by decide +kernel
theorem dL_cell_1 : decode cL_cell 1 = .ok (.aload_n 0, 1) := by decide +kernel
theorem dL_cell_2 : decode cL_cell 2 = .ok (.arraylength, 1) := by decide +kernel
theorem dL_cell_3 : decode cL_cell 3 = .ok (.if_icmp .ge 9, 3) := by decide +kernel
theorem dL_cell_6 : decode cL_cell 6 = .ok (.aload_n 0, 1) := by decide +kernel
theorem dL_cell_7 : decode cL_cell 7 = .ok (.iload_n 1, 1) := by decide +kernel
theorem dL_cell_8 : decode cL_cell 8 = .ok (.iaload, 1) := by decide +kernel
theorem dL_cell_9 : decode cL_cell 9 = .ok (.goto 10, 3) := by decide +kernel
theorem dL_cell_12 : decode cL_cell 12 = .ok (.ldc 7, 2) := by decide +kernel
theorem dL_cell_14 : decode cL_cell 14 = .ok (.iload_n 1, 1) := by decide +kernel
theorem dL_cell_15 : decode cL_cell 15 = .ok (.imul, 1) := by decide +kernel
theorem dL_cell_16 : decode cL_cell 16 = .ok (.bipush 109, 2) := by decide +kernel
theorem dL_cell_18 : decode cL_cell 18 = .ok (.iadd, 1) := by decide +kernel
theorem dL_cell_19 : decode cL_cell 19 = .ok (.ldc 8, 2) := by decide +kernel
theorem dL_cell_21 : decode cL_cell 21 = .ok (.iand, 1) := by decide +kernel
theorem dL_cell_22 : decode cL_cell 22 = .ok (.ireturn, 1) := by decide +kernel
set_option maxRecDepth 20000 in
theorem ggL_holds_X6_count : GoodIn wsL_holds wsX6_count := goodIn_r _ [6, 7, 8, 9, 10, 11, 12, 13, 14, 15, 16, 5, 17, 18, 19, 20, 21, 22, 23, 24, 25, 26, 27, 28, 29, 30, 31, 32, 33, 34, 35, 36, 37, 38, 39, 40, 41, 42, 43, 44, 45, 46, 47, 48, 49, 50, 51, 52, 53, 54, 55, 56, 57, 58, 59, 60, 61, 62, 63, 64, 65, 66, 67, 68, 69, 70, 71, 72, 73, 74, 75, 76, 77, 78, 79, 80, 81, 82, 83, 84, 85, 86, 87, 88, 89, 90, 91, 92, 93, 94, 95, 96, 97, 98, 99, 100, 101, 102, 103, 104, 105, 106, 107, 108, 109, 110, 111, 112, 113, 114, 115, 116, 117, 118, 119, 120, 121, 122, 123, 124, 125, 126, 127, 128, 129, 130, 131, 132, 133, 134, 135, 136, 137, 138, 139, 140, 141, 142, 143, 144, 145, 146, 147, 148, 149, 150, 151, 152, 153, 154, 155, 156, 157, 158, 159, 160, 161, 162, 163, 164, 165, 166, 167, 168, 169, 170, 171, 172, 173, 174, 175, 176, 177, 178, 179, 180, 181, 182, 183, 184, 185, 186, 187, 188, 189, 190, 191, 192, 193, 194, 195, 196, 197, 262, 263, 264, 265, 266, 267, 268, 269, 270, 271, 272, 273, 274, 275, 276, 277, 278, 279, 280, 281, 282, 283, 284, 285, 286, 287, 288, 289, 290, 291, 292, 293, 294, 295, 296, 297, 298, 299, 300, 301, 302, 303, 304, 305, 306, 307, 308, 309, 310] (by decide +kernel) (by decide +kernel)
set_option maxRecDepth 20000 in
theorem gL_holds_X6_count : GoodIn wsL_holds (wsV RL 9 RX6 yX6_count wsX6_count) := goodIn_app (goodIn_of _ (by decide +kernel)) ggL_holds_X6_count
set_option maxRecDepth 20000 in
theorem ggL_holds_X6_reading : GoodIn wsL_holds wsX6_reading := goodIn_r _ [201, 13, 202, 7, 203, 204, 205, 5, 206, 207, 208, 209, 210, 211, 212, 135, 32, 33, 34, 35, 36, 37, 38, 39, 14, 15, 16, 17, 18, 8, 9, 10, 19, 20, 21, 22, 23, 24, 25, 26, 27, 28, 29, 30, 31, 40, 41, 42, 43, 44, 45, 46, 47, 48, 49, 50, 51, 52, 53, 54, 55, 56, 57, 58, 59, 60, 61, 62, 63, 64, 65, 66, 67, 68, 69, 70, 71, 72, 73, 74, 75, 76, 77, 78, 79, 80, 81, 82, 83, 84, 85, 86, 87, 88, 89, 90, 91, 92, 93, 94, 95, 96, 97, 98, 99, 100, 101, 102, 103, 104, 105, 106, 107, 108, 109, 110, 111, 112, 113, 114, 115, 116, 117, 118, 119, 120, 121, 122, 123, 124, 125, 126, 127, 128, 129, 130, 131, 132, 133, 134, 165, 166, 167, 168, 213, 214, 215, 262, 263, 264, 265, 266, 267, 268, 269, 270, 271, 272, 273, 300, 301, 302, 303, 304, 305, 306, 274, 275, 276, 277, 278, 279, 280, 281, 282, 283, 284, 285] (by decide +kernel) (by decide +kernel)
set_option maxRecDepth 20000 in
theorem gL_holds_X6_reading : GoodIn wsL_holds (wsV RL 15 RX6 yX6_reading wsX6_reading) := goodIn_app (goodIn_of _ (by decide +kernel)) ggL_holds_X6_reading
set_option maxRecDepth 20000 in
theorem ggL_holds_X6_loops : GoodIn wsL_holds wsX6_loops := goodIn_r _ [219, 13, 207, 208, 5, 209, 210, 211, 212, 14, 15, 16, 17, 18, 8, 7, 9, 10, 19, 20, 21, 22, 23, 24, 25, 26, 27, 28, 29, 30, 31, 32, 33, 34, 35, 36, 37, 38, 39, 40, 41, 42, 43, 44, 45, 46, 47, 48, 49, 50, 51, 52, 53, 54, 55, 56, 57, 58, 59, 60, 61, 62, 63, 64, 65, 66, 67, 68, 69, 70, 71, 72, 73, 74, 75, 76, 77, 78, 79, 80, 81, 82, 83, 84, 85, 86, 87, 88, 89, 90, 91, 92, 93, 94, 95, 96, 97, 98, 99, 100, 101, 102, 103, 104, 105, 106, 107, 108, 109, 110, 111, 112, 113, 114, 115, 116, 117, 118, 119, 120, 121, 122, 123, 124, 125, 126, 127, 128, 129, 130, 131, 132, 133, 134, 165, 166, 167, 168, 274, 275, 276, 277, 278, 279, 280, 281, 282, 283, 284, 285, 262, 263, 264, 265, 266, 267, 268, 269, 270, 271, 272, 273, 300, 301, 302, 303, 304, 305, 306] (by decide +kernel) (by decide +kernel)
set_option maxRecDepth 20000 in
theorem gL_holds_X6_loops : GoodIn wsL_holds (wsV RL 19 RX6 yX6_loops wsX6_loops) := goodIn_app (goodIn_of _ (by decide +kernel)) ggL_holds_X6_loops
set_option maxRecDepth 20000 in
theorem ggL_holds_X6_loop : GoodIn wsL_holds wsX6_loop := goodIn_r _ [223, 13, 207, 208, 5, 209, 210, 211, 212, 14, 15, 16, 17, 18, 8, 7, 9, 10, 19, 20, 21, 22, 23, 24, 25, 26, 27, 28, 29, 30, 31, 32, 33, 34, 35, 36, 37, 38, 39, 40, 41, 42, 43, 44, 45, 46, 47, 48, 49, 50, 51, 52, 53, 54, 55, 56, 57, 58, 59, 60, 61, 62, 63, 64, 65, 66, 67, 68, 69, 70, 71, 72, 73, 74, 75, 76, 77, 78, 79, 80, 81, 82, 83, 84, 85, 86, 87, 88, 89, 90, 91, 92, 93, 94, 95, 96, 97, 98, 99, 100, 101, 102, 103, 104, 105, 106, 107, 108, 109, 110, 111, 112, 113, 114, 115, 116, 117, 118, 119, 120, 121, 122, 123, 124, 125, 126, 127, 128, 129, 130, 131, 132, 133, 134, 165, 166, 167, 168, 224, 225, 226, 227, 228, 229, 230, 231, 274, 275, 276, 277, 278, 279, 280, 281, 282, 283, 284, 285, 262, 263, 264, 265, 266, 267, 268, 269, 270, 271, 272, 273, 300, 301, 302, 303, 304, 305, 306] (by decide +kernel) (by decide +kernel)
set_option maxRecDepth 20000 in
theorem gL_holds_X6_loop : GoodIn wsL_holds (wsV RL 22 RX6 yX6_loop wsX6_loop) := goodIn_app (goodIn_of _ (by decide +kernel)) ggL_holds_X6_loop
set_option maxRecDepth 20000 in
theorem ggL_holds_X6_openLoop : GoodIn wsL_holds wsX6_openLoop := goodIn_r _ [235, 13, 202, 207, 208, 5, 209, 210, 211, 212, 203, 204, 205, 206, 7, 135, 32, 33, 34, 35, 36, 37, 38, 39, 14, 15, 16, 17, 18, 8, 9, 10, 19, 20, 21, 22, 23, 24, 25, 26, 27, 28, 29, 30, 31, 40, 41, 42, 43, 44, 45, 46, 47, 48, 49, 50, 51, 52, 53, 54, 55, 56, 57, 58, 59, 60, 61, 62, 63, 64, 65, 66, 67, 68, 69, 70, 71, 72, 73, 74, 75, 76, 77, 78, 79, 80, 81, 82, 83, 84, 85, 86, 87, 88, 89, 90, 91, 92, 93, 94, 95, 96, 97, 98, 99, 100, 101, 102, 103, 104, 105, 106, 107, 108, 109, 110, 111, 112, 113, 114, 115, 116, 117, 118, 119, 120, 121, 122, 123, 124, 125, 126, 127, 128, 129, 130, 131, 132, 133, 134, 165, 166, 167, 168, 236, 262, 263, 264, 265, 266, 267, 268, 269, 270, 271, 272, 273, 300, 301, 302, 303, 304, 305, 306, 274, 275, 276, 277, 278, 279, 280, 281, 282, 283, 284, 285] (by decide +kernel) (by decide +kernel)
set_option maxRecDepth 20000 in
theorem gL_holds_X6_openLoop : GoodIn wsL_holds (wsV RL 25 RX6 yX6_openLoop wsX6_openLoop) := goodIn_app (goodIn_of _ (by decide +kernel)) ggL_holds_X6_openLoop
set_option maxRecDepth 20000 in
theorem ggL_holds_X6_corrected : GoodIn wsL_holds wsX6_corrected := goodIn_r _ [240, 13, 207, 208, 5, 209, 210, 211, 212, 203, 204, 205, 206, 7, 135, 32, 33, 34, 35, 36, 37, 38, 39, 14, 15, 16, 17, 18, 8, 9, 10, 19, 20, 21, 22, 23, 24, 25, 26, 27, 28, 29, 30, 31, 40, 41, 42, 43, 44, 45, 46, 47, 48, 49, 50, 51, 52, 53, 54, 55, 56, 57, 58, 59, 60, 61, 62, 63, 64, 65, 66, 67, 68, 69, 70, 71, 72, 73, 74, 75, 76, 77, 78, 79, 80, 81, 82, 83, 84, 85, 86, 87, 88, 89, 90, 91, 92, 93, 94, 95, 96, 97, 98, 99, 100, 101, 102, 103, 104, 105, 106, 107, 108, 109, 110, 111, 112, 113, 114, 115, 116, 117, 118, 119, 120, 121, 122, 123, 124, 125, 126, 127, 128, 129, 130, 131, 132, 133, 134, 165, 166, 167, 168, 241, 178, 179, 180, 262, 263, 264, 265, 266, 267, 268, 269, 270, 271, 272, 273, 300, 301, 302, 303, 304, 305, 306, 274, 275, 276, 277, 278, 279, 280, 281, 282, 283, 284, 285] (by decide +kernel) (by decide +kernel)
set_option maxRecDepth 20000 in
theorem gL_holds_X6_corrected : GoodIn wsL_holds (wsV RL 29 RX6 yX6_corrected wsX6_corrected) := goodIn_app (goodIn_of _ (by decide +kernel)) ggL_holds_X6_corrected
set_option maxRecDepth 20000 in
theorem ggL_holds_X6_raw : GoodIn wsL_holds wsX6_raw := goodIn_r _ [245, 13, 207, 208, 5, 209, 210, 211, 212, 203, 204, 205, 206, 7, 135, 32, 33, 34, 35, 36, 37, 38, 39, 14, 15, 16, 17, 18, 8, 9, 10, 19, 20, 21, 22, 23, 24, 25, 26, 27, 28, 29, 30, 31, 40, 41, 42, 43, 44, 45, 46, 47, 48, 49, 50, 51, 52, 53, 54, 55, 56, 57, 58, 59, 60, 61, 62, 63, 64, 65, 66, 67, 68, 69, 70, 71, 72, 73, 74, 75, 76, 77, 78, 79, 80, 81, 82, 83, 84, 85, 86, 87, 88, 89, 90, 91, 92, 93, 94, 95, 96, 97, 98, 99, 100, 101, 102, 103, 104, 105, 106, 107, 108, 109, 110, 111, 112, 113, 114, 115, 116, 117, 118, 119, 120, 121, 122, 123, 124, 125, 126, 127, 128, 129, 130, 131, 132, 133, 134, 165, 166, 167, 168, 246, 262, 263, 264, 265, 266, 267, 268, 269, 270, 271, 272, 273, 300, 301, 302, 303, 304, 305, 306, 274, 275, 276, 277, 278, 279, 280, 281, 282, 283, 284, 285] (by decide +kernel) (by decide +kernel)
set_option maxRecDepth 20000 in
theorem gL_holds_X6_raw : GoodIn wsL_holds (wsV RL 32 RX6 yX6_raw wsX6_raw) := goodIn_app (goodIn_of _ (by decide +kernel)) ggL_holds_X6_raw
set_option maxRecDepth 20000 in
theorem ggL_holds_X6_point : GoodIn wsL_holds wsX6_point := goodIn_r _ [250, 13, 153, 202, 251, 252, 5, 253, 210, 211, 212, 14, 15, 16, 17, 18, 8, 7, 9, 10, 19, 20, 21, 22, 23, 24, 25, 26, 27, 28, 29, 30, 31, 32, 33, 34, 35, 36, 37, 38, 39, 40, 41, 42, 43, 44, 45, 46, 47, 48, 49, 50, 51, 52, 53, 54, 55, 56, 57, 58, 59, 60, 61, 62, 63, 64, 65, 66, 67, 68, 69, 70, 71, 72, 73, 74, 75, 76, 77, 78, 79, 80, 81, 82, 83, 84, 85, 86, 87, 88, 89, 90, 91, 92, 93, 94, 95, 96, 97, 98, 99, 100, 101, 102, 103, 104, 105, 106, 107, 108, 109, 110, 111, 112, 113, 114, 115, 116, 117, 118, 119, 120, 121, 122, 123, 124, 125, 126, 127, 128, 129, 130, 131, 132, 133, 134, 154, 155, 156, 157, 158, 159, 160, 161, 162, 163, 164, 165, 166, 167, 168, 169, 170, 171, 172, 173, 174, 175, 176, 177, 178, 179, 180, 181, 182, 183, 184, 185, 186, 187, 146, 188, 189, 190, 191, 192, 254, 255, 256, 257, 258, 259, 260, 261, 262, 263, 264, 265, 266, 267, 268, 269, 270, 307, 308, 309, 310, 271, 272, 273, 274, 275, 276, 277, 278, 279, 280, 281, 282, 283, 284, 285, 300, 301, 302, 303, 304, 305, 306] (by decide +kernel) (by decide +kernel)
set_option maxRecDepth 20000 in
theorem gL_holds_X6_point : GoodIn wsL_holds (wsV RL 36 RX6 yX6_point wsX6_point) := goodIn_app (goodIn_of _ (by decide +kernel)) ggL_holds_X6_point
theorem dL_holds_0 : decode cL_holds 0 = .ok (.aload_n 0, 1) := by decide +kernel
theorem dL_holds_1 : decode cL_holds 1 = .ok (.iconst 0, 1) := by decide +kernel
theorem dL_holds_2 : decode cL_holds 2 = .ok (.invokevirtual 9, 3) := by decide +kernel
theorem dL_holds_5 : decode cL_holds 5 = .ok (.bipush 12, 2) := by decide +kernel
theorem dL_holds_7 : decode cL_holds 7 = .ok (.if_icmp .gt 7, 3) := by decide +kernel
theorem dL_holds_10 : decode cL_holds 10 = .ok (.iconst 1, 1) := by decide +kernel
theorem dL_holds_11 : decode cL_holds 11 = .ok (.goto 4, 3) := by decide +kernel
theorem dL_holds_14 : decode cL_holds 14 = .ok (.iconst 0, 1) := by decide +kernel
theorem dL_holds_15 : decode cL_holds 15 = .ok (.istore_n 1, 1) := by decide +kernel
theorem dL_holds_16 : decode cL_holds 16 = .ok (.iconst (-1), 1) := by decide +kernel
theorem dL_holds_17 : decode cL_holds 17 = .ok (.istore_n 2, 1) := by decide +kernel
theorem dL_holds_18 : decode cL_holds 18 = .ok (.iload_n 2, 1) := by decide +kernel
theorem dL_holds_19 : decode cL_holds 19 = .ok (.iconst 3, 1) := by decide +kernel
theorem dL_holds_20 : decode cL_holds 20 = .ok (.if_icmp .ge 61, 3) := by decide +kernel
theorem dL_holds_23 : decode cL_holds 23 = .ok (.iload_n 1, 1) := by decide +kernel
theorem dL_holds_24 : decode cL_holds 24 = .ok (.ifCond .eq 57, 3) := by decide +kernel
theorem dL_holds_27 : decode cL_holds 27 = .ok (.iconst 1, 1) := by decide +kernel
theorem dL_holds_28 : decode cL_holds 28 = .ok (.istore_n 3, 1) := by decide +kernel
theorem dL_holds_29 : decode cL_holds 29 = .ok (.iload_n 3, 1) := by decide +kernel
theorem dL_holds_30 : decode cL_holds 30 = .ok (.aload_n 0, 1) := by decide +kernel
theorem dL_holds_31 : decode cL_holds 31 = .ok (.iconst 1, 1) := by decide +kernel
theorem dL_holds_32 : decode cL_holds 32 = .ok (.iload_n 2, 1) := by decide +kernel
theorem dL_holds_33 : decode cL_holds 33 = .ok (.iadd, 1) := by decide +kernel
theorem dL_holds_34 : decode cL_holds 34 = .ok (.invokevirtual 9, 3) := by decide +kernel
theorem dL_holds_37 : decode cL_holds 37 = .ok (.if_icmp .ge 38, 3) := by decide +kernel
theorem dL_holds_40 : decode cL_holds 40 = .ok (.iload_n 1, 1) := by decide +kernel
theorem dL_holds_41 : decode cL_holds 41 = .ok (.ifCond .eq 26, 3) := by decide +kernel
theorem dL_holds_44 : decode cL_holds 44 = .ok (.aload_n 0, 1) := by decide +kernel
theorem dL_holds_45 : decode cL_holds 45 = .ok (.iload_n 2, 1) := by decide +kernel
theorem dL_holds_46 : decode cL_holds 46 = .ok (.iload_n 3, 1) := by decide +kernel
theorem dL_holds_47 : decode cL_holds 47 = .ok (.iconst 0, 1) := by decide +kernel
theorem dL_holds_48 : decode cL_holds 48 = .ok (.invokevirtual 15, 3) := by decide +kernel
theorem dL_holds_51 : decode cL_holds 51 = .ok (.aload_n 0, 1) := by decide +kernel
theorem dL_holds_52 : decode cL_holds 52 = .ok (.iload_n 2, 1) := by decide +kernel
theorem dL_holds_53 : decode cL_holds 53 = .ok (.iload_n 3, 1) := by decide +kernel
theorem dL_holds_54 : decode cL_holds 54 = .ok (.iconst 1, 1) := by decide +kernel
theorem dL_holds_55 : decode cL_holds 55 = .ok (.isub, 1) := by decide +kernel
theorem dL_holds_56 : decode cL_holds 56 = .ok (.iconst 0, 1) := by decide +kernel
theorem dL_holds_57 : decode cL_holds 57 = .ok (.invokevirtual 15, 3) := by decide +kernel
theorem dL_holds_60 : decode cL_holds 60 = .ok (.if_icmp .le 7, 3) := by decide +kernel
theorem dL_holds_63 : decode cL_holds 63 = .ok (.iconst 1, 1) := by decide +kernel
theorem dL_holds_64 : decode cL_holds 64 = .ok (.goto 4, 3) := by decide +kernel
theorem dL_holds_67 : decode cL_holds 67 = .ok (.iconst 0, 1) := by decide +kernel
theorem dL_holds_68 : decode cL_holds 68 = .ok (.istore_n 1, 1) := by decide +kernel
theorem dL_holds_69 : decode cL_holds 69 = .ok (.iinc 3 1, 3) := by decide +kernel
theorem dL_holds_72 : decode cL_holds 72 = .ok (.goto (-43), 3) := by decide +kernel
theorem dL_holds_75 : decode cL_holds 75 = .ok (.iinc 2 1, 3) := by decide +kernel
theorem dL_holds_78 : decode cL_holds 78 = .ok (.goto (-60), 3) := by decide +kernel
theorem dL_holds_81 : decode cL_holds 81 = .ok (.iconst 0, 1) := by decide +kernel
theorem dL_holds_82 : decode cL_holds 82 = .ok (.istore_n 2, 1) := by decide +kernel
theorem dL_holds_83 : decode cL_holds 83 = .ok (.iload_n 2, 1) := by decide +kernel
theorem dL_holds_84 : decode cL_holds 84 = .ok (.iconst 3, 1) := by decide +kernel
theorem dL_holds_85 : decode cL_holds 85 = .ok (.if_icmp .ge 306, 3) := by decide +kernel
theorem dL_holds_88 : decode cL_holds 88 = .ok (.iload_n 1, 1) := by decide +kernel
theorem dL_holds_89 : decode cL_holds 89 = .ok (.ifCond .eq 302, 3) := by decide +kernel
theorem dL_holds_92 : decode cL_holds 92 = .ok (.iconst 0, 1) := by decide +kernel
theorem dL_holds_93 : decode cL_holds 93 = .ok (.istore_n 3, 1) := by decide +kernel
theorem dL_holds_94 : decode cL_holds 94 = .ok (.iload_n 3, 1) := by decide +kernel
theorem dL_holds_95 : decode cL_holds 95 = .ok (.aload_n 0, 1) := by decide +kernel
theorem dL_holds_96 : decode cL_holds 96 = .ok (.iload_n 2, 1) := by decide +kernel
theorem dL_holds_97 : decode cL_holds 97 = .ok (.invokevirtual 19, 3) := by decide +kernel
theorem dL_holds_100 : decode cL_holds 100 = .ok (.if_icmp .ge 174, 3) := by decide +kernel
theorem dL_holds_103 : decode cL_holds 103 = .ok (.iload_n 1, 1) := by decide +kernel
theorem dL_holds_104 : decode cL_holds 104 = .ok (.ifCond .eq 170, 3) := by decide +kernel
theorem dL_holds_107 : decode cL_holds 107 = .ok (.aload_n 0, 1) := by decide +kernel
theorem dL_holds_108 : decode cL_holds 108 = .ok (.iload_n 2, 1) := by decide +kernel
theorem dL_holds_109 : decode cL_holds 109 = .ok (.iload_n 3, 1) := by decide +kernel
theorem dL_holds_110 : decode cL_holds 110 = .ok (.iconst 0, 1) := by decide +kernel
theorem dL_holds_111 : decode cL_holds 111 = .ok (.invokevirtual 22, 3) := by decide +kernel
theorem dL_holds_114 : decode cL_holds 114 = .ok (.istore 4, 2) := by decide +kernel
theorem dL_holds_116 : decode cL_holds 116 = .ok (.aload_n 0, 1) := by decide +kernel
theorem dL_holds_117 : decode cL_holds 117 = .ok (.iload_n 2, 1) := by decide +kernel
theorem dL_holds_118 : decode cL_holds 118 = .ok (.iload_n 3, 1) := by decide +kernel
theorem dL_holds_119 : decode cL_holds 119 = .ok (.iconst 1, 1) := by decide +kernel
theorem dL_holds_120 : decode cL_holds 120 = .ok (.invokevirtual 22, 3) := by decide +kernel
theorem dL_holds_123 : decode cL_holds 123 = .ok (.istore 5, 2) := by decide +kernel
theorem dL_holds_125 : decode cL_holds 125 = .ok (.iload 4, 2) := by decide +kernel
theorem dL_holds_127 : decode cL_holds 127 = .ok (.iload 5, 2) := by decide +kernel
theorem dL_holds_129 : decode cL_holds 129 = .ok (.if_icmp .ge 71, 3) := by decide +kernel
theorem dL_holds_132 : decode cL_holds 132 = .ok (.aload_n 0, 1) := by decide +kernel
theorem dL_holds_133 : decode cL_holds 133 = .ok (.iload_n 2, 1) := by decide +kernel
theorem dL_holds_134 : decode cL_holds 134 = .ok (.iload 4, 2) := by decide +kernel
theorem dL_holds_136 : decode cL_holds 136 = .ok (.iconst 3, 1) := by decide +kernel
theorem dL_holds_137 : decode cL_holds 137 = .ok (.invokevirtual 15, 3) := by decide +kernel
theorem dL_holds_140 : decode cL_holds 140 = .ok (.aload_n 0, 1) := by decide +kernel
theorem dL_holds_141 : decode cL_holds 141 = .ok (.iload_n 2, 1) := by decide +kernel
theorem dL_holds_142 : decode cL_holds 142 = .ok (.iload 5, 2) := by decide +kernel
theorem dL_holds_144 : decode cL_holds 144 = .ok (.iconst 3, 1) := by decide +kernel
theorem dL_holds_145 : decode cL_holds 145 = .ok (.invokevirtual 15, 3) := by decide +kernel
theorem dL_holds_148 : decode cL_holds 148 = .ok (.if_icmp .ne 52, 3) := by decide +kernel
theorem dL_holds_151 : decode cL_holds 151 = .ok (.aload_n 0, 1) := by decide +kernel
theorem dL_holds_152 : decode cL_holds 152 = .ok (.iload_n 2, 1) := by decide +kernel
theorem dL_holds_153 : decode cL_holds 153 = .ok (.iload_n 3, 1) := by decide +kernel
theorem dL_holds_154 : decode cL_holds 154 = .ok (.iconst 2, 1) := by decide +kernel
theorem dL_holds_155 : decode cL_holds 155 = .ok (.invokevirtual 22, 3) := by decide +kernel
theorem dL_holds_158 : decode cL_holds 158 = .ok (.aload_n 0, 1) := by decide +kernel
theorem dL_holds_159 : decode cL_holds 159 = .ok (.iload_n 2, 1) := by decide +kernel
theorem dL_holds_160 : decode cL_holds 160 = .ok (.iload_n 3, 1) := by decide +kernel
theorem dL_holds_161 : decode cL_holds 161 = .ok (.iconst 3, 1) := by decide +kernel
theorem dL_holds_162 : decode cL_holds 162 = .ok (.invokevirtual 22, 3) := by decide +kernel
theorem dL_holds_165 : decode cL_holds 165 = .ok (.if_icmp .ne 35, 3) := by decide +kernel
theorem dL_holds_168 : decode cL_holds 168 = .ok (.aload_n 0, 1) := by decide +kernel
theorem dL_holds_169 : decode cL_holds 169 = .ok (.iload_n 2, 1) := by decide +kernel
theorem dL_holds_170 : decode cL_holds 170 = .ok (.iload_n 3, 1) := by decide +kernel
theorem dL_holds_171 : decode cL_holds 171 = .ok (.iconst 4, 1) := by decide +kernel
theorem dL_holds_172 : decode cL_holds 172 = .ok (.invokevirtual 22, 3) := by decide +kernel
theorem dL_holds_175 : decode cL_holds 175 = .ok (.ifCond .le 25, 3) := by decide +kernel
theorem dL_holds_178 : decode cL_holds 178 = .ok (.iload_n 3, 1) := by decide +kernel
theorem dL_holds_179 : decode cL_holds 179 = .ok (.ifCond .eq 17, 3) := by decide +kernel
theorem dL_holds_182 : decode cL_holds 182 = .ok (.iload 5, 2) := by decide +kernel
theorem dL_holds_184 : decode cL_holds 184 = .ok (.aload_n 0, 1) := by decide +kernel
theorem dL_holds_185 : decode cL_holds 185 = .ok (.iload_n 2, 1) := by decide +kernel
theorem dL_holds_186 : decode cL_holds 186 = .ok (.iload_n 3, 1) := by decide +kernel
theorem dL_holds_187 : decode cL_holds 187 = .ok (.iconst 1, 1) := by decide +kernel
theorem dL_holds_188 : decode cL_holds 188 = .ok (.isub, 1) := by decide +kernel
theorem dL_holds_189 : decode cL_holds 189 = .ok (.iconst 1, 1) := by decide +kernel
theorem dL_holds_190 : decode cL_holds 190 = .ok (.invokevirtual 22, 3) := by decide +kernel
theorem dL_holds_193 : decode cL_holds 193 = .ok (.if_icmp .le 7, 3) := by decide +kernel
theorem dL_holds_196 : decode cL_holds 196 = .ok (.iconst 1, 1) := by decide +kernel
theorem dL_holds_197 : decode cL_holds 197 = .ok (.goto 4, 3) := by decide +kernel
theorem dL_holds_200 : decode cL_holds 200 = .ok (.iconst 0, 1) := by decide +kernel
theorem dL_holds_201 : decode cL_holds 201 = .ok (.istore_n 1, 1) := by decide +kernel
theorem dL_holds_202 : decode cL_holds 202 = .ok (.iload_n 1, 1) := by decide +kernel
theorem dL_holds_203 : decode cL_holds 203 = .ok (.ifCond .eq 63, 3) := by decide +kernel
theorem dL_holds_206 : decode cL_holds 206 = .ok (.aload_n 0, 1) := by decide +kernel
theorem dL_holds_207 : decode cL_holds 207 = .ok (.iload_n 2, 1) := by decide +kernel
theorem dL_holds_208 : decode cL_holds 208 = .ok (.iload 4, 2) := by decide +kernel
theorem dL_holds_210 : decode cL_holds 210 = .ok (.invokevirtual 25, 3) := by decide +kernel
theorem dL_holds_213 : decode cL_holds 213 = .ok (.iload_n 3, 1) := by decide +kernel
theorem dL_holds_214 : decode cL_holds 214 = .ok (.if_icmp .ne 48, 3) := by decide +kernel
theorem dL_holds_217 : decode cL_holds 217 = .ok (.aload_n 0, 1) := by decide +kernel
theorem dL_holds_218 : decode cL_holds 218 = .ok (.iload_n 2, 1) := by decide +kernel
theorem dL_holds_219 : decode cL_holds 219 = .ok (.iload 5, 2) := by decide +kernel
theorem dL_holds_221 : decode cL_holds 221 = .ok (.invokevirtual 25, 3) := by decide +kernel
theorem dL_holds_224 : decode cL_holds 224 = .ok (.iload_n 3, 1) := by decide +kernel
theorem dL_holds_225 : decode cL_holds 225 = .ok (.if_icmp .ne 37, 3) := by decide +kernel
theorem dL_holds_228 : decode cL_holds 228 = .ok (.aload_n 0, 1) := by decide +kernel
theorem dL_holds_229 : decode cL_holds 229 = .ok (.iload_n 2, 1) := by decide +kernel
theorem dL_holds_230 : decode cL_holds 230 = .ok (.iload 4, 2) := by decide +kernel
theorem dL_holds_232 : decode cL_holds 232 = .ok (.invokevirtual 29, 3) := by decide +kernel
theorem dL_holds_235 : decode cL_holds 235 = .ok (.aload_n 0, 1) := by decide +kernel
theorem dL_holds_236 : decode cL_holds 236 = .ok (.iload_n 2, 1) := by decide +kernel
theorem dL_holds_237 : decode cL_holds 237 = .ok (.iload 5, 2) := by decide +kernel
theorem dL_holds_239 : decode cL_holds 239 = .ok (.invokevirtual 29, 3) := by decide +kernel
theorem dL_holds_242 : decode cL_holds 242 = .ok (.if_icmp .ne 24, 3) := by decide +kernel
theorem dL_holds_245 : decode cL_holds 245 = .ok (.aload_n 0, 1) := by decide +kernel
theorem dL_holds_246 : decode cL_holds 246 = .ok (.iload_n 2, 1) := by decide +kernel
theorem dL_holds_247 : decode cL_holds 247 = .ok (.iload 4, 2) := by decide +kernel
theorem dL_holds_249 : decode cL_holds 249 = .ok (.invokevirtual 29, 3) := by decide +kernel
theorem dL_holds_252 : decode cL_holds 252 = .ok (.aload_n 0, 1) := by decide +kernel
theorem dL_holds_253 : decode cL_holds 253 = .ok (.iload_n 2, 1) := by decide +kernel
theorem dL_holds_254 : decode cL_holds 254 = .ok (.iload 4, 2) := by decide +kernel
theorem dL_holds_256 : decode cL_holds 256 = .ok (.invokevirtual 32, 3) := by decide +kernel
theorem dL_holds_259 : decode cL_holds 259 = .ok (.if_icmp .ne 7, 3) := by decide +kernel
theorem dL_holds_262 : decode cL_holds 262 = .ok (.iconst 1, 1) := by decide +kernel
theorem dL_holds_263 : decode cL_holds 263 = .ok (.goto 4, 3) := by decide +kernel
theorem dL_holds_266 : decode cL_holds 266 = .ok (.iconst 0, 1) := by decide +kernel
theorem dL_holds_267 : decode cL_holds 267 = .ok (.istore_n 1, 1) := by decide +kernel
theorem dL_holds_268 : decode cL_holds 268 = .ok (.iinc 3 1, 3) := by decide +kernel
theorem dL_holds_271 : decode cL_holds 271 = .ok (.goto (-177), 3) := by decide +kernel
theorem dL_holds_274 : decode cL_holds 274 = .ok (.iconst 0, 1) := by decide +kernel
theorem dL_holds_275 : decode cL_holds 275 = .ok (.istore_n 3, 1) := by decide +kernel
theorem dL_holds_276 : decode cL_holds 276 = .ok (.iload_n 3, 1) := by decide +kernel
theorem dL_holds_277 : decode cL_holds 277 = .ok (.aload_n 0, 1) := by decide +kernel
theorem dL_holds_278 : decode cL_holds 278 = .ok (.iconst 1, 1) := by decide +kernel
theorem dL_holds_279 : decode cL_holds 279 = .ok (.iload_n 2, 1) := by decide +kernel
theorem dL_holds_280 : decode cL_holds 280 = .ok (.iadd, 1) := by decide +kernel
theorem dL_holds_281 : decode cL_holds 281 = .ok (.invokevirtual 9, 3) := by decide +kernel
theorem dL_holds_284 : decode cL_holds 284 = .ok (.if_icmp .ge 101, 3) := by decide +kernel
theorem dL_holds_287 : decode cL_holds 287 = .ok (.iload_n 1, 1) := by decide +kernel
theorem dL_holds_288 : decode cL_holds 288 = .ok (.ifCond .eq 97, 3) := by decide +kernel
theorem dL_holds_291 : decode cL_holds 291 = .ok (.aload_n 0, 1) := by decide +kernel
theorem dL_holds_292 : decode cL_holds 292 = .ok (.iload_n 2, 1) := by decide +kernel
theorem dL_holds_293 : decode cL_holds 293 = .ok (.iload_n 3, 1) := by decide +kernel
theorem dL_holds_294 : decode cL_holds 294 = .ok (.invokevirtual 25, 3) := by decide +kernel
theorem dL_holds_297 : decode cL_holds 297 = .ok (.istore 4, 2) := by decide +kernel
theorem dL_holds_299 : decode cL_holds 299 = .ok (.aload_n 0, 1) := by decide +kernel
theorem dL_holds_300 : decode cL_holds 300 = .ok (.iload_n 2, 1) := by decide +kernel
theorem dL_holds_301 : decode cL_holds 301 = .ok (.iload_n 3, 1) := by decide +kernel
theorem dL_holds_302 : decode cL_holds 302 = .ok (.iconst 5, 1) := by decide +kernel
theorem dL_holds_303 : decode cL_holds 303 = .ok (.invokevirtual 15, 3) := by decide +kernel
theorem dL_holds_306 : decode cL_holds 306 = .ok (.iconst 1, 1) := by decide +kernel
theorem dL_holds_307 : decode cL_holds 307 = .ok (.if_icmp .ne 7, 3) := by decide +kernel
theorem dL_holds_310 : decode cL_holds 310 = .ok (.iconst 1, 1) := by decide +kernel
theorem dL_holds_311 : decode cL_holds 311 = .ok (.goto 4, 3) := by decide +kernel
theorem dL_holds_314 : decode cL_holds 314 = .ok (.iconst 0, 1) := by decide +kernel
theorem dL_holds_315 : decode cL_holds 315 = .ok (.aload_n 0, 1) := by decide +kernel
theorem dL_holds_316 : decode cL_holds 316 = .ok (.iload_n 2, 1) := by decide +kernel
theorem dL_holds_317 : decode cL_holds 317 = .ok (.iload_n 3, 1) := by decide +kernel
theorem dL_holds_318 : decode cL_holds 318 = .ok (.iconst 4, 1) := by decide +kernel
theorem dL_holds_319 : decode cL_holds 319 = .ok (.invokevirtual 15, 3) := by decide +kernel
theorem dL_holds_322 : decode cL_holds 322 = .ok (.ifCond .ne 18, 3) := by decide +kernel
theorem dL_holds_325 : decode cL_holds 325 = .ok (.aload_n 0, 1) := by decide +kernel
theorem dL_holds_326 : decode cL_holds 326 = .ok (.iload_n 2, 1) := by decide +kernel
theorem dL_holds_327 : decode cL_holds 327 = .ok (.iload_n 3, 1) := by decide +kernel
theorem dL_holds_328 : decode cL_holds 328 = .ok (.invokevirtual 32, 3) := by decide +kernel
theorem dL_holds_331 : decode cL_holds 331 = .ok (.ldc 35, 2) := by decide +kernel
theorem dL_holds_333 : decode cL_holds 333 = .ok (.if_icmp .eq 7, 3) := by decide +kernel
theorem dL_holds_336 : decode cL_holds 336 = .ok (.iconst 1, 1) := by decide +kernel
theorem dL_holds_337 : decode cL_holds 337 = .ok (.goto 4, 3) := by decide +kernel
theorem dL_holds_340 : decode cL_holds 340 = .ok (.iconst 0, 1) := by decide +kernel
theorem dL_holds_341 : decode cL_holds 341 = .ok (.if_icmp .ne 36, 3) := by decide +kernel
theorem dL_holds_344 : decode cL_holds 344 = .ok (.iload 4, 2) := by decide +kernel
theorem dL_holds_346 : decode cL_holds 346 = .ok (.ifCond .lt 27, 3) := by decide +kernel
theorem dL_holds_349 : decode cL_holds 349 = .ok (.aload_n 0, 1) := by decide +kernel
theorem dL_holds_350 : decode cL_holds 350 = .ok (.iload_n 2, 1) := by decide +kernel
theorem dL_holds_351 : decode cL_holds 351 = .ok (.iload 4, 2) := by decide +kernel
theorem dL_holds_353 : decode cL_holds 353 = .ok (.iconst 0, 1) := by decide +kernel
theorem dL_holds_354 : decode cL_holds 354 = .ok (.invokevirtual 22, 3) := by decide +kernel
theorem dL_holds_357 : decode cL_holds 357 = .ok (.iload_n 3, 1) := by decide +kernel
theorem dL_holds_358 : decode cL_holds 358 = .ok (.if_icmp .gt 19, 3) := by decide +kernel
theorem dL_holds_361 : decode cL_holds 361 = .ok (.iload_n 3, 1) := by decide +kernel
theorem dL_holds_362 : decode cL_holds 362 = .ok (.aload_n 0, 1) := by decide +kernel
theorem dL_holds_363 : decode cL_holds 363 = .ok (.iload_n 2, 1) := by decide +kernel
theorem dL_holds_364 : decode cL_holds 364 = .ok (.iload 4, 2) := by decide +kernel
theorem dL_holds_366 : decode cL_holds 366 = .ok (.iconst 1, 1) := by decide +kernel
theorem dL_holds_367 : decode cL_holds 367 = .ok (.invokevirtual 22, 3) := by decide +kernel
theorem dL_holds_370 : decode cL_holds 370 = .ok (.if_icmp .gt 7, 3) := by decide +kernel
theorem dL_holds_373 : decode cL_holds 373 = .ok (.iconst 1, 1) := by decide +kernel
theorem dL_holds_374 : decode cL_holds 374 = .ok (.goto 4, 3) := by decide +kernel
theorem dL_holds_377 : decode cL_holds 377 = .ok (.iconst 0, 1) := by decide +kernel
theorem dL_holds_378 : decode cL_holds 378 = .ok (.istore_n 1, 1) := by decide +kernel
theorem dL_holds_379 : decode cL_holds 379 = .ok (.iinc 3 1, 3) := by decide +kernel
theorem dL_holds_382 : decode cL_holds 382 = .ok (.goto (-106), 3) := by decide +kernel
theorem dL_holds_385 : decode cL_holds 385 = .ok (.iinc 2 1, 3) := by decide +kernel
theorem dL_holds_388 : decode cL_holds 388 = .ok (.goto (-305), 3) := by decide +kernel
theorem dL_holds_391 : decode cL_holds 391 = .ok (.iconst 0, 1) := by decide +kernel
theorem dL_holds_392 : decode cL_holds 392 = .ok (.istore_n 2, 1) := by decide +kernel
theorem dL_holds_393 : decode cL_holds 393 = .ok (.iconst 0, 1) := by decide +kernel
theorem dL_holds_394 : decode cL_holds 394 = .ok (.istore_n 3, 1) := by decide +kernel
theorem dL_holds_395 : decode cL_holds 395 = .ok (.iload_n 3, 1) := by decide +kernel
theorem dL_holds_396 : decode cL_holds 396 = .ok (.bipush 10, 2) := by decide +kernel
theorem dL_holds_398 : decode cL_holds 398 = .ok (.if_icmp .ge 65, 3) := by decide +kernel
theorem dL_holds_401 : decode cL_holds 401 = .ok (.iload_n 1, 1) := by decide +kernel
theorem dL_holds_402 : decode cL_holds 402 = .ok (.ifCond .eq 61, 3) := by decide +kernel
theorem dL_holds_405 : decode cL_holds 405 = .ok (.iload_n 2, 1) := by decide +kernel
theorem dL_holds_406 : decode cL_holds 406 = .ok (.aload_n 0, 1) := by decide +kernel
theorem dL_holds_407 : decode cL_holds 407 = .ok (.iload_n 3, 1) := by decide +kernel
theorem dL_holds_408 : decode cL_holds 408 = .ok (.iconst 2, 1) := by decide +kernel
theorem dL_holds_409 : decode cL_holds 409 = .ok (.invokevirtual 36, 3) := by decide +kernel
theorem dL_holds_412 : decode cL_holds 412 = .ok (.iadd, 1) := by decide +kernel
theorem dL_holds_413 : decode cL_holds 413 = .ok (.istore_n 2, 1) := by decide +kernel
theorem dL_holds_414 : decode cL_holds 414 = .ok (.aload_n 0, 1) := by decide +kernel
theorem dL_holds_415 : decode cL_holds 415 = .ok (.iload_n 3, 1) := by decide +kernel
theorem dL_holds_416 : decode cL_holds 416 = .ok (.iconst 2, 1) := by decide +kernel
theorem dL_holds_417 : decode cL_holds 417 = .ok (.invokevirtual 36, 3) := by decide +kernel
theorem dL_holds_420 : decode cL_holds 420 = .ok (.ifCond .eq 31, 3) := by decide +kernel
theorem dL_holds_423 : decode cL_holds 423 = .ok (.aload_n 0, 1) := by decide +kernel
theorem dL_holds_424 : decode cL_holds 424 = .ok (.iload_n 3, 1) := by decide +kernel
theorem dL_holds_425 : decode cL_holds 425 = .ok (.iconst 1, 1) := by decide +kernel
theorem dL_holds_426 : decode cL_holds 426 = .ok (.invokevirtual 36, 3) := by decide +kernel
theorem dL_holds_429 : decode cL_holds 429 = .ok (.ifCond .lt 26, 3) := by decide +kernel
theorem dL_holds_432 : decode cL_holds 432 = .ok (.aload_n 0, 1) := by decide +kernel
theorem dL_holds_433 : decode cL_holds 433 = .ok (.iload_n 3, 1) := by decide +kernel
theorem dL_holds_434 : decode cL_holds 434 = .ok (.iconst 2, 1) := by decide +kernel
theorem dL_holds_435 : decode cL_holds 435 = .ok (.invokevirtual 36, 3) := by decide +kernel
theorem dL_holds_438 : decode cL_holds 438 = .ok (.iconst 1, 1) := by decide +kernel
theorem dL_holds_439 : decode cL_holds 439 = .ok (.if_icmp .gt 12, 3) := by decide +kernel
theorem dL_holds_442 : decode cL_holds 442 = .ok (.aload_n 0, 1) := by decide +kernel
theorem dL_holds_443 : decode cL_holds 443 = .ok (.iload_n 3, 1) := by decide +kernel
theorem dL_holds_444 : decode cL_holds 444 = .ok (.iconst 1, 1) := by decide +kernel
theorem dL_holds_445 : decode cL_holds 445 = .ok (.invokevirtual 36, 3) := by decide +kernel
theorem dL_holds_448 : decode cL_holds 448 = .ok (.ifCond .ne 7, 3) := by decide +kernel
theorem dL_holds_451 : decode cL_holds 451 = .ok (.iconst 1, 1) := by decide +kernel
theorem dL_holds_452 : decode cL_holds 452 = .ok (.goto 4, 3) := by decide +kernel
theorem dL_holds_455 : decode cL_holds 455 = .ok (.iconst 0, 1) := by decide +kernel
theorem dL_holds_456 : decode cL_holds 456 = .ok (.istore_n 1, 1) := by decide +kernel
theorem dL_holds_457 : decode cL_holds 457 = .ok (.iinc 3 1, 3) := by decide +kernel
theorem dL_holds_460 : decode cL_holds 460 = .ok (.goto (-65), 3) := by decide +kernel
theorem dL_holds_463 : decode cL_holds 463 = .ok (.iload_n 1, 1) := by decide +kernel
theorem dL_holds_464 : decode cL_holds 464 = .ok (.ifCond .eq 33, 3) := by decide +kernel
theorem dL_holds_467 : decode cL_holds 467 = .ok (.iload_n 2, 1) := by decide +kernel
theorem dL_holds_468 : decode cL_holds 468 = .ok (.aload_n 0, 1) := by decide +kernel
theorem dL_holds_469 : decode cL_holds 469 = .ok (.bipush 13, 2) := by decide +kernel
theorem dL_holds_471 : decode cL_holds 471 = .ok (.invokevirtual 9, 3) := by decide +kernel
theorem dL_holds_474 : decode cL_holds 474 = .ok (.if_icmp .gt 23, 3) := by decide +kernel
theorem dL_holds_477 : decode cL_holds 477 = .ok (.iload_n 2, 1) := by decide +kernel
theorem dL_holds_478 : decode cL_holds 478 = .ok (.aload_n 0, 1) := by decide +kernel
theorem dL_holds_479 : decode cL_holds 479 = .ok (.bipush 13, 2) := by decide +kernel
theorem dL_holds_481 : decode cL_holds 481 = .ok (.invokevirtual 9, 3) := by decide +kernel
theorem dL_holds_484 : decode cL_holds 484 = .ok (.aload_n 0, 1) := by decide +kernel
theorem dL_holds_485 : decode cL_holds 485 = .ok (.iconst 5, 1) := by decide +kernel
theorem dL_holds_486 : decode cL_holds 486 = .ok (.invokevirtual 9, 3) := by decide +kernel
theorem dL_holds_489 : decode cL_holds 489 = .ok (.isub, 1) := by decide +kernel
theorem dL_holds_490 : decode cL_holds 490 = .ok (.if_icmp .lt 7, 3) := by decide +kernel
theorem dL_holds_493 : decode cL_holds 493 = .ok (.iconst 1, 1) := by decide +kernel
theorem dL_holds_494 : decode cL_holds 494 = .ok (.goto 4, 3) := by decide +kernel
theorem dL_holds_497 : decode cL_holds 497 = .ok (.iconst 0, 1) := by decide +kernel
theorem dL_holds_498 : decode cL_holds 498 = .ok (.ireturn, 1) := by decide +kernel
set_option maxRecDepth 20000 in
theorem ggL_level_X6_count : GoodIn wsL_level wsX6_count := goodIn_r _ [5, 6, 7, 8, 9, 10, 11, 12, 13, 14, 15, 4, 16, 17, 18, 19, 20, 21, 22, 23, 24, 25, 26, 27, 28, 29, 30, 31, 32, 33, 34, 35, 36, 37, 38, 39, 40, 41, 42, 43, 44, 45, 46, 47, 48, 49, 50, 51, 52, 53, 54, 55, 56, 57, 58, 59, 60, 61, 62, 63, 64, 65, 66, 67, 68, 69, 70, 71, 72, 73, 74, 75, 76, 77, 78, 79, 80, 81, 82, 83, 84, 85, 86, 87, 88, 89, 90, 91, 92, 93, 94, 95, 96, 97, 98, 99, 100, 101, 102, 103, 104, 105, 106, 107, 108, 109, 110, 111, 112, 113, 114, 115, 116, 117, 118, 119, 120, 121, 122, 123, 124, 125, 126, 127, 128, 129, 130, 131, 132, 133, 134, 135, 136, 137, 138, 139, 140, 141, 142, 143, 144, 145, 146, 147, 148, 149, 150, 151, 152, 153, 154, 155, 156, 157, 158, 159, 160, 161, 162, 163, 164, 165, 166, 167, 168, 169, 170, 171, 172, 173, 174, 175, 176, 177, 178, 179, 180, 181, 182, 183, 184, 185, 186, 187, 188, 189, 190, 191, 192, 193, 194, 195, 196, 236, 237, 238, 239, 240, 241, 242, 243, 244, 245, 246, 247, 248, 249, 250, 251, 252, 253, 254, 255, 256, 257, 258, 259, 260, 261, 262, 263, 264, 265, 266, 267, 268, 269, 270, 271, 272, 273, 274, 275, 276, 277, 278, 279, 280, 281, 282, 283, 284] (by decide +kernel) (by decide +kernel)
set_option maxRecDepth 20000 in
theorem gL_level_X6_count : GoodIn wsL_level (wsV RL 9 RX6 yX6_count wsX6_count) := goodIn_app (goodIn_of _ (by decide +kernel)) ggL_level_X6_count
set_option maxRecDepth 20000 in
theorem ggL_level_X6_reading : GoodIn wsL_level wsX6_reading := goodIn_r _ [200, 12, 201, 6, 202, 203, 204, 4, 205, 206, 207, 208, 209, 210, 211, 134, 31, 32, 33, 34, 35, 36, 37, 38, 13, 14, 15, 16, 17, 7, 8, 9, 18, 19, 20, 21, 22, 23, 24, 25, 26, 27, 28, 29, 30, 39, 40, 41, 42, 43, 44, 45, 46, 47, 48, 49, 50, 51, 52, 53, 54, 55, 56, 57, 58, 59, 60, 61, 62, 63, 64, 65, 66, 67, 68, 69, 70, 71, 72, 73, 74, 75, 76, 77, 78, 79, 80, 81, 82, 83, 84, 85, 86, 87, 88, 89, 90, 91, 92, 93, 94, 95, 96, 97, 98, 99, 100, 101, 102, 103, 104, 105, 106, 107, 108, 109, 110, 111, 112, 113, 114, 115, 116, 117, 118, 119, 120, 121, 122, 123, 124, 125, 126, 127, 128, 129, 130, 131, 132, 133, 164, 165, 166, 167, 212, 213, 214, 236, 237, 238, 239, 240, 241, 242, 243, 244, 245, 246, 247, 274, 275, 276, 277, 278, 279, 280, 248, 249, 250, 251, 252, 253, 254, 255, 256, 257, 258, 259] (by decide +kernel) (by decide +kernel)
set_option maxRecDepth 20000 in
theorem gL_level_X6_reading : GoodIn wsL_level (wsV RL 15 RX6 yX6_reading wsX6_reading) := goodIn_app (goodIn_of _ (by decide +kernel)) ggL_level_X6_reading
set_option maxRecDepth 20000 in
theorem ggL_level_X6_baseAt : GoodIn wsL_level wsX6_baseAt := goodIn_r _ [218, 12, 6, 219, 220, 4, 221, 209, 210, 211, 222, 57, 58, 33, 59, 38, 53, 60, 40, 41, 42, 43, 44, 45, 46, 61, 62, 63, 64, 65, 66, 236, 237, 238, 239, 240, 241, 242, 243, 244, 274, 275, 276, 277, 278, 279, 280, 245, 246, 247] (by decide +kernel) (by decide +kernel)
set_option maxRecDepth 20000 in
theorem gL_level_X6_baseAt : GoodIn wsL_level (wsV RL 39 RX6 yX6_baseAt wsX6_baseAt) := goodIn_app (goodIn_of _ (by decide +kernel)) ggL_level_X6_baseAt
set_option maxRecDepth 20000 in
theorem ggL_level_X6_would : GoodIn wsL_level wsX6_would := goodIn_r _ [226, 12, 6, 227, 228, 4, 229, 230, 231, 219, 220, 221, 209, 210, 211, 232, 233, 234, 235, 50, 51, 33, 52, 53, 54, 55, 56, 57, 58, 59, 38, 60, 40, 41, 42, 43, 44, 45, 46, 61, 62, 63, 64, 65, 66, 67, 68, 69, 236, 237, 238, 239, 240, 241, 242, 243, 244, 274, 275, 276, 277, 278, 279, 280, 245, 246, 247] (by decide +kernel) (by decide +kernel)
set_option maxRecDepth 20000 in
theorem gL_level_X6_would : GoodIn wsL_level (wsV RL 42 RX6 yX6_would wsX6_would) := goodIn_app (goodIn_of _ (by decide +kernel)) ggL_level_X6_would
theorem dL_level_0 : decode cL_level 0 = .ok (.iconst 1, 1) := by decide +kernel
theorem dL_level_1 : decode cL_level 1 = .ok (.istore_n 1, 1) := by decide +kernel
theorem dL_level_2 : decode cL_level 2 = .ok (.iconst 0, 1) := by decide +kernel
theorem dL_level_3 : decode cL_level 3 = .ok (.istore_n 2, 1) := by decide +kernel
theorem dL_level_4 : decode cL_level 4 = .ok (.iload_n 2, 1) := by decide +kernel
theorem dL_level_5 : decode cL_level 5 = .ok (.aload_n 0, 1) := by decide +kernel
theorem dL_level_6 : decode cL_level 6 = .ok (.iconst 0, 1) := by decide +kernel
theorem dL_level_7 : decode cL_level 7 = .ok (.invokevirtual 9, 3) := by decide +kernel
theorem dL_level_10 : decode cL_level 10 = .ok (.if_icmp .ge 87, 3) := by decide +kernel
theorem dL_level_13 : decode cL_level 13 = .ok (.iload_n 1, 1) := by decide +kernel
theorem dL_level_14 : decode cL_level 14 = .ok (.ifCond .eq 83, 3) := by decide +kernel
theorem dL_level_17 : decode cL_level 17 = .ok (.aload_n 0, 1) := by decide +kernel
theorem dL_level_18 : decode cL_level 18 = .ok (.iconst (-1), 1) := by decide +kernel
theorem dL_level_19 : decode cL_level 19 = .ok (.iload_n 2, 1) := by decide +kernel
theorem dL_level_20 : decode cL_level 20 = .ok (.iconst 0, 1) := by decide +kernel
theorem dL_level_21 : decode cL_level 21 = .ok (.invokevirtual 15, 3) := by decide +kernel
theorem dL_level_24 : decode cL_level 24 = .ok (.istore_n 3, 1) := by decide +kernel
theorem dL_level_25 : decode cL_level 25 = .ok (.aload_n 0, 1) := by decide +kernel
theorem dL_level_26 : decode cL_level 26 = .ok (.iload_n 3, 1) := by decide +kernel
theorem dL_level_27 : decode cL_level 27 = .ok (.iconst 0, 1) := by decide +kernel
theorem dL_level_28 : decode cL_level 28 = .ok (.invokevirtual 39, 3) := by decide +kernel
theorem dL_level_31 : decode cL_level 31 = .ok (.aload_n 0, 1) := by decide +kernel
theorem dL_level_32 : decode cL_level 32 = .ok (.iconst (-1), 1) := by decide +kernel
theorem dL_level_33 : decode cL_level 33 = .ok (.iload_n 2, 1) := by decide +kernel
theorem dL_level_34 : decode cL_level 34 = .ok (.iconst 1, 1) := by decide +kernel
theorem dL_level_35 : decode cL_level 35 = .ok (.invokevirtual 15, 3) := by decide +kernel
theorem dL_level_38 : decode cL_level 38 = .ok (.if_icmp .ne 51, 3) := by decide +kernel
theorem dL_level_41 : decode cL_level 41 = .ok (.aload_n 0, 1) := by decide +kernel
theorem dL_level_42 : decode cL_level 42 = .ok (.iload_n 3, 1) := by decide +kernel
theorem dL_level_43 : decode cL_level 43 = .ok (.iconst 1, 1) := by decide +kernel
theorem dL_level_44 : decode cL_level 44 = .ok (.invokevirtual 39, 3) := by decide +kernel
theorem dL_level_47 : decode cL_level 47 = .ok (.aload_n 0, 1) := by decide +kernel
theorem dL_level_48 : decode cL_level 48 = .ok (.iconst (-1), 1) := by decide +kernel
theorem dL_level_49 : decode cL_level 49 = .ok (.iload_n 2, 1) := by decide +kernel
theorem dL_level_50 : decode cL_level 50 = .ok (.iconst 2, 1) := by decide +kernel
theorem dL_level_51 : decode cL_level 51 = .ok (.invokevirtual 15, 3) := by decide +kernel
theorem dL_level_54 : decode cL_level 54 = .ok (.if_icmp .ne 35, 3) := by decide +kernel
theorem dL_level_57 : decode cL_level 57 = .ok (.aload_n 0, 1) := by decide +kernel
theorem dL_level_58 : decode cL_level 58 = .ok (.iload_n 3, 1) := by decide +kernel
theorem dL_level_59 : decode cL_level 59 = .ok (.aload_n 0, 1) := by decide +kernel
theorem dL_level_60 : decode cL_level 60 = .ok (.iconst (-1), 1) := by decide +kernel
theorem dL_level_61 : decode cL_level 61 = .ok (.iload_n 2, 1) := by decide +kernel
theorem dL_level_62 : decode cL_level 62 = .ok (.iconst 1, 1) := by decide +kernel
theorem dL_level_63 : decode cL_level 63 = .ok (.invokevirtual 15, 3) := by decide +kernel
theorem dL_level_66 : decode cL_level 66 = .ok (.aload_n 0, 1) := by decide +kernel
theorem dL_level_67 : decode cL_level 67 = .ok (.iconst (-1), 1) := by decide +kernel
theorem dL_level_68 : decode cL_level 68 = .ok (.iload_n 2, 1) := by decide +kernel
theorem dL_level_69 : decode cL_level 69 = .ok (.iconst 2, 1) := by decide +kernel
theorem dL_level_70 : decode cL_level 70 = .ok (.invokevirtual 15, 3) := by decide +kernel
theorem dL_level_73 : decode cL_level 73 = .ok (.invokevirtual 42, 3) := by decide +kernel
theorem dL_level_76 : decode cL_level 76 = .ok (.aload_n 0, 1) := by decide +kernel
theorem dL_level_77 : decode cL_level 77 = .ok (.bipush 10, 2) := by decide +kernel
theorem dL_level_79 : decode cL_level 79 = .ok (.invokevirtual 9, 3) := by decide +kernel
theorem dL_level_82 : decode cL_level 82 = .ok (.if_icmp .ne 7, 3) := by decide +kernel
theorem dL_level_85 : decode cL_level 85 = .ok (.iconst 1, 1) := by decide +kernel
theorem dL_level_86 : decode cL_level 86 = .ok (.goto 4, 3) := by decide +kernel
theorem dL_level_89 : decode cL_level 89 = .ok (.iconst 0, 1) := by decide +kernel
theorem dL_level_90 : decode cL_level 90 = .ok (.istore_n 1, 1) := by decide +kernel
theorem dL_level_91 : decode cL_level 91 = .ok (.iinc 2 1, 3) := by decide +kernel
theorem dL_level_94 : decode cL_level 94 = .ok (.goto (-90), 3) := by decide +kernel
theorem dL_level_97 : decode cL_level 97 = .ok (.iload_n 1, 1) := by decide +kernel
theorem dL_level_98 : decode cL_level 98 = .ok (.ireturn, 1) := by decide +kernel
end
