def T_0 : u_T := fun k => match k with
  | 0 => ("JobNets", "calendars", "LJobNets$Calendars;", true)
  | 1 => ("JobNets", "reader", "LJobNets$TextReader;", true)
  | 2 => ("JobNets", "current", "LJobNets$Plan;", true)
  | 3 => ("JobNets", "kept", "LJobNets$KeptTimes;", true)
  | 4 => ("JobNets", "latestRing", "LJobNets$Way;", true)
  | 5 => ("JobNets", "ringFinder", "LJobNets$RingFinder;", true)
  | 6 => ("JobNets", "longest", "LJobNets$LongestWay;", true)
  | 7 => ("JobNets", "net", "LJobNets$Net;", false)
  | _ => ("JobNets", "spare", "LJobNets$Net;", false)
def ty_0 : Nat → FieldType := fun k => match k with
  | 0 => .object "JobNets$Calendars"
  | 1 => .object "JobNets$TextReader"
  | 2 => .object "JobNets$Plan"
  | 3 => .object "JobNets$KeptTimes"
  | 4 => .object "JobNets$Way"
  | 5 => .object "JobNets$RingFinder"
  | 6 => .object "JobNets$LongestWay"
  | 7 => .object "JobNets$Net"
  | _ => .object "JobNets$Net"
theorem nd_0 : ∀ a, a < 9 → ∀ b, b < 9 → a ≠ b → (T_0 a).2.1 ≠ (T_0 b).2.1 := by decide +kernel
theorem tok_0 : ∀ k, k < 9 → parseFieldDescriptor (T_0 k).2.2.1 = some (ty_0 k) := by decide +kernel
theorem hin_0 : ∀ w ∈ u_ws "JobNets" T_0 9, w ∈ BIG := bg_a (by decide +kernel)
theorem dfl_0 : ∀ j, j < 9 → defaultValue (ty_0 j) = vp_V [.null, .null, .null, .null, .null, .null, .null, .null, .null] j := by
  intro j hj
  match j, hj with
  | 0, _ => rfl
  | 1, _ => rfl
  | 2, _ => rfl
  | 3, _ => rfl
  | 4, _ => rfl
  | 5, _ => rfl
  | 6, _ => rfl
  | 7, _ => rfl
  | 8, _ => rfl
  | j + 9, h => exact absurd h (by omega)
def T_1 : u_T := fun k => match k with
  | 0 => ("JobNets$Calendars", "rules", "[I", true)
  | 1 => ("JobNets$Calendars", "places", "[I", true)
  | 2 => ("JobNets$Calendars", "holidays", "[I", true)
  | 3 => ("JobNets$Calendars", "made", "I", false)
  | _ => ("JobNets$Calendars", "holidayCount", "I", false)
def ty_1 : Nat → FieldType := fun k => match k with
  | 0 => .array .int
  | 1 => .array .int
  | 2 => .array .int
  | 3 => .int
  | _ => .int
theorem nd_1 : ∀ a, a < 5 → ∀ b, b < 5 → a ≠ b → (T_1 a).2.1 ≠ (T_1 b).2.1 := by decide +kernel
theorem tok_1 : ∀ k, k < 5 → parseFieldDescriptor (T_1 k).2.2.1 = some (ty_1 k) := by decide +kernel
theorem hin_1 : ∀ w ∈ u_ws "JobNets$Calendars" T_1 5, w ∈ BIG := bg_a (by decide +kernel)
theorem dfl_1 : ∀ j, j < 5 → defaultValue (ty_1 j) = vp_V [.null, .null, .null, .int 0, .int 0] j := by
  intro j hj
  match j, hj with
  | 0, _ => rfl
  | 1, _ => rfl
  | 2, _ => rfl
  | 3, _ => rfl
  | 4, _ => rfl
  | j + 5, h => exact absurd h (by omega)
def T_2 : u_T := fun k => match k with
  | 0 => ("JobNets$KeptTimes", "sums", "[J", true)
  | _ => ("JobNets$KeptTimes", "counts", "[I", true)
def ty_2 : Nat → FieldType := fun k => match k with
  | 0 => .array .long
  | _ => .array .int
theorem nd_2 : ∀ a, a < 2 → ∀ b, b < 2 → a ≠ b → (T_2 a).2.1 ≠ (T_2 b).2.1 := by decide +kernel
theorem tok_2 : ∀ k, k < 2 → parseFieldDescriptor (T_2 k).2.2.1 = some (ty_2 k) := by decide +kernel
theorem hin_2 : ∀ w ∈ u_ws "JobNets$KeptTimes" T_2 2, w ∈ BIG := bg_a (by decide +kernel)
theorem dfl_2 : ∀ j, j < 2 → defaultValue (ty_2 j) = vp_V [.null, .null] j := by
  intro j hj
  match j, hj with
  | 0, _ => rfl
  | 1, _ => rfl
  | j + 2, h => exact absurd h (by omega)
def T_3 : u_T := fun k => match k with
  | 0 => ("JobNets$LongestWay", "sums", "[I", true)
  | 1 => ("JobNets$LongestWay", "before", "[I", true)
  | _ => ("JobNets$LongestWay", "way", "LJobNets$Way;", true)
def ty_3 : Nat → FieldType := fun k => match k with
  | 0 => .array .int
  | 1 => .array .int
  | _ => .object "JobNets$Way"
theorem nd_3 : ∀ a, a < 3 → ∀ b, b < 3 → a ≠ b → (T_3 a).2.1 ≠ (T_3 b).2.1 := by decide +kernel
theorem tok_3 : ∀ k, k < 3 → parseFieldDescriptor (T_3 k).2.2.1 = some (ty_3 k) := by decide +kernel
theorem hin_3 : ∀ w ∈ u_ws "JobNets$LongestWay" T_3 3, w ∈ BIG := bg_a (by decide +kernel)
theorem dfl_3 : ∀ j, j < 3 → defaultValue (ty_3 j) = vp_V [.null, .null, .null] j := by
  intro j hj
  match j, hj with
  | 0, _ => rfl
  | 1, _ => rfl
  | 2, _ => rfl
  | j + 3, h => exact absurd h (by omega)
def T_4 : u_T := fun k => match k with
  | 0 => ("JobNets$Net", "numbers", "[[I", true)
  | 1 => ("JobNets$Net", "needCounts", "[I", true)
  | 2 => ("JobNets$Net", "needed", "[[I", true)
  | 3 => ("JobNets$Net", "conditions", "[[I", true)
  | 4 => ("JobNets$Net", "allNeeded", "[I", true)
  | _ => ("JobNets$Net", "jobs", "I", false)
def ty_4 : Nat → FieldType := fun k => match k with
  | 0 => .array (.array .int)
  | 1 => .array .int
  | 2 => .array (.array .int)
  | 3 => .array (.array .int)
  | 4 => .array .int
  | _ => .int
theorem nd_4 : ∀ a, a < 6 → ∀ b, b < 6 → a ≠ b → (T_4 a).2.1 ≠ (T_4 b).2.1 := by decide +kernel
theorem tok_4 : ∀ k, k < 6 → parseFieldDescriptor (T_4 k).2.2.1 = some (ty_4 k) := by decide +kernel
theorem hin_4 : ∀ w ∈ u_ws "JobNets$Net" T_4 6, w ∈ BIG := bg_a (by decide +kernel)
theorem dfl_4 : ∀ j, j < 6 → defaultValue (ty_4 j) = vp_V [.null, .null, .null, .null, .null, .int 0] j := by
  intro j hj
  match j, hj with
  | 0, _ => rfl
  | 1, _ => rfl
  | 2, _ => rfl
  | 3, _ => rfl
  | 4, _ => rfl
  | 5, _ => rfl
  | j + 6, h => exact absurd h (by omega)
def T_5 : u_T := fun k => match k with
  | 0 => ("JobNets$Plan", "states", "[I", true)
  | 1 => ("JobNets$Plan", "startTimes", "[I", true)
  | 2 => ("JobNets$Plan", "loggedJobs", "[I", true)
  | 3 => ("JobNets$Plan", "loggedTimes", "[I", true)
  | 4 => ("JobNets$Plan", "starts", "I", false)
  | _ => ("JobNets$Plan", "time", "I", false)
def ty_5 : Nat → FieldType := fun k => match k with
  | 0 => .array .int
  | 1 => .array .int
  | 2 => .array .int
  | 3 => .array .int
  | 4 => .int
  | _ => .int
theorem nd_5 : ∀ a, a < 6 → ∀ b, b < 6 → a ≠ b → (T_5 a).2.1 ≠ (T_5 b).2.1 := by decide +kernel
theorem tok_5 : ∀ k, k < 6 → parseFieldDescriptor (T_5 k).2.2.1 = some (ty_5 k) := by decide +kernel
theorem hin_5 : ∀ w ∈ u_ws "JobNets$Plan" T_5 6, w ∈ BIG := bg_a (by decide +kernel)
theorem dfl_5 : ∀ j, j < 6 → defaultValue (ty_5 j) = vp_V [.null, .null, .null, .null, .int 0, .int 0] j := by
  intro j hj
  match j, hj with
  | 0, _ => rfl
  | 1, _ => rfl
  | 2, _ => rfl
  | 3, _ => rfl
  | 4, _ => rfl
  | 5, _ => rfl
  | j + 6, h => exact absurd h (by omega)
def T_6 : u_T := fun k => match k with
  | 0 => ("JobNets$RingFinder", "queue", "[I", true)
  | _ => ("JobNets$RingFinder", "before", "[I", true)
def ty_6 : Nat → FieldType := fun k => match k with
  | 0 => .array .int
  | _ => .array .int
theorem nd_6 : ∀ a, a < 2 → ∀ b, b < 2 → a ≠ b → (T_6 a).2.1 ≠ (T_6 b).2.1 := by decide +kernel
theorem tok_6 : ∀ k, k < 2 → parseFieldDescriptor (T_6 k).2.2.1 = some (ty_6 k) := by decide +kernel
theorem hin_6 : ∀ w ∈ u_ws "JobNets$RingFinder" T_6 2, w ∈ BIG := bg_a (by decide +kernel)
theorem dfl_6 : ∀ j, j < 2 → defaultValue (ty_6 j) = vp_V [.null, .null] j := by
  intro j hj
  match j, hj with
  | 0, _ => rfl
  | 1, _ => rfl
  | j + 2, h => exact absurd h (by omega)
def T_7 : u_T := fun k => match k with
  | 0 => ("JobNets$TextReader", "text", "[I", true)
  | 1 => ("JobNets$TextReader", "jobOfLetter", "[I", true)
  | 2 => ("JobNets$TextReader", "owners", "[I", true)
  | 3 => ("JobNets$TextReader", "namePlaces", "[I", true)
  | 4 => ("JobNets$TextReader", "conditions", "[I", true)
  | 5 => ("JobNets$TextReader", "pending", "I", false)
  | 6 => ("JobNets$TextReader", "length", "I", false)
  | 7 => ("JobNets$TextReader", "at", "I", false)
  | _ => ("JobNets$TextReader", "number", "I", false)
def ty_7 : Nat → FieldType := fun k => match k with
  | 0 => .array .int
  | 1 => .array .int
  | 2 => .array .int
  | 3 => .array .int
  | 4 => .array .int
  | 5 => .int
  | 6 => .int
  | 7 => .int
  | _ => .int
theorem nd_7 : ∀ a, a < 9 → ∀ b, b < 9 → a ≠ b → (T_7 a).2.1 ≠ (T_7 b).2.1 := by decide +kernel
theorem tok_7 : ∀ k, k < 9 → parseFieldDescriptor (T_7 k).2.2.1 = some (ty_7 k) := by decide +kernel
theorem hin_7 : ∀ w ∈ u_ws "JobNets$TextReader" T_7 9, w ∈ BIG := bg_a (by decide +kernel)
theorem dfl_7 : ∀ j, j < 9 → defaultValue (ty_7 j) = vp_V [.null, .null, .null, .null, .null, .int 0, .int 0, .int 0, .int 0] j := by
  intro j hj
  match j, hj with
  | 0, _ => rfl
  | 1, _ => rfl
  | 2, _ => rfl
  | 3, _ => rfl
  | 4, _ => rfl
  | 5, _ => rfl
  | 6, _ => rfl
  | 7, _ => rfl
  | 8, _ => rfl
  | j + 9, h => exact absurd h (by omega)
def T_8 : u_T := fun k => match k with
  | 0 => ("JobNets$Way", "row", "[I", true)
  | _ => ("JobNets$Way", "length", "I", false)
def ty_8 : Nat → FieldType := fun k => match k with
  | 0 => .array .int
  | _ => .int
theorem nd_8 : ∀ a, a < 2 → ∀ b, b < 2 → a ≠ b → (T_8 a).2.1 ≠ (T_8 b).2.1 := by decide +kernel
theorem tok_8 : ∀ k, k < 2 → parseFieldDescriptor (T_8 k).2.2.1 = some (ty_8 k) := by decide +kernel
theorem hin_8 : ∀ w ∈ u_ws "JobNets$Way" T_8 2, w ∈ BIG := bg_a (by decide +kernel)
theorem dfl_8 : ∀ j, j < 2 → defaultValue (ty_8 j) = vp_V [.null, .int 0] j := by
  intro j hj
  match j, hj with
  | 0, _ => rfl
  | 1, _ => rfl
  | j + 2, h => exact absurd h (by omega)
def T_9 : u_T := fun k => match k with
  | 0 => ("JobNetsModel", "code", "I", false)
  | 1 => ("JobNetsModel", "text", "[I", true)
  | 2 => ("JobNetsModel", "length", "I", false)
  | 3 => ("JobNetsModel", "jobs", "I", false)
  | 4 => ("JobNetsModel", "newJobs", "I", false)
  | 5 => ("JobNetsModel", "names", "[I", true)
  | 6 => ("JobNetsModel", "calendars", "[I", true)
  | 7 => ("JobNetsModel", "priorities", "[I", true)
  | 8 => ("JobNetsModel", "starts", "[I", true)
  | 9 => ("JobNetsModel", "estimates", "[I", true)
  | 10 => ("JobNetsModel", "many", "[I", true)
  | 11 => ("JobNetsModel", "newNames", "[I", true)
  | 12 => ("JobNetsModel", "numbers", "[I", true)
  | 13 => ("JobNetsModel", "newMany", "[I", true)
  | 14 => ("JobNetsModel", "needs", "[I", true)
  | 15 => ("JobNetsModel", "conditions", "[I", true)
  | 16 => ("JobNetsModel", "newNeeds", "[I", true)
  | 17 => ("JobNetsModel", "newConditions", "[I", true)
  | 18 => ("JobNetsModel", "needPlaces", "[I", true)
  | 19 => ("JobNetsModel", "rules", "[I", true)
  | 20 => ("JobNetsModel", "of", "[I", true)
  | 21 => ("JobNetsModel", "made", "I", false)
  | 22 => ("JobNetsModel", "holidays", "[J", true)
  | 23 => ("JobNetsModel", "days", "I", false)
  | 24 => ("JobNetsModel", "states", "[I", true)
  | 25 => ("JobNetsModel", "ran", "[J", true)
  | 26 => ("JobNetsModel", "sums", "[J", true)
  | 27 => ("JobNetsModel", "kept", "[I", true)
  | 28 => ("JobNetsModel", "now", "J", false)
  | 29 => ("JobNetsModel", "startedJob", "[I", true)
  | 30 => ("JobNetsModel", "startedAt", "[J", true)
  | 31 => ("JobNetsModel", "started", "I", false)
  | 32 => ("JobNetsModel", "ring", "[I", true)
  | 33 => ("JobNetsModel", "came", "[I", true)
  | 34 => ("JobNetsModel", "level", "[I", true)
  | 35 => ("JobNetsModel", "ringSize", "I", false)
  | 36 => ("JobNetsModel", "again", "[Z", true)
  | 37 => ("JobNetsModel", "way", "[J", true)
  | 38 => ("JobNetsModel", "before", "[I", true)
  | 39 => ("JobNetsModel", "path", "[I", true)
  | _ => ("JobNetsModel", "place", "I", false)
def ty_9 : Nat → FieldType := fun k => match k with
  | 0 => .int
  | 1 => .array .int
  | 2 => .int
  | 3 => .int
  | 4 => .int
  | 5 => .array .int
  | 6 => .array .int
  | 7 => .array .int
  | 8 => .array .int
  | 9 => .array .int
  | 10 => .array .int
  | 11 => .array .int
  | 12 => .array .int
  | 13 => .array .int
  | 14 => .array .int
  | 15 => .array .int
  | 16 => .array .int
  | 17 => .array .int
  | 18 => .array .int
  | 19 => .array .int
  | 20 => .array .int
  | 21 => .int
  | 22 => .array .long
  | 23 => .int
  | 24 => .array .int
  | 25 => .array .long
  | 26 => .array .long
  | 27 => .array .int
  | 28 => .long
  | 29 => .array .int
  | 30 => .array .long
  | 31 => .int
  | 32 => .array .int
  | 33 => .array .int
  | 34 => .array .int
  | 35 => .int
  | 36 => .array .boolean
  | 37 => .array .long
  | 38 => .array .int
  | 39 => .array .int
  | _ => .int
theorem nd_9 : ∀ a, a < 41 → ∀ b, b < 41 → a ≠ b → (T_9 a).2.1 ≠ (T_9 b).2.1 := by decide +kernel
theorem tok_9 : ∀ k, k < 41 → parseFieldDescriptor (T_9 k).2.2.1 = some (ty_9 k) := by decide +kernel
theorem hin_9 : ∀ w ∈ u_ws "JobNetsModel" T_9 41, w ∈ BIG := bg_a (by decide +kernel)
theorem dfl_9 : ∀ j, j < 41 → defaultValue (ty_9 j) = vp_V [.int 0, .null, .int 0, .int 0, .int 0, .null, .null, .null, .null, .null, .null, .null, .null, .null, .null, .null, .null, .null, .null, .null, .null, .int 0, .null, .int 0, .null, .null, .null, .null, .long 0, .null, .null, .int 0, .null, .null, .null, .int 0, .null, .null, .null, .null, .int 0] j := by
  intro j hj
  match j, hj with
  | 0, _ => rfl
  | 1, _ => rfl
  | 2, _ => rfl
  | 3, _ => rfl
  | 4, _ => rfl
  | 5, _ => rfl
  | 6, _ => rfl
  | 7, _ => rfl
  | 8, _ => rfl
  | 9, _ => rfl
  | 10, _ => rfl
  | 11, _ => rfl
  | 12, _ => rfl
  | 13, _ => rfl
  | 14, _ => rfl
  | 15, _ => rfl
  | 16, _ => rfl
  | 17, _ => rfl
  | 18, _ => rfl
  | 19, _ => rfl
  | 20, _ => rfl
  | 21, _ => rfl
  | 22, _ => rfl
  | 23, _ => rfl
  | 24, _ => rfl
  | 25, _ => rfl
  | 26, _ => rfl
  | 27, _ => rfl
  | 28, _ => rfl
  | 29, _ => rfl
  | 30, _ => rfl
  | 31, _ => rfl
  | 32, _ => rfl
  | 33, _ => rfl
  | 34, _ => rfl
  | 35, _ => rfl
  | 36, _ => rfl
  | 37, _ => rfl
  | 38, _ => rfl
  | 39, _ => rfl
  | 40, _ => rfl
  | j + 41, h => exact absurd h (by omega)
abbrev vwCl : List vw_C := [("JobNets", T_0, 9), ("JobNets$Calendars", T_1, 5), ("JobNets$KeptTimes", T_2, 2), ("JobNets$LongestWay", T_3, 3), ("JobNets$Net", T_4, 6), ("JobNets$Plan", T_5, 6), ("JobNets$RingFinder", T_6, 2), ("JobNets$TextReader", T_7, 9), ("JobNets$Way", T_8, 2), ("JobNetsModel", T_9, 41)]
abbrev y_Cal_init : MethodName := ⟨"JobNets$Calendars", "<init>", "()V"⟩
abbrev ws_Cal_init : List Cond := .code ⟨"JobNets$Calendars", "<init>", "()V"⟩ prog_2_method_1_code 1 (Option.none : Option FieldType) :: BIG
abbrev y_Cal_isRule : MethodName := ⟨"JobNets$Calendars", "isRule", "(II)Z"⟩
abbrev ws_Cal_isRule : List Cond := .code ⟨"JobNets$Calendars", "isRule", "(II)Z"⟩ prog_2_method_3_code 2 (Option.some .boolean) :: BIG
abbrev y_Cal_holidayPlace : MethodName := ⟨"JobNets$Calendars", "holidayPlace", "(I)I"⟩
abbrev ws_Cal_holidayPlace : List Cond := .code ⟨"JobNets$Calendars", "holidayPlace", "(I)I"⟩ prog_2_method_5_code 3 (Option.some .int) :: BIG
abbrev y_Cal_isInWorkWeek : MethodName := ⟨"JobNets$Calendars", "isInWorkWeek", "(I)Z"⟩
abbrev ws_Cal_isInWorkWeek : List Cond := .code ⟨"JobNets$Calendars", "isInWorkWeek", "(I)Z"⟩ prog_2_method_8_code 1 (Option.some .boolean) :: BIG
abbrev y_Cal_isWorkDay : MethodName := ⟨"JobNets$Calendars", "isWorkDay", "(I)Z"⟩
abbrev ws_Cal_isWorkDay : List Cond := .code ⟨"JobNets$Calendars", "isWorkDay", "(I)Z"⟩ prog_2_method_9_code 2 (Option.some .boolean) :: BIG
abbrev y_Cal_workDaysOfMonthTill : MethodName := ⟨"JobNets$Calendars", "workDaysOfMonthTill", "(I)I"⟩
abbrev ws_Cal_workDaysOfMonthTill : List Cond := .code ⟨"JobNets$Calendars", "workDaysOfMonthTill", "(I)I"⟩ prog_2_method_10_code 6 (Option.some .int) :: BIG
abbrev y_Kep_init : MethodName := ⟨"JobNets$KeptTimes", "<init>", "()V"⟩
abbrev ws_Kep_init : List Cond := .code ⟨"JobNets$KeptTimes", "<init>", "()V"⟩ prog_3_method_1_code 1 (Option.none : Option FieldType) :: BIG
abbrev y_Kep_add : MethodName := ⟨"JobNets$KeptTimes", "add", "(II)V"⟩
abbrev ws_Kep_add : List Cond := .code ⟨"JobNets$KeptTimes", "add", "(II)V"⟩ prog_3_method_3_code 3 (Option.none : Option FieldType) :: BIG
abbrev y_Kep_usualTime : MethodName := ⟨"JobNets$KeptTimes", "usualTime", "(II)J"⟩
abbrev ws_Kep_usualTime : List Cond := .code ⟨"JobNets$KeptTimes", "usualTime", "(II)J"⟩ prog_3_method_4_code 3 (Option.some .long) :: BIG
abbrev y_Lon_measure : MethodName := ⟨"JobNets$LongestWay", "measure", "(LJobNets$Net;[II)V"⟩
abbrev ws_Lon_measure : List Cond := .code ⟨"JobNets$LongestWay", "measure", "(LJobNets$Net;[II)V"⟩ prog_4_method_3_code 8 (Option.none : Option FieldType) :: BIG
abbrev y_Lon_longestEnd : MethodName := ⟨"JobNets$LongestWay", "longestEnd", "(LJobNets$Net;[I)I"⟩
abbrev ws_Lon_longestEnd : List Cond := .code ⟨"JobNets$LongestWay", "longestEnd", "(LJobNets$Net;[I)I"⟩ prog_4_method_4_code 5 (Option.some .int) :: BIG
abbrev y_Net_init : MethodName := ⟨"JobNets$Net", "<init>", "()V"⟩
abbrev ws_Net_init : List Cond := .code ⟨"JobNets$Net", "<init>", "()V"⟩ prog_5_method_1_code 1 (Option.none : Option FieldType) :: BIG
abbrev y_Net_has : MethodName := ⟨"JobNets$Net", "has", "(I)Z"⟩
abbrev ws_Net_has : List Cond := .code ⟨"JobNets$Net", "has", "(I)Z"⟩ prog_5_method_3_code 2 (Option.some .boolean) :: BIG
abbrev y_Net_needsAtAnyDepth : MethodName := ⟨"JobNets$Net", "needsAtAnyDepth", "(II)Z"⟩
abbrev ws_Net_needsAtAnyDepth : List Cond := .code ⟨"JobNets$Net", "needsAtAnyDepth", "(II)Z"⟩ prog_5_method_4_code 3 (Option.some .boolean) :: BIG
abbrev y_Net_closesRing : MethodName := ⟨"JobNets$Net", "closesRing", "(II)Z"⟩
abbrev ws_Net_closesRing : List Cond := .code ⟨"JobNets$Net", "closesRing", "(II)Z"⟩ prog_5_method_5_code 3 (Option.some .boolean) :: BIG
abbrev y_Net_addNeed : MethodName := ⟨"JobNets$Net", "addNeed", "(III)V"⟩
abbrev ws_Net_addNeed : List Cond := .code ⟨"JobNets$Net", "addNeed", "(III)V"⟩ prog_5_method_6_code 7 (Option.none : Option FieldType) :: BIG
abbrev y_Pla_init : MethodName := ⟨"JobNets$Plan", "<init>", "()V"⟩
abbrev ws_Pla_init : List Cond := .code ⟨"JobNets$Plan", "<init>", "()V"⟩ prog_6_method_1_code 1 (Option.none : Option FieldType) :: BIG
abbrev y_Pla_jobsIn : MethodName := ⟨"JobNets$Plan", "jobsIn", "(LJobNets$Net;)I"⟩
abbrev ws_Pla_jobsIn : List Cond := .code ⟨"JobNets$Plan", "jobsIn", "(LJobNets$Net;)I"⟩ prog_6_method_4_code 4 (Option.some .int) :: BIG
abbrev y_Pla_running : MethodName := ⟨"JobNets$Plan", "running", "(LJobNets$Net;)I"⟩
abbrev ws_Pla_running : List Cond := .code ⟨"JobNets$Plan", "running", "(LJobNets$Net;)I"⟩ prog_6_method_5_code 4 (Option.some .int) :: BIG
abbrev y_Pla_isSo : MethodName := ⟨"JobNets$Plan", "isSo", "(II)Z"⟩
abbrev ws_Pla_isSo : List Cond := .code ⟨"JobNets$Plan", "isSo", "(II)Z"⟩ prog_6_method_9_code 2 (Option.some .boolean) :: BIG
abbrev y_Pla_start : MethodName := ⟨"JobNets$Plan", "start", "(I)V"⟩
abbrev ws_Pla_start : List Cond := .code ⟨"JobNets$Plan", "start", "(I)V"⟩ prog_6_method_10_code 2 (Option.none : Option FieldType) :: BIG
abbrev y_Pla_anyRunsBehind : MethodName := ⟨"JobNets$Plan", "anyRunsBehind", "(LJobNets$Net;I)Z"⟩
abbrev ws_Pla_anyRunsBehind : List Cond := .code ⟨"JobNets$Plan", "anyRunsBehind", "(LJobNets$Net;I)Z"⟩ prog_6_method_11_code 4 (Option.some .boolean) :: BIG
abbrev y_Pla_waitAgain : MethodName := ⟨"JobNets$Plan", "waitAgain", "(LJobNets$Net;I)I"⟩
abbrev ws_Pla_waitAgain : List Cond := .code ⟨"JobNets$Plan", "waitAgain", "(LJobNets$Net;I)I"⟩ prog_6_method_12_code 6 (Option.some .int) :: BIG
abbrev y_Rin_init : MethodName := ⟨"JobNets$RingFinder", "<init>", "()V"⟩
abbrev ws_Rin_init : List Cond := .code ⟨"JobNets$RingFinder", "<init>", "()V"⟩ prog_7_method_1_code 1 (Option.none : Option FieldType) :: BIG
abbrev y_Rin_queueNeeded : MethodName := ⟨"JobNets$RingFinder", "queueNeeded", "(LJobNets$Net;II)I"⟩
abbrev ws_Rin_queueNeeded : List Cond := .code ⟨"JobNets$RingFinder", "queueNeeded", "(LJobNets$Net;II)I"⟩ prog_7_method_4_code 7 (Option.some .int) :: BIG
abbrev y_Tex_init : MethodName := ⟨"JobNets$TextReader", "<init>", "()V"⟩
abbrev ws_Tex_init : List Cond := .code ⟨"JobNets$TextReader", "<init>", "()V"⟩ prog_8_method_1_code 1 (Option.none : Option FieldType) :: BIG
abbrev y_Tex_append : MethodName := ⟨"JobNets$TextReader", "append", "(I)V"⟩
abbrev ws_Tex_append : List Cond := .code ⟨"JobNets$TextReader", "append", "(I)V"⟩ prog_8_method_2_code 2 (Option.none : Option FieldType) :: BIG
abbrev y_Tex_forget : MethodName := ⟨"JobNets$TextReader", "forget", "()V"⟩
abbrev ws_Tex_forget : List Cond := .code ⟨"JobNets$TextReader", "forget", "()V"⟩ prog_8_method_3_code 1 (Option.none : Option FieldType) :: BIG
abbrev y_Tex_place : MethodName := ⟨"JobNets$TextReader", "place", "()I"⟩
abbrev ws_Tex_place : List Cond := .code ⟨"JobNets$TextReader", "place", "()I"⟩ prog_8_method_4_code 1 (Option.some .int) :: BIG
abbrev y_Tex_parseNumber : MethodName := ⟨"JobNets$TextReader", "parseNumber", "()Z"⟩
abbrev ws_Tex_parseNumber : List Cond := .code ⟨"JobNets$TextReader", "parseNumber", "()Z"⟩ prog_8_method_7_code 2 (Option.some .boolean) :: BIG
abbrev y_Tex_addNeeds : MethodName := ⟨"JobNets$TextReader", "addNeeds", "(LJobNets$Net;)Z"⟩
abbrev ws_Tex_addNeeds : List Cond := .code ⟨"JobNets$TextReader", "addNeeds", "(LJobNets$Net;)Z"⟩ prog_8_method_10_code 4 (Option.some .boolean) :: BIG
abbrev y_Tex_isHere : MethodName := ⟨"JobNets$TextReader", "isHere", "(I)Z"⟩
abbrev ws_Tex_isHere : List Cond := .code ⟨"JobNets$TextReader", "isHere", "(I)Z"⟩ prog_8_method_11_code 2 (Option.some .boolean) :: BIG
abbrev y_Tex_letterHere : MethodName := ⟨"JobNets$TextReader", "letterHere", "()I"⟩
abbrev ws_Tex_letterHere : List Cond := .code ⟨"JobNets$TextReader", "letterHere", "()I"⟩ prog_8_method_12_code 1 (Option.some .int) :: BIG
abbrev y_Tex_skipBlanks : MethodName := ⟨"JobNets$TextReader", "skipBlanks", "()V"⟩
abbrev ws_Tex_skipBlanks : List Cond := .code ⟨"JobNets$TextReader", "skipBlanks", "()V"⟩ prog_8_method_13_code 1 (Option.none : Option FieldType) :: BIG
abbrev y_Way_init : MethodName := ⟨"JobNets$Way", "<init>", "()V"⟩
abbrev ws_Way_init : List Cond := .code ⟨"JobNets$Way", "<init>", "()V"⟩ prog_9_method_1_code 1 (Option.none : Option FieldType) :: BIG
abbrev y_Way_jobAt : MethodName := ⟨"JobNets$Way", "jobAt", "(I)I"⟩
abbrev ws_Way_jobAt : List Cond := .code ⟨"JobNets$Way", "jobAt", "(I)I"⟩ prog_9_method_2_code 2 (Option.some .int) :: BIG
abbrev y_Way_trace : MethodName := ⟨"JobNets$Way", "trace", "([II)V"⟩
abbrev ws_Way_trace : List Cond := .code ⟨"JobNets$Way", "trace", "([II)V"⟩ prog_9_method_3_code 5 (Option.none : Option FieldType) :: BIG
abbrev y_A_sign : MethodName := ⟨"JobNets", "sign", "(I)V"⟩
abbrev ws_A_sign : List Cond := .code ⟨"JobNets", "sign", "(I)V"⟩ prog_1_method_2_code 2 (Option.none : Option FieldType) :: BIG
abbrev y_A_started : MethodName := ⟨"JobNets", "started", "(II)I"⟩
abbrev ws_A_started : List Cond := .code ⟨"JobNets", "started", "(II)I"⟩ prog_1_method_10_code 3 (Option.some .int) :: BIG
abbrev y_A_ring : MethodName := ⟨"JobNets", "ring", "(I)I"⟩
abbrev ws_A_ring : List Cond := .code ⟨"JobNets", "ring", "(I)I"⟩ prog_1_method_12_code 2 (Option.some .int) :: BIG
abbrev y_A_state : MethodName := ⟨"JobNets", "state", "(I)I"⟩
abbrev ws_A_state : List Cond := .code ⟨"JobNets", "state", "(I)I"⟩ prog_1_method_16_code 2 (Option.some .int) :: BIG
abbrev y_A_count : MethodName := ⟨"JobNets", "count", "(I)I"⟩
abbrev ws_A_count : List Cond := .code ⟨"JobNets", "count", "(I)I"⟩ prog_1_method_17_code 2 (Option.some .int) :: BIG
abbrev y_A_isDay : MethodName := ⟨"JobNets", "isDay", "(J)Z"⟩
abbrev ws_A_isDay : List Cond := .code ⟨"JobNets", "isDay", "(J)Z"⟩ prog_1_method_18_code 2 (Option.some .boolean) :: BIG
abbrev y_A_isIn : MethodName := ⟨"JobNets", "isIn", "(II)Z"⟩
abbrev ws_A_isIn : List Cond := .code ⟨"JobNets", "isIn", "(II)Z"⟩ prog_1_method_19_code 3 (Option.some .boolean) :: BIG
abbrev y_A_isLate : MethodName := ⟨"JobNets", "isLate", "(IJ)Z"⟩
abbrev ws_A_isLate : List Cond := .code ⟨"JobNets", "isLate", "(IJ)Z"⟩ prog_1_method_20_code 7 (Option.some .boolean) :: BIG
abbrev y_B_init : MethodName := ⟨"JobNetsModel", "<init>", "()V"⟩
abbrev ws_B_init : List Cond := .code ⟨"JobNetsModel", "<init>", "()V"⟩ prog_11_method_1_code 1 (Option.none : Option FieldType) :: BIG
abbrev y_B_thrown : MethodName := ⟨"JobNetsModel", "thrown", "()I"⟩
abbrev ws_B_thrown : List Cond := .code ⟨"JobNetsModel", "thrown", "()I"⟩ prog_11_method_2_code 1 (Option.some .int) :: BIG
abbrev y_B_sign : MethodName := ⟨"JobNetsModel", "sign", "(I)V"⟩
abbrev ws_B_sign : List Cond := .code ⟨"JobNetsModel", "sign", "(I)V"⟩ prog_11_method_3_code 2 (Option.none : Option FieldType) :: BIG
abbrev y_B_at : MethodName := ⟨"JobNetsModel", "at", "(I)I"⟩
abbrev ws_B_at : List Cond := .code ⟨"JobNetsModel", "at", "(I)I"⟩ prog_11_method_4_code 2 (Option.some .int) :: BIG
abbrev y_B_isDigit : MethodName := ⟨"JobNetsModel", "isDigit", "(I)Z"⟩
abbrev ws_B_isDigit : List Cond := .code ⟨"JobNetsModel", "isDigit", "(I)Z"⟩ prog_11_method_5_code 1 (Option.some .boolean) :: BIG
abbrev y_B_isName : MethodName := ⟨"JobNetsModel", "isName", "(I)Z"⟩
abbrev ws_B_isName : List Cond := .code ⟨"JobNetsModel", "isName", "(I)Z"⟩ prog_11_method_6_code 1 (Option.some .boolean) :: BIG
abbrev y_B_sign2 : MethodName := ⟨"JobNetsModel", "sign", "()I"⟩
abbrev ws_B_sign2 : List Cond := .code ⟨"JobNetsModel", "sign", "()I"⟩ prog_11_method_7_code 1 (Option.some .int) :: BIG
abbrev y_B_named : MethodName := ⟨"JobNetsModel", "named", "(I)I"⟩
abbrev ws_B_named : List Cond := .code ⟨"JobNetsModel", "named", "(I)I"⟩ prog_11_method_8_code 4 (Option.some .int) :: BIG
abbrev y_B_number : MethodName := ⟨"JobNetsModel", "number", "()I"⟩
abbrev ws_B_number : List Cond := .code ⟨"JobNetsModel", "number", "()I"⟩ prog_11_method_9_code 3 (Option.some .int) :: BIG
abbrev y_B_reads : MethodName := ⟨"JobNetsModel", "reads", "()Z"⟩
abbrev ws_B_reads : List Cond := .code ⟨"JobNetsModel", "reads", "()Z"⟩ prog_11_method_10_code 5 (Option.some .boolean) :: BIG
abbrev y_B_fault : MethodName := ⟨"JobNetsModel", "fault", "()I"⟩
abbrev ws_B_fault : List Cond := .code ⟨"JobNetsModel", "fault", "()I"⟩ prog_11_method_11_code 6 (Option.some .int) :: BIG
abbrev y_B_reaches : MethodName := ⟨"JobNetsModel", "reaches", "(II[I[II)Z"⟩
abbrev ws_B_reaches : List Cond := .code ⟨"JobNetsModel", "reaches", "(II[I[II)Z"⟩ prog_11_method_13_code 11 (Option.some .boolean) :: BIG
abbrev y_B_keep : MethodName := ⟨"JobNetsModel", "keep", "(I)V"⟩
abbrev ws_B_keep : List Cond := .code ⟨"JobNetsModel", "keep", "(I)V"⟩ prog_11_method_14_code 4 (Option.none : Option FieldType) :: BIG
abbrev y_B_newRing : MethodName := ⟨"JobNetsModel", "newRing", "()Z"⟩
abbrev ws_B_newRing : List Cond := .code ⟨"JobNetsModel", "newRing", "()Z"⟩ prog_11_method_15_code 3 (Option.some .boolean) :: BIG
abbrev y_B_isJob : MethodName := ⟨"JobNetsModel", "isJob", "(I)Z"⟩
abbrev ws_B_isJob : List Cond := .code ⟨"JobNetsModel", "isJob", "(I)Z"⟩ prog_11_method_16_code 2 (Option.some .boolean) :: BIG
abbrev y_B_needs : MethodName := ⟨"JobNetsModel", "needs", "(III)I"⟩
abbrev ws_B_needs : List Cond := .code ⟨"JobNetsModel", "needs", "(III)I"⟩ prog_11_method_17_code 4 (Option.some .int) :: BIG
abbrev y_B_calendar : MethodName := ⟨"JobNetsModel", "calendar", "(II)I"⟩
abbrev ws_B_calendar : List Cond := .code ⟨"JobNetsModel", "calendar", "(II)I"⟩ prog_11_method_18_code 4 (Option.some .int) :: BIG
abbrev y_B_holiday : MethodName := ⟨"JobNetsModel", "holiday", "(J)I"⟩
abbrev ws_B_holiday : List Cond := .code ⟨"JobNetsModel", "holiday", "(J)I"⟩ prog_11_method_19_code 4 (Option.some .int) :: BIG
abbrev y_B_isWork : MethodName := ⟨"JobNetsModel", "isWork", "(J)Z"⟩
abbrev ws_B_isWork : List Cond := .code ⟨"JobNetsModel", "isWork", "(J)Z"⟩ prog_11_method_20_code 5 (Option.some .boolean) :: BIG
abbrev y_B_has : MethodName := ⟨"JobNetsModel", "has", "(IJ)Z"⟩
abbrev ws_B_has : List Cond := .code ⟨"JobNetsModel", "has", "(IJ)Z"⟩ prog_11_method_21_code 8 (Option.some .boolean) :: BIG
abbrev y_B_next : MethodName := ⟨"JobNetsModel", "next", "(IJ)J"⟩
abbrev ws_B_next : List Cond := .code ⟨"JobNetsModel", "next", "(IJ)J"⟩ prog_11_method_22_code 6 (Option.some .long) :: BIG
abbrev y_B_isSo : MethodName := ⟨"JobNetsModel", "isSo", "(II)Z"⟩
abbrev ws_B_isSo : List Cond := .code ⟨"JobNetsModel", "isSo", "(II)Z"⟩ prog_11_method_23_code 4 (Option.some .boolean) :: BIG
abbrev y_B_canStart : MethodName := ⟨"JobNetsModel", "canStart", "(I)Z"⟩
abbrev ws_B_canStart : List Cond := .code ⟨"JobNetsModel", "canStart", "(I)Z"⟩ prog_11_method_24_code 4 (Option.some .boolean) :: BIG
abbrev y_B_begin : MethodName := ⟨"JobNetsModel", "begin", "()I"⟩
abbrev ws_B_begin : List Cond := .code ⟨"JobNetsModel", "begin", "()I"⟩ prog_11_method_25_code 4 (Option.some .int) :: BIG
abbrev y_B_plan : MethodName := ⟨"JobNetsModel", "plan", "(J)I"⟩
abbrev ws_B_plan : List Cond := .code ⟨"JobNetsModel", "plan", "(J)I"⟩ prog_11_method_26_code 5 (Option.some .int) :: BIG
abbrev y_B_event : MethodName := ⟨"JobNetsModel", "event", "(IIIJ)I"⟩
abbrev ws_B_event : List Cond := .code ⟨"JobNetsModel", "event", "(IIIJ)I"⟩ prog_11_method_27_code 6 (Option.some .int) :: BIG
abbrev y_B_rerun : MethodName := ⟨"JobNetsModel", "rerun", "(I)I"⟩
abbrev ws_B_rerun : List Cond := .code ⟨"JobNetsModel", "rerun", "(I)I"⟩ prog_11_method_28_code 6 (Option.some .int) :: BIG
abbrev y_B_started : MethodName := ⟨"JobNetsModel", "started", "(II)I"⟩
abbrev ws_B_started : List Cond := .code ⟨"JobNetsModel", "started", "(II)I"⟩ prog_11_method_29_code 3 (Option.some .int) :: BIG
abbrev y_B_ring : MethodName := ⟨"JobNetsModel", "ring", "(I)I"⟩
abbrev ws_B_ring : List Cond := .code ⟨"JobNetsModel", "ring", "(I)I"⟩ prog_11_method_30_code 2 (Option.some .int) :: BIG
abbrev y_B_critical : MethodName := ⟨"JobNetsModel", "critical", "(I)I"⟩
abbrev ws_B_critical : List Cond := .code ⟨"JobNetsModel", "critical", "(I)I"⟩ prog_11_method_31_code 8 (Option.some .int) :: BIG
abbrev y_B_mean : MethodName := ⟨"JobNetsModel", "mean", "(II)J"⟩
abbrev ws_B_mean : List Cond := .code ⟨"JobNetsModel", "mean", "(II)J"⟩ prog_11_method_32_code 4 (Option.some .long) :: BIG
abbrev y_B_late : MethodName := ⟨"JobNetsModel", "late", "(JI)I"⟩
abbrev ws_B_late : List Cond := .code ⟨"JobNetsModel", "late", "(JI)I"⟩ prog_11_method_33_code 9 (Option.some .int) :: BIG
abbrev y_B_state : MethodName := ⟨"JobNetsModel", "state", "(I)I"⟩
abbrev ws_B_state : List Cond := .code ⟨"JobNetsModel", "state", "(I)I"⟩ prog_11_method_34_code 2 (Option.some .int) :: BIG
abbrev y_B_count : MethodName := ⟨"JobNetsModel", "count", "(I)I"⟩
abbrev ws_B_count : List Cond := .code ⟨"JobNetsModel", "count", "(I)I"⟩ prog_11_method_35_code 5 (Option.some .int) :: BIG
abbrev y_JA_fill : MethodName := ⟨"java/util/Arrays", "fill", "([JJ)V"⟩
abbrev ws_JA_fill : List Cond := .code ⟨"java/util/Arrays", "fill", "([JJ)V"⟩ prog_18_method_101_code 5 (Option.none : Option FieldType) :: BIG
abbrev y_JA_fill2 : MethodName := ⟨"java/util/Arrays", "fill", "([II)V"⟩
abbrev ws_JA_fill2 : List Cond := .code ⟨"java/util/Arrays", "fill", "([II)V"⟩ prog_18_method_103_code 4 (Option.none : Option FieldType) :: BIG
abbrev y_JI_bitCount : MethodName := ⟨"java/lang/Integer", "bitCount", "(I)I"⟩
abbrev ws_JI_bitCount : List Cond := .code ⟨"java/lang/Integer", "bitCount", "(I)I"⟩ prog_14_method_49_code 1 (Option.some .int) :: BIG
abbrev y_Cal_make : MethodName := ⟨"JobNets$Calendars", "make", "(II)I"⟩
abbrev ws_Cal_make : List Cond := .code ⟨"JobNets$Calendars", "make", "(II)I"⟩ prog_2_method_2_code 3 (Option.some .int) :: BIG
abbrev y_Cal_turnHoliday : MethodName := ⟨"JobNets$Calendars", "turnHoliday", "(I)I"⟩
abbrev ws_Cal_turnHoliday : List Cond := .code ⟨"JobNets$Calendars", "turnHoliday", "(I)I"⟩ prog_2_method_4_code 3 (Option.some .int) :: BIG
abbrev y_Cal_hasDay : MethodName := ⟨"JobNets$Calendars", "hasDay", "(II)Z"⟩
abbrev ws_Cal_hasDay : List Cond := .code ⟨"JobNets$Calendars", "hasDay", "(II)Z"⟩ prog_2_method_7_code 4 (Option.some .boolean) :: BIG
abbrev y_Kep_forget : MethodName := ⟨"JobNets$KeptTimes", "forget", "()V"⟩
abbrev ws_Kep_forget : List Cond := .code ⟨"JobNets$KeptTimes", "forget", "()V"⟩ prog_3_method_2_code 1 (Option.none : Option FieldType) :: BIG
abbrev y_Lon_init : MethodName := ⟨"JobNets$LongestWay", "<init>", "()V"⟩
abbrev ws_Lon_init : List Cond := .code ⟨"JobNets$LongestWay", "<init>", "()V"⟩ prog_4_method_1_code 1 (Option.none : Option FieldType) :: BIG
abbrev y_Lon_find : MethodName := ⟨"JobNets$LongestWay", "find", "(LJobNets$Net;[I)V"⟩
abbrev ws_Lon_find : List Cond := .code ⟨"JobNets$LongestWay", "find", "(LJobNets$Net;[I)V"⟩ prog_4_method_2_code 5 (Option.none : Option FieldType) :: BIG
abbrev y_Net_clear : MethodName := ⟨"JobNets$Net", "clear", "()V"⟩
abbrev ws_Net_clear : List Cond := .code ⟨"JobNets$Net", "clear", "()V"⟩ prog_5_method_2_code 1 (Option.none : Option FieldType) :: BIG
abbrev y_Pla_drop : MethodName := ⟨"JobNets$Plan", "drop", "()V"⟩
abbrev ws_Pla_drop : List Cond := .code ⟨"JobNets$Plan", "drop", "()V"⟩ prog_6_method_2_code 1 (Option.none : Option FieldType) :: BIG
abbrev y_Pla_make : MethodName := ⟨"JobNets$Plan", "make", "(LJobNets$Net;LJobNets$Calendars;I)V"⟩
abbrev ws_Pla_make : List Cond := .code ⟨"JobNets$Plan", "make", "(LJobNets$Net;LJobNets$Calendars;I)V"⟩ prog_6_method_3_code 5 (Option.none : Option FieldType) :: BIG
abbrev y_Pla_canStart : MethodName := ⟨"JobNets$Plan", "canStart", "(LJobNets$Net;I)Z"⟩
abbrev ws_Pla_canStart : List Cond := .code ⟨"JobNets$Plan", "canStart", "(LJobNets$Net;I)Z"⟩ prog_6_method_8_code 4 (Option.some .boolean) :: BIG
abbrev y_Rin_find : MethodName := ⟨"JobNets$RingFinder", "find", "(LJobNets$Net;IILJobNets$Way;)V"⟩
abbrev ws_Rin_find : List Cond := .code ⟨"JobNets$RingFinder", "find", "(LJobNets$Net;IILJobNets$Way;)V"⟩ prog_7_method_3_code 7 (Option.none : Option FieldType) :: BIG
abbrev y_Tex_parseNeed : MethodName := ⟨"JobNets$TextReader", "parseNeed", "(I)Z"⟩
abbrev ws_Tex_parseNeed : List Cond := .code ⟨"JobNets$TextReader", "parseNeed", "(I)Z"⟩ prog_8_method_9_code 2 (Option.some .boolean) :: BIG
abbrev y_A_init : MethodName := ⟨"JobNets", "<init>", "()V"⟩
abbrev ws_A_init : List Cond := .code ⟨"JobNets", "<init>", "()V"⟩ prog_1_method_1_code 1 (Option.none : Option FieldType) :: BIG
abbrev y_A_calendar : MethodName := ⟨"JobNets", "calendar", "(II)I"⟩
abbrev ws_A_calendar : List Cond := .code ⟨"JobNets", "calendar", "(II)I"⟩ prog_1_method_4_code 3 (Option.some .int) :: BIG
abbrev y_A_holiday : MethodName := ⟨"JobNets", "holiday", "(J)I"⟩
abbrev ws_A_holiday : List Cond := .code ⟨"JobNets", "holiday", "(J)I"⟩ prog_1_method_5_code 3 (Option.some .int) :: BIG
abbrev y_A_needs : MethodName := ⟨"JobNets", "needs", "(III)I"⟩
abbrev ws_A_needs : List Cond := .code ⟨"JobNets", "needs", "(III)I"⟩ prog_1_method_6_code 4 (Option.some .int) :: BIG
abbrev y_A_critical : MethodName := ⟨"JobNets", "critical", "(I)I"⟩
abbrev ws_A_critical : List Cond := .code ⟨"JobNets", "critical", "(I)I"⟩ prog_1_method_13_code 2 (Option.some .int) :: BIG
abbrev y_A_late : MethodName := ⟨"JobNets", "late", "(JI)I"⟩
abbrev ws_A_late : List Cond := .code ⟨"JobNets", "late", "(JI)I"⟩ prog_1_method_15_code 6 (Option.some .int) :: BIG
abbrev y_B_read : MethodName := ⟨"JobNetsModel", "read", "()I"⟩
abbrev ws_B_read : List Cond := .code ⟨"JobNetsModel", "read", "()I"⟩ prog_11_method_12_code 4 (Option.some .int) :: BIG
abbrev y_Cal_firstDay : MethodName := ⟨"JobNets$Calendars", "firstDay", "(II)I"⟩
abbrev ws_Cal_firstDay : List Cond := .code ⟨"JobNets$Calendars", "firstDay", "(II)I"⟩ prog_2_method_6_code 4 (Option.some .int) :: BIG
abbrev y_Pla_firstToStart : MethodName := ⟨"JobNets$Plan", "firstToStart", "(LJobNets$Net;)I"⟩
abbrev ws_Pla_firstToStart : List Cond := .code ⟨"JobNets$Plan", "firstToStart", "(LJobNets$Net;)I"⟩ prog_6_method_7_code 4 (Option.some .int) :: BIG
abbrev y_Rin_findFirst : MethodName := ⟨"JobNets$RingFinder", "findFirst", "(LJobNets$Net;LJobNets$Way;)Z"⟩
abbrev ws_Rin_findFirst : List Cond := .code ⟨"JobNets$RingFinder", "findFirst", "(LJobNets$Net;LJobNets$Way;)Z"⟩ prog_7_method_2_code 6 (Option.some .boolean) :: BIG
abbrev y_Tex_parseNeeds : MethodName := ⟨"JobNets$TextReader", "parseNeeds", "(I)Z"⟩
abbrev ws_Tex_parseNeeds : List Cond := .code ⟨"JobNets$TextReader", "parseNeeds", "(I)Z"⟩ prog_8_method_8_code 3 (Option.some .boolean) :: BIG
abbrev y_A_next : MethodName := ⟨"JobNets", "next", "(IJ)J"⟩
abbrev ws_A_next : List Cond := .code ⟨"JobNets", "next", "(IJ)J"⟩ prog_1_method_7_code 4 (Option.some .long) :: BIG
abbrev y_Pla_startAll : MethodName := ⟨"JobNets$Plan", "startAll", "(LJobNets$Net;)I"⟩
abbrev ws_Pla_startAll : List Cond := .code ⟨"JobNets$Plan", "startAll", "(LJobNets$Net;)I"⟩ prog_6_method_6_code 5 (Option.some .int) :: BIG
abbrev y_Tex_parseJob : MethodName := ⟨"JobNets$TextReader", "parseJob", "(LJobNets$Net;I)Z"⟩
abbrev ws_Tex_parseJob : List Cond := .code ⟨"JobNets$TextReader", "parseJob", "(LJobNets$Net;I)Z"⟩ prog_8_method_6_code 5 (Option.some .boolean) :: BIG
abbrev y_A_plan : MethodName := ⟨"JobNets", "plan", "(J)I"⟩
abbrev ws_A_plan : List Cond := .code ⟨"JobNets", "plan", "(J)I"⟩ prog_1_method_8_code 3 (Option.some .int) :: BIG
abbrev y_A_event : MethodName := ⟨"JobNets", "event", "(IIIJ)I"⟩
abbrev ws_A_event : List Cond := .code ⟨"JobNets", "event", "(IIIJ)I"⟩ prog_1_method_9_code 6 (Option.some .int) :: BIG
abbrev y_A_rerun : MethodName := ⟨"JobNets", "rerun", "(I)I"⟩
abbrev ws_A_rerun : List Cond := .code ⟨"JobNets", "rerun", "(I)I"⟩ prog_1_method_11_code 3 (Option.some .int) :: BIG
abbrev y_Tex_parse : MethodName := ⟨"JobNets$TextReader", "parse", "(LJobNets$Net;)Z"⟩
abbrev ws_Tex_parse : List Cond := .code ⟨"JobNets$TextReader", "parse", "(LJobNets$Net;)Z"⟩ prog_8_method_5_code 3 (Option.some .boolean) :: BIG
abbrev y_A_read : MethodName := ⟨"JobNets", "read", "()I"⟩
abbrev ws_A_read : List Cond := .code ⟨"JobNets", "read", "()I"⟩ prog_1_method_3_code 4 (Option.some .int) :: BIG
