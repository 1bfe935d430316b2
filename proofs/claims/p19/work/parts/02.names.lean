-- ===== PART A: goes FIRST, ahead of the names: the tables' words, and 'selects' of the private methods out of them =====
/-- a private method of a class that the tables say can be made, by its rows of tables_1 -/
def lw_okq (q : MethodName × Nat) : Prop := (q.1.cls ≠ "java/lang/invoke/MethodHandle" ∧ q.1.cls ≠ "java/lang/invoke/VarHandle") ∧ Cond.instantiable q.1.cls q.2 ∈ tables_1 ∧ Cond.privateMethod q.1 ∈ tables_1 ∧ Cond.instanceMethod q.1 ∈ tables_1
theorem lw_p0 : lw_okq (⟨"java/lang/Throwable", "fillInStackTrace", "(I)Ljava/lang/Throwable;"⟩, 6) := ⟨⟨by decide +kernel, by decide +kernel⟩, List.mem_of_getElem? (i := 64) (by decide +kernel), List.mem_of_getElem? (i := 62) (by decide +kernel), List.mem_of_getElem? (i := 63) (by decide +kernel)⟩
theorem lw_p1 : lw_okq (⟨"BusStage", "isPassenger", "(I)Z"⟩, 2) := ⟨⟨by decide +kernel, by decide +kernel⟩, List.mem_of_getElem? (i := 168) (by decide +kernel), List.mem_of_getElem? (i := 166) (by decide +kernel), List.mem_of_getElem? (i := 167) (by decide +kernel)⟩
def lw_privs_1 : List (MethodName × Nat) := [(⟨"java/lang/Throwable", "fillInStackTrace", "(I)Ljava/lang/Throwable;"⟩, 6), (⟨"BusStage", "isPassenger", "(I)Z"⟩, 2)]
theorem lw_r1 : ∀ q ∈ lw_privs_1, lw_okq q := List.forall_mem_cons.mpr ⟨lw_p0, List.forall_mem_cons.mpr ⟨lw_p1, fun _ h => absurd h List.not_mem_nil⟩⟩
def lw_privs : List (MethodName × Nat) := lw_privs_1
def lw_tbl : List Cond := k2_sels lw_privs ++ tables_1
theorem lw_privs_ok : ∀ q ∈ lw_privs, lw_okq q := lw_r1

def RX0 : String := "BusStage$Bus"
def TX0 : u_T := fun k => match k with
  | 0 => ("BusStage$Bus", "number", "I", true)
  | 1 => ("BusStage$Bus", "at", "I", false)
  | 2 => ("BusStage$Bus", "goes", "Z", false)
  | 3 => ("BusStage$Bus", "left", "I", false)
  | 4 => ("BusStage$Bus", "seats", "I", false)
  | 5 => ("BusStage$Bus", "riders", "I", false)
  | _ => ("BusStage$Bus", "takings", "I", false)
def tyX0 : Nat → FieldType := fun k => match k with
  | 0 => .int
  | 1 => .int
  | 2 => .boolean
  | 3 => .int
  | 4 => .int
  | 5 => .int
  | _ => .int
abbrev wsX00 : List Cond := u_ws RX0 TX0 7
theorem nmX0 : ∀ a, a < 7 → ∀ b, b < 7 → a ≠ b → (TX0 a).2.1 ≠ (TX0 b).2.1 := by decide +kernel
theorem tyX0_ok : ∀ k, k < 7 → parseFieldDescriptor (TX0 k).2.2.1 = some (tyX0 k) := by decide +kernel
abbrev cX0_init : ByteArray := prog_2_method_1_code
def yX0_init : MethodName := ⟨RX0, "<init>", "(I)V"⟩
abbrev cX0_copyFrom : ByteArray := prog_2_method_2_code
def yX0_copyFrom : MethodName := ⟨RX0, "copyFrom", "(LBusStage$Bus;)V"⟩
abbrev cX0_isBunchedWith : ByteArray := prog_2_method_3_code
def yX0_isBunchedWith : MethodName := ⟨RX0, "isBunchedWith", "(LBusStage$Bus;)Z"⟩
abbrev cX0_tell : ByteArray := prog_2_method_4_code
def yX0_tell : MethodName := ⟨RX0, "tell", "(I)I"⟩
def RX1 : String := "BusStage$Line"
def TX1 : u_T := fun k => match k with
  | 0 => ("BusStage$Line", "stops", "[LBusStage$Stop;", true)
  | 1 => ("BusStage$Line", "buses", "[LBusStage$Bus;", true)
  | 2 => ("BusStage$Line", "passengers", "[LBusStage$Passenger;", true)
  | 3 => ("BusStage$Line", "busCount", "I", false)
  | 4 => ("BusStage$Line", "passengerCount", "I", false)
  | 5 => ("BusStage$Line", "minute", "I", false)
  | _ => ("BusStage$Line", "holdMinutes", "I", false)
def tyX1 : Nat → FieldType := fun k => match k with
  | 0 => .array (.object "BusStage$Stop")
  | 1 => .array (.object "BusStage$Bus")
  | 2 => .array (.object "BusStage$Passenger")
  | 3 => .int
  | 4 => .int
  | 5 => .int
  | _ => .int
abbrev wsX10 : List Cond := u_ws RX1 TX1 7
theorem nmX1 : ∀ a, a < 7 → ∀ b, b < 7 → a ≠ b → (TX1 a).2.1 ≠ (TX1 b).2.1 := by decide +kernel
theorem tyX1_ok : ∀ k, k < 7 → parseFieldDescriptor (TX1 k).2.2.1 = some (tyX1 k) := by decide +kernel
abbrev cX1_init : ByteArray := prog_3_method_1_code
def yX1_init : MethodName := ⟨RX1, "<init>", "()V"⟩
abbrev cX1_copyFrom : ByteArray := prog_3_method_2_code
def yX1_copyFrom : MethodName := ⟨RX1, "copyFrom", "(LBusStage$Line;)V"⟩
abbrev cX1_stopAt : ByteArray := prog_3_method_3_code
def yX1_stopAt : MethodName := ⟨RX1, "stopAt", "(I)LBusStage$Stop;"⟩
abbrev cX1_addBus : ByteArray := prog_3_method_4_code
def yX1_addBus : MethodName := ⟨RX1, "addBus", "(II)I"⟩
abbrev cX1_addPassenger : ByteArray := prog_3_method_5_code
def yX1_addPassenger : MethodName := ⟨RX1, "addPassenger", "(II)I"⟩
abbrev cX1_fareBetween : ByteArray := prog_3_method_6_code
def yX1_fareBetween : MethodName := ⟨RX1, "fareBetween", "(II)I"⟩
abbrev cX1_passMinutes : ByteArray := prog_3_method_7_code
def yX1_passMinutes : MethodName := ⟨RX1, "passMinutes", "(I)V"⟩
abbrev cX1_passMinute : ByteArray := prog_3_method_8_code
def yX1_passMinute : MethodName := ⟨RX1, "passMinute", "()V"⟩
abbrev cX1_driveOn : ByteArray := prog_3_method_9_code
def yX1_driveOn : MethodName := ⟨RX1, "driveOn", "(LBusStage$Bus;)V"⟩
abbrev cX1_standOn : ByteArray := prog_3_method_10_code
def yX1_standOn : MethodName := ⟨RX1, "standOn", "(LBusStage$Bus;)V"⟩
abbrev cX1_letOff : ByteArray := prog_3_method_11_code
def yX1_letOff : MethodName := ⟨RX1, "letOff", "(LBusStage$Bus;)I"⟩
abbrev cX1_letOn : ByteArray := prog_3_method_12_code
def yX1_letOn : MethodName := ⟨RX1, "letOn", "(LBusStage$Bus;)I"⟩
abbrev cX1_tellStop : ByteArray := prog_3_method_13_code
def yX1_tellStop : MethodName := ⟨RX1, "tellStop", "(II)I"⟩
abbrev cX1_tellCount : ByteArray := prog_3_method_14_code
def yX1_tellCount : MethodName := ⟨RX1, "tellCount", "(I)I"⟩
abbrev cX1_waitingAt : ByteArray := prog_3_method_15_code
def yX1_waitingAt : MethodName := ⟨RX1, "waitingAt", "(I)I"⟩
abbrev cX1_standingAt : ByteArray := prog_3_method_16_code
def yX1_standingAt : MethodName := ⟨RX1, "standingAt", "(I)I"⟩
abbrev cX1_passengersIn : ByteArray := prog_3_method_17_code
def yX1_passengersIn : MethodName := ⟨RX1, "passengersIn", "(I)I"⟩
abbrev cX1_allPaid : ByteArray := prog_3_method_18_code
def yX1_allPaid : MethodName := ⟨RX1, "allPaid", "()I"⟩
abbrev cX1_allWaited : ByteArray := prog_3_method_19_code
def yX1_allWaited : MethodName := ⟨RX1, "allWaited", "()I"⟩
abbrev cX1_bunchedPairs : ByteArray := prog_3_method_20_code
def yX1_bunchedPairs : MethodName := ⟨RX1, "bunchedPairs", "()I"⟩
def RX2 : String := "BusStage$Passenger"
def TX2 : u_T := fun k => match k with
  | 0 => ("BusStage$Passenger", "state", "I", false)
  | 1 => ("BusStage$Passenger", "at", "I", false)
  | 2 => ("BusStage$Passenger", "to", "I", false)
  | 3 => ("BusStage$Passenger", "busNumber", "I", false)
  | 4 => ("BusStage$Passenger", "paid", "I", false)
  | 5 => ("BusStage$Passenger", "waited", "I", false)
  | 6 => ("BusStage$Passenger", "lastArrival", "I", false)
  | _ => ("BusStage$Passenger", "hasTransfer", "Z", false)
def tyX2 : Nat → FieldType := fun k => match k with
  | 0 => .int
  | 1 => .int
  | 2 => .int
  | 3 => .int
  | 4 => .int
  | 5 => .int
  | 6 => .int
  | _ => .boolean
abbrev wsX20 : List Cond := u_ws RX2 TX2 8
theorem nmX2 : ∀ a, a < 8 → ∀ b, b < 8 → a ≠ b → (TX2 a).2.1 ≠ (TX2 b).2.1 := by decide +kernel
theorem tyX2_ok : ∀ k, k < 8 → parseFieldDescriptor (TX2 k).2.2.1 = some (tyX2 k) := by decide +kernel
abbrev cX2_init : ByteArray := prog_4_method_1_code
def yX2_init : MethodName := ⟨RX2, "<init>", "()V"⟩
abbrev cX2_copyFrom : ByteArray := prog_4_method_2_code
def yX2_copyFrom : MethodName := ⟨RX2, "copyFrom", "(LBusStage$Passenger;)V"⟩
abbrev cX2_waitsAt : ByteArray := prog_4_method_3_code
def yX2_waitsAt : MethodName := ⟨RX2, "waitsAt", "(I)Z"⟩
abbrev cX2_leavesAt : ByteArray := prog_4_method_4_code
def yX2_leavesAt : MethodName := ⟨RX2, "leavesAt", "(ILBusStage$Bus;)Z"⟩
abbrev cX2_waitAgain : ByteArray := prog_4_method_5_code
def yX2_waitAgain : MethodName := ⟨RX2, "waitAgain", "(II)V"⟩
abbrev cX2_getOn : ByteArray := prog_4_method_6_code
def yX2_getOn : MethodName := ⟨RX2, "getOn", "(LBusStage$Bus;I)I"⟩
abbrev cX2_getOff : ByteArray := prog_4_method_7_code
def yX2_getOff : MethodName := ⟨RX2, "getOff", "(I)V"⟩
abbrev cX2_tell : ByteArray := prog_4_method_8_code
def yX2_tell : MethodName := ⟨RX2, "tell", "(I)I"⟩
def RX3 : String := "BusStage$Stop"
def TX3 : u_T := fun k => match k with
  | 0 => ("BusStage$Stop", "minutes", "I", false)
  | 1 => ("BusStage$Stop", "stage", "I", false)
  | _ => ("BusStage$Stop", "lastLeft", "I", false)
def tyX3 : Nat → FieldType := fun k => match k with
  | 0 => .int
  | 1 => .int
  | _ => .int
abbrev wsX30 : List Cond := u_ws RX3 TX3 3
theorem nmX3 : ∀ a, a < 3 → ∀ b, b < 3 → a ≠ b → (TX3 a).2.1 ≠ (TX3 b).2.1 := by decide +kernel
theorem tyX3_ok : ∀ k, k < 3 → parseFieldDescriptor (TX3 k).2.2.1 = some (tyX3 k) := by decide +kernel
abbrev cX3_init : ByteArray := prog_5_method_1_code
def yX3_init : MethodName := ⟨RX3, "<init>", "(I)V"⟩
abbrev cX3_copyFrom : ByteArray := prog_5_method_2_code
def yX3_copyFrom : MethodName := ⟨RX3, "copyFrom", "(LBusStage$Stop;)V"⟩
abbrev cX3_letsLeave : ByteArray := prog_5_method_3_code
def yX3_letsLeave : MethodName := ⟨RX3, "letsLeave", "(II)Z"⟩
def RX4 : String := "BusStage"
def TX4 : u_T := fun k => match k with
  | 0 => ("BusStage", "line", "LBusStage$Line;", true)
  | _ => ("BusStage", "trial", "LBusStage$Line;", true)
def tyX4 : Nat → FieldType := fun k => match k with
  | 0 => .object "BusStage$Line"
  | _ => .object "BusStage$Line"
abbrev wsX40 : List Cond := u_ws RX4 TX4 2
theorem nmX4 : ∀ a, a < 2 → ∀ b, b < 2 → a ≠ b → (TX4 a).2.1 ≠ (TX4 b).2.1 := by decide +kernel
theorem tyX4_ok : ∀ k, k < 2 → parseFieldDescriptor (TX4 k).2.2.1 = some (tyX4 k) := by decide +kernel
abbrev cX4_init : ByteArray := prog_1_method_1_code
def yX4_init : MethodName := ⟨RX4, "<init>", "()V"⟩
abbrev cX4_set : ByteArray := prog_1_method_2_code
def yX4_set : MethodName := ⟨RX4, "set", "(III)I"⟩
abbrev cX4_hold : ByteArray := prog_1_method_3_code
def yX4_hold : MethodName := ⟨RX4, "hold", "(I)I"⟩
abbrev cX4_start : ByteArray := prog_1_method_4_code
def yX4_start : MethodName := ⟨RX4, "start", "(II)I"⟩
abbrev cX4_queue : ByteArray := prog_1_method_5_code
def yX4_queue : MethodName := ⟨RX4, "queue", "(II)I"⟩
abbrev cX4_change : ByteArray := prog_1_method_6_code
def yX4_change : MethodName := ⟨RX4, "change", "(II)Z"⟩
abbrev cX4_fare : ByteArray := prog_1_method_7_code
def yX4_fare : MethodName := ⟨RX4, "fare", "(II)I"⟩
abbrev cX4_bus : ByteArray := prog_1_method_8_code
def yX4_bus : MethodName := ⟨RX4, "bus", "(II)I"⟩
abbrev cX4_passenger : ByteArray := prog_1_method_9_code
def yX4_passenger : MethodName := ⟨RX4, "passenger", "(II)I"⟩
abbrev cX4_stop : ByteArray := prog_1_method_10_code
def yX4_stop : MethodName := ⟨RX4, "stop", "(II)I"⟩
abbrev cX4_count : ByteArray := prog_1_method_11_code
def yX4_count : MethodName := ⟨RX4, "count", "(I)I"⟩
abbrev cX4_go : ByteArray := prog_1_method_12_code
def yX4_go : MethodName := ⟨RX4, "go", "(I)I"⟩
abbrev cX4_arrives : ByteArray := prog_1_method_13_code
def yX4_arrives : MethodName := ⟨RX4, "arrives", "(I)I"⟩
abbrev cX4_foresee : ByteArray := prog_1_method_14_code
def yX4_foresee : MethodName := ⟨RX4, "foresee", "(II)I"⟩
abbrev cX4_advise : ByteArray := prog_1_method_15_code
def yX4_advise : MethodName := ⟨RX4, "advise", "(I)I"⟩
abbrev cX4_digest : ByteArray := prog_1_method_17_code
def yX4_digest : MethodName := ⟨RX4, "digest", "()J"⟩
abbrev cX4_isWithin : ByteArray := prog_1_method_18_code
def yX4_isWithin : MethodName := ⟨RX4, "isWithin", "(III)Z"⟩
abbrev cX4_isStop : ByteArray := prog_1_method_19_code
def yX4_isStop : MethodName := ⟨RX4, "isStop", "(I)Z"⟩
abbrev cX4_isPassenger : ByteArray := prog_1_method_20_code
def yX4_isPassenger : MethodName := ⟨RX4, "isPassenger", "(I)Z"⟩
def RX5 : String := "BusStageModel$State"
def TX5 : u_T := fun k => match k with
  | _ => ("", "", "", false)
def tyX5 : Nat → FieldType := fun k => match k with
  | _ => .int
abbrev wsX50 : List Cond := u_ws RX5 TX5 0
theorem nmX5 : ∀ a, a < 0 → ∀ b, b < 0 → a ≠ b → (TX5 a).2.1 ≠ (TX5 b).2.1 := by decide +kernel
theorem tyX5_ok : ∀ k, k < 0 → parseFieldDescriptor (TX5 k).2.2.1 = some (tyX5 k) := by decide +kernel
def RX6 : String := "BusStageModel"
def TX6 : u_T := fun k => match k with
  | _ => ("", "", "", false)
def tyX6 : Nat → FieldType := fun k => match k with
  | _ => .int
abbrev wsX60 : List Cond := u_ws RX6 TX6 0
theorem nmX6 : ∀ a, a < 0 → ∀ b, b < 0 → a ≠ b → (TX6 a).2.1 ≠ (TX6 b).2.1 := by decide +kernel
theorem tyX6_ok : ∀ k, k < 0 → parseFieldDescriptor (TX6 k).2.2.1 = some (tyX6 k) := by decide +kernel
def RJ9 : String := "java/lang/Math"
def TJ9 : u_T := fun k => match k with
  | _ => ("", "", "", false)
def tyJ9 : Nat → FieldType := fun k => match k with
  | _ => .int
abbrev wsJ90 : List Cond := u_ws RJ9 TJ9 0
theorem nmJ9 : ∀ a, a < 0 → ∀ b, b < 0 → a ≠ b → (TJ9 a).2.1 ≠ (TJ9 b).2.1 := by decide +kernel
theorem tyJ9_ok : ∀ k, k < 0 → parseFieldDescriptor (TJ9 k).2.2.1 = some (tyJ9 k) := by decide +kernel
abbrev cJ9_max_7cf53 : ByteArray := prog_13_method_65_code
def yJ9_max_7cf53 : MethodName := ⟨RJ9, "max", "(II)I"⟩
def RJ0 : String := "java/lang/String"
def TJ0 : u_T := fun k => match k with
  | _ => ("", "", "", false)
def tyJ0 : Nat → FieldType := fun k => match k with
  | _ => .int
abbrev wsJ00 : List Cond := u_ws RJ0 TJ0 0
theorem nmJ0 : ∀ a, a < 0 → ∀ b, b < 0 → a ≠ b → (TJ0 a).2.1 ≠ (TJ0 b).2.1 := by decide +kernel
theorem tyJ0_ok : ∀ k, k < 0 → parseFieldDescriptor (TJ0 k).2.2.1 = some (tyJ0 k) := by decide +kernel
def RL : String := "BusStageLaw"
abbrev cL_below : ByteArray := method_2_code
def yL_below : MethodName := ⟨RL, "below", "(II)I"⟩
abbrev cL_cell : ByteArray := method_3_code
def yL_cell : MethodName := ⟨RL, "cell", "([II)I"⟩
abbrev cL_line : ByteArray := method_4_code
def yL_line : MethodName := ⟨RL, "line", "([I)LBusStage;"⟩
abbrev cL_change : ByteArray := method_5_code
def yL_change : MethodName := ⟨RL, "change", "(LBusStage;II)I"⟩
abbrev cL_law : ByteArray := code
def yL_law : MethodName := ⟨RL, "law", "([I)Z"⟩
abbrev vwCl : List vw_C := [(RX0, TX0, 7), (RX1, TX1, 7), (RX2, TX2, 8), (RX3, TX3, 3), (RX4, TX4, 2)]
/-- the good words of the tables -/
def lw_good : List Cond := lw_tbl.filter goodWord
theorem gw {w : Cond} (i : Nat) (h : lw_tbl[i]? = some w) (hg : goodWord w = true) : w ∈ lw_good := List.mem_filter.mpr ⟨List.mem_of_getElem? h, hg⟩
theorem lw_good_tbl {w : Cond} (h : w ∈ lw_good) : w ∈ lw_tbl := (List.mem_filter.mp h).1
theorem lw_good_word {w : Cond} (h : w ∈ lw_good) : goodWord w = true := (List.mem_filter.mp h).2
/-- words that the tables alone decide, good or not -/
def lw_ext : Cond → Bool
  | .fieldLinkNest .. => true
  | .methodLinkNest .. => true
  | .declares _ => true
  | .castable .. => true
  | .privateMethod _ => true
  | _ => false
