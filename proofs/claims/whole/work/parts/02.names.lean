-- ===== PART A: goes FIRST, ahead of the names: the tables' words, and 'selects' of the private methods out of them =====
/-- a private method of a class that the tables say can be made, by its rows of tables_1 -/
def lw_okq (q : MethodName × Nat) : Prop := (q.1.cls ≠ "java/lang/invoke/MethodHandle" ∧ q.1.cls ≠ "java/lang/invoke/VarHandle") ∧ Cond.instantiable q.1.cls q.2 ∈ tables_1 ∧ Cond.privateMethod q.1 ∈ tables_1 ∧ Cond.instanceMethod q.1 ∈ tables_1
theorem lw_p0 : lw_okq (⟨"java/lang/Throwable", "fillInStackTrace", "(I)Ljava/lang/Throwable;"⟩, 6) := ⟨⟨by decide +kernel, by decide +kernel⟩, List.mem_of_getElem? (i := 280) (by decide +kernel), List.mem_of_getElem? (i := 278) (by decide +kernel), List.mem_of_getElem? (i := 279) (by decide +kernel)⟩
theorem lw_p1 : lw_okq (⟨"BusStage", "isPassenger", "(I)Z"⟩, 2) := ⟨⟨by decide +kernel, by decide +kernel⟩, List.mem_of_getElem? (i := 16) (by decide +kernel), List.mem_of_getElem? (i := 384) (by decide +kernel), List.mem_of_getElem? (i := 385) (by decide +kernel)⟩
theorem lw_p2 : lw_okq (⟨"BusStageModel", "no", "(I)I"⟩, 8) := ⟨⟨by decide +kernel, by decide +kernel⟩, List.mem_of_getElem? (i := 528) (by decide +kernel), List.mem_of_getElem? (i := 648) (by decide +kernel), List.mem_of_getElem? (i := 649) (by decide +kernel)⟩
theorem lw_p3 : lw_okq (⟨"BusStageModel", "isPassenger", "(I)Z"⟩, 8) := ⟨⟨by decide +kernel, by decide +kernel⟩, List.mem_of_getElem? (i := 528) (by decide +kernel), List.mem_of_getElem? (i := 668) (by decide +kernel), List.mem_of_getElem? (i := 669) (by decide +kernel)⟩
theorem lw_p4 : lw_okq (⟨"BusStageModel", "fareOf", "(II)I"⟩, 8) := ⟨⟨by decide +kernel, by decide +kernel⟩, List.mem_of_getElem? (i := 528) (by decide +kernel), List.mem_of_getElem? (i := 676) (by decide +kernel), List.mem_of_getElem? (i := 677) (by decide +kernel)⟩
theorem lw_p5 : lw_okq (⟨"BusStageModel", "isBus", "(I)Z"⟩, 8) := ⟨⟨by decide +kernel, by decide +kernel⟩, List.mem_of_getElem? (i := 528) (by decide +kernel), List.mem_of_getElem? (i := 684) (by decide +kernel), List.mem_of_getElem? (i := 685) (by decide +kernel)⟩
theorem lw_p6 : lw_okq (⟨"BusStageModel", "busTold", "(II)I"⟩, 8) := ⟨⟨by decide +kernel, by decide +kernel⟩, List.mem_of_getElem? (i := 528) (by decide +kernel), List.mem_of_getElem? (i := 688) (by decide +kernel), List.mem_of_getElem? (i := 689) (by decide +kernel)⟩
theorem lw_p7 : lw_okq (⟨"BusStageModel", "passengerTold", "(II)I"⟩, 8) := ⟨⟨by decide +kernel, by decide +kernel⟩, List.mem_of_getElem? (i := 528) (by decide +kernel), List.mem_of_getElem? (i := 700) (by decide +kernel), List.mem_of_getElem? (i := 701) (by decide +kernel)⟩
theorem lw_p8 : lw_okq (⟨"BusStageModel", "stopTold", "(II)I"⟩, 8) := ⟨⟨by decide +kernel, by decide +kernel⟩, List.mem_of_getElem? (i := 528) (by decide +kernel), List.mem_of_getElem? (i := 708) (by decide +kernel), List.mem_of_getElem? (i := 709) (by decide +kernel)⟩
theorem lw_p9 : lw_okq (⟨"BusStageModel", "counted", "(I)I"⟩, 8) := ⟨⟨by decide +kernel, by decide +kernel⟩, List.mem_of_getElem? (i := 528) (by decide +kernel), List.mem_of_getElem? (i := 716) (by decide +kernel), List.mem_of_getElem? (i := 717) (by decide +kernel)⟩
theorem lw_p10 : lw_okq (⟨"BusStageModel$State", "act", "(I)I"⟩, 16) := ⟨⟨by decide +kernel, by decide +kernel⟩, List.mem_of_getElem? (i := 534) (by decide +kernel), List.mem_of_getElem? (i := 744) (by decide +kernel), List.mem_of_getElem? (i := 745) (by decide +kernel)⟩
theorem lw_p11 : lw_okq (⟨"BusStageModel$State", "stand", "(I)V"⟩, 16) := ⟨⟨by decide +kernel, by decide +kernel⟩, List.mem_of_getElem? (i := 534) (by decide +kernel), List.mem_of_getElem? (i := 748) (by decide +kernel), List.mem_of_getElem? (i := 749) (by decide +kernel)⟩
theorem lw_p12 : lw_okq (⟨"BusStageModel$State", "getOff", "(I)I"⟩, 16) := ⟨⟨by decide +kernel, by decide +kernel⟩, List.mem_of_getElem? (i := 534) (by decide +kernel), List.mem_of_getElem? (i := 752) (by decide +kernel), List.mem_of_getElem? (i := 753) (by decide +kernel)⟩
theorem lw_p13 : lw_okq (⟨"BusStageModel$State", "getOn", "(I)I"⟩, 16) := ⟨⟨by decide +kernel, by decide +kernel⟩, List.mem_of_getElem? (i := 534) (by decide +kernel), List.mem_of_getElem? (i := 756) (by decide +kernel), List.mem_of_getElem? (i := 757) (by decide +kernel)⟩
theorem lw_p14 : lw_okq (⟨"BusStageModel$State", "copy", "([I[I)V"⟩, 16) := ⟨⟨by decide +kernel, by decide +kernel⟩, List.mem_of_getElem? (i := 534) (by decide +kernel), List.mem_of_getElem? (i := 770) (by decide +kernel), List.mem_of_getElem? (i := 771) (by decide +kernel)⟩
def lw_privs_1 : List (MethodName × Nat) := [(⟨"java/lang/Throwable", "fillInStackTrace", "(I)Ljava/lang/Throwable;"⟩, 6), (⟨"BusStage", "isPassenger", "(I)Z"⟩, 2), (⟨"BusStageModel", "no", "(I)I"⟩, 8), (⟨"BusStageModel", "isPassenger", "(I)Z"⟩, 8), (⟨"BusStageModel", "fareOf", "(II)I"⟩, 8), (⟨"BusStageModel", "isBus", "(I)Z"⟩, 8), (⟨"BusStageModel", "busTold", "(II)I"⟩, 8), (⟨"BusStageModel", "passengerTold", "(II)I"⟩, 8), (⟨"BusStageModel", "stopTold", "(II)I"⟩, 8), (⟨"BusStageModel", "counted", "(I)I"⟩, 8), (⟨"BusStageModel$State", "act", "(I)I"⟩, 16), (⟨"BusStageModel$State", "stand", "(I)V"⟩, 16), (⟨"BusStageModel$State", "getOff", "(I)I"⟩, 16), (⟨"BusStageModel$State", "getOn", "(I)I"⟩, 16), (⟨"BusStageModel$State", "copy", "([I[I)V"⟩, 16)]
theorem lw_r1 : ∀ q ∈ lw_privs_1, lw_okq q := List.forall_mem_cons.mpr ⟨lw_p0, List.forall_mem_cons.mpr ⟨lw_p1, List.forall_mem_cons.mpr ⟨lw_p2, List.forall_mem_cons.mpr ⟨lw_p3, List.forall_mem_cons.mpr ⟨lw_p4, List.forall_mem_cons.mpr ⟨lw_p5, List.forall_mem_cons.mpr ⟨lw_p6, List.forall_mem_cons.mpr ⟨lw_p7, List.forall_mem_cons.mpr ⟨lw_p8, List.forall_mem_cons.mpr ⟨lw_p9, List.forall_mem_cons.mpr ⟨lw_p10, List.forall_mem_cons.mpr ⟨lw_p11, List.forall_mem_cons.mpr ⟨lw_p12, List.forall_mem_cons.mpr ⟨lw_p13, List.forall_mem_cons.mpr ⟨lw_p14, fun _ h => absurd h List.not_mem_nil⟩⟩⟩⟩⟩⟩⟩⟩⟩⟩⟩⟩⟩⟩⟩
def lw_privs : List (MethodName × Nat) := lw_privs_1
def lw_tbl : List Cond := k2_sels lw_privs ++ tables_1
theorem lw_privs_ok : ∀ q ∈ lw_privs, lw_okq q := lw_r1
/-- the streams that the claim lets the run draw from -/
abbrev lw_cs : List Choice := [Jvm.Choice.named "NaN.bits"]
theorem lw_bits : nanBits ∈ lw_cs := by first | decide | exact List.mem_cons_self | simp [lw_cs, nanBits]

def RX0 : String := "BusStage$Bus"
def TX0 : u_T := fun k => match k with
  | 0 => ("BusStage$Bus", "number", "I", true)
  | 1 => ("BusStage$Bus", "at", "I", false)
  | 2 => ("BusStage$Bus", "goes", "Z", false)
  | 3 => ("BusStage$Bus", "left", "I", false)
  | 4 => ("BusStage$Bus", "seats", "I", false)
  | 5 => ("BusStage$Bus", "riders", "I", false)
  | _ => ("BusStage$Bus", "takings", "I", false)
def tyX0 : Nat → FieldType := fun k => match k with
  | 0 => .int
  | 1 => .int
  | 2 => .boolean
  | 3 => .int
  | 4 => .int
  | 5 => .int
  | _ => .int
abbrev wsX00 : List Cond := u_ws RX0 TX0 7
theorem nmX0 : ∀ a, a < 7 → ∀ b, b < 7 → a ≠ b → (TX0 a).2.1 ≠ (TX0 b).2.1 := by decide +kernel
theorem tyX0_ok : ∀ k, k < 7 → parseFieldDescriptor (TX0 k).2.2.1 = some (tyX0 k) := by decide +kernel
abbrev cX0_init : ByteArray := prog_2_method_1_code
def yX0_init : MethodName := ⟨RX0, "<init>", "(I)V"⟩
abbrev cX0_copyFrom : ByteArray := prog_2_method_2_code
def yX0_copyFrom : MethodName := ⟨RX0, "copyFrom", "(LBusStage$Bus;)V"⟩
abbrev cX0_isBunchedWith : ByteArray := prog_2_method_3_code
def yX0_isBunchedWith : MethodName := ⟨RX0, "isBunchedWith", "(LBusStage$Bus;)Z"⟩
abbrev cX0_tell : ByteArray := prog_2_method_4_code
def yX0_tell : MethodName := ⟨RX0, "tell", "(I)I"⟩
def RX1 : String := "BusStage$Line"
def TX1 : u_T := fun k => match k with
  | 0 => ("BusStage$Line", "stops", "[LBusStage$Stop;", true)
  | 1 => ("BusStage$Line", "buses", "[LBusStage$Bus;", true)
  | 2 => ("BusStage$Line", "passengers", "[LBusStage$Passenger;", true)
  | 3 => ("BusStage$Line", "busCount", "I", false)
  | 4 => ("BusStage$Line", "passengerCount", "I", false)
  | 5 => ("BusStage$Line", "minute", "I", false)
  | _ => ("BusStage$Line", "holdMinutes", "I", false)
def tyX1 : Nat → FieldType := fun k => match k with
  | 0 => .array (.object "BusStage$Stop")
  | 1 => .array (.object "BusStage$Bus")
  | 2 => .array (.object "BusStage$Passenger")
  | 3 => .int
  | 4 => .int
  | 5 => .int
  | _ => .int
abbrev wsX10 : List Cond := u_ws RX1 TX1 7
theorem nmX1 : ∀ a, a < 7 → ∀ b, b < 7 → a ≠ b → (TX1 a).2.1 ≠ (TX1 b).2.1 := by decide +kernel
theorem tyX1_ok : ∀ k, k < 7 → parseFieldDescriptor (TX1 k).2.2.1 = some (tyX1 k) := by decide +kernel
abbrev cX1_init : ByteArray := prog_3_method_1_code
def yX1_init : MethodName := ⟨RX1, "<init>", "()V"⟩
abbrev cX1_copyFrom : ByteArray := prog_3_method_2_code
def yX1_copyFrom : MethodName := ⟨RX1, "copyFrom", "(LBusStage$Line;)V"⟩
abbrev cX1_stopAt : ByteArray := prog_3_method_3_code
def yX1_stopAt : MethodName := ⟨RX1, "stopAt", "(I)LBusStage$Stop;"⟩
abbrev cX1_addBus : ByteArray := prog_3_method_4_code
def yX1_addBus : MethodName := ⟨RX1, "addBus", "(II)I"⟩
abbrev cX1_addPassenger : ByteArray := prog_3_method_5_code
def yX1_addPassenger : MethodName := ⟨RX1, "addPassenger", "(II)I"⟩
abbrev cX1_fareBetween : ByteArray := prog_3_method_6_code
def yX1_fareBetween : MethodName := ⟨RX1, "fareBetween", "(II)I"⟩
abbrev cX1_passMinutes : ByteArray := prog_3_method_7_code
def yX1_passMinutes : MethodName := ⟨RX1, "passMinutes", "(I)V"⟩
abbrev cX1_passMinute : ByteArray := prog_3_method_8_code
def yX1_passMinute : MethodName := ⟨RX1, "passMinute", "()V"⟩
abbrev cX1_driveOn : ByteArray := prog_3_method_9_code
def yX1_driveOn : MethodName := ⟨RX1, "driveOn", "(LBusStage$Bus;)V"⟩
abbrev cX1_standOn : ByteArray := prog_3_method_10_code
def yX1_standOn : MethodName := ⟨RX1, "standOn", "(LBusStage$Bus;)V"⟩
abbrev cX1_letOff : ByteArray := prog_3_method_11_code
def yX1_letOff : MethodName := ⟨RX1, "letOff", "(LBusStage$Bus;)I"⟩
abbrev cX1_letOn : ByteArray := prog_3_method_12_code
def yX1_letOn : MethodName := ⟨RX1, "letOn", "(LBusStage$Bus;)I"⟩
abbrev cX1_tellStop : ByteArray := prog_3_method_13_code
def yX1_tellStop : MethodName := ⟨RX1, "tellStop", "(II)I"⟩
abbrev cX1_tellCount : ByteArray := prog_3_method_14_code
def yX1_tellCount : MethodName := ⟨RX1, "tellCount", "(I)I"⟩
abbrev cX1_waitingAt : ByteArray := prog_3_method_15_code
def yX1_waitingAt : MethodName := ⟨RX1, "waitingAt", "(I)I"⟩
abbrev cX1_standingAt : ByteArray := prog_3_method_16_code
def yX1_standingAt : MethodName := ⟨RX1, "standingAt", "(I)I"⟩
abbrev cX1_passengersIn : ByteArray := prog_3_method_17_code
def yX1_passengersIn : MethodName := ⟨RX1, "passengersIn", "(I)I"⟩
abbrev cX1_allPaid : ByteArray := prog_3_method_18_code
def yX1_allPaid : MethodName := ⟨RX1, "allPaid", "()I"⟩
abbrev cX1_allWaited : ByteArray := prog_3_method_19_code
def yX1_allWaited : MethodName := ⟨RX1, "allWaited", "()I"⟩
abbrev cX1_bunchedPairs : ByteArray := prog_3_method_20_code
def yX1_bunchedPairs : MethodName := ⟨RX1, "bunchedPairs", "()I"⟩
def RX2 : String := "BusStage$Passenger"
def TX2 : u_T := fun k => match k with
  | 0 => ("BusStage$Passenger", "state", "I", false)
  | 1 => ("BusStage$Passenger", "at", "I", false)
  | 2 => ("BusStage$Passenger", "to", "I", false)
  | 3 => ("BusStage$Passenger", "busNumber", "I", false)
  | 4 => ("BusStage$Passenger", "paid", "I", false)
  | 5 => ("BusStage$Passenger", "waited", "I", false)
  | 6 => ("BusStage$Passenger", "lastArrival", "I", false)
  | _ => ("BusStage$Passenger", "hasTransfer", "Z", false)
def tyX2 : Nat → FieldType := fun k => match k with
  | 0 => .int
  | 1 => .int
  | 2 => .int
  | 3 => .int
  | 4 => .int
  | 5 => .int
  | 6 => .int
  | _ => .boolean
abbrev wsX20 : List Cond := u_ws RX2 TX2 8
theorem nmX2 : ∀ a, a < 8 → ∀ b, b < 8 → a ≠ b → (TX2 a).2.1 ≠ (TX2 b).2.1 := by decide +kernel
theorem tyX2_ok : ∀ k, k < 8 → parseFieldDescriptor (TX2 k).2.2.1 = some (tyX2 k) := by decide +kernel
abbrev cX2_init : ByteArray := prog_4_method_1_code
def yX2_init : MethodName := ⟨RX2, "<init>", "()V"⟩
abbrev cX2_copyFrom : ByteArray := prog_4_method_2_code
def yX2_copyFrom : MethodName := ⟨RX2, "copyFrom", "(LBusStage$Passenger;)V"⟩
abbrev cX2_waitsAt : ByteArray := prog_4_method_3_code
def yX2_waitsAt : MethodName := ⟨RX2, "waitsAt", "(I)Z"⟩
abbrev cX2_leavesAt : ByteArray := prog_4_method_4_code
def yX2_leavesAt : MethodName := ⟨RX2, "leavesAt", "(ILBusStage$Bus;)Z"⟩
abbrev cX2_waitAgain : ByteArray := prog_4_method_5_code
def yX2_waitAgain : MethodName := ⟨RX2, "waitAgain", "(II)V"⟩
abbrev cX2_getOn : ByteArray := prog_4_method_6_code
def yX2_getOn : MethodName := ⟨RX2, "getOn", "(LBusStage$Bus;I)I"⟩
abbrev cX2_getOff : ByteArray := prog_4_method_7_code
def yX2_getOff : MethodName := ⟨RX2, "getOff", "(I)V"⟩
abbrev cX2_tell : ByteArray := prog_4_method_8_code
def yX2_tell : MethodName := ⟨RX2, "tell", "(I)I"⟩
def RX3 : String := "BusStage$Stop"
def TX3 : u_T := fun k => match k with
  | 0 => ("BusStage$Stop", "minutes", "I", false)
  | 1 => ("BusStage$Stop", "stage", "I", false)
  | _ => ("BusStage$Stop", "lastLeft", "I", false)
def tyX3 : Nat → FieldType := fun k => match k with
  | 0 => .int
  | 1 => .int
  | _ => .int
abbrev wsX30 : List Cond := u_ws RX3 TX3 3
theorem nmX3 : ∀ a, a < 3 → ∀ b, b < 3 → a ≠ b → (TX3 a).2.1 ≠ (TX3 b).2.1 := by decide +kernel
theorem tyX3_ok : ∀ k, k < 3 → parseFieldDescriptor (TX3 k).2.2.1 = some (tyX3 k) := by decide +kernel
abbrev cX3_init : ByteArray := prog_5_method_1_code
def yX3_init : MethodName := ⟨RX3, "<init>", "(I)V"⟩
abbrev cX3_copyFrom : ByteArray := prog_5_method_2_code
def yX3_copyFrom : MethodName := ⟨RX3, "copyFrom", "(LBusStage$Stop;)V"⟩
abbrev cX3_letsLeave : ByteArray := prog_5_method_3_code
def yX3_letsLeave : MethodName := ⟨RX3, "letsLeave", "(II)Z"⟩
def RX4 : String := "BusStage"
def TX4 : u_T := fun k => match k with
  | 0 => ("BusStage", "line", "LBusStage$Line;", true)
  | _ => ("BusStage", "trial", "LBusStage$Line;", true)
def tyX4 : Nat → FieldType := fun k => match k with
  | 0 => .object "BusStage$Line"
  | _ => .object "BusStage$Line"
abbrev wsX40 : List Cond := u_ws RX4 TX4 2
theorem nmX4 : ∀ a, a < 2 → ∀ b, b < 2 → a ≠ b → (TX4 a).2.1 ≠ (TX4 b).2.1 := by decide +kernel
theorem tyX4_ok : ∀ k, k < 2 → parseFieldDescriptor (TX4 k).2.2.1 = some (tyX4 k) := by decide +kernel
abbrev cX4_init : ByteArray := prog_1_method_1_code
def yX4_init : MethodName := ⟨RX4, "<init>", "()V"⟩
abbrev cX4_set : ByteArray := prog_1_method_2_code
def yX4_set : MethodName := ⟨RX4, "set", "(III)I"⟩
abbrev cX4_hold : ByteArray := prog_1_method_3_code
def yX4_hold : MethodName := ⟨RX4, "hold", "(I)I"⟩
abbrev cX4_start : ByteArray := prog_1_method_4_code
def yX4_start : MethodName := ⟨RX4, "start", "(II)I"⟩
abbrev cX4_queue : ByteArray := prog_1_method_5_code
def yX4_queue : MethodName := ⟨RX4, "queue", "(II)I"⟩
abbrev cX4_change : ByteArray := prog_1_method_6_code
def yX4_change : MethodName := ⟨RX4, "change", "(II)Z"⟩
abbrev cX4_fare : ByteArray := prog_1_method_7_code
def yX4_fare : MethodName := ⟨RX4, "fare", "(II)I"⟩
abbrev cX4_bus : ByteArray := prog_1_method_8_code
def yX4_bus : MethodName := ⟨RX4, "bus", "(II)I"⟩
abbrev cX4_passenger : ByteArray := prog_1_method_9_code
def yX4_passenger : MethodName := ⟨RX4, "passenger", "(II)I"⟩
abbrev cX4_stop : ByteArray := prog_1_method_10_code
def yX4_stop : MethodName := ⟨RX4, "stop", "(II)I"⟩
abbrev cX4_count : ByteArray := prog_1_method_11_code
def yX4_count : MethodName := ⟨RX4, "count", "(I)I"⟩
abbrev cX4_go : ByteArray := prog_1_method_12_code
def yX4_go : MethodName := ⟨RX4, "go", "(I)I"⟩
abbrev cX4_arrives : ByteArray := prog_1_method_13_code
def yX4_arrives : MethodName := ⟨RX4, "arrives", "(I)I"⟩
abbrev cX4_foresee : ByteArray := prog_1_method_14_code
def yX4_foresee : MethodName := ⟨RX4, "foresee", "(II)I"⟩
abbrev cX4_advise : ByteArray := prog_1_method_15_code
def yX4_advise : MethodName := ⟨RX4, "advise", "(I)I"⟩
abbrev cX4_mean : ByteArray := prog_1_method_16_code
def yX4_mean : MethodName := ⟨RX4, "mean", "()D"⟩
abbrev cX4_digest : ByteArray := prog_1_method_17_code
def yX4_digest : MethodName := ⟨RX4, "digest", "()J"⟩
abbrev cX4_isWithin : ByteArray := prog_1_method_18_code
def yX4_isWithin : MethodName := ⟨RX4, "isWithin", "(III)Z"⟩
abbrev cX4_isStop : ByteArray := prog_1_method_19_code
def yX4_isStop : MethodName := ⟨RX4, "isStop", "(I)Z"⟩
abbrev cX4_isPassenger : ByteArray := prog_1_method_20_code
def yX4_isPassenger : MethodName := ⟨RX4, "isPassenger", "(I)Z"⟩
def RX5 : String := "BusStageModel$State"
def TX5 : u_T := fun k => match k with
  | 0 => ("BusStageModel$State", "minute", "I", false)
  | 1 => ("BusStageModel$State", "hold", "I", false)
  | 2 => ("BusStageModel$State", "latest", "[I", true)
  | 3 => ("BusStageModel$State", "at", "[I", true)
  | 4 => ("BusStageModel$State", "goes", "[I", true)
  | 5 => ("BusStageModel$State", "left", "[I", true)
  | 6 => ("BusStageModel$State", "took", "[I", true)
  | 7 => ("BusStageModel$State", "is", "[I", true)
  | 8 => ("BusStageModel$State", "where", "[I", true)
  | 9 => ("BusStageModel$State", "to", "[I", true)
  | 10 => ("BusStageModel$State", "in", "[I", true)
  | 11 => ("BusStageModel$State", "paid", "[I", true)
  | 12 => ("BusStageModel$State", "waited", "[I", true)
  | 13 => ("BusStageModel$State", "came", "[I", true)
  | 14 => ("BusStageModel$State", "changes", "[I", true)
  | _ => ("BusStageModel$State", "this$0", "LBusStageModel;", true)
def tyX5 : Nat → FieldType := fun k => match k with
  | 0 => .int
  | 1 => .int
  | 2 => .array .int
  | 3 => .array .int
  | 4 => .array .int
  | 5 => .array .int
  | 6 => .array .int
  | 7 => .array .int
  | 8 => .array .int
  | 9 => .array .int
  | 10 => .array .int
  | 11 => .array .int
  | 12 => .array .int
  | 13 => .array .int
  | 14 => .array .int
  | _ => .object "BusStageModel"
abbrev wsX50 : List Cond := u_ws RX5 TX5 16
theorem nmX5 : ∀ a, a < 16 → ∀ b, b < 16 → a ≠ b → (TX5 a).2.1 ≠ (TX5 b).2.1 := by decide +kernel
theorem tyX5_ok : ∀ k, k < 16 → parseFieldDescriptor (TX5 k).2.2.1 = some (tyX5 k) := by decide +kernel
abbrev cX5_init : ByteArray := prog_8_method_1_code
def yX5_init : MethodName := ⟨RX5, "<init>", "(LBusStageModel;)V"⟩
abbrev cX5_copy : ByteArray := prog_8_method_2_code
def yX5_copy : MethodName := ⟨RX5, "copy", "([I[I)V"⟩
abbrev cX5_become : ByteArray := prog_8_method_3_code
def yX5_become : MethodName := ⟨RX5, "become", "(LBusStageModel$State;)V"⟩
abbrev cX5_riders : ByteArray := prog_8_method_4_code
def yX5_riders : MethodName := ⟨RX5, "riders", "(I)I"⟩
abbrev cX5_getOff : ByteArray := prog_8_method_5_code
def yX5_getOff : MethodName := ⟨RX5, "getOff", "(I)I"⟩
abbrev cX5_getOn : ByteArray := prog_8_method_6_code
def yX5_getOn : MethodName := ⟨RX5, "getOn", "(I)I"⟩
abbrev cX5_act : ByteArray := prog_8_method_7_code
def yX5_act : MethodName := ⟨RX5, "act", "(I)I"⟩
abbrev cX5_stand : ByteArray := prog_8_method_8_code
def yX5_stand : MethodName := ⟨RX5, "stand", "(I)V"⟩
abbrev cX5_go : ByteArray := prog_8_method_9_code
def yX5_go : MethodName := ⟨RX5, "go", "()I"⟩
abbrev cX5_go_ : ByteArray := prog_8_method_10_code
def yX5_go_ : MethodName := ⟨RX5, "go", "(I)I"⟩
abbrev cX5_are : ByteArray := prog_8_method_11_code
def yX5_are : MethodName := ⟨RX5, "are", "(I)I"⟩
abbrev cX5_sum : ByteArray := prog_8_method_12_code
def yX5_sum : MethodName := ⟨RX5, "sum", "([I)I"⟩
abbrev cX5_bunched : ByteArray := prog_8_method_13_code
def yX5_bunched : MethodName := ⟨RX5, "bunched", "()I"⟩
def RX6 : String := "BusStageModel"
def TX6 : u_T := fun k => match k with
  | 0 => ("BusStageModel", "thrown", "I", false)
  | 1 => ("BusStageModel", "buses", "I", false)
  | 2 => ("BusStageModel", "passengers", "I", false)
  | 3 => ("BusStageModel", "minutes", "[I", true)
  | 4 => ("BusStageModel", "stage", "[I", true)
  | 5 => ("BusStageModel", "seats", "[I", true)
  | 6 => ("BusStageModel", "s", "LBusStageModel$State;", true)
  | _ => ("BusStageModel", "ahead", "LBusStageModel$State;", true)
def tyX6 : Nat → FieldType := fun k => match k with
  | 0 => .int
  | 1 => .int
  | 2 => .int
  | 3 => .array .int
  | 4 => .array .int
  | 5 => .array .int
  | 6 => .object "BusStageModel$State"
  | _ => .object "BusStageModel$State"
abbrev wsX60 : List Cond := u_ws RX6 TX6 8
theorem nmX6 : ∀ a, a < 8 → ∀ b, b < 8 → a ≠ b → (TX6 a).2.1 ≠ (TX6 b).2.1 := by decide +kernel
theorem tyX6_ok : ∀ k, k < 8 → parseFieldDescriptor (TX6 k).2.2.1 = some (tyX6 k) := by decide +kernel
abbrev cX6_init : ByteArray := prog_7_method_1_code
def yX6_init : MethodName := ⟨RX6, "<init>", "()V"⟩
abbrev cX6_thrown : ByteArray := prog_7_method_2_code
def yX6_thrown : MethodName := ⟨RX6, "thrown", "()I"⟩
abbrev cX6_no : ByteArray := prog_7_method_3_code
def yX6_no : MethodName := ⟨RX6, "no", "(I)I"⟩
abbrev cX6_isIn : ByteArray := prog_7_method_4_code
def yX6_isIn : MethodName := ⟨RX6, "isIn", "(III)Z"⟩
abbrev cX6_isStop : ByteArray := prog_7_method_5_code
def yX6_isStop : MethodName := ⟨RX6, "isStop", "(I)Z"⟩
abbrev cX6_isBus : ByteArray := prog_7_method_6_code
def yX6_isBus : MethodName := ⟨RX6, "isBus", "(I)Z"⟩
abbrev cX6_isPassenger : ByteArray := prog_7_method_7_code
def yX6_isPassenger : MethodName := ⟨RX6, "isPassenger", "(I)Z"⟩
abbrev cX6_set : ByteArray := prog_7_method_8_code
def yX6_set : MethodName := ⟨RX6, "set", "(III)I"⟩
abbrev cX6_hold : ByteArray := prog_7_method_9_code
def yX6_hold : MethodName := ⟨RX6, "hold", "(I)I"⟩
abbrev cX6_start : ByteArray := prog_7_method_10_code
def yX6_start : MethodName := ⟨RX6, "start", "(II)I"⟩
abbrev cX6_queue : ByteArray := prog_7_method_11_code
def yX6_queue : MethodName := ⟨RX6, "queue", "(II)I"⟩
abbrev cX6_change : ByteArray := prog_7_method_12_code
def yX6_change : MethodName := ⟨RX6, "change", "(II)Z"⟩
abbrev cX6_fareOf : ByteArray := prog_7_method_13_code
def yX6_fareOf : MethodName := ⟨RX6, "fareOf", "(II)I"⟩
abbrev cX6_fare : ByteArray := prog_7_method_14_code
def yX6_fare : MethodName := ⟨RX6, "fare", "(II)I"⟩
abbrev cX6_busTold : ByteArray := prog_7_method_15_code
def yX6_busTold : MethodName := ⟨RX6, "busTold", "(II)I"⟩
abbrev cX6_bus : ByteArray := prog_7_method_16_code
def yX6_bus : MethodName := ⟨RX6, "bus", "(II)I"⟩
abbrev cX6_passengerTold : ByteArray := prog_7_method_17_code
def yX6_passengerTold : MethodName := ⟨RX6, "passengerTold", "(II)I"⟩
abbrev cX6_passenger : ByteArray := prog_7_method_18_code
def yX6_passenger : MethodName := ⟨RX6, "passenger", "(II)I"⟩
abbrev cX6_stopTold : ByteArray := prog_7_method_19_code
def yX6_stopTold : MethodName := ⟨RX6, "stopTold", "(II)I"⟩
abbrev cX6_stop : ByteArray := prog_7_method_20_code
def yX6_stop : MethodName := ⟨RX6, "stop", "(II)I"⟩
abbrev cX6_counted : ByteArray := prog_7_method_21_code
def yX6_counted : MethodName := ⟨RX6, "counted", "(I)I"⟩
abbrev cX6_count : ByteArray := prog_7_method_22_code
def yX6_count : MethodName := ⟨RX6, "count", "(I)I"⟩
abbrev cX6_go : ByteArray := prog_7_method_23_code
def yX6_go : MethodName := ⟨RX6, "go", "(I)I"⟩
abbrev cX6_arrives : ByteArray := prog_7_method_24_code
def yX6_arrives : MethodName := ⟨RX6, "arrives", "(I)I"⟩
abbrev cX6_foresee : ByteArray := prog_7_method_25_code
def yX6_foresee : MethodName := ⟨RX6, "foresee", "(II)I"⟩
abbrev cX6_advise : ByteArray := prog_7_method_26_code
def yX6_advise : MethodName := ⟨RX6, "advise", "(I)I"⟩
abbrev cX6_mean : ByteArray := prog_7_method_27_code
def yX6_mean : MethodName := ⟨RX6, "mean", "()D"⟩
abbrev cX6_digest : ByteArray := prog_7_method_28_code
def yX6_digest : MethodName := ⟨RX6, "digest", "()J"⟩
def RJ0 : String := "java/lang/String"
def TJ0 : u_T := fun k => match k with
  | _ => ("", "", "", false)
def tyJ0 : Nat → FieldType := fun k => match k with
  | _ => .int
abbrev wsJ00 : List Cond := u_ws RJ0 TJ0 0
theorem nmJ0 : ∀ a, a < 0 → ∀ b, b < 0 → a ≠ b → (TJ0 a).2.1 ≠ (TJ0 b).2.1 := by decide +kernel
theorem tyJ0_ok : ∀ k, k < 0 → parseFieldDescriptor (TJ0 k).2.2.1 = some (tyJ0 k) := by decide +kernel
def RJ10 : String := "java/lang/System"
def TJ10 : u_T := fun k => match k with
  | _ => ("", "", "", false)
def tyJ10 : Nat → FieldType := fun k => match k with
  | _ => .int
abbrev wsJ100 : List Cond := u_ws RJ10 TJ10 0
theorem nmJ10 : ∀ a, a < 0 → ∀ b, b < 0 → a ≠ b → (TJ10 a).2.1 ≠ (TJ10 b).2.1 := by decide +kernel
theorem tyJ10_ok : ∀ k, k < 0 → parseFieldDescriptor (TJ10 k).2.2.1 = some (tyJ10 k) := by decide +kernel
def RL : String := "BusStageLaw"
abbrev cL_set : ByteArray := method_3_code
def yL_set : MethodName := ⟨RL, "set", "(LBusStage;III[J)I"⟩
abbrev cL_hold : ByteArray := method_4_code
def yL_hold : MethodName := ⟨RL, "hold", "(LBusStage;I[J)I"⟩
abbrev cL_start : ByteArray := method_5_code
def yL_start : MethodName := ⟨RL, "start", "(LBusStage;II[J)I"⟩
abbrev cL_queue : ByteArray := method_6_code
def yL_queue : MethodName := ⟨RL, "queue", "(LBusStage;II[J)I"⟩
abbrev cL_change : ByteArray := method_7_code
def yL_change : MethodName := ⟨RL, "change", "(LBusStage;II[J)I"⟩
abbrev cL_fare : ByteArray := method_8_code
def yL_fare : MethodName := ⟨RL, "fare", "(LBusStage;II[J)I"⟩
abbrev cL_bus : ByteArray := method_9_code
def yL_bus : MethodName := ⟨RL, "bus", "(LBusStage;II[J)I"⟩
abbrev cL_passenger : ByteArray := method_10_code
def yL_passenger : MethodName := ⟨RL, "passenger", "(LBusStage;II[J)I"⟩
abbrev cL_stop : ByteArray := method_11_code
def yL_stop : MethodName := ⟨RL, "stop", "(LBusStage;II[J)I"⟩
abbrev cL_count : ByteArray := method_12_code
def yL_count : MethodName := ⟨RL, "count", "(LBusStage;I[J)I"⟩
abbrev cL_go : ByteArray := method_13_code
def yL_go : MethodName := ⟨RL, "go", "(LBusStage;I[J)I"⟩
abbrev cL_arrives : ByteArray := method_14_code
def yL_arrives : MethodName := ⟨RL, "arrives", "(LBusStage;I[J)I"⟩
abbrev cL_foresee : ByteArray := method_15_code
def yL_foresee : MethodName := ⟨RL, "foresee", "(LBusStage;II[J)I"⟩
abbrev cL_advise : ByteArray := method_16_code
def yL_advise : MethodName := ⟨RL, "advise", "(LBusStage;I[J)I"⟩
abbrev cL_law : ByteArray := code
def yL_law : MethodName := ⟨RL, "law", "([I)Z"⟩
abbrev vwCl : List vw_C := [(RX0, TX0, 7), (RX1, TX1, 7), (RX2, TX2, 8), (RX3, TX3, 3), (RX4, TX4, 2), (RX5, TX5, 16), (RX6, TX6, 8)]
/-- the good words of the tables -/
def lw_good : List Cond := lw_tbl.filter goodWord
theorem gw {w : Cond} (i : Nat) (h : lw_tbl[i]? = some w) (hg : goodWord w = true) : w ∈ lw_good := List.mem_filter.mpr ⟨List.mem_of_getElem? h, hg⟩
theorem lw_good_tbl {w : Cond} (h : w ∈ lw_good) : w ∈ lw_tbl := (List.mem_filter.mp h).1
theorem lw_good_word {w : Cond} (h : w ∈ lw_good) : goodWord w = true := (List.mem_filter.mp h).2
/-- words that the tables alone decide, good or not -/
def lw_ext : Cond → Bool
  | .fieldLinkNest .. => true
  | .methodLinkNest .. => true
  | .declares _ => true
  | .castable .. => true
  | .privateMethod _ => true
  | _ => false
