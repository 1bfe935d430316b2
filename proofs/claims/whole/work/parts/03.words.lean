set_option maxRecDepth 20000 in
theorem q_0 : (Jvm.Cond.initialized "BusStageLaw") ∈ lw_good := gw 15 (by decide +kernel) rfl
set_option maxRecDepth 20000 in
theorem q_1 : (Jvm.Cond.initialized "BusStage") ∈ lw_good := gw 16 (by decide +kernel) rfl
set_option maxRecDepth 20000 in
theorem q_2 : (Jvm.Cond.initialized "BusStage$Line") ∈ lw_good := gw 17 (by decide +kernel) rfl
set_option maxRecDepth 20000 in
theorem q_3 : (Jvm.Cond.initialized "BusStage$Stop") ∈ lw_good := gw 18 (by decide +kernel) rfl
set_option maxRecDepth 20000 in
theorem q_4 : (Jvm.Cond.initialized "BusStage$Bus") ∈ lw_good := gw 19 (by decide +kernel) rfl
set_option maxRecDepth 20000 in
theorem q_5 : (Jvm.Cond.initialized "BusStage$Passenger") ∈ lw_good := gw 20 (by decide +kernel) rfl
set_option maxRecDepth 20000 in
theorem q_6 : (Jvm.Cond.initialized "BusStageModel") ∈ lw_good := gw 21 (by decide +kernel) rfl
set_option maxRecDepth 20000 in
theorem q_7 : (Jvm.Cond.initialized "BusStageModel$State") ∈ lw_good := gw 22 (by decide +kernel) rfl
set_option maxRecDepth 20000 in
theorem q_8 : (Jvm.Cond.initialized "java/lang/Throwable") ∈ lw_good := gw 23 (by decide +kernel) rfl
set_option maxRecDepth 20000 in
theorem q_9 : (Jvm.Cond.initialized "java/lang/Exception") ∈ lw_good := gw 24 (by decide +kernel) rfl
set_option maxRecDepth 20000 in
theorem q_10 : (Jvm.Cond.initialized "java/lang/RuntimeException") ∈ lw_good := gw 25 (by decide +kernel) rfl
set_option maxRecDepth 20000 in
theorem q_11 : (Jvm.Cond.initialized "java/lang/IndexOutOfBoundsException") ∈ lw_good := gw 26 (by decide +kernel) rfl
set_option maxRecDepth 20000 in
theorem q_12 : (Jvm.Cond.initialized "java/lang/IllegalArgumentException") ∈ lw_good := gw 27 (by decide +kernel) rfl
set_option maxRecDepth 20000 in
theorem q_13 : (Jvm.Cond.initialized "java/lang/IllegalStateException") ∈ lw_good := gw 28 (by decide +kernel) rfl
set_option maxRecDepth 20000 in
theorem q_14 : (Jvm.Cond.initialized "java/lang/System") ∈ lw_good := gw 29 (by decide +kernel) rfl
set_option maxRecDepth 20000 in
theorem q_15 : (Jvm.Cond.classLink "BusStageLaw" (8 : Nat) "BusStage") ∈ lw_good := gw 30 (by decide +kernel) rfl
set_option maxRecDepth 20000 in
theorem q_16 : (Jvm.Cond.instantiable "BusStage" (2 : Nat)) ∈ lw_good := gw 31 (by decide +kernel) rfl
set_option maxRecDepth 20000 in
theorem q_17 : (Jvm.Cond.methodLink "BusStageLaw" (61 : Nat) ({ cls := "BusStage", name := "<init>", desc := "()V" } : Jvm.MethodName)) ∈ lw_good := gw 32 (by decide +kernel) rfl
set_option maxRecDepth 20000 in
theorem q_18 : (Jvm.Cond.instanceMethod ({ cls := "BusStage", name := "<init>", desc := "()V" } : Jvm.MethodName)) ∈ lw_good := gw 33 (by decide +kernel) rfl
set_option maxRecDepth 20000 in
theorem q_19 : (Jvm.Cond.code ({ cls := "BusStage", name := "<init>", desc := "()V" } : Jvm.MethodName) prog_1_method_1_code (1 : Nat) (Option.none : Option Jvm.ClassFile.FieldType)) ∈ lw_good := gw 34 (by decide +kernel) rfl
set_option maxRecDepth 20000 in
theorem q_20 : (Jvm.Cond.methodLink "BusStage" (1 : Nat) ({ cls := "java/lang/Object", name := "<init>", desc := "()V" } : Jvm.MethodName)) ∈ lw_good := gw 35 (by decide +kernel) rfl
set_option maxRecDepth 20000 in
theorem q_21 : (Jvm.Cond.instanceMethod ({ cls := "java/lang/Object", name := "<init>", desc := "()V" } : Jvm.MethodName)) ∈ lw_good := gw 36 (by decide +kernel) rfl
set_option maxRecDepth 20000 in
theorem q_22 : (Jvm.Cond.code ({ cls := "java/lang/Object", name := "<init>", desc := "()V" } : Jvm.MethodName) object_method_1_code (1 : Nat) (Option.none : Option Jvm.ClassFile.FieldType)) ∈ lw_good := gw 37 (by decide +kernel) rfl
set_option maxRecDepth 20000 in
theorem q_23 : (Jvm.Cond.classLink "BusStage" (7 : Nat) "BusStage$Line") ∈ lw_good := gw 38 (by decide +kernel) rfl
set_option maxRecDepth 20000 in
theorem q_24 : (Jvm.Cond.instantiable "BusStage$Line" (7 : Nat)) ∈ lw_good := gw 39 (by decide +kernel) rfl
set_option maxRecDepth 20000 in
theorem q_25 : (Jvm.Cond.methodLink "BusStage" (9 : Nat) ({ cls := "BusStage$Line", name := "<init>", desc := "()V" } : Jvm.MethodName)) ∈ lw_good := gw 40 (by decide +kernel) rfl
set_option maxRecDepth 20000 in
theorem q_26 : (Jvm.Cond.instanceMethod ({ cls := "BusStage$Line", name := "<init>", desc := "()V" } : Jvm.MethodName)) ∈ lw_good := gw 41 (by decide +kernel) rfl
set_option maxRecDepth 20000 in
theorem q_27 : (Jvm.Cond.code ({ cls := "BusStage$Line", name := "<init>", desc := "()V" } : Jvm.MethodName) prog_3_method_1_code (2 : Nat) (Option.none : Option Jvm.ClassFile.FieldType)) ∈ lw_good := gw 42 (by decide +kernel) rfl
set_option maxRecDepth 20000 in
theorem q_28 : (Jvm.Cond.methodLink "BusStage$Line" (3 : Nat) ({ cls := "java/lang/Object", name := "<init>", desc := "()V" } : Jvm.MethodName)) ∈ lw_good := gw 43 (by decide +kernel) rfl
set_option maxRecDepth 20000 in
theorem q_29 : (Jvm.Cond.classLink "BusStage$Line" (9 : Nat) "BusStage$Stop") ∈ lw_good := gw 44 (by decide +kernel) rfl
set_option maxRecDepth 20000 in
theorem q_31 : (Jvm.Cond.classLink "BusStage$Line" (17 : Nat) "BusStage$Bus") ∈ lw_good := gw 46 (by decide +kernel) rfl
set_option maxRecDepth 20000 in
theorem q_33 : (Jvm.Cond.classLink "BusStage$Line" (23 : Nat) "BusStage$Passenger") ∈ lw_good := gw 48 (by decide +kernel) rfl
set_option maxRecDepth 20000 in
theorem q_35 : (Jvm.Cond.instantiable "BusStage$Stop" (3 : Nat)) ∈ lw_good := gw 50 (by decide +kernel) rfl
set_option maxRecDepth 20000 in
theorem q_36 : (Jvm.Cond.methodLink "BusStage$Line" (29 : Nat) ({ cls := "BusStage$Stop", name := "<init>", desc := "(I)V" } : Jvm.MethodName)) ∈ lw_good := gw 51 (by decide +kernel) rfl
set_option maxRecDepth 20000 in
theorem q_37 : (Jvm.Cond.instanceMethod ({ cls := "BusStage$Stop", name := "<init>", desc := "(I)V" } : Jvm.MethodName)) ∈ lw_good := gw 52 (by decide +kernel) rfl
set_option maxRecDepth 20000 in
theorem q_38 : (Jvm.Cond.code ({ cls := "BusStage$Stop", name := "<init>", desc := "(I)V" } : Jvm.MethodName) prog_5_method_1_code (2 : Nat) (Option.none : Option Jvm.ClassFile.FieldType)) ∈ lw_good := gw 53 (by decide +kernel) rfl
set_option maxRecDepth 20000 in
theorem q_39 : (Jvm.Cond.methodLink "BusStage$Stop" (3 : Nat) ({ cls := "java/lang/Object", name := "<init>", desc := "()V" } : Jvm.MethodName)) ∈ lw_good := gw 54 (by decide +kernel) rfl
set_option maxRecDepth 20000 in
theorem q_40 : (Jvm.Cond.fieldLink "BusStage$Stop" (9 : Nat) "BusStage$Stop" "minutes" "I") ∈ lw_good := gw 55 (by decide +kernel) rfl
set_option maxRecDepth 20000 in
theorem q_41 : (Jvm.Cond.fieldLink "BusStage" (43 : Nat) "BusStage$Stop" "minutes" "I") ∈ lw_good := gw 56 (by decide +kernel) rfl
set_option maxRecDepth 20000 in
theorem q_42 : (Jvm.Cond.fieldLink "BusStage$Line" (113 : Nat) "BusStage$Stop" "minutes" "I") ∈ lw_good := gw 57 (by decide +kernel) rfl
set_option maxRecDepth 20000 in
theorem q_43 : (Jvm.Cond.fieldLink "BusStage$Stop" (15 : Nat) "BusStage$Stop" "stage" "I") ∈ lw_good := gw 58 (by decide +kernel) rfl
set_option maxRecDepth 20000 in
theorem q_44 : (Jvm.Cond.fieldLink "BusStage" (49 : Nat) "BusStage$Stop" "stage" "I") ∈ lw_good := gw 59 (by decide +kernel) rfl
set_option maxRecDepth 20000 in
theorem q_45 : (Jvm.Cond.fieldLink "BusStage$Line" (77 : Nat) "BusStage$Stop" "stage" "I") ∈ lw_good := gw 60 (by decide +kernel) rfl
set_option maxRecDepth 20000 in
theorem q_46 : (Jvm.Cond.fieldLink "BusStage$Stop" (18 : Nat) "BusStage$Stop" "lastLeft" "I") ∈ lw_good := gw 61 (by decide +kernel) rfl
set_option maxRecDepth 20000 in
theorem q_47 : (Jvm.Cond.fieldLink "BusStage$Line" (110 : Nat) "BusStage$Stop" "lastLeft" "I") ∈ lw_good := gw 62 (by decide +kernel) rfl
set_option maxRecDepth 20000 in
theorem q_55 : (Jvm.Cond.instantiable "BusStage$Bus" (7 : Nat)) ∈ lw_good := gw 70 (by decide +kernel) rfl
set_option maxRecDepth 20000 in
theorem q_56 : (Jvm.Cond.methodLink "BusStage$Line" (32 : Nat) ({ cls := "BusStage$Bus", name := "<init>", desc := "(I)V" } : Jvm.MethodName)) ∈ lw_good := gw 71 (by decide +kernel) rfl
set_option maxRecDepth 20000 in
theorem q_57 : (Jvm.Cond.instanceMethod ({ cls := "BusStage$Bus", name := "<init>", desc := "(I)V" } : Jvm.MethodName)) ∈ lw_good := gw 72 (by decide +kernel) rfl
set_option maxRecDepth 20000 in
theorem q_58 : (Jvm.Cond.code ({ cls := "BusStage$Bus", name := "<init>", desc := "(I)V" } : Jvm.MethodName) prog_2_method_1_code (2 : Nat) (Option.none : Option Jvm.ClassFile.FieldType)) ∈ lw_good := gw 73 (by decide +kernel) rfl
set_option maxRecDepth 20000 in
theorem q_59 : (Jvm.Cond.methodLink "BusStage$Bus" (1 : Nat) ({ cls := "java/lang/Object", name := "<init>", desc := "()V" } : Jvm.MethodName)) ∈ lw_good := gw 74 (by decide +kernel) rfl
set_option maxRecDepth 20000 in
theorem q_60 : (Jvm.Cond.fieldLink "BusStage$Bus" (7 : Nat) "BusStage$Bus" "number" "I") ∈ lw_good := gw 75 (by decide +kernel) rfl
set_option maxRecDepth 20000 in
theorem q_61 : (Jvm.Cond.fieldLink "BusStage$Passenger" (37 : Nat) "BusStage$Bus" "number" "I") ∈ lw_good := gw 76 (by decide +kernel) rfl
set_option maxRecDepth 20000 in
theorem q_62 : (Jvm.Cond.fieldLink "BusStage$Line" (66 : Nat) "BusStage$Bus" "number" "I") ∈ lw_good := gw 77 (by decide +kernel) rfl
set_option maxRecDepth 20000 in
theorem q_63 : (Jvm.Cond.fieldLink "BusStage$Bus" (13 : Nat) "BusStage$Bus" "at" "I") ∈ lw_good := gw 78 (by decide +kernel) rfl
set_option maxRecDepth 20000 in
theorem q_64 : (Jvm.Cond.fieldLink "BusStage$Line" (57 : Nat) "BusStage$Bus" "at" "I") ∈ lw_good := gw 79 (by decide +kernel) rfl
set_option maxRecDepth 20000 in
theorem q_65 : (Jvm.Cond.fieldLink "BusStage$Bus" (16 : Nat) "BusStage$Bus" "goes" "Z") ∈ lw_good := gw 80 (by decide +kernel) rfl
set_option maxRecDepth 20000 in
theorem q_66 : (Jvm.Cond.fieldLink "BusStage$Line" (83 : Nat) "BusStage$Bus" "goes" "Z") ∈ lw_good := gw 81 (by decide +kernel) rfl
set_option maxRecDepth 20000 in
theorem q_67 : (Jvm.Cond.fieldLink "BusStage$Bus" (20 : Nat) "BusStage$Bus" "left" "I") ∈ lw_good := gw 82 (by decide +kernel) rfl
set_option maxRecDepth 20000 in
theorem q_68 : (Jvm.Cond.fieldLink "BusStage$Line" (60 : Nat) "BusStage$Bus" "left" "I") ∈ lw_good := gw 83 (by decide +kernel) rfl
set_option maxRecDepth 20000 in
theorem q_69 : (Jvm.Cond.fieldLink "BusStage$Bus" (23 : Nat) "BusStage$Bus" "seats" "I") ∈ lw_good := gw 84 (by decide +kernel) rfl
set_option maxRecDepth 20000 in
theorem q_70 : (Jvm.Cond.fieldLink "BusStage$Line" (63 : Nat) "BusStage$Bus" "seats" "I") ∈ lw_good := gw 85 (by decide +kernel) rfl
set_option maxRecDepth 20000 in
theorem q_71 : (Jvm.Cond.fieldLink "BusStage$Bus" (26 : Nat) "BusStage$Bus" "riders" "I") ∈ lw_good := gw 86 (by decide +kernel) rfl
set_option maxRecDepth 20000 in
theorem q_72 : (Jvm.Cond.fieldLink "BusStage$Line" (123 : Nat) "BusStage$Bus" "riders" "I") ∈ lw_good := gw 87 (by decide +kernel) rfl
set_option maxRecDepth 20000 in
theorem q_73 : (Jvm.Cond.fieldLink "BusStage$Bus" (29 : Nat) "BusStage$Bus" "takings" "I") ∈ lw_good := gw 88 (by decide +kernel) rfl
set_option maxRecDepth 20000 in
theorem q_74 : (Jvm.Cond.fieldLink "BusStage$Line" (130 : Nat) "BusStage$Bus" "takings" "I") ∈ lw_good := gw 89 (by decide +kernel) rfl
set_option maxRecDepth 20000 in
theorem q_90 : (Jvm.Cond.instantiable "BusStage$Passenger" (8 : Nat)) ∈ lw_good := gw 105 (by decide +kernel) rfl
set_option maxRecDepth 20000 in
theorem q_91 : (Jvm.Cond.methodLink "BusStage$Line" (33 : Nat) ({ cls := "BusStage$Passenger", name := "<init>", desc := "()V" } : Jvm.MethodName)) ∈ lw_good := gw 106 (by decide +kernel) rfl
set_option maxRecDepth 20000 in
theorem q_92 : (Jvm.Cond.instanceMethod ({ cls := "BusStage$Passenger", name := "<init>", desc := "()V" } : Jvm.MethodName)) ∈ lw_good := gw 107 (by decide +kernel) rfl
set_option maxRecDepth 20000 in
theorem q_93 : (Jvm.Cond.code ({ cls := "BusStage$Passenger", name := "<init>", desc := "()V" } : Jvm.MethodName) prog_4_method_1_code (1 : Nat) (Option.none : Option Jvm.ClassFile.FieldType)) ∈ lw_good := gw 108 (by decide +kernel) rfl
set_option maxRecDepth 20000 in
theorem q_94 : (Jvm.Cond.methodLink "BusStage$Passenger" (3 : Nat) ({ cls := "java/lang/Object", name := "<init>", desc := "()V" } : Jvm.MethodName)) ∈ lw_good := gw 109 (by decide +kernel) rfl
set_option maxRecDepth 20000 in
theorem q_95 : (Jvm.Cond.fieldLink "BusStage$Passenger" (18 : Nat) "BusStage$Passenger" "state" "I") ∈ lw_good := gw 110 (by decide +kernel) rfl
set_option maxRecDepth 20000 in
theorem q_96 : (Jvm.Cond.fieldLink "BusStage" (90 : Nat) "BusStage$Passenger" "state" "I") ∈ lw_good := gw 111 (by decide +kernel) rfl
set_option maxRecDepth 20000 in
theorem q_97 : (Jvm.Cond.fieldLink "BusStage$Line" (93 : Nat) "BusStage$Passenger" "state" "I") ∈ lw_good := gw 112 (by decide +kernel) rfl
set_option maxRecDepth 20000 in
theorem q_98 : (Jvm.Cond.fieldLink "BusStage$Passenger" (21 : Nat) "BusStage$Passenger" "at" "I") ∈ lw_good := gw 113 (by decide +kernel) rfl
set_option maxRecDepth 20000 in
theorem q_99 : (Jvm.Cond.fieldLink "BusStage$Line" (69 : Nat) "BusStage$Passenger" "at" "I") ∈ lw_good := gw 114 (by decide +kernel) rfl
set_option maxRecDepth 20000 in
theorem q_100 : (Jvm.Cond.fieldLink "BusStage" (95 : Nat) "BusStage$Passenger" "at" "I") ∈ lw_good := gw 115 (by decide +kernel) rfl
set_option maxRecDepth 20000 in
theorem q_101 : (Jvm.Cond.fieldLink "BusStage$Passenger" (24 : Nat) "BusStage$Passenger" "to" "I") ∈ lw_good := gw 116 (by decide +kernel) rfl
set_option maxRecDepth 20000 in
theorem q_102 : (Jvm.Cond.fieldLink "BusStage$Line" (70 : Nat) "BusStage$Passenger" "to" "I") ∈ lw_good := gw 117 (by decide +kernel) rfl
set_option maxRecDepth 20000 in
theorem q_103 : (Jvm.Cond.fieldLink "BusStage$Passenger" (9 : Nat) "BusStage$Passenger" "busNumber" "I") ∈ lw_good := gw 118 (by decide +kernel) rfl
set_option maxRecDepth 20000 in
theorem q_104 : (Jvm.Cond.fieldLink "BusStage$Passenger" (27 : Nat) "BusStage$Passenger" "paid" "I") ∈ lw_good := gw 119 (by decide +kernel) rfl
set_option maxRecDepth 20000 in
theorem q_105 : (Jvm.Cond.fieldLink "BusStage$Line" (161 : Nat) "BusStage$Passenger" "paid" "I") ∈ lw_good := gw 120 (by decide +kernel) rfl
set_option maxRecDepth 20000 in
theorem q_106 : (Jvm.Cond.fieldLink "BusStage$Passenger" (30 : Nat) "BusStage$Passenger" "waited" "I") ∈ lw_good := gw 121 (by decide +kernel) rfl
set_option maxRecDepth 20000 in
theorem q_107 : (Jvm.Cond.fieldLink "BusStage$Line" (96 : Nat) "BusStage$Passenger" "waited" "I") ∈ lw_good := gw 122 (by decide +kernel) rfl
set_option maxRecDepth 20000 in
theorem q_108 : (Jvm.Cond.fieldLink "BusStage$Passenger" (15 : Nat) "BusStage$Passenger" "lastArrival" "I") ∈ lw_good := gw 123 (by decide +kernel) rfl
set_option maxRecDepth 20000 in
theorem q_109 : (Jvm.Cond.fieldLink "BusStage$Passenger" (33 : Nat) "BusStage$Passenger" "hasTransfer" "Z") ∈ lw_good := gw 124 (by decide +kernel) rfl
set_option maxRecDepth 20000 in
theorem q_110 : (Jvm.Cond.fieldLink "BusStage" (107 : Nat) "BusStage$Passenger" "hasTransfer" "Z") ∈ lw_good := gw 125 (by decide +kernel) rfl
set_option maxRecDepth 20000 in
theorem q_128 : (Jvm.Cond.fieldLink "BusStage$Line" (11 : Nat) "BusStage$Line" "stops" "[LBusStage$Stop;") ∈ lw_good := gw 143 (by decide +kernel) rfl
set_option maxRecDepth 20000 in
theorem q_129 : (Jvm.Cond.fieldLink "BusStage$Line" (19 : Nat) "BusStage$Line" "buses" "[LBusStage$Bus;") ∈ lw_good := gw 144 (by decide +kernel) rfl
set_option maxRecDepth 20000 in
theorem q_130 : (Jvm.Cond.fieldLink "BusStage" (116 : Nat) "BusStage$Line" "buses" "[LBusStage$Bus;") ∈ lw_good := gw 145 (by decide +kernel) rfl
set_option maxRecDepth 20000 in
theorem q_131 : (Jvm.Cond.fieldLink "BusStage$Line" (25 : Nat) "BusStage$Line" "passengers" "[LBusStage$Passenger;") ∈ lw_good := gw 146 (by decide +kernel) rfl
set_option maxRecDepth 20000 in
theorem q_132 : (Jvm.Cond.fieldLink "BusStage" (86 : Nat) "BusStage$Line" "passengers" "[LBusStage$Passenger;") ∈ lw_good := gw 147 (by decide +kernel) rfl
set_option maxRecDepth 20000 in
theorem q_133 : (Jvm.Cond.fieldLink "BusStage$Line" (38 : Nat) "BusStage$Line" "busCount" "I") ∈ lw_good := gw 148 (by decide +kernel) rfl
set_option maxRecDepth 20000 in
theorem q_134 : (Jvm.Cond.fieldLink "BusStage" (59 : Nat) "BusStage$Line" "busCount" "I") ∈ lw_good := gw 149 (by decide +kernel) rfl
set_option maxRecDepth 20000 in
theorem q_135 : (Jvm.Cond.fieldLink "BusStage$Line" (45 : Nat) "BusStage$Line" "passengerCount" "I") ∈ lw_good := gw 150 (by decide +kernel) rfl
set_option maxRecDepth 20000 in
theorem q_136 : (Jvm.Cond.fieldLink "BusStage" (73 : Nat) "BusStage$Line" "passengerCount" "I") ∈ lw_good := gw 151 (by decide +kernel) rfl
set_option maxRecDepth 20000 in
theorem q_137 : (Jvm.Cond.fieldLink "BusStage$Line" (51 : Nat) "BusStage$Line" "minute" "I") ∈ lw_good := gw 152 (by decide +kernel) rfl
set_option maxRecDepth 20000 in
theorem q_138 : (Jvm.Cond.fieldLink "BusStage" (100 : Nat) "BusStage$Line" "minute" "I") ∈ lw_good := gw 153 (by decide +kernel) rfl
set_option maxRecDepth 20000 in
theorem q_139 : (Jvm.Cond.fieldLink "BusStage$Line" (54 : Nat) "BusStage$Line" "holdMinutes" "I") ∈ lw_good := gw 154 (by decide +kernel) rfl
set_option maxRecDepth 20000 in
theorem q_140 : (Jvm.Cond.fieldLink "BusStage" (54 : Nat) "BusStage$Line" "holdMinutes" "I") ∈ lw_good := gw 155 (by decide +kernel) rfl
set_option maxRecDepth 20000 in
theorem q_156 : (Jvm.Cond.fieldLink "BusStage" (10 : Nat) "BusStage" "line" "LBusStage$Line;") ∈ lw_good := gw 171 (by decide +kernel) rfl
set_option maxRecDepth 20000 in
theorem q_157 : (Jvm.Cond.fieldLink "BusStage" (16 : Nat) "BusStage" "trial" "LBusStage$Line;") ∈ lw_good := gw 172 (by decide +kernel) rfl
set_option maxRecDepth 20000 in
theorem q_163 : (Jvm.Cond.methodLink "BusStageLaw" (116 : Nat) ({ cls := "BusStage", name := "mean", desc := "()D" } : Jvm.MethodName)) ∈ lw_good := gw 178 (by decide +kernel) rfl
set_option maxRecDepth 20000 in
theorem q_164 : (Jvm.Cond.instanceMethod ({ cls := "BusStage", name := "mean", desc := "()D" } : Jvm.MethodName)) ∈ lw_good := gw 179 (by decide +kernel) rfl
set_option maxRecDepth 20000 in
theorem q_165 : (Jvm.Cond.selects "BusStage" ({ cls := "BusStage", name := "mean", desc := "()D" } : Jvm.MethodName) ({ cls := "BusStage", name := "mean", desc := "()D" } : Jvm.MethodName)) ∈ lw_good := gw 180 (by decide +kernel) rfl
set_option maxRecDepth 20000 in
theorem q_166 : (Jvm.Cond.code ({ cls := "BusStage", name := "mean", desc := "()D" } : Jvm.MethodName) prog_1_method_16_code (2 : Nat) (Option.some Jvm.ClassFile.FieldType.double)) ∈ lw_good := gw 181 (by decide +kernel) rfl
set_option maxRecDepth 20000 in
theorem q_167 : (Jvm.Cond.methodLink "BusStage" (161 : Nat) ({ cls := "BusStage$Line", name := "allWaited", desc := "()I" } : Jvm.MethodName)) ∈ lw_good := gw 182 (by decide +kernel) rfl
set_option maxRecDepth 20000 in
theorem q_168 : (Jvm.Cond.instanceMethod ({ cls := "BusStage$Line", name := "allWaited", desc := "()I" } : Jvm.MethodName)) ∈ lw_good := gw 183 (by decide +kernel) rfl
set_option maxRecDepth 20000 in
theorem q_169 : (Jvm.Cond.selects "BusStage$Line" ({ cls := "BusStage$Line", name := "allWaited", desc := "()I" } : Jvm.MethodName) ({ cls := "BusStage$Line", name := "allWaited", desc := "()I" } : Jvm.MethodName)) ∈ lw_good := gw 184 (by decide +kernel) rfl
set_option maxRecDepth 20000 in
theorem q_170 : (Jvm.Cond.code ({ cls := "BusStage$Line", name := "allWaited", desc := "()I" } : Jvm.MethodName) prog_3_method_19_code (3 : Nat) (Option.some Jvm.ClassFile.FieldType.int)) ∈ lw_good := gw 185 (by decide +kernel) rfl
set_option maxRecDepth 20000 in
theorem q_171 : (Jvm.Cond.methodLink "BusStageLaw" (121 : Nat) ({ cls := "BusStage", name := "digest", desc := "()J" } : Jvm.MethodName)) ∈ lw_good := gw 186 (by decide +kernel) rfl
set_option maxRecDepth 20000 in
theorem q_172 : (Jvm.Cond.instanceMethod ({ cls := "BusStage", name := "digest", desc := "()J" } : Jvm.MethodName)) ∈ lw_good := gw 187 (by decide +kernel) rfl
set_option maxRecDepth 20000 in
theorem q_173 : (Jvm.Cond.selects "BusStage" ({ cls := "BusStage", name := "digest", desc := "()J" } : Jvm.MethodName) ({ cls := "BusStage", name := "digest", desc := "()J" } : Jvm.MethodName)) ∈ lw_good := gw 188 (by decide +kernel) rfl
set_option maxRecDepth 20000 in
theorem q_174 : (Jvm.Cond.code ({ cls := "BusStage", name := "digest", desc := "()J" } : Jvm.MethodName) prog_1_method_17_code (5 : Nat) (Option.some Jvm.ClassFile.FieldType.long)) ∈ lw_good := gw 189 (by decide +kernel) rfl
set_option maxRecDepth 20000 in
theorem q_175 : (Jvm.Cond.constantLong "BusStage" (167 : Nat) (1039 : Int64)) ∈ lw_good := gw 190 (by decide +kernel) rfl
set_option maxRecDepth 20000 in
theorem q_176 : (Jvm.Cond.constantLong "BusStage" (169 : Nat) (31 : Int64)) ∈ lw_good := gw 191 (by decide +kernel) rfl
set_option maxRecDepth 20000 in
theorem q_177 : (Jvm.Cond.methodLink "BusStage" (136 : Nat) ({ cls := "BusStage$Line", name := "tellCount", desc := "(I)I" } : Jvm.MethodName)) ∈ lw_good := gw 192 (by decide +kernel) rfl
set_option maxRecDepth 20000 in
theorem q_178 : (Jvm.Cond.instanceMethod ({ cls := "BusStage$Line", name := "tellCount", desc := "(I)I" } : Jvm.MethodName)) ∈ lw_good := gw 193 (by decide +kernel) rfl
set_option maxRecDepth 20000 in
theorem q_179 : (Jvm.Cond.selects "BusStage$Line" ({ cls := "BusStage$Line", name := "tellCount", desc := "(I)I" } : Jvm.MethodName) ({ cls := "BusStage$Line", name := "tellCount", desc := "(I)I" } : Jvm.MethodName)) ∈ lw_good := gw 194 (by decide +kernel) rfl
set_option maxRecDepth 20000 in
theorem q_180 : (Jvm.Cond.code ({ cls := "BusStage$Line", name := "tellCount", desc := "(I)I" } : Jvm.MethodName) prog_3_method_14_code (2 : Nat) (Option.some Jvm.ClassFile.FieldType.int)) ∈ lw_good := gw 195 (by decide +kernel) rfl
set_option maxRecDepth 20000 in
theorem q_181 : (Jvm.Cond.methodLink "BusStage$Line" (148 : Nat) ({ cls := "BusStage$Line", name := "passengersIn", desc := "(I)I" } : Jvm.MethodName)) ∈ lw_good := gw 196 (by decide +kernel) rfl
set_option maxRecDepth 20000 in
theorem q_182 : (Jvm.Cond.instanceMethod ({ cls := "BusStage$Line", name := "passengersIn", desc := "(I)I" } : Jvm.MethodName)) ∈ lw_good := gw 197 (by decide +kernel) rfl
set_option maxRecDepth 20000 in
theorem q_183 : (Jvm.Cond.selects "BusStage$Line" ({ cls := "BusStage$Line", name := "passengersIn", desc := "(I)I" } : Jvm.MethodName) ({ cls := "BusStage$Line", name := "passengersIn", desc := "(I)I" } : Jvm.MethodName)) ∈ lw_good := gw 198 (by decide +kernel) rfl
set_option maxRecDepth 20000 in
theorem q_184 : (Jvm.Cond.code ({ cls := "BusStage$Line", name := "passengersIn", desc := "(I)I" } : Jvm.MethodName) prog_3_method_17_code (4 : Nat) (Option.some Jvm.ClassFile.FieldType.int)) ∈ lw_good := gw 199 (by decide +kernel) rfl
set_option maxRecDepth 20000 in
theorem q_185 : (Jvm.Cond.methodLink "BusStage$Line" (151 : Nat) ({ cls := "BusStage$Line", name := "allPaid", desc := "()I" } : Jvm.MethodName)) ∈ lw_good := gw 200 (by decide +kernel) rfl
set_option maxRecDepth 20000 in
theorem q_186 : (Jvm.Cond.instanceMethod ({ cls := "BusStage$Line", name := "allPaid", desc := "()I" } : Jvm.MethodName)) ∈ lw_good := gw 201 (by decide +kernel) rfl
set_option maxRecDepth 20000 in
theorem q_187 : (Jvm.Cond.selects "BusStage$Line" ({ cls := "BusStage$Line", name := "allPaid", desc := "()I" } : Jvm.MethodName) ({ cls := "BusStage$Line", name := "allPaid", desc := "()I" } : Jvm.MethodName)) ∈ lw_good := gw 202 (by decide +kernel) rfl
set_option maxRecDepth 20000 in
theorem q_188 : (Jvm.Cond.code ({ cls := "BusStage$Line", name := "allPaid", desc := "()I" } : Jvm.MethodName) prog_3_method_18_code (3 : Nat) (Option.some Jvm.ClassFile.FieldType.int)) ∈ lw_good := gw 203 (by decide +kernel) rfl
set_option maxRecDepth 20000 in
theorem q_189 : (Jvm.Cond.methodLink "BusStage$Line" (155 : Nat) ({ cls := "BusStage$Line", name := "allWaited", desc := "()I" } : Jvm.MethodName)) ∈ lw_good := gw 204 (by decide +kernel) rfl
set_option maxRecDepth 20000 in
theorem q_190 : (Jvm.Cond.methodLink "BusStage$Line" (158 : Nat) ({ cls := "BusStage$Line", name := "bunchedPairs", desc := "()I" } : Jvm.MethodName)) ∈ lw_good := gw 205 (by decide +kernel) rfl
set_option maxRecDepth 20000 in
theorem q_191 : (Jvm.Cond.instanceMethod ({ cls := "BusStage$Line", name := "bunchedPairs", desc := "()I" } : Jvm.MethodName)) ∈ lw_good := gw 206 (by decide +kernel) rfl
set_option maxRecDepth 20000 in
theorem q_192 : (Jvm.Cond.selects "BusStage$Line" ({ cls := "BusStage$Line", name := "bunchedPairs", desc := "()I" } : Jvm.MethodName) ({ cls := "BusStage$Line", name := "bunchedPairs", desc := "()I" } : Jvm.MethodName)) ∈ lw_good := gw 207 (by decide +kernel) rfl
set_option maxRecDepth 20000 in
theorem q_193 : (Jvm.Cond.code ({ cls := "BusStage$Line", name := "bunchedPairs", desc := "()I" } : Jvm.MethodName) prog_3_method_20_code (4 : Nat) (Option.some Jvm.ClassFile.FieldType.int)) ∈ lw_good := gw 208 (by decide +kernel) rfl
set_option maxRecDepth 20000 in
theorem q_194 : (Jvm.Cond.methodLink "BusStage$Line" (164 : Nat) ({ cls := "BusStage$Bus", name := "isBunchedWith", desc := "(LBusStage$Bus;)Z" } : Jvm.MethodName)) ∈ lw_good := gw 209 (by decide +kernel) rfl
set_option maxRecDepth 20000 in
theorem q_195 : (Jvm.Cond.instanceMethod ({ cls := "BusStage$Bus", name := "isBunchedWith", desc := "(LBusStage$Bus;)Z" } : Jvm.MethodName)) ∈ lw_good := gw 210 (by decide +kernel) rfl
set_option maxRecDepth 20000 in
theorem q_196 : (Jvm.Cond.selects "BusStage$Bus" ({ cls := "BusStage$Bus", name := "isBunchedWith", desc := "(LBusStage$Bus;)Z" } : Jvm.MethodName) ({ cls := "BusStage$Bus", name := "isBunchedWith", desc := "(LBusStage$Bus;)Z" } : Jvm.MethodName)) ∈ lw_good := gw 211 (by decide +kernel) rfl
set_option maxRecDepth 20000 in
theorem q_197 : (Jvm.Cond.code ({ cls := "BusStage$Bus", name := "isBunchedWith", desc := "(LBusStage$Bus;)Z" } : Jvm.MethodName) prog_2_method_3_code (2 : Nat) (Option.some Jvm.ClassFile.FieldType.boolean)) ∈ lw_good := gw 212 (by decide +kernel) rfl
set_option maxRecDepth 20000 in
theorem q_198 : (Jvm.Cond.methodLink "BusStage" (131 : Nat) ({ cls := "BusStage$Line", name := "tellStop", desc := "(II)I" } : Jvm.MethodName)) ∈ lw_good := gw 213 (by decide +kernel) rfl
set_option maxRecDepth 20000 in
theorem q_199 : (Jvm.Cond.instanceMethod ({ cls := "BusStage$Line", name := "tellStop", desc := "(II)I" } : Jvm.MethodName)) ∈ lw_good := gw 214 (by decide +kernel) rfl
set_option maxRecDepth 20000 in
theorem q_200 : (Jvm.Cond.selects "BusStage$Line" ({ cls := "BusStage$Line", name := "tellStop", desc := "(II)I" } : Jvm.MethodName) ({ cls := "BusStage$Line", name := "tellStop", desc := "(II)I" } : Jvm.MethodName)) ∈ lw_good := gw 215 (by decide +kernel) rfl
set_option maxRecDepth 20000 in
theorem q_201 : (Jvm.Cond.code ({ cls := "BusStage$Line", name := "tellStop", desc := "(II)I" } : Jvm.MethodName) prog_3_method_13_code (3 : Nat) (Option.some Jvm.ClassFile.FieldType.int)) ∈ lw_good := gw 216 (by decide +kernel) rfl
set_option maxRecDepth 20000 in
theorem q_202 : (Jvm.Cond.methodLink "BusStage$Line" (73 : Nat) ({ cls := "BusStage$Line", name := "stopAt", desc := "(I)LBusStage$Stop;" } : Jvm.MethodName)) ∈ lw_good := gw 217 (by decide +kernel) rfl
set_option maxRecDepth 20000 in
theorem q_203 : (Jvm.Cond.instanceMethod ({ cls := "BusStage$Line", name := "stopAt", desc := "(I)LBusStage$Stop;" } : Jvm.MethodName)) ∈ lw_good := gw 218 (by decide +kernel) rfl
set_option maxRecDepth 20000 in
theorem q_204 : (Jvm.Cond.selects "BusStage$Line" ({ cls := "BusStage$Line", name := "stopAt", desc := "(I)LBusStage$Stop;" } : Jvm.MethodName) ({ cls := "BusStage$Line", name := "stopAt", desc := "(I)LBusStage$Stop;" } : Jvm.MethodName)) ∈ lw_good := gw 219 (by decide +kernel) rfl
set_option maxRecDepth 20000 in
theorem q_205 : (Jvm.Cond.code ({ cls := "BusStage$Line", name := "stopAt", desc := "(I)LBusStage$Stop;" } : Jvm.MethodName) prog_3_method_3_code (3 : Nat) (Option.some (Jvm.ClassFile.FieldType.object "BusStage$Stop"))) ∈ lw_good := gw 220 (by decide +kernel) rfl
set_option maxRecDepth 20000 in
theorem q_206 : (Jvm.Cond.methodLink "BusStage$Line" (141 : Nat) ({ cls := "BusStage$Line", name := "waitingAt", desc := "(I)I" } : Jvm.MethodName)) ∈ lw_good := gw 221 (by decide +kernel) rfl
set_option maxRecDepth 20000 in
theorem q_207 : (Jvm.Cond.instanceMethod ({ cls := "BusStage$Line", name := "waitingAt", desc := "(I)I" } : Jvm.MethodName)) ∈ lw_good := gw 222 (by decide +kernel) rfl
set_option maxRecDepth 20000 in
theorem q_208 : (Jvm.Cond.selects "BusStage$Line" ({ cls := "BusStage$Line", name := "waitingAt", desc := "(I)I" } : Jvm.MethodName) ({ cls := "BusStage$Line", name := "waitingAt", desc := "(I)I" } : Jvm.MethodName)) ∈ lw_good := gw 223 (by decide +kernel) rfl
set_option maxRecDepth 20000 in
theorem q_209 : (Jvm.Cond.code ({ cls := "BusStage$Line", name := "waitingAt", desc := "(I)I" } : Jvm.MethodName) prog_3_method_15_code (4 : Nat) (Option.some Jvm.ClassFile.FieldType.int)) ∈ lw_good := gw 224 (by decide +kernel) rfl
set_option maxRecDepth 20000 in
theorem q_210 : (Jvm.Cond.methodLink "BusStage$Line" (126 : Nat) ({ cls := "BusStage$Passenger", name := "waitsAt", desc := "(I)Z" } : Jvm.MethodName)) ∈ lw_good := gw 225 (by decide +kernel) rfl
set_option maxRecDepth 20000 in
theorem q_211 : (Jvm.Cond.instanceMethod ({ cls := "BusStage$Passenger", name := "waitsAt", desc := "(I)Z" } : Jvm.MethodName)) ∈ lw_good := gw 226 (by decide +kernel) rfl
set_option maxRecDepth 20000 in
theorem q_212 : (Jvm.Cond.selects "BusStage$Passenger" ({ cls := "BusStage$Passenger", name := "waitsAt", desc := "(I)Z" } : Jvm.MethodName) ({ cls := "BusStage$Passenger", name := "waitsAt", desc := "(I)Z" } : Jvm.MethodName)) ∈ lw_good := gw 227 (by decide +kernel) rfl
set_option maxRecDepth 20000 in
theorem q_213 : (Jvm.Cond.code ({ cls := "BusStage$Passenger", name := "waitsAt", desc := "(I)Z" } : Jvm.MethodName) prog_4_method_3_code (2 : Nat) (Option.some Jvm.ClassFile.FieldType.boolean)) ∈ lw_good := gw 228 (by decide +kernel) rfl
set_option maxRecDepth 20000 in
theorem q_214 : (Jvm.Cond.methodLink "BusStage$Line" (145 : Nat) ({ cls := "BusStage$Line", name := "standingAt", desc := "(I)I" } : Jvm.MethodName)) ∈ lw_good := gw 229 (by decide +kernel) rfl
set_option maxRecDepth 20000 in
theorem q_215 : (Jvm.Cond.instanceMethod ({ cls := "BusStage$Line", name := "standingAt", desc := "(I)I" } : Jvm.MethodName)) ∈ lw_good := gw 230 (by decide +kernel) rfl
set_option maxRecDepth 20000 in
theorem q_216 : (Jvm.Cond.selects "BusStage$Line" ({ cls := "BusStage$Line", name := "standingAt", desc := "(I)I" } : Jvm.MethodName) ({ cls := "BusStage$Line", name := "standingAt", desc := "(I)I" } : Jvm.MethodName)) ∈ lw_good := gw 231 (by decide +kernel) rfl
set_option maxRecDepth 20000 in
theorem q_217 : (Jvm.Cond.code ({ cls := "BusStage$Line", name := "standingAt", desc := "(I)I" } : Jvm.MethodName) prog_3_method_16_code (4 : Nat) (Option.some Jvm.ClassFile.FieldType.int)) ∈ lw_good := gw 232 (by decide +kernel) rfl
set_option maxRecDepth 20000 in
theorem q_218 : (Jvm.Cond.methodLink "BusStage" (120 : Nat) ({ cls := "BusStage$Bus", name := "tell", desc := "(I)I" } : Jvm.MethodName)) ∈ lw_good := gw 233 (by decide +kernel) rfl
set_option maxRecDepth 20000 in
theorem q_219 : (Jvm.Cond.instanceMethod ({ cls := "BusStage$Bus", name := "tell", desc := "(I)I" } : Jvm.MethodName)) ∈ lw_good := gw 234 (by decide +kernel) rfl
set_option maxRecDepth 20000 in
theorem q_220 : (Jvm.Cond.selects "BusStage$Bus" ({ cls := "BusStage$Bus", name := "tell", desc := "(I)I" } : Jvm.MethodName) ({ cls := "BusStage$Bus", name := "tell", desc := "(I)I" } : Jvm.MethodName)) ∈ lw_good := gw 235 (by decide +kernel) rfl
set_option maxRecDepth 20000 in
theorem q_221 : (Jvm.Cond.code ({ cls := "BusStage$Bus", name := "tell", desc := "(I)I" } : Jvm.MethodName) prog_2_method_4_code (2 : Nat) (Option.some Jvm.ClassFile.FieldType.int)) ∈ lw_good := gw 236 (by decide +kernel) rfl
set_option maxRecDepth 20000 in
theorem q_222 : (Jvm.Cond.methodLink "BusStage" (128 : Nat) ({ cls := "BusStage$Passenger", name := "tell", desc := "(I)I" } : Jvm.MethodName)) ∈ lw_good := gw 237 (by decide +kernel) rfl
set_option maxRecDepth 20000 in
theorem q_223 : (Jvm.Cond.instanceMethod ({ cls := "BusStage$Passenger", name := "tell", desc := "(I)I" } : Jvm.MethodName)) ∈ lw_good := gw 238 (by decide +kernel) rfl
set_option maxRecDepth 20000 in
theorem q_224 : (Jvm.Cond.selects "BusStage$Passenger" ({ cls := "BusStage$Passenger", name := "tell", desc := "(I)I" } : Jvm.MethodName) ({ cls := "BusStage$Passenger", name := "tell", desc := "(I)I" } : Jvm.MethodName)) ∈ lw_good := gw 239 (by decide +kernel) rfl
set_option maxRecDepth 20000 in
theorem q_225 : (Jvm.Cond.code ({ cls := "BusStage$Passenger", name := "tell", desc := "(I)I" } : Jvm.MethodName) prog_4_method_8_code (2 : Nat) (Option.some Jvm.ClassFile.FieldType.int)) ∈ lw_good := gw 240 (by decide +kernel) rfl
set_option maxRecDepth 20000 in
theorem q_226 : (Jvm.Cond.methodLink "BusStageLaw" (65 : Nat) ({ cls := "BusStageLaw", name := "set", desc := "(LBusStage;III[J)I" } : Jvm.MethodName)) ∈ lw_good := gw 241 (by decide +kernel) rfl
set_option maxRecDepth 20000 in
theorem q_227 : (Jvm.Cond.static ({ cls := "BusStageLaw", name := "set", desc := "(LBusStage;III[J)I" } : Jvm.MethodName)) ∈ lw_good := gw 242 (by decide +kernel) rfl
set_option maxRecDepth 20000 in
theorem q_228 : (Jvm.Cond.codeWith ({ cls := "BusStageLaw", name := "set", desc := "(LBusStage;III[J)I" } : Jvm.MethodName) method_3_code (6 : Nat) (Option.some Jvm.ClassFile.FieldType.int) [((0 : Nat), (12 : Nat), (15 : Nat), (13 : Nat)), ((0 : Nat), (12 : Nat), (19 : Nat), (15 : Nat))]) ∈ lw_good := gw 243 (by decide +kernel) rfl
set_option maxRecDepth 20000 in
theorem q_229 : (Jvm.Cond.classLink "BusStageLaw" (13 : Nat) "java/lang/IndexOutOfBoundsException") ∈ lw_good := gw 244 (by decide +kernel) rfl
set_option maxRecDepth 20000 in
theorem q_230 : (Jvm.Cond.classLink "BusStageLaw" (15 : Nat) "java/lang/IllegalArgumentException") ∈ lw_good := gw 245 (by decide +kernel) rfl
set_option maxRecDepth 20000 in
theorem q_231 : (Jvm.Cond.methodLink "BusStageLaw" (7 : Nat) ({ cls := "BusStage", name := "set", desc := "(III)I" } : Jvm.MethodName)) ∈ lw_good := gw 246 (by decide +kernel) rfl
set_option maxRecDepth 20000 in
theorem q_232 : (Jvm.Cond.instanceMethod ({ cls := "BusStage", name := "set", desc := "(III)I" } : Jvm.MethodName)) ∈ lw_good := gw 247 (by decide +kernel) rfl
set_option maxRecDepth 20000 in
theorem q_233 : (Jvm.Cond.selects "BusStage" ({ cls := "BusStage", name := "set", desc := "(III)I" } : Jvm.MethodName) ({ cls := "BusStage", name := "set", desc := "(III)I" } : Jvm.MethodName)) ∈ lw_good := gw 248 (by decide +kernel) rfl
set_option maxRecDepth 20000 in
theorem q_234 : (Jvm.Cond.code ({ cls := "BusStage", name := "set", desc := "(III)I" } : Jvm.MethodName) prog_1_method_2_code (6 : Nat) (Option.some Jvm.ClassFile.FieldType.int)) ∈ lw_good := gw 249 (by decide +kernel) rfl
set_option maxRecDepth 20000 in
theorem q_235 : (Jvm.Cond.methodLink "BusStage" (19 : Nat) ({ cls := "BusStage", name := "isStop", desc := "(I)Z" } : Jvm.MethodName)) ∈ lw_good := gw 250 (by decide +kernel) rfl
set_option maxRecDepth 20000 in
theorem q_236 : (Jvm.Cond.static ({ cls := "BusStage", name := "isStop", desc := "(I)Z" } : Jvm.MethodName)) ∈ lw_good := gw 251 (by decide +kernel) rfl
set_option maxRecDepth 20000 in
theorem q_237 : (Jvm.Cond.code ({ cls := "BusStage", name := "isStop", desc := "(I)Z" } : Jvm.MethodName) prog_1_method_19_code (1 : Nat) (Option.some Jvm.ClassFile.FieldType.boolean)) ∈ lw_good := gw 252 (by decide +kernel) rfl
set_option maxRecDepth 20000 in
theorem q_238 : (Jvm.Cond.methodLink "BusStage" (30 : Nat) ({ cls := "BusStage", name := "isWithin", desc := "(III)Z" } : Jvm.MethodName)) ∈ lw_good := gw 253 (by decide +kernel) rfl
set_option maxRecDepth 20000 in
theorem q_239 : (Jvm.Cond.static ({ cls := "BusStage", name := "isWithin", desc := "(III)Z" } : Jvm.MethodName)) ∈ lw_good := gw 254 (by decide +kernel) rfl
set_option maxRecDepth 20000 in
theorem q_240 : (Jvm.Cond.code ({ cls := "BusStage", name := "isWithin", desc := "(III)Z" } : Jvm.MethodName) prog_1_method_18_code (3 : Nat) (Option.some Jvm.ClassFile.FieldType.boolean)) ∈ lw_good := gw 255 (by decide +kernel) rfl
set_option maxRecDepth 20000 in
theorem q_241 : (Jvm.Cond.classLink "BusStage" (23 : Nat) "java/lang/IndexOutOfBoundsException") ∈ lw_good := gw 256 (by decide +kernel) rfl
set_option maxRecDepth 20000 in
theorem q_242 : (Jvm.Cond.instantiable "java/lang/IndexOutOfBoundsException" (6 : Nat)) ∈ lw_good := gw 257 (by decide +kernel) rfl
set_option maxRecDepth 20000 in
theorem q_243 : (Jvm.Cond.castable "java/lang/IndexOutOfBoundsException" "java/lang/IndexOutOfBoundsException") ∈ lw_tbl := List.mem_of_getElem? (i := 258) (by decide +kernel)
set_option maxRecDepth 20000 in
theorem q_250 : (Jvm.Cond.selects "java/lang/IndexOutOfBoundsException" ({ cls := "java/lang/Throwable", name := "fillInStackTrace", desc := "(I)Ljava/lang/Throwable;" } : Jvm.MethodName) ({ cls := "java/lang/Throwable", name := "fillInStackTrace", desc := "(I)Ljava/lang/Throwable;" } : Jvm.MethodName)) ∈ lw_good := gw 265 (by decide +kernel) rfl
set_option maxRecDepth 20000 in
theorem q_251 : (Jvm.Cond.selects "java/lang/IndexOutOfBoundsException" ({ cls := "java/lang/Throwable", name := "fillInStackTrace", desc := "()Ljava/lang/Throwable;" } : Jvm.MethodName) ({ cls := "java/lang/Throwable", name := "fillInStackTrace", desc := "()Ljava/lang/Throwable;" } : Jvm.MethodName)) ∈ lw_good := gw 266 (by decide +kernel) rfl
set_option maxRecDepth 20000 in
theorem q_262 : (Jvm.Cond.fieldLink "java/lang/Throwable" (198 : Nat) "java/lang/Throwable" "backtrace" "Ljava/lang/Object;") ∈ lw_good := gw 277 (by decide +kernel) rfl
set_option maxRecDepth 20000 in
theorem q_264 : (Jvm.Cond.instanceMethod ({ cls := "java/lang/Throwable", name := "<init>", desc := "()V" } : Jvm.MethodName)) ∈ lw_good := gw 279 (by decide +kernel) rfl
set_option maxRecDepth 20000 in
theorem q_265 : (Jvm.Cond.code ({ cls := "java/lang/Throwable", name := "<init>", desc := "()V" } : Jvm.MethodName) prog_16_method_1_code (1 : Nat) (Option.none : Option Jvm.ClassFile.FieldType)) ∈ lw_good := gw 280 (by decide +kernel) rfl
set_option maxRecDepth 20000 in
theorem q_266 : (Jvm.Cond.methodLink "java/lang/Throwable" (1 : Nat) ({ cls := "java/lang/Object", name := "<init>", desc := "()V" } : Jvm.MethodName)) ∈ lw_good := gw 281 (by decide +kernel) rfl
set_option maxRecDepth 20000 in
theorem q_267 : (Jvm.Cond.fieldLink "java/lang/Throwable" (13 : Nat) "java/lang/Throwable" "UNASSIGNED_STACK" "[Ljava/lang/StackTraceElement;") ∈ lw_good := gw 282 (by decide +kernel) rfl
set_option maxRecDepth 20000 in
theorem q_269 : (Jvm.Cond.fieldLink "java/lang/Throwable" (20 : Nat) "java/lang/Throwable" "SUPPRESSED_SENTINEL" "Ljava/util/List;") ∈ lw_good := gw 284 (by decide +kernel) rfl
set_option maxRecDepth 20000 in
theorem q_271 : (Jvm.Cond.methodLink "java/lang/Throwable" (27 : Nat) ({ cls := "java/lang/Throwable", name := "fillInStackTrace", desc := "()Ljava/lang/Throwable;" } : Jvm.MethodName)) ∈ lw_good := gw 286 (by decide +kernel) rfl
set_option maxRecDepth 20000 in
theorem q_272 : (Jvm.Cond.instanceMethod ({ cls := "java/lang/Throwable", name := "fillInStackTrace", desc := "()Ljava/lang/Throwable;" } : Jvm.MethodName)) ∈ lw_good := gw 287 (by decide +kernel) rfl
set_option maxRecDepth 20000 in
theorem q_274 : (Jvm.Cond.selects "java/lang/IllegalArgumentException" ({ cls := "java/lang/Throwable", name := "fillInStackTrace", desc := "()Ljava/lang/Throwable;" } : Jvm.MethodName) ({ cls := "java/lang/Throwable", name := "fillInStackTrace", desc := "()Ljava/lang/Throwable;" } : Jvm.MethodName)) ∈ lw_good := gw 289 (by decide +kernel) rfl
set_option maxRecDepth 20000 in
theorem q_275 : (Jvm.Cond.selects "java/lang/IllegalStateException" ({ cls := "java/lang/Throwable", name := "fillInStackTrace", desc := "()Ljava/lang/Throwable;" } : Jvm.MethodName) ({ cls := "java/lang/Throwable", name := "fillInStackTrace", desc := "()Ljava/lang/Throwable;" } : Jvm.MethodName)) ∈ lw_good := gw 290 (by decide +kernel) rfl
set_option maxRecDepth 20000 in
theorem q_277 : (Jvm.Cond.methodLink "java/lang/Throwable" (202 : Nat) ({ cls := "java/lang/Throwable", name := "fillInStackTrace", desc := "(I)Ljava/lang/Throwable;" } : Jvm.MethodName)) ∈ lw_good := gw 292 (by decide +kernel) rfl
set_option maxRecDepth 20000 in
theorem q_279 : (Jvm.Cond.instanceMethod ({ cls := "java/lang/Throwable", name := "fillInStackTrace", desc := "(I)Ljava/lang/Throwable;" } : Jvm.MethodName)) ∈ lw_good := gw 294 (by decide +kernel) rfl
set_option maxRecDepth 20000 in
theorem q_280 : (Jvm.Cond.instantiable "java/lang/Throwable" (6 : Nat)) ∈ lw_good := gw 295 (by decide +kernel) rfl
set_option maxRecDepth 20000 in
theorem q_281 : (Jvm.Cond.native ({ cls := "java/lang/Throwable", name := "fillInStackTrace", desc := "(I)Ljava/lang/Throwable;" } : Jvm.MethodName)) ∈ lw_good := gw 296 (by decide +kernel) rfl
set_option maxRecDepth 20000 in
theorem q_283 : (Jvm.Cond.methodLink "BusStage" (27 : Nat) ({ cls := "java/lang/IndexOutOfBoundsException", name := "<init>", desc := "(Ljava/lang/String;)V" } : Jvm.MethodName)) ∈ lw_good := gw 298 (by decide +kernel) rfl
set_option maxRecDepth 20000 in
theorem q_284 : (Jvm.Cond.instanceMethod ({ cls := "java/lang/IndexOutOfBoundsException", name := "<init>", desc := "(Ljava/lang/String;)V" } : Jvm.MethodName)) ∈ lw_good := gw 299 (by decide +kernel) rfl
set_option maxRecDepth 20000 in
theorem q_285 : (Jvm.Cond.code ({ cls := "java/lang/IndexOutOfBoundsException", name := "<init>", desc := "(Ljava/lang/String;)V" } : Jvm.MethodName) prog_12_method_2_code (2 : Nat) (Option.none : Option Jvm.ClassFile.FieldType)) ∈ lw_good := gw 300 (by decide +kernel) rfl
set_option maxRecDepth 20000 in
theorem q_286 : (Jvm.Cond.methodLink "java/lang/IndexOutOfBoundsException" (7 : Nat) ({ cls := "java/lang/RuntimeException", name := "<init>", desc := "(Ljava/lang/String;)V" } : Jvm.MethodName)) ∈ lw_good := gw 301 (by decide +kernel) rfl
set_option maxRecDepth 20000 in
theorem q_287 : (Jvm.Cond.instanceMethod ({ cls := "java/lang/RuntimeException", name := "<init>", desc := "(Ljava/lang/String;)V" } : Jvm.MethodName)) ∈ lw_good := gw 302 (by decide +kernel) rfl
set_option maxRecDepth 20000 in
theorem q_288 : (Jvm.Cond.code ({ cls := "java/lang/RuntimeException", name := "<init>", desc := "(Ljava/lang/String;)V" } : Jvm.MethodName) prog_13_method_2_code (2 : Nat) (Option.none : Option Jvm.ClassFile.FieldType)) ∈ lw_good := gw 303 (by decide +kernel) rfl
set_option maxRecDepth 20000 in
theorem q_289 : (Jvm.Cond.methodLink "java/lang/RuntimeException" (7 : Nat) ({ cls := "java/lang/Exception", name := "<init>", desc := "(Ljava/lang/String;)V" } : Jvm.MethodName)) ∈ lw_good := gw 304 (by decide +kernel) rfl
set_option maxRecDepth 20000 in
theorem q_290 : (Jvm.Cond.instanceMethod ({ cls := "java/lang/Exception", name := "<init>", desc := "(Ljava/lang/String;)V" } : Jvm.MethodName)) ∈ lw_good := gw 305 (by decide +kernel) rfl
set_option maxRecDepth 20000 in
theorem q_291 : (Jvm.Cond.code ({ cls := "java/lang/Exception", name := "<init>", desc := "(Ljava/lang/String;)V" } : Jvm.MethodName) prog_9_method_2_code (2 : Nat) (Option.none : Option Jvm.ClassFile.FieldType)) ∈ lw_good := gw 306 (by decide +kernel) rfl
set_option maxRecDepth 20000 in
theorem q_292 : (Jvm.Cond.methodLink "java/lang/Exception" (7 : Nat) ({ cls := "java/lang/Throwable", name := "<init>", desc := "(Ljava/lang/String;)V" } : Jvm.MethodName)) ∈ lw_good := gw 307 (by decide +kernel) rfl
set_option maxRecDepth 20000 in
theorem q_293 : (Jvm.Cond.instanceMethod ({ cls := "java/lang/Throwable", name := "<init>", desc := "(Ljava/lang/String;)V" } : Jvm.MethodName)) ∈ lw_good := gw 308 (by decide +kernel) rfl
set_option maxRecDepth 20000 in
theorem q_294 : (Jvm.Cond.code ({ cls := "java/lang/Throwable", name := "<init>", desc := "(Ljava/lang/String;)V" } : Jvm.MethodName) prog_16_method_2_code (2 : Nat) (Option.none : Option Jvm.ClassFile.FieldType)) ∈ lw_good := gw 309 (by decide +kernel) rfl
set_option maxRecDepth 20000 in
theorem q_295 : (Jvm.Cond.fieldLink "java/lang/Throwable" (198 : Nat) "java/lang/Throwable" "backtrace" "Ljava/lang/Object;") ∈ lw_good := gw 310 (by decide +kernel) rfl
set_option maxRecDepth 20000 in
theorem q_296 : (Jvm.Cond.fieldLink "java/lang/Throwable" (31 : Nat) "java/lang/Throwable" "detailMessage" "Ljava/lang/String;") ∈ lw_good := gw 311 (by decide +kernel) rfl
set_option maxRecDepth 20000 in
theorem q_297 : (Jvm.Cond.fieldLink "java/lang/Throwable" (7 : Nat) "java/lang/Throwable" "cause" "Ljava/lang/Throwable;") ∈ lw_good := gw 312 (by decide +kernel) rfl
set_option maxRecDepth 20000 in
theorem q_298 : (Jvm.Cond.fieldLink "java/lang/Throwable" (17 : Nat) "java/lang/Throwable" "stackTrace" "[Ljava/lang/StackTraceElement;") ∈ lw_good := gw 313 (by decide +kernel) rfl
set_option maxRecDepth 20000 in
theorem q_299 : (Jvm.Cond.fieldLink "java/lang/Throwable" (24 : Nat) "java/lang/Throwable" "suppressedExceptions" "Ljava/util/List;") ∈ lw_good := gw 314 (by decide +kernel) rfl
set_option maxRecDepth 20000 in
theorem q_308 : (Jvm.Cond.arrayClass Jvm.ClassFile.FieldType.byte) ∈ lw_good := gw 323 (by decide +kernel) rfl
set_option maxRecDepth 20000 in
theorem q_309 : (Jvm.Cond.classLink "BusStage" (34 : Nat) "java/lang/IllegalArgumentException") ∈ lw_good := gw 324 (by decide +kernel) rfl
set_option maxRecDepth 20000 in
theorem q_310 : (Jvm.Cond.instantiable "java/lang/IllegalArgumentException" (6 : Nat)) ∈ lw_good := gw 325 (by decide +kernel) rfl
set_option maxRecDepth 20000 in
theorem q_311 : (Jvm.Cond.castable "java/lang/IllegalArgumentException" "java/lang/IllegalArgumentException") ∈ lw_tbl := List.mem_of_getElem? (i := 326) (by decide +kernel)
set_option maxRecDepth 20000 in
theorem q_312 : (Jvm.Cond.selects "java/lang/IllegalArgumentException" ({ cls := "java/lang/Throwable", name := "fillInStackTrace", desc := "(I)Ljava/lang/Throwable;" } : Jvm.MethodName) ({ cls := "java/lang/Throwable", name := "fillInStackTrace", desc := "(I)Ljava/lang/Throwable;" } : Jvm.MethodName)) ∈ lw_good := gw 327 (by decide +kernel) rfl
set_option maxRecDepth 20000 in
theorem q_319 : (Jvm.Cond.methodLink "BusStage" (38 : Nat) ({ cls := "java/lang/IllegalArgumentException", name := "<init>", desc := "(Ljava/lang/String;)V" } : Jvm.MethodName)) ∈ lw_good := gw 334 (by decide +kernel) rfl
set_option maxRecDepth 20000 in
theorem q_320 : (Jvm.Cond.instanceMethod ({ cls := "java/lang/IllegalArgumentException", name := "<init>", desc := "(Ljava/lang/String;)V" } : Jvm.MethodName)) ∈ lw_good := gw 335 (by decide +kernel) rfl
set_option maxRecDepth 20000 in
theorem q_321 : (Jvm.Cond.code ({ cls := "java/lang/IllegalArgumentException", name := "<init>", desc := "(Ljava/lang/String;)V" } : Jvm.MethodName) prog_10_method_2_code (2 : Nat) (Option.none : Option Jvm.ClassFile.FieldType)) ∈ lw_good := gw 336 (by decide +kernel) rfl
set_option maxRecDepth 20000 in
theorem q_322 : (Jvm.Cond.methodLink "java/lang/IllegalArgumentException" (7 : Nat) ({ cls := "java/lang/RuntimeException", name := "<init>", desc := "(Ljava/lang/String;)V" } : Jvm.MethodName)) ∈ lw_good := gw 337 (by decide +kernel) rfl
set_option maxRecDepth 20000 in
theorem q_325 : (Jvm.Cond.methodLink "BusStage" (39 : Nat) ({ cls := "BusStage$Line", name := "stopAt", desc := "(I)LBusStage$Stop;" } : Jvm.MethodName)) ∈ lw_good := gw 340 (by decide +kernel) rfl
set_option maxRecDepth 20000 in
theorem q_326 : (Jvm.Cond.methodLink "BusStageLaw" (75 : Nat) ({ cls := "BusStageLaw", name := "hold", desc := "(LBusStage;I[J)I" } : Jvm.MethodName)) ∈ lw_good := gw 341 (by decide +kernel) rfl
set_option maxRecDepth 20000 in
theorem q_327 : (Jvm.Cond.static ({ cls := "BusStageLaw", name := "hold", desc := "(LBusStage;I[J)I" } : Jvm.MethodName)) ∈ lw_good := gw 342 (by decide +kernel) rfl
set_option maxRecDepth 20000 in
theorem q_328 : (Jvm.Cond.codeWith ({ cls := "BusStageLaw", name := "hold", desc := "(LBusStage;I[J)I" } : Jvm.MethodName) method_4_code (4 : Nat) (Option.some Jvm.ClassFile.FieldType.int) [((0 : Nat), (9 : Nat), (12 : Nat), (15 : Nat))]) ∈ lw_good := gw 343 (by decide +kernel) rfl
set_option maxRecDepth 20000 in
theorem q_329 : (Jvm.Cond.methodLink "BusStageLaw" (17 : Nat) ({ cls := "BusStage", name := "hold", desc := "(I)I" } : Jvm.MethodName)) ∈ lw_good := gw 344 (by decide +kernel) rfl
set_option maxRecDepth 20000 in
theorem q_330 : (Jvm.Cond.instanceMethod ({ cls := "BusStage", name := "hold", desc := "(I)I" } : Jvm.MethodName)) ∈ lw_good := gw 345 (by decide +kernel) rfl
set_option maxRecDepth 20000 in
theorem q_331 : (Jvm.Cond.selects "BusStage" ({ cls := "BusStage", name := "hold", desc := "(I)I" } : Jvm.MethodName) ({ cls := "BusStage", name := "hold", desc := "(I)I" } : Jvm.MethodName)) ∈ lw_good := gw 346 (by decide +kernel) rfl
set_option maxRecDepth 20000 in
theorem q_332 : (Jvm.Cond.code ({ cls := "BusStage", name := "hold", desc := "(I)I" } : Jvm.MethodName) prog_1_method_3_code (3 : Nat) (Option.some Jvm.ClassFile.FieldType.int)) ∈ lw_good := gw 347 (by decide +kernel) rfl
set_option maxRecDepth 20000 in
theorem q_334 : (Jvm.Cond.methodLink "BusStageLaw" (79 : Nat) ({ cls := "BusStageLaw", name := "start", desc := "(LBusStage;II[J)I" } : Jvm.MethodName)) ∈ lw_good := gw 349 (by decide +kernel) rfl
set_option maxRecDepth 20000 in
theorem q_335 : (Jvm.Cond.static ({ cls := "BusStageLaw", name := "start", desc := "(LBusStage;II[J)I" } : Jvm.MethodName)) ∈ lw_good := gw 350 (by decide +kernel) rfl
set_option maxRecDepth 20000 in
theorem q_336 : (Jvm.Cond.codeWith ({ cls := "BusStageLaw", name := "start", desc := "(LBusStage;II[J)I" } : Jvm.MethodName) method_5_code (5 : Nat) (Option.some Jvm.ClassFile.FieldType.int) [((0 : Nat), (10 : Nat), (13 : Nat), (13 : Nat)), ((0 : Nat), (10 : Nat), (17 : Nat), (15 : Nat)), ((0 : Nat), (10 : Nat), (21 : Nat), (25 : Nat))]) ∈ lw_good := gw 351 (by decide +kernel) rfl
set_option maxRecDepth 20000 in
theorem q_337 : (Jvm.Cond.classLink "BusStageLaw" (25 : Nat) "java/lang/IllegalStateException") ∈ lw_good := gw 352 (by decide +kernel) rfl
set_option maxRecDepth 20000 in
theorem q_338 : (Jvm.Cond.methodLink "BusStageLaw" (21 : Nat) ({ cls := "BusStage", name := "start", desc := "(II)I" } : Jvm.MethodName)) ∈ lw_good := gw 353 (by decide +kernel) rfl
set_option maxRecDepth 20000 in
theorem q_339 : (Jvm.Cond.instanceMethod ({ cls := "BusStage", name := "start", desc := "(II)I" } : Jvm.MethodName)) ∈ lw_good := gw 354 (by decide +kernel) rfl
set_option maxRecDepth 20000 in
theorem q_340 : (Jvm.Cond.selects "BusStage" ({ cls := "BusStage", name := "start", desc := "(II)I" } : Jvm.MethodName) ({ cls := "BusStage", name := "start", desc := "(II)I" } : Jvm.MethodName)) ∈ lw_good := gw 355 (by decide +kernel) rfl
set_option maxRecDepth 20000 in
theorem q_341 : (Jvm.Cond.code ({ cls := "BusStage", name := "start", desc := "(II)I" } : Jvm.MethodName) prog_1_method_4_code (3 : Nat) (Option.some Jvm.ClassFile.FieldType.int)) ∈ lw_good := gw 356 (by decide +kernel) rfl
set_option maxRecDepth 20000 in
theorem q_343 : (Jvm.Cond.classLink "BusStage" (62 : Nat) "java/lang/IllegalStateException") ∈ lw_good := gw 358 (by decide +kernel) rfl
set_option maxRecDepth 20000 in
theorem q_344 : (Jvm.Cond.instantiable "java/lang/IllegalStateException" (6 : Nat)) ∈ lw_good := gw 359 (by decide +kernel) rfl
set_option maxRecDepth 20000 in
theorem q_345 : (Jvm.Cond.castable "java/lang/IllegalStateException" "java/lang/IllegalStateException") ∈ lw_tbl := List.mem_of_getElem? (i := 360) (by decide +kernel)
set_option maxRecDepth 20000 in
theorem q_346 : (Jvm.Cond.selects "java/lang/IllegalStateException" ({ cls := "java/lang/Throwable", name := "fillInStackTrace", desc := "(I)Ljava/lang/Throwable;" } : Jvm.MethodName) ({ cls := "java/lang/Throwable", name := "fillInStackTrace", desc := "(I)Ljava/lang/Throwable;" } : Jvm.MethodName)) ∈ lw_good := gw 361 (by decide +kernel) rfl
set_option maxRecDepth 20000 in
theorem q_353 : (Jvm.Cond.methodLink "BusStage" (66 : Nat) ({ cls := "java/lang/IllegalStateException", name := "<init>", desc := "(Ljava/lang/String;)V" } : Jvm.MethodName)) ∈ lw_good := gw 368 (by decide +kernel) rfl
set_option maxRecDepth 20000 in
theorem q_354 : (Jvm.Cond.instanceMethod ({ cls := "java/lang/IllegalStateException", name := "<init>", desc := "(Ljava/lang/String;)V" } : Jvm.MethodName)) ∈ lw_good := gw 369 (by decide +kernel) rfl
set_option maxRecDepth 20000 in
theorem q_355 : (Jvm.Cond.code ({ cls := "java/lang/IllegalStateException", name := "<init>", desc := "(Ljava/lang/String;)V" } : Jvm.MethodName) prog_11_method_2_code (2 : Nat) (Option.none : Option Jvm.ClassFile.FieldType)) ∈ lw_good := gw 370 (by decide +kernel) rfl
set_option maxRecDepth 20000 in
theorem q_356 : (Jvm.Cond.methodLink "java/lang/IllegalStateException" (7 : Nat) ({ cls := "java/lang/RuntimeException", name := "<init>", desc := "(Ljava/lang/String;)V" } : Jvm.MethodName)) ∈ lw_good := gw 371 (by decide +kernel) rfl
set_option maxRecDepth 20000 in
theorem q_359 : (Jvm.Cond.methodLink "BusStage" (67 : Nat) ({ cls := "BusStage$Line", name := "addBus", desc := "(II)I" } : Jvm.MethodName)) ∈ lw_good := gw 374 (by decide +kernel) rfl
set_option maxRecDepth 20000 in
theorem q_360 : (Jvm.Cond.instanceMethod ({ cls := "BusStage$Line", name := "addBus", desc := "(II)I" } : Jvm.MethodName)) ∈ lw_good := gw 375 (by decide +kernel) rfl
set_option maxRecDepth 20000 in
theorem q_361 : (Jvm.Cond.selects "BusStage$Line" ({ cls := "BusStage$Line", name := "addBus", desc := "(II)I" } : Jvm.MethodName) ({ cls := "BusStage$Line", name := "addBus", desc := "(II)I" } : Jvm.MethodName)) ∈ lw_good := gw 376 (by decide +kernel) rfl
set_option maxRecDepth 20000 in
theorem q_362 : (Jvm.Cond.code ({ cls := "BusStage$Line", name := "addBus", desc := "(II)I" } : Jvm.MethodName) prog_3_method_4_code (4 : Nat) (Option.some Jvm.ClassFile.FieldType.int)) ∈ lw_good := gw 377 (by decide +kernel) rfl
set_option maxRecDepth 20000 in
theorem q_363 : (Jvm.Cond.methodLink "BusStageLaw" (83 : Nat) ({ cls := "BusStageLaw", name := "queue", desc := "(LBusStage;II[J)I" } : Jvm.MethodName)) ∈ lw_good := gw 378 (by decide +kernel) rfl
set_option maxRecDepth 20000 in
theorem q_364 : (Jvm.Cond.static ({ cls := "BusStageLaw", name := "queue", desc := "(LBusStage;II[J)I" } : Jvm.MethodName)) ∈ lw_good := gw 379 (by decide +kernel) rfl
set_option maxRecDepth 20000 in
theorem q_365 : (Jvm.Cond.codeWith ({ cls := "BusStageLaw", name := "queue", desc := "(LBusStage;II[J)I" } : Jvm.MethodName) method_6_code (5 : Nat) (Option.some Jvm.ClassFile.FieldType.int) [((0 : Nat), (10 : Nat), (13 : Nat), (13 : Nat)), ((0 : Nat), (10 : Nat), (17 : Nat), (15 : Nat)), ((0 : Nat), (10 : Nat), (21 : Nat), (25 : Nat))]) ∈ lw_good := gw 380 (by decide +kernel) rfl
set_option maxRecDepth 20000 in
theorem q_366 : (Jvm.Cond.methodLink "BusStageLaw" (27 : Nat) ({ cls := "BusStage", name := "queue", desc := "(II)I" } : Jvm.MethodName)) ∈ lw_good := gw 381 (by decide +kernel) rfl
set_option maxRecDepth 20000 in
theorem q_367 : (Jvm.Cond.instanceMethod ({ cls := "BusStage", name := "queue", desc := "(II)I" } : Jvm.MethodName)) ∈ lw_good := gw 382 (by decide +kernel) rfl
set_option maxRecDepth 20000 in
theorem q_368 : (Jvm.Cond.selects "BusStage" ({ cls := "BusStage", name := "queue", desc := "(II)I" } : Jvm.MethodName) ({ cls := "BusStage", name := "queue", desc := "(II)I" } : Jvm.MethodName)) ∈ lw_good := gw 383 (by decide +kernel) rfl
set_option maxRecDepth 20000 in
theorem q_369 : (Jvm.Cond.code ({ cls := "BusStage", name := "queue", desc := "(II)I" } : Jvm.MethodName) prog_1_method_5_code (3 : Nat) (Option.some Jvm.ClassFile.FieldType.int)) ∈ lw_good := gw 384 (by decide +kernel) rfl
set_option maxRecDepth 20000 in
theorem q_372 : (Jvm.Cond.methodLink "BusStage" (78 : Nat) ({ cls := "BusStage$Line", name := "addPassenger", desc := "(II)I" } : Jvm.MethodName)) ∈ lw_good := gw 387 (by decide +kernel) rfl
set_option maxRecDepth 20000 in
theorem q_373 : (Jvm.Cond.instanceMethod ({ cls := "BusStage$Line", name := "addPassenger", desc := "(II)I" } : Jvm.MethodName)) ∈ lw_good := gw 388 (by decide +kernel) rfl
set_option maxRecDepth 20000 in
theorem q_374 : (Jvm.Cond.selects "BusStage$Line" ({ cls := "BusStage$Line", name := "addPassenger", desc := "(II)I" } : Jvm.MethodName) ({ cls := "BusStage$Line", name := "addPassenger", desc := "(II)I" } : Jvm.MethodName)) ∈ lw_good := gw 389 (by decide +kernel) rfl
set_option maxRecDepth 20000 in
theorem q_375 : (Jvm.Cond.code ({ cls := "BusStage$Line", name := "addPassenger", desc := "(II)I" } : Jvm.MethodName) prog_3_method_5_code (4 : Nat) (Option.some Jvm.ClassFile.FieldType.int)) ∈ lw_good := gw 390 (by decide +kernel) rfl
set_option maxRecDepth 20000 in
theorem q_376 : (Jvm.Cond.methodLink "BusStageLaw" (86 : Nat) ({ cls := "BusStageLaw", name := "change", desc := "(LBusStage;II[J)I" } : Jvm.MethodName)) ∈ lw_good := gw 391 (by decide +kernel) rfl
set_option maxRecDepth 20000 in
theorem q_377 : (Jvm.Cond.static ({ cls := "BusStageLaw", name := "change", desc := "(LBusStage;II[J)I" } : Jvm.MethodName)) ∈ lw_good := gw 392 (by decide +kernel) rfl
set_option maxRecDepth 20000 in
theorem q_378 : (Jvm.Cond.codeWith ({ cls := "BusStageLaw", name := "change", desc := "(LBusStage;II[J)I" } : Jvm.MethodName) method_7_code (5 : Nat) (Option.some Jvm.ClassFile.FieldType.int) [((0 : Nat), (17 : Nat), (20 : Nat), (13 : Nat)), ((0 : Nat), (17 : Nat), (24 : Nat), (25 : Nat))]) ∈ lw_good := gw 393 (by decide +kernel) rfl
set_option maxRecDepth 20000 in
theorem q_379 : (Jvm.Cond.methodLink "BusStageLaw" (30 : Nat) ({ cls := "BusStage", name := "change", desc := "(II)Z" } : Jvm.MethodName)) ∈ lw_good := gw 394 (by decide +kernel) rfl
set_option maxRecDepth 20000 in
theorem q_380 : (Jvm.Cond.instanceMethod ({ cls := "BusStage", name := "change", desc := "(II)Z" } : Jvm.MethodName)) ∈ lw_good := gw 395 (by decide +kernel) rfl
set_option maxRecDepth 20000 in
theorem q_381 : (Jvm.Cond.selects "BusStage" ({ cls := "BusStage", name := "change", desc := "(II)Z" } : Jvm.MethodName) ({ cls := "BusStage", name := "change", desc := "(II)Z" } : Jvm.MethodName)) ∈ lw_good := gw 396 (by decide +kernel) rfl
set_option maxRecDepth 20000 in
theorem q_382 : (Jvm.Cond.code ({ cls := "BusStage", name := "change", desc := "(II)Z" } : Jvm.MethodName) prog_1_method_6_code (4 : Nat) (Option.some Jvm.ClassFile.FieldType.boolean)) ∈ lw_good := gw 397 (by decide +kernel) rfl
set_option maxRecDepth 20000 in
theorem q_383 : (Jvm.Cond.methodLink "BusStage" (81 : Nat) ({ cls := "BusStage", name := "isPassenger", desc := "(I)Z" } : Jvm.MethodName)) ∈ lw_good := gw 398 (by decide +kernel) rfl
set_option maxRecDepth 20000 in
theorem q_385 : (Jvm.Cond.instanceMethod ({ cls := "BusStage", name := "isPassenger", desc := "(I)Z" } : Jvm.MethodName)) ∈ lw_good := gw 400 (by decide +kernel) rfl
set_option maxRecDepth 20000 in
theorem q_386 : (Jvm.Cond.code ({ cls := "BusStage", name := "isPassenger", desc := "(I)Z" } : Jvm.MethodName) prog_1_method_20_code (2 : Nat) (Option.some Jvm.ClassFile.FieldType.boolean)) ∈ lw_good := gw 401 (by decide +kernel) rfl
set_option maxRecDepth 20000 in
theorem q_389 : (Jvm.Cond.methodLink "BusStage" (103 : Nat) ({ cls := "BusStage$Passenger", name := "waitAgain", desc := "(II)V" } : Jvm.MethodName)) ∈ lw_good := gw 404 (by decide +kernel) rfl
set_option maxRecDepth 20000 in
theorem q_390 : (Jvm.Cond.instanceMethod ({ cls := "BusStage$Passenger", name := "waitAgain", desc := "(II)V" } : Jvm.MethodName)) ∈ lw_good := gw 405 (by decide +kernel) rfl
set_option maxRecDepth 20000 in
theorem q_391 : (Jvm.Cond.selects "BusStage$Passenger" ({ cls := "BusStage$Passenger", name := "waitAgain", desc := "(II)V" } : Jvm.MethodName) ({ cls := "BusStage$Passenger", name := "waitAgain", desc := "(II)V" } : Jvm.MethodName)) ∈ lw_good := gw 406 (by decide +kernel) rfl
set_option maxRecDepth 20000 in
theorem q_392 : (Jvm.Cond.code ({ cls := "BusStage$Passenger", name := "waitAgain", desc := "(II)V" } : Jvm.MethodName) prog_4_method_5_code (3 : Nat) (Option.none : Option Jvm.ClassFile.FieldType)) ∈ lw_good := gw 407 (by decide +kernel) rfl
set_option maxRecDepth 20000 in
theorem q_393 : (Jvm.Cond.methodLink "BusStageLaw" (89 : Nat) ({ cls := "BusStageLaw", name := "fare", desc := "(LBusStage;II[J)I" } : Jvm.MethodName)) ∈ lw_good := gw 408 (by decide +kernel) rfl
set_option maxRecDepth 20000 in
theorem q_394 : (Jvm.Cond.static ({ cls := "BusStageLaw", name := "fare", desc := "(LBusStage;II[J)I" } : Jvm.MethodName)) ∈ lw_good := gw 409 (by decide +kernel) rfl
set_option maxRecDepth 20000 in
theorem q_395 : (Jvm.Cond.codeWith ({ cls := "BusStageLaw", name := "fare", desc := "(LBusStage;II[J)I" } : Jvm.MethodName) method_8_code (5 : Nat) (Option.some Jvm.ClassFile.FieldType.int) [((0 : Nat), (10 : Nat), (13 : Nat), (13 : Nat))]) ∈ lw_good := gw 410 (by decide +kernel) rfl
set_option maxRecDepth 20000 in
theorem q_396 : (Jvm.Cond.methodLink "BusStageLaw" (34 : Nat) ({ cls := "BusStage", name := "fare", desc := "(II)I" } : Jvm.MethodName)) ∈ lw_good := gw 411 (by decide +kernel) rfl
set_option maxRecDepth 20000 in
theorem q_397 : (Jvm.Cond.instanceMethod ({ cls := "BusStage", name := "fare", desc := "(II)I" } : Jvm.MethodName)) ∈ lw_good := gw 412 (by decide +kernel) rfl
set_option maxRecDepth 20000 in
theorem q_398 : (Jvm.Cond.selects "BusStage" ({ cls := "BusStage", name := "fare", desc := "(II)I" } : Jvm.MethodName) ({ cls := "BusStage", name := "fare", desc := "(II)I" } : Jvm.MethodName)) ∈ lw_good := gw 413 (by decide +kernel) rfl
set_option maxRecDepth 20000 in
theorem q_399 : (Jvm.Cond.code ({ cls := "BusStage", name := "fare", desc := "(II)I" } : Jvm.MethodName) prog_1_method_7_code (3 : Nat) (Option.some Jvm.ClassFile.FieldType.int)) ∈ lw_good := gw 414 (by decide +kernel) rfl
set_option maxRecDepth 20000 in
theorem q_400 : (Jvm.Cond.methodLink "BusStage" (111 : Nat) ({ cls := "BusStage$Line", name := "fareBetween", desc := "(II)I" } : Jvm.MethodName)) ∈ lw_good := gw 415 (by decide +kernel) rfl
set_option maxRecDepth 20000 in
theorem q_401 : (Jvm.Cond.instanceMethod ({ cls := "BusStage$Line", name := "fareBetween", desc := "(II)I" } : Jvm.MethodName)) ∈ lw_good := gw 416 (by decide +kernel) rfl
set_option maxRecDepth 20000 in
theorem q_402 : (Jvm.Cond.selects "BusStage$Line" ({ cls := "BusStage$Line", name := "fareBetween", desc := "(II)I" } : Jvm.MethodName) ({ cls := "BusStage$Line", name := "fareBetween", desc := "(II)I" } : Jvm.MethodName)) ∈ lw_good := gw 417 (by decide +kernel) rfl
set_option maxRecDepth 20000 in
theorem q_403 : (Jvm.Cond.code ({ cls := "BusStage$Line", name := "fareBetween", desc := "(II)I" } : Jvm.MethodName) prog_3_method_6_code (6 : Nat) (Option.some Jvm.ClassFile.FieldType.int)) ∈ lw_good := gw 418 (by decide +kernel) rfl
set_option maxRecDepth 20000 in
theorem q_404 : (Jvm.Cond.methodLink "BusStageLaw" (92 : Nat) ({ cls := "BusStageLaw", name := "bus", desc := "(LBusStage;II[J)I" } : Jvm.MethodName)) ∈ lw_good := gw 419 (by decide +kernel) rfl
set_option maxRecDepth 20000 in
theorem q_405 : (Jvm.Cond.static ({ cls := "BusStageLaw", name := "bus", desc := "(LBusStage;II[J)I" } : Jvm.MethodName)) ∈ lw_good := gw 420 (by decide +kernel) rfl
set_option maxRecDepth 20000 in
theorem q_406 : (Jvm.Cond.codeWith ({ cls := "BusStageLaw", name := "bus", desc := "(LBusStage;II[J)I" } : Jvm.MethodName) method_9_code (5 : Nat) (Option.some Jvm.ClassFile.FieldType.int) [((0 : Nat), (10 : Nat), (13 : Nat), (13 : Nat))]) ∈ lw_good := gw 421 (by decide +kernel) rfl
set_option maxRecDepth 20000 in
theorem q_407 : (Jvm.Cond.methodLink "BusStageLaw" (37 : Nat) ({ cls := "BusStage", name := "bus", desc := "(II)I" } : Jvm.MethodName)) ∈ lw_good := gw 422 (by decide +kernel) rfl
set_option maxRecDepth 20000 in
theorem q_408 : (Jvm.Cond.instanceMethod ({ cls := "BusStage", name := "bus", desc := "(II)I" } : Jvm.MethodName)) ∈ lw_good := gw 423 (by decide +kernel) rfl
set_option maxRecDepth 20000 in
theorem q_409 : (Jvm.Cond.selects "BusStage" ({ cls := "BusStage", name := "bus", desc := "(II)I" } : Jvm.MethodName) ({ cls := "BusStage", name := "bus", desc := "(II)I" } : Jvm.MethodName)) ∈ lw_good := gw 424 (by decide +kernel) rfl
set_option maxRecDepth 20000 in
theorem q_410 : (Jvm.Cond.code ({ cls := "BusStage", name := "bus", desc := "(II)I" } : Jvm.MethodName) prog_1_method_8_code (3 : Nat) (Option.some Jvm.ClassFile.FieldType.int)) ∈ lw_good := gw 425 (by decide +kernel) rfl
set_option maxRecDepth 20000 in
theorem q_412 : (Jvm.Cond.methodLink "BusStageLaw" (95 : Nat) ({ cls := "BusStageLaw", name := "passenger", desc := "(LBusStage;II[J)I" } : Jvm.MethodName)) ∈ lw_good := gw 427 (by decide +kernel) rfl
set_option maxRecDepth 20000 in
theorem q_413 : (Jvm.Cond.static ({ cls := "BusStageLaw", name := "passenger", desc := "(LBusStage;II[J)I" } : Jvm.MethodName)) ∈ lw_good := gw 428 (by decide +kernel) rfl
set_option maxRecDepth 20000 in
theorem q_414 : (Jvm.Cond.codeWith ({ cls := "BusStageLaw", name := "passenger", desc := "(LBusStage;II[J)I" } : Jvm.MethodName) method_10_code (5 : Nat) (Option.some Jvm.ClassFile.FieldType.int) [((0 : Nat), (10 : Nat), (13 : Nat), (13 : Nat))]) ∈ lw_good := gw 429 (by decide +kernel) rfl
set_option maxRecDepth 20000 in
theorem q_415 : (Jvm.Cond.methodLink "BusStageLaw" (40 : Nat) ({ cls := "BusStage", name := "passenger", desc := "(II)I" } : Jvm.MethodName)) ∈ lw_good := gw 430 (by decide +kernel) rfl
set_option maxRecDepth 20000 in
theorem q_416 : (Jvm.Cond.instanceMethod ({ cls := "BusStage", name := "passenger", desc := "(II)I" } : Jvm.MethodName)) ∈ lw_good := gw 431 (by decide +kernel) rfl
set_option maxRecDepth 20000 in
theorem q_417 : (Jvm.Cond.selects "BusStage" ({ cls := "BusStage", name := "passenger", desc := "(II)I" } : Jvm.MethodName) ({ cls := "BusStage", name := "passenger", desc := "(II)I" } : Jvm.MethodName)) ∈ lw_good := gw 432 (by decide +kernel) rfl
set_option maxRecDepth 20000 in
theorem q_418 : (Jvm.Cond.code ({ cls := "BusStage", name := "passenger", desc := "(II)I" } : Jvm.MethodName) prog_1_method_9_code (3 : Nat) (Option.some Jvm.ClassFile.FieldType.int)) ∈ lw_good := gw 433 (by decide +kernel) rfl
set_option maxRecDepth 20000 in
theorem q_420 : (Jvm.Cond.methodLink "BusStageLaw" (98 : Nat) ({ cls := "BusStageLaw", name := "stop", desc := "(LBusStage;II[J)I" } : Jvm.MethodName)) ∈ lw_good := gw 435 (by decide +kernel) rfl
set_option maxRecDepth 20000 in
theorem q_421 : (Jvm.Cond.static ({ cls := "BusStageLaw", name := "stop", desc := "(LBusStage;II[J)I" } : Jvm.MethodName)) ∈ lw_good := gw 436 (by decide +kernel) rfl
set_option maxRecDepth 20000 in
theorem q_422 : (Jvm.Cond.codeWith ({ cls := "BusStageLaw", name := "stop", desc := "(LBusStage;II[J)I" } : Jvm.MethodName) method_11_code (5 : Nat) (Option.some Jvm.ClassFile.FieldType.int) [((0 : Nat), (10 : Nat), (13 : Nat), (13 : Nat))]) ∈ lw_good := gw 437 (by decide +kernel) rfl
set_option maxRecDepth 20000 in
theorem q_423 : (Jvm.Cond.methodLink "BusStageLaw" (43 : Nat) ({ cls := "BusStage", name := "stop", desc := "(II)I" } : Jvm.MethodName)) ∈ lw_good := gw 438 (by decide +kernel) rfl
set_option maxRecDepth 20000 in
theorem q_424 : (Jvm.Cond.instanceMethod ({ cls := "BusStage", name := "stop", desc := "(II)I" } : Jvm.MethodName)) ∈ lw_good := gw 439 (by decide +kernel) rfl
set_option maxRecDepth 20000 in
theorem q_425 : (Jvm.Cond.selects "BusStage" ({ cls := "BusStage", name := "stop", desc := "(II)I" } : Jvm.MethodName) ({ cls := "BusStage", name := "stop", desc := "(II)I" } : Jvm.MethodName)) ∈ lw_good := gw 440 (by decide +kernel) rfl
set_option maxRecDepth 20000 in
theorem q_426 : (Jvm.Cond.code ({ cls := "BusStage", name := "stop", desc := "(II)I" } : Jvm.MethodName) prog_1_method_10_code (3 : Nat) (Option.some Jvm.ClassFile.FieldType.int)) ∈ lw_good := gw 441 (by decide +kernel) rfl
set_option maxRecDepth 20000 in
theorem q_428 : (Jvm.Cond.methodLink "BusStageLaw" (101 : Nat) ({ cls := "BusStageLaw", name := "count", desc := "(LBusStage;I[J)I" } : Jvm.MethodName)) ∈ lw_good := gw 443 (by decide +kernel) rfl
set_option maxRecDepth 20000 in
theorem q_429 : (Jvm.Cond.static ({ cls := "BusStageLaw", name := "count", desc := "(LBusStage;I[J)I" } : Jvm.MethodName)) ∈ lw_good := gw 444 (by decide +kernel) rfl
set_option maxRecDepth 20000 in
theorem q_430 : (Jvm.Cond.codeWith ({ cls := "BusStageLaw", name := "count", desc := "(LBusStage;I[J)I" } : Jvm.MethodName) method_12_code (4 : Nat) (Option.some Jvm.ClassFile.FieldType.int) [((0 : Nat), (9 : Nat), (12 : Nat), (13 : Nat))]) ∈ lw_good := gw 445 (by decide +kernel) rfl
set_option maxRecDepth 20000 in
theorem q_431 : (Jvm.Cond.methodLink "BusStageLaw" (46 : Nat) ({ cls := "BusStage", name := "count", desc := "(I)I" } : Jvm.MethodName)) ∈ lw_good := gw 446 (by decide +kernel) rfl
set_option maxRecDepth 20000 in
theorem q_432 : (Jvm.Cond.instanceMethod ({ cls := "BusStage", name := "count", desc := "(I)I" } : Jvm.MethodName)) ∈ lw_good := gw 447 (by decide +kernel) rfl
set_option maxRecDepth 20000 in
theorem q_433 : (Jvm.Cond.selects "BusStage" ({ cls := "BusStage", name := "count", desc := "(I)I" } : Jvm.MethodName) ({ cls := "BusStage", name := "count", desc := "(I)I" } : Jvm.MethodName)) ∈ lw_good := gw 448 (by decide +kernel) rfl
set_option maxRecDepth 20000 in
theorem q_434 : (Jvm.Cond.code ({ cls := "BusStage", name := "count", desc := "(I)I" } : Jvm.MethodName) prog_1_method_11_code (2 : Nat) (Option.some Jvm.ClassFile.FieldType.int)) ∈ lw_good := gw 449 (by decide +kernel) rfl
set_option maxRecDepth 20000 in
theorem q_436 : (Jvm.Cond.methodLink "BusStageLaw" (104 : Nat) ({ cls := "BusStageLaw", name := "go", desc := "(LBusStage;I[J)I" } : Jvm.MethodName)) ∈ lw_good := gw 451 (by decide +kernel) rfl
set_option maxRecDepth 20000 in
theorem q_437 : (Jvm.Cond.static ({ cls := "BusStageLaw", name := "go", desc := "(LBusStage;I[J)I" } : Jvm.MethodName)) ∈ lw_good := gw 452 (by decide +kernel) rfl
set_option maxRecDepth 20000 in
theorem q_438 : (Jvm.Cond.codeWith ({ cls := "BusStageLaw", name := "go", desc := "(LBusStage;I[J)I" } : Jvm.MethodName) method_13_code (4 : Nat) (Option.some Jvm.ClassFile.FieldType.int) [((0 : Nat), (9 : Nat), (12 : Nat), (15 : Nat))]) ∈ lw_good := gw 453 (by decide +kernel) rfl
set_option maxRecDepth 20000 in
theorem q_439 : (Jvm.Cond.methodLink "BusStageLaw" (49 : Nat) ({ cls := "BusStage", name := "go", desc := "(I)I" } : Jvm.MethodName)) ∈ lw_good := gw 454 (by decide +kernel) rfl
set_option maxRecDepth 20000 in
theorem q_440 : (Jvm.Cond.instanceMethod ({ cls := "BusStage", name := "go", desc := "(I)I" } : Jvm.MethodName)) ∈ lw_good := gw 455 (by decide +kernel) rfl
set_option maxRecDepth 20000 in
theorem q_441 : (Jvm.Cond.selects "BusStage" ({ cls := "BusStage", name := "go", desc := "(I)I" } : Jvm.MethodName) ({ cls := "BusStage", name := "go", desc := "(I)I" } : Jvm.MethodName)) ∈ lw_good := gw 456 (by decide +kernel) rfl
set_option maxRecDepth 20000 in
theorem q_442 : (Jvm.Cond.code ({ cls := "BusStage", name := "go", desc := "(I)I" } : Jvm.MethodName) prog_1_method_12_code (3 : Nat) (Option.some Jvm.ClassFile.FieldType.int)) ∈ lw_good := gw 457 (by decide +kernel) rfl
set_option maxRecDepth 20000 in
theorem q_444 : (Jvm.Cond.methodLink "BusStage" (141 : Nat) ({ cls := "BusStage$Line", name := "passengersIn", desc := "(I)I" } : Jvm.MethodName)) ∈ lw_good := gw 459 (by decide +kernel) rfl
set_option maxRecDepth 20000 in
theorem q_445 : (Jvm.Cond.methodLink "BusStage" (144 : Nat) ({ cls := "BusStage$Line", name := "passMinutes", desc := "(I)V" } : Jvm.MethodName)) ∈ lw_good := gw 460 (by decide +kernel) rfl
set_option maxRecDepth 20000 in
theorem q_446 : (Jvm.Cond.instanceMethod ({ cls := "BusStage$Line", name := "passMinutes", desc := "(I)V" } : Jvm.MethodName)) ∈ lw_good := gw 461 (by decide +kernel) rfl
set_option maxRecDepth 20000 in
theorem q_447 : (Jvm.Cond.selects "BusStage$Line" ({ cls := "BusStage$Line", name := "passMinutes", desc := "(I)V" } : Jvm.MethodName) ({ cls := "BusStage$Line", name := "passMinutes", desc := "(I)V" } : Jvm.MethodName)) ∈ lw_good := gw 462 (by decide +kernel) rfl
set_option maxRecDepth 20000 in
theorem q_448 : (Jvm.Cond.code ({ cls := "BusStage$Line", name := "passMinutes", desc := "(I)V" } : Jvm.MethodName) prog_3_method_7_code (3 : Nat) (Option.none : Option Jvm.ClassFile.FieldType)) ∈ lw_good := gw 463 (by decide +kernel) rfl
set_option maxRecDepth 20000 in
theorem q_449 : (Jvm.Cond.methodLink "BusStage$Line" (80 : Nat) ({ cls := "BusStage$Line", name := "passMinute", desc := "()V" } : Jvm.MethodName)) ∈ lw_good := gw 464 (by decide +kernel) rfl
set_option maxRecDepth 20000 in
theorem q_450 : (Jvm.Cond.instanceMethod ({ cls := "BusStage$Line", name := "passMinute", desc := "()V" } : Jvm.MethodName)) ∈ lw_good := gw 465 (by decide +kernel) rfl
set_option maxRecDepth 20000 in
theorem q_451 : (Jvm.Cond.selects "BusStage$Line" ({ cls := "BusStage$Line", name := "passMinute", desc := "()V" } : Jvm.MethodName) ({ cls := "BusStage$Line", name := "passMinute", desc := "()V" } : Jvm.MethodName)) ∈ lw_good := gw 466 (by decide +kernel) rfl
set_option maxRecDepth 20000 in
theorem q_452 : (Jvm.Cond.code ({ cls := "BusStage$Line", name := "passMinute", desc := "()V" } : Jvm.MethodName) prog_3_method_8_code (3 : Nat) (Option.none : Option Jvm.ClassFile.FieldType)) ∈ lw_good := gw 467 (by decide +kernel) rfl
set_option maxRecDepth 20000 in
theorem q_453 : (Jvm.Cond.methodLink "BusStage$Line" (87 : Nat) ({ cls := "BusStage$Line", name := "driveOn", desc := "(LBusStage$Bus;)V" } : Jvm.MethodName)) ∈ lw_good := gw 468 (by decide +kernel) rfl
set_option maxRecDepth 20000 in
theorem q_454 : (Jvm.Cond.instanceMethod ({ cls := "BusStage$Line", name := "driveOn", desc := "(LBusStage$Bus;)V" } : Jvm.MethodName)) ∈ lw_good := gw 469 (by decide +kernel) rfl
set_option maxRecDepth 20000 in
theorem q_455 : (Jvm.Cond.selects "BusStage$Line" ({ cls := "BusStage$Line", name := "driveOn", desc := "(LBusStage$Bus;)V" } : Jvm.MethodName) ({ cls := "BusStage$Line", name := "driveOn", desc := "(LBusStage$Bus;)V" } : Jvm.MethodName)) ∈ lw_good := gw 470 (by decide +kernel) rfl
set_option maxRecDepth 20000 in
theorem q_456 : (Jvm.Cond.code ({ cls := "BusStage$Line", name := "driveOn", desc := "(LBusStage$Bus;)V" } : Jvm.MethodName) prog_3_method_9_code (4 : Nat) (Option.none : Option Jvm.ClassFile.FieldType)) ∈ lw_good := gw 471 (by decide +kernel) rfl
set_option maxRecDepth 20000 in
theorem q_457 : (Jvm.Cond.methodLink "BusStage$Line" (99 : Nat) ({ cls := "BusStage$Line", name := "letOff", desc := "(LBusStage$Bus;)I" } : Jvm.MethodName)) ∈ lw_good := gw 472 (by decide +kernel) rfl
set_option maxRecDepth 20000 in
theorem q_458 : (Jvm.Cond.instanceMethod ({ cls := "BusStage$Line", name := "letOff", desc := "(LBusStage$Bus;)I" } : Jvm.MethodName)) ∈ lw_good := gw 473 (by decide +kernel) rfl
set_option maxRecDepth 20000 in
theorem q_459 : (Jvm.Cond.selects "BusStage$Line" ({ cls := "BusStage$Line", name := "letOff", desc := "(LBusStage$Bus;)I" } : Jvm.MethodName) ({ cls := "BusStage$Line", name := "letOff", desc := "(LBusStage$Bus;)I" } : Jvm.MethodName)) ∈ lw_good := gw 474 (by decide +kernel) rfl
set_option maxRecDepth 20000 in
theorem q_460 : (Jvm.Cond.code ({ cls := "BusStage$Line", name := "letOff", desc := "(LBusStage$Bus;)I" } : Jvm.MethodName) prog_3_method_11_code (4 : Nat) (Option.some Jvm.ClassFile.FieldType.int)) ∈ lw_good := gw 475 (by decide +kernel) rfl
set_option maxRecDepth 20000 in
theorem q_461 : (Jvm.Cond.methodLink "BusStage$Line" (116 : Nat) ({ cls := "BusStage$Passenger", name := "leavesAt", desc := "(ILBusStage$Bus;)Z" } : Jvm.MethodName)) ∈ lw_good := gw 476 (by decide +kernel) rfl
set_option maxRecDepth 20000 in
theorem q_462 : (Jvm.Cond.instanceMethod ({ cls := "BusStage$Passenger", name := "leavesAt", desc := "(ILBusStage$Bus;)Z" } : Jvm.MethodName)) ∈ lw_good := gw 477 (by decide +kernel) rfl
set_option maxRecDepth 20000 in
theorem q_463 : (Jvm.Cond.selects "BusStage$Passenger" ({ cls := "BusStage$Passenger", name := "leavesAt", desc := "(ILBusStage$Bus;)Z" } : Jvm.MethodName) ({ cls := "BusStage$Passenger", name := "leavesAt", desc := "(ILBusStage$Bus;)Z" } : Jvm.MethodName)) ∈ lw_good := gw 478 (by decide +kernel) rfl
set_option maxRecDepth 20000 in
theorem q_464 : (Jvm.Cond.code ({ cls := "BusStage$Passenger", name := "leavesAt", desc := "(ILBusStage$Bus;)Z" } : Jvm.MethodName) prog_4_method_4_code (3 : Nat) (Option.some Jvm.ClassFile.FieldType.boolean)) ∈ lw_good := gw 479 (by decide +kernel) rfl
set_option maxRecDepth 20000 in
theorem q_465 : (Jvm.Cond.methodLink "BusStage$Line" (120 : Nat) ({ cls := "BusStage$Passenger", name := "getOff", desc := "(I)V" } : Jvm.MethodName)) ∈ lw_good := gw 480 (by decide +kernel) rfl
set_option maxRecDepth 20000 in
theorem q_466 : (Jvm.Cond.instanceMethod ({ cls := "BusStage$Passenger", name := "getOff", desc := "(I)V" } : Jvm.MethodName)) ∈ lw_good := gw 481 (by decide +kernel) rfl
set_option maxRecDepth 20000 in
theorem q_467 : (Jvm.Cond.selects "BusStage$Passenger" ({ cls := "BusStage$Passenger", name := "getOff", desc := "(I)V" } : Jvm.MethodName) ({ cls := "BusStage$Passenger", name := "getOff", desc := "(I)V" } : Jvm.MethodName)) ∈ lw_good := gw 482 (by decide +kernel) rfl
set_option maxRecDepth 20000 in
theorem q_468 : (Jvm.Cond.code ({ cls := "BusStage$Passenger", name := "getOff", desc := "(I)V" } : Jvm.MethodName) prog_4_method_7_code (2 : Nat) (Option.none : Option Jvm.ClassFile.FieldType)) ∈ lw_good := gw 483 (by decide +kernel) rfl
set_option maxRecDepth 20000 in
theorem q_469 : (Jvm.Cond.methodLink "BusStage$Line" (103 : Nat) ({ cls := "BusStage$Line", name := "letOn", desc := "(LBusStage$Bus;)I" } : Jvm.MethodName)) ∈ lw_good := gw 484 (by decide +kernel) rfl
set_option maxRecDepth 20000 in
theorem q_470 : (Jvm.Cond.instanceMethod ({ cls := "BusStage$Line", name := "letOn", desc := "(LBusStage$Bus;)I" } : Jvm.MethodName)) ∈ lw_good := gw 485 (by decide +kernel) rfl
set_option maxRecDepth 20000 in
theorem q_471 : (Jvm.Cond.selects "BusStage$Line" ({ cls := "BusStage$Line", name := "letOn", desc := "(LBusStage$Bus;)I" } : Jvm.MethodName) ({ cls := "BusStage$Line", name := "letOn", desc := "(LBusStage$Bus;)I" } : Jvm.MethodName)) ∈ lw_good := gw 486 (by decide +kernel) rfl
set_option maxRecDepth 20000 in
theorem q_472 : (Jvm.Cond.code ({ cls := "BusStage$Line", name := "letOn", desc := "(LBusStage$Bus;)I" } : Jvm.MethodName) prog_3_method_12_code (5 : Nat) (Option.some Jvm.ClassFile.FieldType.int)) ∈ lw_good := gw 487 (by decide +kernel) rfl
set_option maxRecDepth 20000 in
theorem q_473 : (Jvm.Cond.methodLink "BusStage$Line" (133 : Nat) ({ cls := "BusStage$Line", name := "fareBetween", desc := "(II)I" } : Jvm.MethodName)) ∈ lw_good := gw 488 (by decide +kernel) rfl
set_option maxRecDepth 20000 in
theorem q_474 : (Jvm.Cond.methodLink "BusStage$Line" (137 : Nat) ({ cls := "BusStage$Passenger", name := "getOn", desc := "(LBusStage$Bus;I)I" } : Jvm.MethodName)) ∈ lw_good := gw 489 (by decide +kernel) rfl
set_option maxRecDepth 20000 in
theorem q_475 : (Jvm.Cond.instanceMethod ({ cls := "BusStage$Passenger", name := "getOn", desc := "(LBusStage$Bus;I)I" } : Jvm.MethodName)) ∈ lw_good := gw 490 (by decide +kernel) rfl
set_option maxRecDepth 20000 in
theorem q_476 : (Jvm.Cond.selects "BusStage$Passenger" ({ cls := "BusStage$Passenger", name := "getOn", desc := "(LBusStage$Bus;I)I" } : Jvm.MethodName) ({ cls := "BusStage$Passenger", name := "getOn", desc := "(LBusStage$Bus;I)I" } : Jvm.MethodName)) ∈ lw_good := gw 491 (by decide +kernel) rfl
set_option maxRecDepth 20000 in
theorem q_477 : (Jvm.Cond.code ({ cls := "BusStage$Passenger", name := "getOn", desc := "(LBusStage$Bus;I)I" } : Jvm.MethodName) prog_4_method_6_code (4 : Nat) (Option.some Jvm.ClassFile.FieldType.int)) ∈ lw_good := gw 492 (by decide +kernel) rfl
set_option maxRecDepth 20000 in
theorem q_478 : (Jvm.Cond.methodLink "BusStage$Line" (90 : Nat) ({ cls := "BusStage$Line", name := "standOn", desc := "(LBusStage$Bus;)V" } : Jvm.MethodName)) ∈ lw_good := gw 493 (by decide +kernel) rfl
set_option maxRecDepth 20000 in
theorem q_479 : (Jvm.Cond.instanceMethod ({ cls := "BusStage$Line", name := "standOn", desc := "(LBusStage$Bus;)V" } : Jvm.MethodName)) ∈ lw_good := gw 494 (by decide +kernel) rfl
set_option maxRecDepth 20000 in
theorem q_480 : (Jvm.Cond.selects "BusStage$Line" ({ cls := "BusStage$Line", name := "standOn", desc := "(LBusStage$Bus;)V" } : Jvm.MethodName) ({ cls := "BusStage$Line", name := "standOn", desc := "(LBusStage$Bus;)V" } : Jvm.MethodName)) ∈ lw_good := gw 495 (by decide +kernel) rfl
set_option maxRecDepth 20000 in
theorem q_481 : (Jvm.Cond.code ({ cls := "BusStage$Line", name := "standOn", desc := "(LBusStage$Bus;)V" } : Jvm.MethodName) prog_3_method_10_code (3 : Nat) (Option.none : Option Jvm.ClassFile.FieldType)) ∈ lw_good := gw 496 (by decide +kernel) rfl
set_option maxRecDepth 20000 in
theorem q_482 : (Jvm.Cond.methodLink "BusStage$Line" (106 : Nat) ({ cls := "BusStage$Stop", name := "letsLeave", desc := "(II)Z" } : Jvm.MethodName)) ∈ lw_good := gw 497 (by decide +kernel) rfl
set_option maxRecDepth 20000 in
theorem q_483 : (Jvm.Cond.instanceMethod ({ cls := "BusStage$Stop", name := "letsLeave", desc := "(II)Z" } : Jvm.MethodName)) ∈ lw_good := gw 498 (by decide +kernel) rfl
set_option maxRecDepth 20000 in
theorem q_484 : (Jvm.Cond.selects "BusStage$Stop" ({ cls := "BusStage$Stop", name := "letsLeave", desc := "(II)Z" } : Jvm.MethodName) ({ cls := "BusStage$Stop", name := "letsLeave", desc := "(II)Z" } : Jvm.MethodName)) ∈ lw_good := gw 499 (by decide +kernel) rfl
set_option maxRecDepth 20000 in
theorem q_485 : (Jvm.Cond.code ({ cls := "BusStage$Stop", name := "letsLeave", desc := "(II)Z" } : Jvm.MethodName) prog_5_method_3_code (3 : Nat) (Option.some Jvm.ClassFile.FieldType.boolean)) ∈ lw_good := gw 500 (by decide +kernel) rfl
set_option maxRecDepth 20000 in
theorem q_486 : (Jvm.Cond.methodLink "BusStageLaw" (107 : Nat) ({ cls := "BusStageLaw", name := "arrives", desc := "(LBusStage;I[J)I" } : Jvm.MethodName)) ∈ lw_good := gw 501 (by decide +kernel) rfl
set_option maxRecDepth 20000 in
theorem q_487 : (Jvm.Cond.static ({ cls := "BusStageLaw", name := "arrives", desc := "(LBusStage;I[J)I" } : Jvm.MethodName)) ∈ lw_good := gw 502 (by decide +kernel) rfl
set_option maxRecDepth 20000 in
theorem q_488 : (Jvm.Cond.codeWith ({ cls := "BusStageLaw", name := "arrives", desc := "(LBusStage;I[J)I" } : Jvm.MethodName) method_14_code (4 : Nat) (Option.some Jvm.ClassFile.FieldType.int) [((0 : Nat), (9 : Nat), (12 : Nat), (13 : Nat))]) ∈ lw_good := gw 503 (by decide +kernel) rfl
set_option maxRecDepth 20000 in
theorem q_489 : (Jvm.Cond.methodLink "BusStageLaw" (52 : Nat) ({ cls := "BusStage", name := "arrives", desc := "(I)I" } : Jvm.MethodName)) ∈ lw_good := gw 504 (by decide +kernel) rfl
set_option maxRecDepth 20000 in
theorem q_490 : (Jvm.Cond.instanceMethod ({ cls := "BusStage", name := "arrives", desc := "(I)I" } : Jvm.MethodName)) ∈ lw_good := gw 505 (by decide +kernel) rfl
set_option maxRecDepth 20000 in
theorem q_491 : (Jvm.Cond.selects "BusStage" ({ cls := "BusStage", name := "arrives", desc := "(I)I" } : Jvm.MethodName) ({ cls := "BusStage", name := "arrives", desc := "(I)I" } : Jvm.MethodName)) ∈ lw_good := gw 506 (by decide +kernel) rfl
set_option maxRecDepth 20000 in
theorem q_492 : (Jvm.Cond.code ({ cls := "BusStage", name := "arrives", desc := "(I)I" } : Jvm.MethodName) prog_1_method_13_code (4 : Nat) (Option.some Jvm.ClassFile.FieldType.int)) ∈ lw_good := gw 507 (by decide +kernel) rfl
set_option maxRecDepth 20000 in
theorem q_494 : (Jvm.Cond.methodLink "BusStage" (150 : Nat) ({ cls := "BusStage$Line", name := "copyFrom", desc := "(LBusStage$Line;)V" } : Jvm.MethodName)) ∈ lw_good := gw 509 (by decide +kernel) rfl
set_option maxRecDepth 20000 in
theorem q_495 : (Jvm.Cond.instanceMethod ({ cls := "BusStage$Line", name := "copyFrom", desc := "(LBusStage$Line;)V" } : Jvm.MethodName)) ∈ lw_good := gw 510 (by decide +kernel) rfl
set_option maxRecDepth 20000 in
theorem q_496 : (Jvm.Cond.selects "BusStage$Line" ({ cls := "BusStage$Line", name := "copyFrom", desc := "(LBusStage$Line;)V" } : Jvm.MethodName) ({ cls := "BusStage$Line", name := "copyFrom", desc := "(LBusStage$Line;)V" } : Jvm.MethodName)) ∈ lw_good := gw 511 (by decide +kernel) rfl
set_option maxRecDepth 20000 in
theorem q_497 : (Jvm.Cond.code ({ cls := "BusStage$Line", name := "copyFrom", desc := "(LBusStage$Line;)V" } : Jvm.MethodName) prog_3_method_2_code (3 : Nat) (Option.none : Option Jvm.ClassFile.FieldType)) ∈ lw_good := gw 512 (by decide +kernel) rfl
set_option maxRecDepth 20000 in
theorem q_498 : (Jvm.Cond.methodLink "BusStage$Line" (34 : Nat) ({ cls := "BusStage$Stop", name := "copyFrom", desc := "(LBusStage$Stop;)V" } : Jvm.MethodName)) ∈ lw_good := gw 513 (by decide +kernel) rfl
set_option maxRecDepth 20000 in
theorem q_499 : (Jvm.Cond.instanceMethod ({ cls := "BusStage$Stop", name := "copyFrom", desc := "(LBusStage$Stop;)V" } : Jvm.MethodName)) ∈ lw_good := gw 514 (by decide +kernel) rfl
set_option maxRecDepth 20000 in
theorem q_500 : (Jvm.Cond.selects "BusStage$Stop" ({ cls := "BusStage$Stop", name := "copyFrom", desc := "(LBusStage$Stop;)V" } : Jvm.MethodName) ({ cls := "BusStage$Stop", name := "copyFrom", desc := "(LBusStage$Stop;)V" } : Jvm.MethodName)) ∈ lw_good := gw 515 (by decide +kernel) rfl
set_option maxRecDepth 20000 in
theorem q_501 : (Jvm.Cond.code ({ cls := "BusStage$Stop", name := "copyFrom", desc := "(LBusStage$Stop;)V" } : Jvm.MethodName) prog_5_method_2_code (2 : Nat) (Option.none : Option Jvm.ClassFile.FieldType)) ∈ lw_good := gw 516 (by decide +kernel) rfl
set_option maxRecDepth 20000 in
theorem q_502 : (Jvm.Cond.methodLink "BusStage$Line" (42 : Nat) ({ cls := "BusStage$Bus", name := "copyFrom", desc := "(LBusStage$Bus;)V" } : Jvm.MethodName)) ∈ lw_good := gw 517 (by decide +kernel) rfl
set_option maxRecDepth 20000 in
theorem q_503 : (Jvm.Cond.instanceMethod ({ cls := "BusStage$Bus", name := "copyFrom", desc := "(LBusStage$Bus;)V" } : Jvm.MethodName)) ∈ lw_good := gw 518 (by decide +kernel) rfl
set_option maxRecDepth 20000 in
theorem q_504 : (Jvm.Cond.selects "BusStage$Bus" ({ cls := "BusStage$Bus", name := "copyFrom", desc := "(LBusStage$Bus;)V" } : Jvm.MethodName) ({ cls := "BusStage$Bus", name := "copyFrom", desc := "(LBusStage$Bus;)V" } : Jvm.MethodName)) ∈ lw_good := gw 519 (by decide +kernel) rfl
set_option maxRecDepth 20000 in
theorem q_505 : (Jvm.Cond.code ({ cls := "BusStage$Bus", name := "copyFrom", desc := "(LBusStage$Bus;)V" } : Jvm.MethodName) prog_2_method_2_code (2 : Nat) (Option.none : Option Jvm.ClassFile.FieldType)) ∈ lw_good := gw 520 (by decide +kernel) rfl
set_option maxRecDepth 20000 in
theorem q_506 : (Jvm.Cond.methodLink "BusStage$Line" (48 : Nat) ({ cls := "BusStage$Passenger", name := "copyFrom", desc := "(LBusStage$Passenger;)V" } : Jvm.MethodName)) ∈ lw_good := gw 521 (by decide +kernel) rfl
set_option maxRecDepth 20000 in
theorem q_507 : (Jvm.Cond.instanceMethod ({ cls := "BusStage$Passenger", name := "copyFrom", desc := "(LBusStage$Passenger;)V" } : Jvm.MethodName)) ∈ lw_good := gw 522 (by decide +kernel) rfl
set_option maxRecDepth 20000 in
theorem q_508 : (Jvm.Cond.selects "BusStage$Passenger" ({ cls := "BusStage$Passenger", name := "copyFrom", desc := "(LBusStage$Passenger;)V" } : Jvm.MethodName) ({ cls := "BusStage$Passenger", name := "copyFrom", desc := "(LBusStage$Passenger;)V" } : Jvm.MethodName)) ∈ lw_good := gw 523 (by decide +kernel) rfl
set_option maxRecDepth 20000 in
theorem q_509 : (Jvm.Cond.code ({ cls := "BusStage$Passenger", name := "copyFrom", desc := "(LBusStage$Passenger;)V" } : Jvm.MethodName) prog_4_method_2_code (2 : Nat) (Option.none : Option Jvm.ClassFile.FieldType)) ∈ lw_good := gw 524 (by decide +kernel) rfl
set_option maxRecDepth 20000 in
theorem q_510 : (Jvm.Cond.methodLink "BusStage" (154 : Nat) ({ cls := "BusStage$Line", name := "passMinute", desc := "()V" } : Jvm.MethodName)) ∈ lw_good := gw 525 (by decide +kernel) rfl
set_option maxRecDepth 20000 in
theorem q_511 : (Jvm.Cond.methodLink "BusStageLaw" (110 : Nat) ({ cls := "BusStageLaw", name := "foresee", desc := "(LBusStage;II[J)I" } : Jvm.MethodName)) ∈ lw_good := gw 526 (by decide +kernel) rfl
set_option maxRecDepth 20000 in
theorem q_512 : (Jvm.Cond.static ({ cls := "BusStageLaw", name := "foresee", desc := "(LBusStage;II[J)I" } : Jvm.MethodName)) ∈ lw_good := gw 527 (by decide +kernel) rfl
set_option maxRecDepth 20000 in
theorem q_513 : (Jvm.Cond.codeWith ({ cls := "BusStageLaw", name := "foresee", desc := "(LBusStage;II[J)I" } : Jvm.MethodName) method_15_code (5 : Nat) (Option.some Jvm.ClassFile.FieldType.int) [((0 : Nat), (10 : Nat), (13 : Nat), (15 : Nat)), ((0 : Nat), (10 : Nat), (17 : Nat), (13 : Nat))]) ∈ lw_good := gw 528 (by decide +kernel) rfl
set_option maxRecDepth 20000 in
theorem q_514 : (Jvm.Cond.methodLink "BusStageLaw" (55 : Nat) ({ cls := "BusStage", name := "foresee", desc := "(II)I" } : Jvm.MethodName)) ∈ lw_good := gw 529 (by decide +kernel) rfl
set_option maxRecDepth 20000 in
theorem q_515 : (Jvm.Cond.instanceMethod ({ cls := "BusStage", name := "foresee", desc := "(II)I" } : Jvm.MethodName)) ∈ lw_good := gw 530 (by decide +kernel) rfl
set_option maxRecDepth 20000 in
theorem q_516 : (Jvm.Cond.selects "BusStage" ({ cls := "BusStage", name := "foresee", desc := "(II)I" } : Jvm.MethodName) ({ cls := "BusStage", name := "foresee", desc := "(II)I" } : Jvm.MethodName)) ∈ lw_good := gw 531 (by decide +kernel) rfl
set_option maxRecDepth 20000 in
theorem q_517 : (Jvm.Cond.code ({ cls := "BusStage", name := "foresee", desc := "(II)I" } : Jvm.MethodName) prog_1_method_14_code (3 : Nat) (Option.some Jvm.ClassFile.FieldType.int)) ∈ lw_good := gw 532 (by decide +kernel) rfl
set_option maxRecDepth 20000 in
theorem q_518 : (Jvm.Cond.methodLink "BusStage" (157 : Nat) ({ cls := "BusStage$Line", name := "allPaid", desc := "()I" } : Jvm.MethodName)) ∈ lw_good := gw 533 (by decide +kernel) rfl
set_option maxRecDepth 20000 in
theorem q_519 : (Jvm.Cond.methodLink "BusStage" (164 : Nat) ({ cls := "BusStage$Line", name := "bunchedPairs", desc := "()I" } : Jvm.MethodName)) ∈ lw_good := gw 534 (by decide +kernel) rfl
set_option maxRecDepth 20000 in
theorem q_520 : (Jvm.Cond.methodLink "BusStageLaw" (113 : Nat) ({ cls := "BusStageLaw", name := "advise", desc := "(LBusStage;I[J)I" } : Jvm.MethodName)) ∈ lw_good := gw 535 (by decide +kernel) rfl
set_option maxRecDepth 20000 in
theorem q_521 : (Jvm.Cond.static ({ cls := "BusStageLaw", name := "advise", desc := "(LBusStage;I[J)I" } : Jvm.MethodName)) ∈ lw_good := gw 536 (by decide +kernel) rfl
set_option maxRecDepth 20000 in
theorem q_522 : (Jvm.Cond.codeWith ({ cls := "BusStageLaw", name := "advise", desc := "(LBusStage;I[J)I" } : Jvm.MethodName) method_16_code (4 : Nat) (Option.some Jvm.ClassFile.FieldType.int) [((0 : Nat), (9 : Nat), (12 : Nat), (15 : Nat))]) ∈ lw_good := gw 537 (by decide +kernel) rfl
set_option maxRecDepth 20000 in
theorem q_523 : (Jvm.Cond.methodLink "BusStageLaw" (58 : Nat) ({ cls := "BusStage", name := "advise", desc := "(I)I" } : Jvm.MethodName)) ∈ lw_good := gw 538 (by decide +kernel) rfl
set_option maxRecDepth 20000 in
theorem q_524 : (Jvm.Cond.instanceMethod ({ cls := "BusStage", name := "advise", desc := "(I)I" } : Jvm.MethodName)) ∈ lw_good := gw 539 (by decide +kernel) rfl
set_option maxRecDepth 20000 in
theorem q_525 : (Jvm.Cond.selects "BusStage" ({ cls := "BusStage", name := "advise", desc := "(I)I" } : Jvm.MethodName) ({ cls := "BusStage", name := "advise", desc := "(I)I" } : Jvm.MethodName)) ∈ lw_good := gw 540 (by decide +kernel) rfl
set_option maxRecDepth 20000 in
theorem q_526 : (Jvm.Cond.code ({ cls := "BusStage", name := "advise", desc := "(I)I" } : Jvm.MethodName) prog_1_method_15_code (6 : Nat) (Option.some Jvm.ClassFile.FieldType.int)) ∈ lw_good := gw 541 (by decide +kernel) rfl
set_option maxRecDepth 20000 in
theorem q_527 : (Jvm.Cond.classLink "BusStageLaw" (62 : Nat) "BusStageModel") ∈ lw_good := gw 542 (by decide +kernel) rfl
set_option maxRecDepth 20000 in
theorem q_528 : (Jvm.Cond.instantiable "BusStageModel" (8 : Nat)) ∈ lw_good := gw 543 (by decide +kernel) rfl
set_option maxRecDepth 20000 in
theorem q_529 : (Jvm.Cond.methodLink "BusStageLaw" (64 : Nat) ({ cls := "BusStageModel", name := "<init>", desc := "()V" } : Jvm.MethodName)) ∈ lw_good := gw 544 (by decide +kernel) rfl
set_option maxRecDepth 20000 in
theorem q_530 : (Jvm.Cond.instanceMethod ({ cls := "BusStageModel", name := "<init>", desc := "()V" } : Jvm.MethodName)) ∈ lw_good := gw 545 (by decide +kernel) rfl
set_option maxRecDepth 20000 in
theorem q_531 : (Jvm.Cond.code ({ cls := "BusStageModel", name := "<init>", desc := "()V" } : Jvm.MethodName) prog_7_method_1_code (2 : Nat) (Option.none : Option Jvm.ClassFile.FieldType)) ∈ lw_good := gw 546 (by decide +kernel) rfl
set_option maxRecDepth 20000 in
theorem q_532 : (Jvm.Cond.methodLink "BusStageModel" (1 : Nat) ({ cls := "java/lang/Object", name := "<init>", desc := "()V" } : Jvm.MethodName)) ∈ lw_good := gw 547 (by decide +kernel) rfl
set_option maxRecDepth 20000 in
theorem q_533 : (Jvm.Cond.classLink "BusStageModel" (19 : Nat) "BusStageModel$State") ∈ lw_good := gw 548 (by decide +kernel) rfl
set_option maxRecDepth 20000 in
theorem q_534 : (Jvm.Cond.instantiable "BusStageModel$State" (16 : Nat)) ∈ lw_good := gw 549 (by decide +kernel) rfl
set_option maxRecDepth 20000 in
theorem q_535 : (Jvm.Cond.methodLinkNest "BusStageModel" (21 : Nat) ({ cls := "BusStageModel$State", name := "<init>", desc := "(LBusStageModel;)V" } : Jvm.MethodName) "BusStageModel") ∈ lw_tbl := List.mem_of_getElem? (i := 550) (by decide +kernel)
set_option maxRecDepth 20000 in
theorem q_536 : (Jvm.Cond.instanceMethod ({ cls := "BusStageModel$State", name := "<init>", desc := "(LBusStageModel;)V" } : Jvm.MethodName)) ∈ lw_good := gw 551 (by decide +kernel) rfl
set_option maxRecDepth 20000 in
theorem q_537 : (Jvm.Cond.code ({ cls := "BusStageModel$State", name := "<init>", desc := "(LBusStageModel;)V" } : Jvm.MethodName) prog_8_method_1_code (2 : Nat) (Option.none : Option Jvm.ClassFile.FieldType)) ∈ lw_good := gw 552 (by decide +kernel) rfl
set_option maxRecDepth 20000 in
theorem q_538 : (Jvm.Cond.methodLink "BusStageModel$State" (9 : Nat) ({ cls := "java/lang/Object", name := "<init>", desc := "()V" } : Jvm.MethodName)) ∈ lw_good := gw 553 (by decide +kernel) rfl
set_option maxRecDepth 20000 in
theorem q_539 : (Jvm.Cond.fieldLink "BusStageModel$State" (61 : Nat) "BusStageModel$State" "minute" "I") ∈ lw_good := gw 554 (by decide +kernel) rfl
set_option maxRecDepth 20000 in
theorem q_540 : (Jvm.Cond.fieldLinkNest "BusStageModel" (86 : Nat) "BusStageModel$State" "minute" "I" "BusStageModel") ∈ lw_tbl := List.mem_of_getElem? (i := 555) (by decide +kernel)
set_option maxRecDepth 20000 in
theorem q_541 : (Jvm.Cond.fieldLink "BusStageModel$State" (65 : Nat) "BusStageModel$State" "hold" "I") ∈ lw_good := gw 556 (by decide +kernel) rfl
set_option maxRecDepth 20000 in
theorem q_542 : (Jvm.Cond.fieldLinkNest "BusStageModel" (56 : Nat) "BusStageModel$State" "hold" "I" "BusStageModel") ∈ lw_tbl := List.mem_of_getElem? (i := 557) (by decide +kernel)
set_option maxRecDepth 20000 in
theorem q_543 : (Jvm.Cond.fieldLink "BusStageModel$State" (15 : Nat) "BusStageModel$State" "latest" "[I") ∈ lw_good := gw 558 (by decide +kernel) rfl
set_option maxRecDepth 20000 in
theorem q_544 : (Jvm.Cond.fieldLinkNest "BusStageModel" (31 : Nat) "BusStageModel$State" "latest" "[I" "BusStageModel") ∈ lw_tbl := List.mem_of_getElem? (i := 559) (by decide +kernel)
set_option maxRecDepth 20000 in
theorem q_545 : (Jvm.Cond.fieldLink "BusStageModel$State" (19 : Nat) "BusStageModel$State" "at" "[I") ∈ lw_good := gw 560 (by decide +kernel) rfl
set_option maxRecDepth 20000 in
theorem q_546 : (Jvm.Cond.fieldLinkNest "BusStageModel" (59 : Nat) "BusStageModel$State" "at" "[I" "BusStageModel") ∈ lw_tbl := List.mem_of_getElem? (i := 561) (by decide +kernel)
set_option maxRecDepth 20000 in
theorem q_547 : (Jvm.Cond.fieldLink "BusStageModel$State" (22 : Nat) "BusStageModel$State" "goes" "[I") ∈ lw_good := gw 562 (by decide +kernel) rfl
set_option maxRecDepth 20000 in
theorem q_548 : (Jvm.Cond.fieldLinkNest "BusStageModel" (93 : Nat) "BusStageModel$State" "goes" "[I" "BusStageModel") ∈ lw_tbl := List.mem_of_getElem? (i := 563) (by decide +kernel)
set_option maxRecDepth 20000 in
theorem q_549 : (Jvm.Cond.fieldLink "BusStageModel$State" (25 : Nat) "BusStageModel$State" "left" "[I") ∈ lw_good := gw 564 (by decide +kernel) rfl
set_option maxRecDepth 20000 in
theorem q_550 : (Jvm.Cond.fieldLinkNest "BusStageModel" (62 : Nat) "BusStageModel$State" "left" "[I" "BusStageModel") ∈ lw_tbl := List.mem_of_getElem? (i := 565) (by decide +kernel)
set_option maxRecDepth 20000 in
theorem q_551 : (Jvm.Cond.fieldLink "BusStageModel$State" (28 : Nat) "BusStageModel$State" "took" "[I") ∈ lw_good := gw 566 (by decide +kernel) rfl
set_option maxRecDepth 20000 in
theorem q_552 : (Jvm.Cond.fieldLinkNest "BusStageModel" (99 : Nat) "BusStageModel$State" "took" "[I" "BusStageModel") ∈ lw_tbl := List.mem_of_getElem? (i := 567) (by decide +kernel)
set_option maxRecDepth 20000 in
theorem q_553 : (Jvm.Cond.fieldLink "BusStageModel$State" (31 : Nat) "BusStageModel$State" "is" "[I") ∈ lw_good := gw 568 (by decide +kernel) rfl
set_option maxRecDepth 20000 in
theorem q_554 : (Jvm.Cond.fieldLinkNest "BusStageModel" (80 : Nat) "BusStageModel$State" "is" "[I" "BusStageModel") ∈ lw_tbl := List.mem_of_getElem? (i := 569) (by decide +kernel)
set_option maxRecDepth 20000 in
theorem q_555 : (Jvm.Cond.fieldLink "BusStageModel$State" (34 : Nat) "BusStageModel$State" "where" "[I") ∈ lw_good := gw 570 (by decide +kernel) rfl
set_option maxRecDepth 20000 in
theorem q_556 : (Jvm.Cond.fieldLinkNest "BusStageModel" (65 : Nat) "BusStageModel$State" "where" "[I" "BusStageModel") ∈ lw_tbl := List.mem_of_getElem? (i := 571) (by decide +kernel)
set_option maxRecDepth 20000 in
theorem q_557 : (Jvm.Cond.fieldLink "BusStageModel$State" (37 : Nat) "BusStageModel$State" "to" "[I") ∈ lw_good := gw 572 (by decide +kernel) rfl
set_option maxRecDepth 20000 in
theorem q_558 : (Jvm.Cond.fieldLinkNest "BusStageModel" (68 : Nat) "BusStageModel$State" "to" "[I" "BusStageModel") ∈ lw_tbl := List.mem_of_getElem? (i := 573) (by decide +kernel)
set_option maxRecDepth 20000 in
theorem q_559 : (Jvm.Cond.fieldLink "BusStageModel$State" (40 : Nat) "BusStageModel$State" "in" "[I") ∈ lw_good := gw 574 (by decide +kernel) rfl
set_option maxRecDepth 20000 in
theorem q_560 : (Jvm.Cond.fieldLinkNest "BusStageModel" (71 : Nat) "BusStageModel$State" "in" "[I" "BusStageModel") ∈ lw_tbl := List.mem_of_getElem? (i := 575) (by decide +kernel)
set_option maxRecDepth 20000 in
theorem q_561 : (Jvm.Cond.fieldLink "BusStageModel$State" (43 : Nat) "BusStageModel$State" "paid" "[I") ∈ lw_good := gw 576 (by decide +kernel) rfl
set_option maxRecDepth 20000 in
theorem q_562 : (Jvm.Cond.fieldLinkNest "BusStageModel" (108 : Nat) "BusStageModel$State" "paid" "[I" "BusStageModel") ∈ lw_tbl := List.mem_of_getElem? (i := 577) (by decide +kernel)
set_option maxRecDepth 20000 in
theorem q_563 : (Jvm.Cond.fieldLink "BusStageModel$State" (46 : Nat) "BusStageModel$State" "waited" "[I") ∈ lw_good := gw 578 (by decide +kernel) rfl
set_option maxRecDepth 20000 in
theorem q_564 : (Jvm.Cond.fieldLinkNest "BusStageModel" (111 : Nat) "BusStageModel$State" "waited" "[I" "BusStageModel") ∈ lw_tbl := List.mem_of_getElem? (i := 579) (by decide +kernel)
set_option maxRecDepth 20000 in
theorem q_565 : (Jvm.Cond.fieldLink "BusStageModel$State" (49 : Nat) "BusStageModel$State" "came" "[I") ∈ lw_good := gw 580 (by decide +kernel) rfl
set_option maxRecDepth 20000 in
theorem q_566 : (Jvm.Cond.fieldLinkNest "BusStageModel" (74 : Nat) "BusStageModel$State" "came" "[I" "BusStageModel") ∈ lw_tbl := List.mem_of_getElem? (i := 581) (by decide +kernel)
set_option maxRecDepth 20000 in
theorem q_567 : (Jvm.Cond.fieldLink "BusStageModel$State" (52 : Nat) "BusStageModel$State" "changes" "[I") ∈ lw_good := gw 582 (by decide +kernel) rfl
set_option maxRecDepth 20000 in
theorem q_568 : (Jvm.Cond.fieldLinkNest "BusStageModel" (83 : Nat) "BusStageModel$State" "changes" "[I" "BusStageModel") ∈ lw_tbl := List.mem_of_getElem? (i := 583) (by decide +kernel)
set_option maxRecDepth 20000 in
theorem q_569 : (Jvm.Cond.fieldLink "BusStageModel$State" (3 : Nat) "BusStageModel$State" "this$0" "LBusStageModel;") ∈ lw_good := gw 584 (by decide +kernel) rfl
set_option maxRecDepth 20000 in
theorem q_603 : (Jvm.Cond.arrayClass Jvm.ClassFile.FieldType.int) ∈ lw_good := gw 618 (by decide +kernel) rfl
set_option maxRecDepth 20000 in
theorem q_604 : (Jvm.Cond.fieldLink "BusStageModel" (34 : Nat) "BusStageModel" "thrown" "I") ∈ lw_good := gw 619 (by decide +kernel) rfl
set_option maxRecDepth 20000 in
theorem q_605 : (Jvm.Cond.fieldLink "BusStageModel" (42 : Nat) "BusStageModel" "buses" "I") ∈ lw_good := gw 620 (by decide +kernel) rfl
set_option maxRecDepth 20000 in
theorem q_606 : (Jvm.Cond.fieldLinkNest "BusStageModel$State" (99 : Nat) "BusStageModel" "buses" "I" "BusStageModel") ∈ lw_tbl := List.mem_of_getElem? (i := 621) (by decide +kernel)
set_option maxRecDepth 20000 in
theorem q_607 : (Jvm.Cond.fieldLinkNest "BusStageModel$State" (72 : Nat) "BusStageModel" "passengers" "I" "BusStageModel") ∈ lw_tbl := List.mem_of_getElem? (i := 622) (by decide +kernel)
set_option maxRecDepth 20000 in
theorem q_608 : (Jvm.Cond.fieldLink "BusStageModel" (45 : Nat) "BusStageModel" "passengers" "I") ∈ lw_good := gw 623 (by decide +kernel) rfl
set_option maxRecDepth 20000 in
theorem q_609 : (Jvm.Cond.fieldLink "BusStageModel" (9 : Nat) "BusStageModel" "minutes" "[I") ∈ lw_good := gw 624 (by decide +kernel) rfl
set_option maxRecDepth 20000 in
theorem q_610 : (Jvm.Cond.fieldLinkNest "BusStageModel$State" (96 : Nat) "BusStageModel" "minutes" "[I" "BusStageModel") ∈ lw_tbl := List.mem_of_getElem? (i := 625) (by decide +kernel)
set_option maxRecDepth 20000 in
theorem q_611 : (Jvm.Cond.fieldLink "BusStageModel" (13 : Nat) "BusStageModel" "stage" "[I") ∈ lw_good := gw 626 (by decide +kernel) rfl
set_option maxRecDepth 20000 in
theorem q_612 : (Jvm.Cond.fieldLink "BusStageModel" (16 : Nat) "BusStageModel" "seats" "[I") ∈ lw_good := gw 627 (by decide +kernel) rfl
set_option maxRecDepth 20000 in
theorem q_613 : (Jvm.Cond.fieldLinkNest "BusStageModel$State" (75 : Nat) "BusStageModel" "seats" "[I" "BusStageModel") ∈ lw_tbl := List.mem_of_getElem? (i := 628) (by decide +kernel)
set_option maxRecDepth 20000 in
theorem q_614 : (Jvm.Cond.fieldLink "BusStageModel" (24 : Nat) "BusStageModel" "s" "LBusStageModel$State;") ∈ lw_good := gw 629 (by decide +kernel) rfl
set_option maxRecDepth 20000 in
theorem q_615 : (Jvm.Cond.fieldLink "BusStageModel" (28 : Nat) "BusStageModel" "ahead" "LBusStageModel$State;") ∈ lw_good := gw 630 (by decide +kernel) rfl
set_option maxRecDepth 20000 in
theorem q_633 : (Jvm.Cond.methodLink "BusStageLaw" (71 : Nat) ({ cls := "BusStageModel", name := "thrown", desc := "()I" } : Jvm.MethodName)) ∈ lw_good := gw 648 (by decide +kernel) rfl
set_option maxRecDepth 20000 in
theorem q_634 : (Jvm.Cond.instanceMethod ({ cls := "BusStageModel", name := "thrown", desc := "()I" } : Jvm.MethodName)) ∈ lw_good := gw 649 (by decide +kernel) rfl
set_option maxRecDepth 20000 in
theorem q_635 : (Jvm.Cond.selects "BusStageModel" ({ cls := "BusStageModel", name := "thrown", desc := "()I" } : Jvm.MethodName) ({ cls := "BusStageModel", name := "thrown", desc := "()I" } : Jvm.MethodName)) ∈ lw_good := gw 650 (by decide +kernel) rfl
set_option maxRecDepth 20000 in
theorem q_636 : (Jvm.Cond.code ({ cls := "BusStageModel", name := "thrown", desc := "()I" } : Jvm.MethodName) prog_7_method_2_code (1 : Nat) (Option.some Jvm.ClassFile.FieldType.int)) ∈ lw_good := gw 651 (by decide +kernel) rfl
set_option maxRecDepth 20000 in
theorem q_637 : (Jvm.Cond.methodLink "BusStageLaw" (70 : Nat) ({ cls := "BusStageModel", name := "set", desc := "(III)I" } : Jvm.MethodName)) ∈ lw_good := gw 652 (by decide +kernel) rfl
set_option maxRecDepth 20000 in
theorem q_638 : (Jvm.Cond.instanceMethod ({ cls := "BusStageModel", name := "set", desc := "(III)I" } : Jvm.MethodName)) ∈ lw_good := gw 653 (by decide +kernel) rfl
set_option maxRecDepth 20000 in
theorem q_639 : (Jvm.Cond.selects "BusStageModel" ({ cls := "BusStageModel", name := "set", desc := "(III)I" } : Jvm.MethodName) ({ cls := "BusStageModel", name := "set", desc := "(III)I" } : Jvm.MethodName)) ∈ lw_good := gw 654 (by decide +kernel) rfl
set_option maxRecDepth 20000 in
theorem q_640 : (Jvm.Cond.code ({ cls := "BusStageModel", name := "set", desc := "(III)I" } : Jvm.MethodName) prog_7_method_8_code (5 : Nat) (Option.some Jvm.ClassFile.FieldType.int)) ∈ lw_good := gw 655 (by decide +kernel) rfl
set_option maxRecDepth 20000 in
theorem q_641 : (Jvm.Cond.methodLink "BusStageModel" (48 : Nat) ({ cls := "BusStageModel", name := "isStop", desc := "(I)Z" } : Jvm.MethodName)) ∈ lw_good := gw 656 (by decide +kernel) rfl
set_option maxRecDepth 20000 in
theorem q_642 : (Jvm.Cond.static ({ cls := "BusStageModel", name := "isStop", desc := "(I)Z" } : Jvm.MethodName)) ∈ lw_good := gw 657 (by decide +kernel) rfl
set_option maxRecDepth 20000 in
theorem q_643 : (Jvm.Cond.code ({ cls := "BusStageModel", name := "isStop", desc := "(I)Z" } : Jvm.MethodName) prog_7_method_5_code (1 : Nat) (Option.some Jvm.ClassFile.FieldType.boolean)) ∈ lw_good := gw 658 (by decide +kernel) rfl
set_option maxRecDepth 20000 in
theorem q_644 : (Jvm.Cond.methodLink "BusStageModel" (38 : Nat) ({ cls := "BusStageModel", name := "isIn", desc := "(III)Z" } : Jvm.MethodName)) ∈ lw_good := gw 659 (by decide +kernel) rfl
set_option maxRecDepth 20000 in
theorem q_645 : (Jvm.Cond.static ({ cls := "BusStageModel", name := "isIn", desc := "(III)Z" } : Jvm.MethodName)) ∈ lw_good := gw 660 (by decide +kernel) rfl
set_option maxRecDepth 20000 in
theorem q_646 : (Jvm.Cond.code ({ cls := "BusStageModel", name := "isIn", desc := "(III)Z" } : Jvm.MethodName) prog_7_method_4_code (3 : Nat) (Option.some Jvm.ClassFile.FieldType.boolean)) ∈ lw_good := gw 661 (by decide +kernel) rfl
set_option maxRecDepth 20000 in
theorem q_647 : (Jvm.Cond.methodLink "BusStageModel" (52 : Nat) ({ cls := "BusStageModel", name := "no", desc := "(I)I" } : Jvm.MethodName)) ∈ lw_good := gw 662 (by decide +kernel) rfl
set_option maxRecDepth 20000 in
theorem q_649 : (Jvm.Cond.instanceMethod ({ cls := "BusStageModel", name := "no", desc := "(I)I" } : Jvm.MethodName)) ∈ lw_good := gw 664 (by decide +kernel) rfl
set_option maxRecDepth 20000 in
theorem q_650 : (Jvm.Cond.code ({ cls := "BusStageModel", name := "no", desc := "(I)I" } : Jvm.MethodName) prog_7_method_3_code (2 : Nat) (Option.some Jvm.ClassFile.FieldType.int)) ∈ lw_good := gw 665 (by decide +kernel) rfl
set_option maxRecDepth 20000 in
theorem q_651 : (Jvm.Cond.methodLink "BusStageLaw" (78 : Nat) ({ cls := "BusStageModel", name := "hold", desc := "(I)I" } : Jvm.MethodName)) ∈ lw_good := gw 666 (by decide +kernel) rfl
set_option maxRecDepth 20000 in
theorem q_652 : (Jvm.Cond.instanceMethod ({ cls := "BusStageModel", name := "hold", desc := "(I)I" } : Jvm.MethodName)) ∈ lw_good := gw 667 (by decide +kernel) rfl
set_option maxRecDepth 20000 in
theorem q_653 : (Jvm.Cond.selects "BusStageModel" ({ cls := "BusStageModel", name := "hold", desc := "(I)I" } : Jvm.MethodName) ({ cls := "BusStageModel", name := "hold", desc := "(I)I" } : Jvm.MethodName)) ∈ lw_good := gw 668 (by decide +kernel) rfl
set_option maxRecDepth 20000 in
theorem q_654 : (Jvm.Cond.code ({ cls := "BusStageModel", name := "hold", desc := "(I)I" } : Jvm.MethodName) prog_7_method_9_code (3 : Nat) (Option.some Jvm.ClassFile.FieldType.int)) ∈ lw_good := gw 669 (by decide +kernel) rfl
set_option maxRecDepth 20000 in
theorem q_655 : (Jvm.Cond.methodLink "BusStageLaw" (82 : Nat) ({ cls := "BusStageModel", name := "start", desc := "(II)I" } : Jvm.MethodName)) ∈ lw_good := gw 670 (by decide +kernel) rfl
set_option maxRecDepth 20000 in
theorem q_656 : (Jvm.Cond.instanceMethod ({ cls := "BusStageModel", name := "start", desc := "(II)I" } : Jvm.MethodName)) ∈ lw_good := gw 671 (by decide +kernel) rfl
set_option maxRecDepth 20000 in
theorem q_657 : (Jvm.Cond.selects "BusStageModel" ({ cls := "BusStageModel", name := "start", desc := "(II)I" } : Jvm.MethodName) ({ cls := "BusStageModel", name := "start", desc := "(II)I" } : Jvm.MethodName)) ∈ lw_good := gw 672 (by decide +kernel) rfl
set_option maxRecDepth 20000 in
theorem q_658 : (Jvm.Cond.code ({ cls := "BusStageModel", name := "start", desc := "(II)I" } : Jvm.MethodName) prog_7_method_10_code (3 : Nat) (Option.some Jvm.ClassFile.FieldType.int)) ∈ lw_good := gw 673 (by decide +kernel) rfl
set_option maxRecDepth 20000 in
theorem q_659 : (Jvm.Cond.methodLink "BusStageLaw" (85 : Nat) ({ cls := "BusStageModel", name := "queue", desc := "(II)I" } : Jvm.MethodName)) ∈ lw_good := gw 674 (by decide +kernel) rfl
set_option maxRecDepth 20000 in
theorem q_660 : (Jvm.Cond.instanceMethod ({ cls := "BusStageModel", name := "queue", desc := "(II)I" } : Jvm.MethodName)) ∈ lw_good := gw 675 (by decide +kernel) rfl
set_option maxRecDepth 20000 in
theorem q_661 : (Jvm.Cond.selects "BusStageModel" ({ cls := "BusStageModel", name := "queue", desc := "(II)I" } : Jvm.MethodName) ({ cls := "BusStageModel", name := "queue", desc := "(II)I" } : Jvm.MethodName)) ∈ lw_good := gw 676 (by decide +kernel) rfl
set_option maxRecDepth 20000 in
theorem q_662 : (Jvm.Cond.code ({ cls := "BusStageModel", name := "queue", desc := "(II)I" } : Jvm.MethodName) prog_7_method_11_code (3 : Nat) (Option.some Jvm.ClassFile.FieldType.int)) ∈ lw_good := gw 677 (by decide +kernel) rfl
set_option maxRecDepth 20000 in
theorem q_663 : (Jvm.Cond.methodLink "BusStageLaw" (88 : Nat) ({ cls := "BusStageModel", name := "change", desc := "(II)Z" } : Jvm.MethodName)) ∈ lw_good := gw 678 (by decide +kernel) rfl
set_option maxRecDepth 20000 in
theorem q_664 : (Jvm.Cond.instanceMethod ({ cls := "BusStageModel", name := "change", desc := "(II)Z" } : Jvm.MethodName)) ∈ lw_good := gw 679 (by decide +kernel) rfl
set_option maxRecDepth 20000 in
theorem q_665 : (Jvm.Cond.selects "BusStageModel" ({ cls := "BusStageModel", name := "change", desc := "(II)Z" } : Jvm.MethodName) ({ cls := "BusStageModel", name := "change", desc := "(II)Z" } : Jvm.MethodName)) ∈ lw_good := gw 680 (by decide +kernel) rfl
set_option maxRecDepth 20000 in
theorem q_666 : (Jvm.Cond.code ({ cls := "BusStageModel", name := "change", desc := "(II)Z" } : Jvm.MethodName) prog_7_method_12_code (3 : Nat) (Option.some Jvm.ClassFile.FieldType.boolean)) ∈ lw_good := gw 681 (by decide +kernel) rfl
set_option maxRecDepth 20000 in
theorem q_667 : (Jvm.Cond.methodLink "BusStageModel" (77 : Nat) ({ cls := "BusStageModel", name := "isPassenger", desc := "(I)Z" } : Jvm.MethodName)) ∈ lw_good := gw 682 (by decide +kernel) rfl
set_option maxRecDepth 20000 in
theorem q_669 : (Jvm.Cond.instanceMethod ({ cls := "BusStageModel", name := "isPassenger", desc := "(I)Z" } : Jvm.MethodName)) ∈ lw_good := gw 684 (by decide +kernel) rfl
set_option maxRecDepth 20000 in
theorem q_670 : (Jvm.Cond.code ({ cls := "BusStageModel", name := "isPassenger", desc := "(I)Z" } : Jvm.MethodName) prog_7_method_7_code (2 : Nat) (Option.some Jvm.ClassFile.FieldType.boolean)) ∈ lw_good := gw 685 (by decide +kernel) rfl
set_option maxRecDepth 20000 in
theorem q_671 : (Jvm.Cond.methodLink "BusStageLaw" (91 : Nat) ({ cls := "BusStageModel", name := "fare", desc := "(II)I" } : Jvm.MethodName)) ∈ lw_good := gw 686 (by decide +kernel) rfl
set_option maxRecDepth 20000 in
theorem q_672 : (Jvm.Cond.instanceMethod ({ cls := "BusStageModel", name := "fare", desc := "(II)I" } : Jvm.MethodName)) ∈ lw_good := gw 687 (by decide +kernel) rfl
set_option maxRecDepth 20000 in
theorem q_673 : (Jvm.Cond.selects "BusStageModel" ({ cls := "BusStageModel", name := "fare", desc := "(II)I" } : Jvm.MethodName) ({ cls := "BusStageModel", name := "fare", desc := "(II)I" } : Jvm.MethodName)) ∈ lw_good := gw 688 (by decide +kernel) rfl
set_option maxRecDepth 20000 in
theorem q_674 : (Jvm.Cond.code ({ cls := "BusStageModel", name := "fare", desc := "(II)I" } : Jvm.MethodName) prog_7_method_14_code (3 : Nat) (Option.some Jvm.ClassFile.FieldType.int)) ∈ lw_good := gw 689 (by decide +kernel) rfl
set_option maxRecDepth 20000 in
theorem q_675 : (Jvm.Cond.methodLink "BusStageModel" (89 : Nat) ({ cls := "BusStageModel", name := "fareOf", desc := "(II)I" } : Jvm.MethodName)) ∈ lw_good := gw 690 (by decide +kernel) rfl
set_option maxRecDepth 20000 in
theorem q_677 : (Jvm.Cond.instanceMethod ({ cls := "BusStageModel", name := "fareOf", desc := "(II)I" } : Jvm.MethodName)) ∈ lw_good := gw 692 (by decide +kernel) rfl
set_option maxRecDepth 20000 in
theorem q_678 : (Jvm.Cond.code ({ cls := "BusStageModel", name := "fareOf", desc := "(II)I" } : Jvm.MethodName) prog_7_method_13_code (5 : Nat) (Option.some Jvm.ClassFile.FieldType.int)) ∈ lw_good := gw 693 (by decide +kernel) rfl
set_option maxRecDepth 20000 in
theorem q_679 : (Jvm.Cond.methodLink "BusStageLaw" (94 : Nat) ({ cls := "BusStageModel", name := "bus", desc := "(II)I" } : Jvm.MethodName)) ∈ lw_good := gw 694 (by decide +kernel) rfl
set_option maxRecDepth 20000 in
theorem q_680 : (Jvm.Cond.instanceMethod ({ cls := "BusStageModel", name := "bus", desc := "(II)I" } : Jvm.MethodName)) ∈ lw_good := gw 695 (by decide +kernel) rfl
set_option maxRecDepth 20000 in
theorem q_681 : (Jvm.Cond.selects "BusStageModel" ({ cls := "BusStageModel", name := "bus", desc := "(II)I" } : Jvm.MethodName) ({ cls := "BusStageModel", name := "bus", desc := "(II)I" } : Jvm.MethodName)) ∈ lw_good := gw 696 (by decide +kernel) rfl
set_option maxRecDepth 20000 in
theorem q_682 : (Jvm.Cond.code ({ cls := "BusStageModel", name := "bus", desc := "(II)I" } : Jvm.MethodName) prog_7_method_16_code (3 : Nat) (Option.some Jvm.ClassFile.FieldType.int)) ∈ lw_good := gw 697 (by decide +kernel) rfl
set_option maxRecDepth 20000 in
theorem q_683 : (Jvm.Cond.methodLink "BusStageModel" (102 : Nat) ({ cls := "BusStageModel", name := "isBus", desc := "(I)Z" } : Jvm.MethodName)) ∈ lw_good := gw 698 (by decide +kernel) rfl
set_option maxRecDepth 20000 in
theorem q_685 : (Jvm.Cond.instanceMethod ({ cls := "BusStageModel", name := "isBus", desc := "(I)Z" } : Jvm.MethodName)) ∈ lw_good := gw 700 (by decide +kernel) rfl
set_option maxRecDepth 20000 in
theorem q_686 : (Jvm.Cond.code ({ cls := "BusStageModel", name := "isBus", desc := "(I)Z" } : Jvm.MethodName) prog_7_method_6_code (2 : Nat) (Option.some Jvm.ClassFile.FieldType.boolean)) ∈ lw_good := gw 701 (by decide +kernel) rfl
set_option maxRecDepth 20000 in
theorem q_687 : (Jvm.Cond.methodLink "BusStageModel" (105 : Nat) ({ cls := "BusStageModel", name := "busTold", desc := "(II)I" } : Jvm.MethodName)) ∈ lw_good := gw 702 (by decide +kernel) rfl
set_option maxRecDepth 20000 in
theorem q_689 : (Jvm.Cond.instanceMethod ({ cls := "BusStageModel", name := "busTold", desc := "(II)I" } : Jvm.MethodName)) ∈ lw_good := gw 704 (by decide +kernel) rfl
set_option maxRecDepth 20000 in
theorem q_690 : (Jvm.Cond.code ({ cls := "BusStageModel", name := "busTold", desc := "(II)I" } : Jvm.MethodName) prog_7_method_15_code (4 : Nat) (Option.some Jvm.ClassFile.FieldType.int)) ∈ lw_good := gw 705 (by decide +kernel) rfl
set_option maxRecDepth 20000 in
theorem q_691 : (Jvm.Cond.methodLink "BusStageModel" (96 : Nat) ({ cls := "BusStageModel$State", name := "riders", desc := "(I)I" } : Jvm.MethodName)) ∈ lw_good := gw 706 (by decide +kernel) rfl
set_option maxRecDepth 20000 in
theorem q_692 : (Jvm.Cond.instanceMethod ({ cls := "BusStageModel$State", name := "riders", desc := "(I)I" } : Jvm.MethodName)) ∈ lw_good := gw 707 (by decide +kernel) rfl
set_option maxRecDepth 20000 in
theorem q_693 : (Jvm.Cond.selects "BusStageModel$State" ({ cls := "BusStageModel$State", name := "riders", desc := "(I)I" } : Jvm.MethodName) ({ cls := "BusStageModel$State", name := "riders", desc := "(I)I" } : Jvm.MethodName)) ∈ lw_good := gw 708 (by decide +kernel) rfl
set_option maxRecDepth 20000 in
theorem q_694 : (Jvm.Cond.code ({ cls := "BusStageModel$State", name := "riders", desc := "(I)I" } : Jvm.MethodName) prog_8_method_4_code (4 : Nat) (Option.some Jvm.ClassFile.FieldType.int)) ∈ lw_good := gw 709 (by decide +kernel) rfl
set_option maxRecDepth 20000 in
theorem q_695 : (Jvm.Cond.methodLink "BusStageLaw" (97 : Nat) ({ cls := "BusStageModel", name := "passenger", desc := "(II)I" } : Jvm.MethodName)) ∈ lw_good := gw 710 (by decide +kernel) rfl
set_option maxRecDepth 20000 in
theorem q_696 : (Jvm.Cond.instanceMethod ({ cls := "BusStageModel", name := "passenger", desc := "(II)I" } : Jvm.MethodName)) ∈ lw_good := gw 711 (by decide +kernel) rfl
set_option maxRecDepth 20000 in
theorem q_697 : (Jvm.Cond.selects "BusStageModel" ({ cls := "BusStageModel", name := "passenger", desc := "(II)I" } : Jvm.MethodName) ({ cls := "BusStageModel", name := "passenger", desc := "(II)I" } : Jvm.MethodName)) ∈ lw_good := gw 712 (by decide +kernel) rfl
set_option maxRecDepth 20000 in
theorem q_698 : (Jvm.Cond.code ({ cls := "BusStageModel", name := "passenger", desc := "(II)I" } : Jvm.MethodName) prog_7_method_18_code (3 : Nat) (Option.some Jvm.ClassFile.FieldType.int)) ∈ lw_good := gw 713 (by decide +kernel) rfl
set_option maxRecDepth 20000 in
theorem q_699 : (Jvm.Cond.methodLink "BusStageModel" (114 : Nat) ({ cls := "BusStageModel", name := "passengerTold", desc := "(II)I" } : Jvm.MethodName)) ∈ lw_good := gw 714 (by decide +kernel) rfl
set_option maxRecDepth 20000 in
theorem q_701 : (Jvm.Cond.instanceMethod ({ cls := "BusStageModel", name := "passengerTold", desc := "(II)I" } : Jvm.MethodName)) ∈ lw_good := gw 716 (by decide +kernel) rfl
set_option maxRecDepth 20000 in
theorem q_702 : (Jvm.Cond.code ({ cls := "BusStageModel", name := "passengerTold", desc := "(II)I" } : Jvm.MethodName) prog_7_method_17_code (4 : Nat) (Option.some Jvm.ClassFile.FieldType.int)) ∈ lw_good := gw 717 (by decide +kernel) rfl
set_option maxRecDepth 20000 in
theorem q_703 : (Jvm.Cond.methodLink "BusStageLaw" (100 : Nat) ({ cls := "BusStageModel", name := "stop", desc := "(II)I" } : Jvm.MethodName)) ∈ lw_good := gw 718 (by decide +kernel) rfl
set_option maxRecDepth 20000 in
theorem q_704 : (Jvm.Cond.instanceMethod ({ cls := "BusStageModel", name := "stop", desc := "(II)I" } : Jvm.MethodName)) ∈ lw_good := gw 719 (by decide +kernel) rfl
set_option maxRecDepth 20000 in
theorem q_705 : (Jvm.Cond.selects "BusStageModel" ({ cls := "BusStageModel", name := "stop", desc := "(II)I" } : Jvm.MethodName) ({ cls := "BusStageModel", name := "stop", desc := "(II)I" } : Jvm.MethodName)) ∈ lw_good := gw 720 (by decide +kernel) rfl
set_option maxRecDepth 20000 in
theorem q_706 : (Jvm.Cond.code ({ cls := "BusStageModel", name := "stop", desc := "(II)I" } : Jvm.MethodName) prog_7_method_20_code (3 : Nat) (Option.some Jvm.ClassFile.FieldType.int)) ∈ lw_good := gw 721 (by decide +kernel) rfl
set_option maxRecDepth 20000 in
theorem q_707 : (Jvm.Cond.methodLink "BusStageModel" (117 : Nat) ({ cls := "BusStageModel", name := "stopTold", desc := "(II)I" } : Jvm.MethodName)) ∈ lw_good := gw 722 (by decide +kernel) rfl
set_option maxRecDepth 20000 in
theorem q_709 : (Jvm.Cond.instanceMethod ({ cls := "BusStageModel", name := "stopTold", desc := "(II)I" } : Jvm.MethodName)) ∈ lw_good := gw 724 (by decide +kernel) rfl
set_option maxRecDepth 20000 in
theorem q_710 : (Jvm.Cond.code ({ cls := "BusStageModel", name := "stopTold", desc := "(II)I" } : Jvm.MethodName) prog_7_method_19_code (6 : Nat) (Option.some Jvm.ClassFile.FieldType.int)) ∈ lw_good := gw 725 (by decide +kernel) rfl
set_option maxRecDepth 20000 in
theorem q_711 : (Jvm.Cond.methodLink "BusStageLaw" (103 : Nat) ({ cls := "BusStageModel", name := "count", desc := "(I)I" } : Jvm.MethodName)) ∈ lw_good := gw 726 (by decide +kernel) rfl
set_option maxRecDepth 20000 in
theorem q_712 : (Jvm.Cond.instanceMethod ({ cls := "BusStageModel", name := "count", desc := "(I)I" } : Jvm.MethodName)) ∈ lw_good := gw 727 (by decide +kernel) rfl
set_option maxRecDepth 20000 in
theorem q_713 : (Jvm.Cond.selects "BusStageModel" ({ cls := "BusStageModel", name := "count", desc := "(I)I" } : Jvm.MethodName) ({ cls := "BusStageModel", name := "count", desc := "(I)I" } : Jvm.MethodName)) ∈ lw_good := gw 728 (by decide +kernel) rfl
set_option maxRecDepth 20000 in
theorem q_714 : (Jvm.Cond.code ({ cls := "BusStageModel", name := "count", desc := "(I)I" } : Jvm.MethodName) prog_7_method_22_code (2 : Nat) (Option.some Jvm.ClassFile.FieldType.int)) ∈ lw_good := gw 729 (by decide +kernel) rfl
set_option maxRecDepth 20000 in
theorem q_715 : (Jvm.Cond.methodLink "BusStageModel" (131 : Nat) ({ cls := "BusStageModel", name := "counted", desc := "(I)I" } : Jvm.MethodName)) ∈ lw_good := gw 730 (by decide +kernel) rfl
set_option maxRecDepth 20000 in
theorem q_717 : (Jvm.Cond.instanceMethod ({ cls := "BusStageModel", name := "counted", desc := "(I)I" } : Jvm.MethodName)) ∈ lw_good := gw 732 (by decide +kernel) rfl
set_option maxRecDepth 20000 in
theorem q_718 : (Jvm.Cond.code ({ cls := "BusStageModel", name := "counted", desc := "(I)I" } : Jvm.MethodName) prog_7_method_21_code (3 : Nat) (Option.some Jvm.ClassFile.FieldType.int)) ∈ lw_good := gw 733 (by decide +kernel) rfl
set_option maxRecDepth 20000 in
theorem q_719 : (Jvm.Cond.methodLink "BusStageModel" (120 : Nat) ({ cls := "BusStageModel$State", name := "are", desc := "(I)I" } : Jvm.MethodName)) ∈ lw_good := gw 734 (by decide +kernel) rfl
set_option maxRecDepth 20000 in
theorem q_720 : (Jvm.Cond.instanceMethod ({ cls := "BusStageModel$State", name := "are", desc := "(I)I" } : Jvm.MethodName)) ∈ lw_good := gw 735 (by decide +kernel) rfl
set_option maxRecDepth 20000 in
theorem q_721 : (Jvm.Cond.selects "BusStageModel$State" ({ cls := "BusStageModel$State", name := "are", desc := "(I)I" } : Jvm.MethodName) ({ cls := "BusStageModel$State", name := "are", desc := "(I)I" } : Jvm.MethodName)) ∈ lw_good := gw 736 (by decide +kernel) rfl
set_option maxRecDepth 20000 in
theorem q_722 : (Jvm.Cond.code ({ cls := "BusStageModel$State", name := "are", desc := "(I)I" } : Jvm.MethodName) prog_8_method_11_code (4 : Nat) (Option.some Jvm.ClassFile.FieldType.int)) ∈ lw_good := gw 737 (by decide +kernel) rfl
set_option maxRecDepth 20000 in
theorem q_723 : (Jvm.Cond.methodLink "BusStageModel" (123 : Nat) ({ cls := "BusStageModel$State", name := "sum", desc := "([I)I" } : Jvm.MethodName)) ∈ lw_good := gw 738 (by decide +kernel) rfl
set_option maxRecDepth 20000 in
theorem q_724 : (Jvm.Cond.instanceMethod ({ cls := "BusStageModel$State", name := "sum", desc := "([I)I" } : Jvm.MethodName)) ∈ lw_good := gw 739 (by decide +kernel) rfl
set_option maxRecDepth 20000 in
theorem q_725 : (Jvm.Cond.selects "BusStageModel$State" ({ cls := "BusStageModel$State", name := "sum", desc := "([I)I" } : Jvm.MethodName) ({ cls := "BusStageModel$State", name := "sum", desc := "([I)I" } : Jvm.MethodName)) ∈ lw_good := gw 740 (by decide +kernel) rfl
set_option maxRecDepth 20000 in
theorem q_726 : (Jvm.Cond.code ({ cls := "BusStageModel$State", name := "sum", desc := "([I)I" } : Jvm.MethodName) prog_8_method_12_code (7 : Nat) (Option.some Jvm.ClassFile.FieldType.int)) ∈ lw_good := gw 741 (by decide +kernel) rfl
set_option maxRecDepth 20000 in
theorem q_727 : (Jvm.Cond.methodLink "BusStageModel" (127 : Nat) ({ cls := "BusStageModel$State", name := "bunched", desc := "()I" } : Jvm.MethodName)) ∈ lw_good := gw 742 (by decide +kernel) rfl
set_option maxRecDepth 20000 in
theorem q_728 : (Jvm.Cond.instanceMethod ({ cls := "BusStageModel$State", name := "bunched", desc := "()I" } : Jvm.MethodName)) ∈ lw_good := gw 743 (by decide +kernel) rfl
set_option maxRecDepth 20000 in
theorem q_729 : (Jvm.Cond.selects "BusStageModel$State" ({ cls := "BusStageModel$State", name := "bunched", desc := "()I" } : Jvm.MethodName) ({ cls := "BusStageModel$State", name := "bunched", desc := "()I" } : Jvm.MethodName)) ∈ lw_good := gw 744 (by decide +kernel) rfl
set_option maxRecDepth 20000 in
theorem q_730 : (Jvm.Cond.code ({ cls := "BusStageModel$State", name := "bunched", desc := "()I" } : Jvm.MethodName) prog_8_method_13_code (4 : Nat) (Option.some Jvm.ClassFile.FieldType.int)) ∈ lw_good := gw 745 (by decide +kernel) rfl
set_option maxRecDepth 20000 in
theorem q_731 : (Jvm.Cond.methodLink "BusStageLaw" (106 : Nat) ({ cls := "BusStageModel", name := "go", desc := "(I)I" } : Jvm.MethodName)) ∈ lw_good := gw 746 (by decide +kernel) rfl
set_option maxRecDepth 20000 in
theorem q_732 : (Jvm.Cond.instanceMethod ({ cls := "BusStageModel", name := "go", desc := "(I)I" } : Jvm.MethodName)) ∈ lw_good := gw 747 (by decide +kernel) rfl
set_option maxRecDepth 20000 in
theorem q_733 : (Jvm.Cond.selects "BusStageModel" ({ cls := "BusStageModel", name := "go", desc := "(I)I" } : Jvm.MethodName) ({ cls := "BusStageModel", name := "go", desc := "(I)I" } : Jvm.MethodName)) ∈ lw_good := gw 748 (by decide +kernel) rfl
set_option maxRecDepth 20000 in
theorem q_734 : (Jvm.Cond.code ({ cls := "BusStageModel", name := "go", desc := "(I)I" } : Jvm.MethodName) prog_7_method_23_code (2 : Nat) (Option.some Jvm.ClassFile.FieldType.int)) ∈ lw_good := gw 749 (by decide +kernel) rfl
set_option maxRecDepth 20000 in
theorem q_735 : (Jvm.Cond.methodLink "BusStageModel" (134 : Nat) ({ cls := "BusStageModel$State", name := "go", desc := "(I)I" } : Jvm.MethodName)) ∈ lw_good := gw 750 (by decide +kernel) rfl
set_option maxRecDepth 20000 in
theorem q_736 : (Jvm.Cond.instanceMethod ({ cls := "BusStageModel$State", name := "go", desc := "(I)I" } : Jvm.MethodName)) ∈ lw_good := gw 751 (by decide +kernel) rfl
set_option maxRecDepth 20000 in
theorem q_737 : (Jvm.Cond.selects "BusStageModel$State" ({ cls := "BusStageModel$State", name := "go", desc := "(I)I" } : Jvm.MethodName) ({ cls := "BusStageModel$State", name := "go", desc := "(I)I" } : Jvm.MethodName)) ∈ lw_good := gw 752 (by decide +kernel) rfl
set_option maxRecDepth 20000 in
theorem q_738 : (Jvm.Cond.code ({ cls := "BusStageModel$State", name := "go", desc := "(I)I" } : Jvm.MethodName) prog_8_method_10_code (4 : Nat) (Option.some Jvm.ClassFile.FieldType.int)) ∈ lw_good := gw 753 (by decide +kernel) rfl
set_option maxRecDepth 20000 in
theorem q_739 : (Jvm.Cond.methodLink "BusStageModel$State" (105 : Nat) ({ cls := "BusStageModel$State", name := "go", desc := "()I" } : Jvm.MethodName)) ∈ lw_good := gw 754 (by decide +kernel) rfl
set_option maxRecDepth 20000 in
theorem q_740 : (Jvm.Cond.instanceMethod ({ cls := "BusStageModel$State", name := "go", desc := "()I" } : Jvm.MethodName)) ∈ lw_good := gw 755 (by decide +kernel) rfl
set_option maxRecDepth 20000 in
theorem q_741 : (Jvm.Cond.selects "BusStageModel$State" ({ cls := "BusStageModel$State", name := "go", desc := "()I" } : Jvm.MethodName) ({ cls := "BusStageModel$State", name := "go", desc := "()I" } : Jvm.MethodName)) ∈ lw_good := gw 756 (by decide +kernel) rfl
set_option maxRecDepth 20000 in
theorem q_742 : (Jvm.Cond.code ({ cls := "BusStageModel$State", name := "go", desc := "()I" } : Jvm.MethodName) prog_8_method_9_code (3 : Nat) (Option.some Jvm.ClassFile.FieldType.int)) ∈ lw_good := gw 757 (by decide +kernel) rfl
set_option maxRecDepth 20000 in
theorem q_743 : (Jvm.Cond.methodLink "BusStageModel$State" (102 : Nat) ({ cls := "BusStageModel$State", name := "act", desc := "(I)I" } : Jvm.MethodName)) ∈ lw_good := gw 758 (by decide +kernel) rfl
set_option maxRecDepth 20000 in
theorem q_745 : (Jvm.Cond.instanceMethod ({ cls := "BusStageModel$State", name := "act", desc := "(I)I" } : Jvm.MethodName)) ∈ lw_good := gw 760 (by decide +kernel) rfl
set_option maxRecDepth 20000 in
theorem q_746 : (Jvm.Cond.code ({ cls := "BusStageModel$State", name := "act", desc := "(I)I" } : Jvm.MethodName) prog_8_method_7_code (3 : Nat) (Option.some Jvm.ClassFile.FieldType.int)) ∈ lw_good := gw 761 (by decide +kernel) rfl
set_option maxRecDepth 20000 in
theorem q_747 : (Jvm.Cond.methodLink "BusStageModel$State" (86 : Nat) ({ cls := "BusStageModel$State", name := "stand", desc := "(I)V" } : Jvm.MethodName)) ∈ lw_good := gw 762 (by decide +kernel) rfl
set_option maxRecDepth 20000 in
theorem q_749 : (Jvm.Cond.instanceMethod ({ cls := "BusStageModel$State", name := "stand", desc := "(I)V" } : Jvm.MethodName)) ∈ lw_good := gw 764 (by decide +kernel) rfl
set_option maxRecDepth 20000 in
theorem q_750 : (Jvm.Cond.code ({ cls := "BusStageModel$State", name := "stand", desc := "(I)V" } : Jvm.MethodName) prog_8_method_8_code (3 : Nat) (Option.none : Option Jvm.ClassFile.FieldType)) ∈ lw_good := gw 765 (by decide +kernel) rfl
set_option maxRecDepth 20000 in
theorem q_751 : (Jvm.Cond.methodLink "BusStageModel$State" (90 : Nat) ({ cls := "BusStageModel$State", name := "getOff", desc := "(I)I" } : Jvm.MethodName)) ∈ lw_good := gw 766 (by decide +kernel) rfl
set_option maxRecDepth 20000 in
theorem q_753 : (Jvm.Cond.instanceMethod ({ cls := "BusStageModel$State", name := "getOff", desc := "(I)I" } : Jvm.MethodName)) ∈ lw_good := gw 768 (by decide +kernel) rfl
set_option maxRecDepth 20000 in
theorem q_754 : (Jvm.Cond.code ({ cls := "BusStageModel$State", name := "getOff", desc := "(I)I" } : Jvm.MethodName) prog_8_method_5_code (4 : Nat) (Option.some Jvm.ClassFile.FieldType.int)) ∈ lw_good := gw 769 (by decide +kernel) rfl
set_option maxRecDepth 20000 in
theorem q_755 : (Jvm.Cond.methodLink "BusStageModel$State" (93 : Nat) ({ cls := "BusStageModel$State", name := "getOn", desc := "(I)I" } : Jvm.MethodName)) ∈ lw_good := gw 770 (by decide +kernel) rfl
set_option maxRecDepth 20000 in
theorem q_757 : (Jvm.Cond.instanceMethod ({ cls := "BusStageModel$State", name := "getOn", desc := "(I)I" } : Jvm.MethodName)) ∈ lw_good := gw 772 (by decide +kernel) rfl
set_option maxRecDepth 20000 in
theorem q_758 : (Jvm.Cond.code ({ cls := "BusStageModel$State", name := "getOn", desc := "(I)I" } : Jvm.MethodName) prog_8_method_6_code (6 : Nat) (Option.some Jvm.ClassFile.FieldType.int)) ∈ lw_good := gw 773 (by decide +kernel) rfl
set_option maxRecDepth 20000 in
theorem q_759 : (Jvm.Cond.methodLink "BusStageModel$State" (78 : Nat) ({ cls := "BusStageModel$State", name := "riders", desc := "(I)I" } : Jvm.MethodName)) ∈ lw_good := gw 774 (by decide +kernel) rfl
set_option maxRecDepth 20000 in
theorem q_760 : (Jvm.Cond.methodLinkNest "BusStageModel$State" (82 : Nat) ({ cls := "BusStageModel", name := "fareOf", desc := "(II)I" } : Jvm.MethodName) "BusStageModel") ∈ lw_tbl := List.mem_of_getElem? (i := 775) (by decide +kernel)
set_option maxRecDepth 20000 in
theorem q_761 : (Jvm.Cond.methodLink "BusStageLaw" (109 : Nat) ({ cls := "BusStageModel", name := "arrives", desc := "(I)I" } : Jvm.MethodName)) ∈ lw_good := gw 776 (by decide +kernel) rfl
set_option maxRecDepth 20000 in
theorem q_762 : (Jvm.Cond.instanceMethod ({ cls := "BusStageModel", name := "arrives", desc := "(I)I" } : Jvm.MethodName)) ∈ lw_good := gw 777 (by decide +kernel) rfl
set_option maxRecDepth 20000 in
theorem q_763 : (Jvm.Cond.selects "BusStageModel" ({ cls := "BusStageModel", name := "arrives", desc := "(I)I" } : Jvm.MethodName) ({ cls := "BusStageModel", name := "arrives", desc := "(I)I" } : Jvm.MethodName)) ∈ lw_good := gw 778 (by decide +kernel) rfl
set_option maxRecDepth 20000 in
theorem q_764 : (Jvm.Cond.code ({ cls := "BusStageModel", name := "arrives", desc := "(I)I" } : Jvm.MethodName) prog_7_method_24_code (3 : Nat) (Option.some Jvm.ClassFile.FieldType.int)) ∈ lw_good := gw 779 (by decide +kernel) rfl
set_option maxRecDepth 20000 in
theorem q_765 : (Jvm.Cond.methodLink "BusStageModel" (137 : Nat) ({ cls := "BusStageModel$State", name := "become", desc := "(LBusStageModel$State;)V" } : Jvm.MethodName)) ∈ lw_good := gw 780 (by decide +kernel) rfl
set_option maxRecDepth 20000 in
theorem q_766 : (Jvm.Cond.instanceMethod ({ cls := "BusStageModel$State", name := "become", desc := "(LBusStageModel$State;)V" } : Jvm.MethodName)) ∈ lw_good := gw 781 (by decide +kernel) rfl
set_option maxRecDepth 20000 in
theorem q_767 : (Jvm.Cond.selects "BusStageModel$State" ({ cls := "BusStageModel$State", name := "become", desc := "(LBusStageModel$State;)V" } : Jvm.MethodName) ({ cls := "BusStageModel$State", name := "become", desc := "(LBusStageModel$State;)V" } : Jvm.MethodName)) ∈ lw_good := gw 782 (by decide +kernel) rfl
set_option maxRecDepth 20000 in
theorem q_768 : (Jvm.Cond.code ({ cls := "BusStageModel$State", name := "become", desc := "(LBusStageModel$State;)V" } : Jvm.MethodName) prog_8_method_3_code (2 : Nat) (Option.none : Option Jvm.ClassFile.FieldType)) ∈ lw_good := gw 783 (by decide +kernel) rfl
set_option maxRecDepth 20000 in
theorem q_769 : (Jvm.Cond.methodLink "BusStageModel$State" (68 : Nat) ({ cls := "BusStageModel$State", name := "copy", desc := "([I[I)V" } : Jvm.MethodName)) ∈ lw_good := gw 784 (by decide +kernel) rfl
set_option maxRecDepth 20000 in
theorem q_771 : (Jvm.Cond.instanceMethod ({ cls := "BusStageModel$State", name := "copy", desc := "([I[I)V" } : Jvm.MethodName)) ∈ lw_good := gw 786 (by decide +kernel) rfl
set_option maxRecDepth 20000 in
theorem q_772 : (Jvm.Cond.code ({ cls := "BusStageModel$State", name := "copy", desc := "([I[I)V" } : Jvm.MethodName) prog_8_method_2_code (3 : Nat) (Option.none : Option Jvm.ClassFile.FieldType)) ∈ lw_good := gw 787 (by decide +kernel) rfl
set_option maxRecDepth 20000 in
theorem q_773 : (Jvm.Cond.methodLink "BusStageModel$State" (55 : Nat) ({ cls := "java/lang/System", name := "arraycopy", desc := "(Ljava/lang/Object;ILjava/lang/Object;II)V" } : Jvm.MethodName)) ∈ lw_good := gw 788 (by decide +kernel) rfl
set_option maxRecDepth 20000 in
theorem q_774 : (Jvm.Cond.static ({ cls := "java/lang/System", name := "arraycopy", desc := "(Ljava/lang/Object;ILjava/lang/Object;II)V" } : Jvm.MethodName)) ∈ lw_good := gw 789 (by decide +kernel) rfl
set_option maxRecDepth 20000 in
theorem q_775 : (Jvm.Cond.native ({ cls := "java/lang/System", name := "arraycopy", desc := "(Ljava/lang/Object;ILjava/lang/Object;II)V" } : Jvm.MethodName)) ∈ lw_good := gw 790 (by decide +kernel) rfl
set_option maxRecDepth 20000 in
theorem q_776 : (Jvm.Cond.methodLink "BusStageModel" (141 : Nat) ({ cls := "BusStageModel$State", name := "go", desc := "()I" } : Jvm.MethodName)) ∈ lw_good := gw 791 (by decide +kernel) rfl
set_option maxRecDepth 20000 in
theorem q_777 : (Jvm.Cond.methodLink "BusStageLaw" (112 : Nat) ({ cls := "BusStageModel", name := "foresee", desc := "(II)I" } : Jvm.MethodName)) ∈ lw_good := gw 792 (by decide +kernel) rfl
set_option maxRecDepth 20000 in
theorem q_778 : (Jvm.Cond.instanceMethod ({ cls := "BusStageModel", name := "foresee", desc := "(II)I" } : Jvm.MethodName)) ∈ lw_good := gw 793 (by decide +kernel) rfl
set_option maxRecDepth 20000 in
theorem q_779 : (Jvm.Cond.selects "BusStageModel" ({ cls := "BusStageModel", name := "foresee", desc := "(II)I" } : Jvm.MethodName) ({ cls := "BusStageModel", name := "foresee", desc := "(II)I" } : Jvm.MethodName)) ∈ lw_good := gw 794 (by decide +kernel) rfl
set_option maxRecDepth 20000 in
theorem q_780 : (Jvm.Cond.code ({ cls := "BusStageModel", name := "foresee", desc := "(II)I" } : Jvm.MethodName) prog_7_method_25_code (4 : Nat) (Option.some Jvm.ClassFile.FieldType.int)) ∈ lw_good := gw 795 (by decide +kernel) rfl
set_option maxRecDepth 20000 in
theorem q_781 : (Jvm.Cond.methodLink "BusStageLaw" (115 : Nat) ({ cls := "BusStageModel", name := "advise", desc := "(I)I" } : Jvm.MethodName)) ∈ lw_good := gw 796 (by decide +kernel) rfl
set_option maxRecDepth 20000 in
theorem q_782 : (Jvm.Cond.instanceMethod ({ cls := "BusStageModel", name := "advise", desc := "(I)I" } : Jvm.MethodName)) ∈ lw_good := gw 797 (by decide +kernel) rfl
set_option maxRecDepth 20000 in
theorem q_783 : (Jvm.Cond.selects "BusStageModel" ({ cls := "BusStageModel", name := "advise", desc := "(I)I" } : Jvm.MethodName) ({ cls := "BusStageModel", name := "advise", desc := "(I)I" } : Jvm.MethodName)) ∈ lw_good := gw 798 (by decide +kernel) rfl
set_option maxRecDepth 20000 in
theorem q_784 : (Jvm.Cond.code ({ cls := "BusStageModel", name := "advise", desc := "(I)I" } : Jvm.MethodName) prog_7_method_26_code (6 : Nat) (Option.some Jvm.ClassFile.FieldType.int)) ∈ lw_good := gw 799 (by decide +kernel) rfl
set_option maxRecDepth 20000 in
theorem q_785 : (Jvm.Cond.methodLink "BusStageLaw" (120 : Nat) ({ cls := "BusStageModel", name := "mean", desc := "()D" } : Jvm.MethodName)) ∈ lw_good := gw 800 (by decide +kernel) rfl
set_option maxRecDepth 20000 in
theorem q_786 : (Jvm.Cond.instanceMethod ({ cls := "BusStageModel", name := "mean", desc := "()D" } : Jvm.MethodName)) ∈ lw_good := gw 801 (by decide +kernel) rfl
set_option maxRecDepth 20000 in
theorem q_787 : (Jvm.Cond.selects "BusStageModel" ({ cls := "BusStageModel", name := "mean", desc := "()D" } : Jvm.MethodName) ({ cls := "BusStageModel", name := "mean", desc := "()D" } : Jvm.MethodName)) ∈ lw_good := gw 802 (by decide +kernel) rfl
set_option maxRecDepth 20000 in
theorem q_788 : (Jvm.Cond.code ({ cls := "BusStageModel", name := "mean", desc := "()D" } : Jvm.MethodName) prog_7_method_27_code (1 : Nat) (Option.some Jvm.ClassFile.FieldType.double)) ∈ lw_good := gw 803 (by decide +kernel) rfl
set_option maxRecDepth 20000 in
theorem q_789 : (Jvm.Cond.methodLink "BusStageLaw" (125 : Nat) ({ cls := "BusStageModel", name := "digest", desc := "()J" } : Jvm.MethodName)) ∈ lw_good := gw 804 (by decide +kernel) rfl
set_option maxRecDepth 20000 in
theorem q_790 : (Jvm.Cond.instanceMethod ({ cls := "BusStageModel", name := "digest", desc := "()J" } : Jvm.MethodName)) ∈ lw_good := gw 805 (by decide +kernel) rfl
set_option maxRecDepth 20000 in
theorem q_791 : (Jvm.Cond.selects "BusStageModel" ({ cls := "BusStageModel", name := "digest", desc := "()J" } : Jvm.MethodName) ({ cls := "BusStageModel", name := "digest", desc := "()J" } : Jvm.MethodName)) ∈ lw_good := gw 806 (by decide +kernel) rfl
set_option maxRecDepth 20000 in
theorem q_792 : (Jvm.Cond.code ({ cls := "BusStageModel", name := "digest", desc := "()J" } : Jvm.MethodName) prog_7_method_28_code (5 : Nat) (Option.some Jvm.ClassFile.FieldType.long)) ∈ lw_good := gw 807 (by decide +kernel) rfl
set_option maxRecDepth 20000 in
theorem q_793 : (Jvm.Cond.constantLong "BusStageModel" (143 : Nat) (1039 : Int64)) ∈ lw_good := gw 808 (by decide +kernel) rfl
set_option maxRecDepth 20000 in
theorem q_794 : (Jvm.Cond.constantLong "BusStageModel" (145 : Nat) (31 : Int64)) ∈ lw_good := gw 809 (by decide +kernel) rfl
set_option maxRecDepth 20000 in
theorem q_795 : (Jvm.Cond.arrayClass Jvm.ClassFile.FieldType.long) ∈ lw_good := gw 810 (by decide +kernel) rfl
set_option maxRecDepth 20000 in
theorem qs_0 : Cond.selects "java/lang/Throwable" ⟨"java/lang/Throwable", "fillInStackTrace", "(I)Ljava/lang/Throwable;"⟩ ⟨"java/lang/Throwable", "fillInStackTrace", "(I)Ljava/lang/Throwable;"⟩ ∈ lw_good := gw 0 (by decide +kernel) rfl
set_option maxRecDepth 20000 in
theorem qs_1 : Cond.selects "BusStage" ⟨"BusStage", "isPassenger", "(I)Z"⟩ ⟨"BusStage", "isPassenger", "(I)Z"⟩ ∈ lw_good := gw 1 (by decide +kernel) rfl
set_option maxRecDepth 20000 in
theorem qs_2 : Cond.selects "BusStageModel" ⟨"BusStageModel", "no", "(I)I"⟩ ⟨"BusStageModel", "no", "(I)I"⟩ ∈ lw_good := gw 2 (by decide +kernel) rfl
set_option maxRecDepth 20000 in
theorem qs_3 : Cond.selects "BusStageModel" ⟨"BusStageModel", "isPassenger", "(I)Z"⟩ ⟨"BusStageModel", "isPassenger", "(I)Z"⟩ ∈ lw_good := gw 3 (by decide +kernel) rfl
set_option maxRecDepth 20000 in
theorem qs_4 : Cond.selects "BusStageModel" ⟨"BusStageModel", "fareOf", "(II)I"⟩ ⟨"BusStageModel", "fareOf", "(II)I"⟩ ∈ lw_good := gw 4 (by decide +kernel) rfl
set_option maxRecDepth 20000 in
theorem qs_5 : Cond.selects "BusStageModel" ⟨"BusStageModel", "isBus", "(I)Z"⟩ ⟨"BusStageModel", "isBus", "(I)Z"⟩ ∈ lw_good := gw 5 (by decide +kernel) rfl
set_option maxRecDepth 20000 in
theorem qs_6 : Cond.selects "BusStageModel" ⟨"BusStageModel", "busTold", "(II)I"⟩ ⟨"BusStageModel", "busTold", "(II)I"⟩ ∈ lw_good := gw 6 (by decide +kernel) rfl
set_option maxRecDepth 20000 in
theorem qs_7 : Cond.selects "BusStageModel" ⟨"BusStageModel", "passengerTold", "(II)I"⟩ ⟨"BusStageModel", "passengerTold", "(II)I"⟩ ∈ lw_good := gw 7 (by decide +kernel) rfl
set_option maxRecDepth 20000 in
theorem qs_8 : Cond.selects "BusStageModel" ⟨"BusStageModel", "stopTold", "(II)I"⟩ ⟨"BusStageModel", "stopTold", "(II)I"⟩ ∈ lw_good := gw 8 (by decide +kernel) rfl
set_option maxRecDepth 20000 in
theorem qs_9 : Cond.selects "BusStageModel" ⟨"BusStageModel", "counted", "(I)I"⟩ ⟨"BusStageModel", "counted", "(I)I"⟩ ∈ lw_good := gw 9 (by decide +kernel) rfl
set_option maxRecDepth 20000 in
theorem qs_10 : Cond.selects "BusStageModel$State" ⟨"BusStageModel$State", "act", "(I)I"⟩ ⟨"BusStageModel$State", "act", "(I)I"⟩ ∈ lw_good := gw 10 (by decide +kernel) rfl
set_option maxRecDepth 20000 in
theorem qs_11 : Cond.selects "BusStageModel$State" ⟨"BusStageModel$State", "stand", "(I)V"⟩ ⟨"BusStageModel$State", "stand", "(I)V"⟩ ∈ lw_good := gw 11 (by decide +kernel) rfl
set_option maxRecDepth 20000 in
theorem qs_12 : Cond.selects "BusStageModel$State" ⟨"BusStageModel$State", "getOff", "(I)I"⟩ ⟨"BusStageModel$State", "getOff", "(I)I"⟩ ∈ lw_good := gw 12 (by decide +kernel) rfl
set_option maxRecDepth 20000 in
theorem qs_13 : Cond.selects "BusStageModel$State" ⟨"BusStageModel$State", "getOn", "(I)I"⟩ ⟨"BusStageModel$State", "getOn", "(I)I"⟩ ∈ lw_good := gw 13 (by decide +kernel) rfl
set_option maxRecDepth 20000 in
theorem qs_14 : Cond.selects "BusStageModel$State" ⟨"BusStageModel$State", "copy", "([I[I)V"⟩ ⟨"BusStageModel$State", "copy", "([I[I)V"⟩ ∈ lw_good := gw 14 (by decide +kernel) rfl
set_option maxRecDepth 20000 in
theorem inX0 : ∀ w ∈ wsX00, w ∈ lw_good := by decide +kernel
set_option maxRecDepth 20000 in
theorem inX1 : ∀ w ∈ wsX10, w ∈ lw_good := by decide +kernel
set_option maxRecDepth 20000 in
theorem inX2 : ∀ w ∈ wsX20, w ∈ lw_good := by decide +kernel
set_option maxRecDepth 20000 in
theorem inX3 : ∀ w ∈ wsX30, w ∈ lw_good := by decide +kernel
set_option maxRecDepth 20000 in
theorem inX4 : ∀ w ∈ wsX40, w ∈ lw_good := by decide +kernel
set_option maxRecDepth 20000 in
theorem inX5 : ∀ w ∈ wsX50, w ∈ lw_good := by decide +kernel
set_option maxRecDepth 20000 in
theorem inX6 : ∀ w ∈ wsX60, w ∈ lw_good := by decide +kernel
