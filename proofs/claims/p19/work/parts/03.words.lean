set_option maxRecDepth 20000 in
theorem q_0 : (Jvm.Cond.initialized "BusStageLaw") ∈ lw_good := gw 2 (by decide +kernel) rfl
set_option maxRecDepth 20000 in
theorem q_1 : (Jvm.Cond.initialized "BusStage") ∈ lw_good := gw 3 (by decide +kernel) rfl
set_option maxRecDepth 20000 in
theorem q_2 : (Jvm.Cond.initialized "BusStage$Line") ∈ lw_good := gw 4 (by decide +kernel) rfl
set_option maxRecDepth 20000 in
theorem q_3 : (Jvm.Cond.initialized "BusStage$Stop") ∈ lw_good := gw 5 (by decide +kernel) rfl
set_option maxRecDepth 20000 in
theorem q_4 : (Jvm.Cond.initialized "BusStage$Bus") ∈ lw_good := gw 6 (by decide +kernel) rfl
set_option maxRecDepth 20000 in
theorem q_5 : (Jvm.Cond.initialized "BusStage$Passenger") ∈ lw_good := gw 7 (by decide +kernel) rfl
set_option maxRecDepth 20000 in
theorem q_6 : (Jvm.Cond.initialized "java/lang/Throwable") ∈ lw_good := gw 8 (by decide +kernel) rfl
set_option maxRecDepth 20000 in
theorem q_7 : (Jvm.Cond.initialized "java/lang/Exception") ∈ lw_good := gw 9 (by decide +kernel) rfl
set_option maxRecDepth 20000 in
theorem q_8 : (Jvm.Cond.initialized "java/lang/RuntimeException") ∈ lw_good := gw 10 (by decide +kernel) rfl
set_option maxRecDepth 20000 in
theorem q_9 : (Jvm.Cond.initialized "java/lang/IndexOutOfBoundsException") ∈ lw_good := gw 11 (by decide +kernel) rfl
set_option maxRecDepth 20000 in
theorem q_10 : (Jvm.Cond.initialized "java/lang/IllegalArgumentException") ∈ lw_good := gw 12 (by decide +kernel) rfl
set_option maxRecDepth 20000 in
theorem q_11 : (Jvm.Cond.initialized "java/lang/IllegalStateException") ∈ lw_good := gw 13 (by decide +kernel) rfl
set_option maxRecDepth 20000 in
theorem q_12 : (Jvm.Cond.initialized "java/lang/Math") ∈ lw_good := gw 14 (by decide +kernel) rfl
set_option maxRecDepth 20000 in
theorem q_13 : (Jvm.Cond.methodLink "BusStageLaw" (22 : Nat) ({ cls := "BusStage", name := "set", desc := "(III)I" } : Jvm.MethodName)) ∈ lw_good := gw 15 (by decide +kernel) rfl
set_option maxRecDepth 20000 in
theorem q_14 : (Jvm.Cond.instanceMethod ({ cls := "BusStage", name := "set", desc := "(III)I" } : Jvm.MethodName)) ∈ lw_good := gw 16 (by decide +kernel) rfl
set_option maxRecDepth 20000 in
theorem q_15 : (Jvm.Cond.selects "BusStage" ({ cls := "BusStage", name := "set", desc := "(III)I" } : Jvm.MethodName) ({ cls := "BusStage", name := "set", desc := "(III)I" } : Jvm.MethodName)) ∈ lw_good := gw 17 (by decide +kernel) rfl
set_option maxRecDepth 20000 in
theorem q_16 : (Jvm.Cond.code ({ cls := "BusStage", name := "set", desc := "(III)I" } : Jvm.MethodName) prog_1_method_2_code (6 : Nat) (Option.some Jvm.ClassFile.FieldType.int)) ∈ lw_good := gw 18 (by decide +kernel) rfl
set_option maxRecDepth 20000 in
theorem q_17 : (Jvm.Cond.methodLink "BusStage" (19 : Nat) ({ cls := "BusStage", name := "isStop", desc := "(I)Z" } : Jvm.MethodName)) ∈ lw_good := gw 19 (by decide +kernel) rfl
set_option maxRecDepth 20000 in
theorem q_18 : (Jvm.Cond.static ({ cls := "BusStage", name := "isStop", desc := "(I)Z" } : Jvm.MethodName)) ∈ lw_good := gw 20 (by decide +kernel) rfl
set_option maxRecDepth 20000 in
theorem q_19 : (Jvm.Cond.code ({ cls := "BusStage", name := "isStop", desc := "(I)Z" } : Jvm.MethodName) prog_1_method_19_code (1 : Nat) (Option.some Jvm.ClassFile.FieldType.boolean)) ∈ lw_good := gw 21 (by decide +kernel) rfl
set_option maxRecDepth 20000 in
theorem q_20 : (Jvm.Cond.methodLink "BusStage" (30 : Nat) ({ cls := "BusStage", name := "isWithin", desc := "(III)Z" } : Jvm.MethodName)) ∈ lw_good := gw 22 (by decide +kernel) rfl
set_option maxRecDepth 20000 in
theorem q_21 : (Jvm.Cond.static ({ cls := "BusStage", name := "isWithin", desc := "(III)Z" } : Jvm.MethodName)) ∈ lw_good := gw 23 (by decide +kernel) rfl
set_option maxRecDepth 20000 in
theorem q_22 : (Jvm.Cond.code ({ cls := "BusStage", name := "isWithin", desc := "(III)Z" } : Jvm.MethodName) prog_1_method_18_code (3 : Nat) (Option.some Jvm.ClassFile.FieldType.boolean)) ∈ lw_good := gw 24 (by decide +kernel) rfl
set_option maxRecDepth 20000 in
theorem q_23 : (Jvm.Cond.classLink "BusStage" (23 : Nat) "java/lang/IndexOutOfBoundsException") ∈ lw_good := gw 25 (by decide +kernel) rfl
set_option maxRecDepth 20000 in
theorem q_24 : (Jvm.Cond.instantiable "java/lang/IndexOutOfBoundsException" (6 : Nat)) ∈ lw_good := gw 26 (by decide +kernel) rfl
set_option maxRecDepth 20000 in
theorem q_25 : (Jvm.Cond.castable "java/lang/IndexOutOfBoundsException" "java/lang/IndexOutOfBoundsException") ∈ lw_tbl := List.mem_of_getElem? (i := 27) (by decide +kernel)
set_option maxRecDepth 20000 in
theorem q_32 : (Jvm.Cond.selects "java/lang/IndexOutOfBoundsException" ({ cls := "java/lang/Throwable", name := "fillInStackTrace", desc := "(I)Ljava/lang/Throwable;" } : Jvm.MethodName) ({ cls := "java/lang/Throwable", name := "fillInStackTrace", desc := "(I)Ljava/lang/Throwable;" } : Jvm.MethodName)) ∈ lw_good := gw 34 (by decide +kernel) rfl
set_option maxRecDepth 20000 in
theorem q_33 : (Jvm.Cond.selects "java/lang/IndexOutOfBoundsException" ({ cls := "java/lang/Throwable", name := "fillInStackTrace", desc := "()Ljava/lang/Throwable;" } : Jvm.MethodName) ({ cls := "java/lang/Throwable", name := "fillInStackTrace", desc := "()Ljava/lang/Throwable;" } : Jvm.MethodName)) ∈ lw_good := gw 35 (by decide +kernel) rfl
set_option maxRecDepth 20000 in
theorem q_44 : (Jvm.Cond.fieldLink "java/lang/Throwable" (198 : Nat) "java/lang/Throwable" "backtrace" "Ljava/lang/Object;") ∈ lw_good := gw 46 (by decide +kernel) rfl
set_option maxRecDepth 20000 in
theorem q_46 : (Jvm.Cond.instanceMethod ({ cls := "java/lang/Throwable", name := "<init>", desc := "()V" } : Jvm.MethodName)) ∈ lw_good := gw 48 (by decide +kernel) rfl
set_option maxRecDepth 20000 in
theorem q_47 : (Jvm.Cond.code ({ cls := "java/lang/Throwable", name := "<init>", desc := "()V" } : Jvm.MethodName) prog_16_method_1_code (1 : Nat) (Option.none : Option Jvm.ClassFile.FieldType)) ∈ lw_good := gw 49 (by decide +kernel) rfl
set_option maxRecDepth 20000 in
theorem q_48 : (Jvm.Cond.methodLink "java/lang/Throwable" (1 : Nat) ({ cls := "java/lang/Object", name := "<init>", desc := "()V" } : Jvm.MethodName)) ∈ lw_good := gw 50 (by decide +kernel) rfl
set_option maxRecDepth 20000 in
theorem q_49 : (Jvm.Cond.instanceMethod ({ cls := "java/lang/Object", name := "<init>", desc := "()V" } : Jvm.MethodName)) ∈ lw_good := gw 51 (by decide +kernel) rfl
set_option maxRecDepth 20000 in
theorem q_50 : (Jvm.Cond.code ({ cls := "java/lang/Object", name := "<init>", desc := "()V" } : Jvm.MethodName) object_method_1_code (1 : Nat) (Option.none : Option Jvm.ClassFile.FieldType)) ∈ lw_good := gw 52 (by decide +kernel) rfl
set_option maxRecDepth 20000 in
theorem q_51 : (Jvm.Cond.fieldLink "java/lang/Throwable" (13 : Nat) "java/lang/Throwable" "UNASSIGNED_STACK" "[Ljava/lang/StackTraceElement;") ∈ lw_good := gw 53 (by decide +kernel) rfl
set_option maxRecDepth 20000 in
theorem q_53 : (Jvm.Cond.fieldLink "java/lang/Throwable" (20 : Nat) "java/lang/Throwable" "SUPPRESSED_SENTINEL" "Ljava/util/List;") ∈ lw_good := gw 55 (by decide +kernel) rfl
set_option maxRecDepth 20000 in
theorem q_55 : (Jvm.Cond.methodLink "java/lang/Throwable" (27 : Nat) ({ cls := "java/lang/Throwable", name := "fillInStackTrace", desc := "()Ljava/lang/Throwable;" } : Jvm.MethodName)) ∈ lw_good := gw 57 (by decide +kernel) rfl
set_option maxRecDepth 20000 in
theorem q_56 : (Jvm.Cond.instanceMethod ({ cls := "java/lang/Throwable", name := "fillInStackTrace", desc := "()Ljava/lang/Throwable;" } : Jvm.MethodName)) ∈ lw_good := gw 58 (by decide +kernel) rfl
set_option maxRecDepth 20000 in
theorem q_58 : (Jvm.Cond.selects "java/lang/IllegalArgumentException" ({ cls := "java/lang/Throwable", name := "fillInStackTrace", desc := "()Ljava/lang/Throwable;" } : Jvm.MethodName) ({ cls := "java/lang/Throwable", name := "fillInStackTrace", desc := "()Ljava/lang/Throwable;" } : Jvm.MethodName)) ∈ lw_good := gw 60 (by decide +kernel) rfl
set_option maxRecDepth 20000 in
theorem q_59 : (Jvm.Cond.selects "java/lang/IllegalStateException" ({ cls := "java/lang/Throwable", name := "fillInStackTrace", desc := "()Ljava/lang/Throwable;" } : Jvm.MethodName) ({ cls := "java/lang/Throwable", name := "fillInStackTrace", desc := "()Ljava/lang/Throwable;" } : Jvm.MethodName)) ∈ lw_good := gw 61 (by decide +kernel) rfl
set_option maxRecDepth 20000 in
theorem q_61 : (Jvm.Cond.methodLink "java/lang/Throwable" (202 : Nat) ({ cls := "java/lang/Throwable", name := "fillInStackTrace", desc := "(I)Ljava/lang/Throwable;" } : Jvm.MethodName)) ∈ lw_good := gw 63 (by decide +kernel) rfl
set_option maxRecDepth 20000 in
theorem q_63 : (Jvm.Cond.instanceMethod ({ cls := "java/lang/Throwable", name := "fillInStackTrace", desc := "(I)Ljava/lang/Throwable;" } : Jvm.MethodName)) ∈ lw_good := gw 65 (by decide +kernel) rfl
set_option maxRecDepth 20000 in
theorem q_64 : (Jvm.Cond.instantiable "java/lang/Throwable" (6 : Nat)) ∈ lw_good := gw 66 (by decide +kernel) rfl
set_option maxRecDepth 20000 in
theorem q_65 : (Jvm.Cond.native ({ cls := "java/lang/Throwable", name := "fillInStackTrace", desc := "(I)Ljava/lang/Throwable;" } : Jvm.MethodName)) ∈ lw_good := gw 67 (by decide +kernel) rfl
set_option maxRecDepth 20000 in
theorem q_67 : (Jvm.Cond.methodLink "BusStage" (27 : Nat) ({ cls := "java/lang/IndexOutOfBoundsException", name := "<init>", desc := "(Ljava/lang/String;)V" } : Jvm.MethodName)) ∈ lw_good := gw 69 (by decide +kernel) rfl
set_option maxRecDepth 20000 in
theorem q_68 : (Jvm.Cond.instanceMethod ({ cls := "java/lang/IndexOutOfBoundsException", name := "<init>", desc := "(Ljava/lang/String;)V" } : Jvm.MethodName)) ∈ lw_good := gw 70 (by decide +kernel) rfl
set_option maxRecDepth 20000 in
theorem q_69 : (Jvm.Cond.code ({ cls := "java/lang/IndexOutOfBoundsException", name := "<init>", desc := "(Ljava/lang/String;)V" } : Jvm.MethodName) prog_12_method_2_code (2 : Nat) (Option.none : Option Jvm.ClassFile.FieldType)) ∈ lw_good := gw 71 (by decide +kernel) rfl
set_option maxRecDepth 20000 in
theorem q_70 : (Jvm.Cond.methodLink "java/lang/IndexOutOfBoundsException" (7 : Nat) ({ cls := "java/lang/RuntimeException", name := "<init>", desc := "(Ljava/lang/String;)V" } : Jvm.MethodName)) ∈ lw_good := gw 72 (by decide +kernel) rfl
set_option maxRecDepth 20000 in
theorem q_71 : (Jvm.Cond.instanceMethod ({ cls := "java/lang/RuntimeException", name := "<init>", desc := "(Ljava/lang/String;)V" } : Jvm.MethodName)) ∈ lw_good := gw 73 (by decide +kernel) rfl
set_option maxRecDepth 20000 in
theorem q_72 : (Jvm.Cond.code ({ cls := "java/lang/RuntimeException", name := "<init>", desc := "(Ljava/lang/String;)V" } : Jvm.MethodName) prog_14_method_2_code (2 : Nat) (Option.none : Option Jvm.ClassFile.FieldType)) ∈ lw_good := gw 74 (by decide +kernel) rfl
set_option maxRecDepth 20000 in
theorem q_73 : (Jvm.Cond.methodLink "java/lang/RuntimeException" (7 : Nat) ({ cls := "java/lang/Exception", name := "<init>", desc := "(Ljava/lang/String;)V" } : Jvm.MethodName)) ∈ lw_good := gw 75 (by decide +kernel) rfl
set_option maxRecDepth 20000 in
theorem q_74 : (Jvm.Cond.instanceMethod ({ cls := "java/lang/Exception", name := "<init>", desc := "(Ljava/lang/String;)V" } : Jvm.MethodName)) ∈ lw_good := gw 76 (by decide +kernel) rfl
set_option maxRecDepth 20000 in
theorem q_75 : (Jvm.Cond.code ({ cls := "java/lang/Exception", name := "<init>", desc := "(Ljava/lang/String;)V" } : Jvm.MethodName) prog_9_method_2_code (2 : Nat) (Option.none : Option Jvm.ClassFile.FieldType)) ∈ lw_good := gw 77 (by decide +kernel) rfl
set_option maxRecDepth 20000 in
theorem q_76 : (Jvm.Cond.methodLink "java/lang/Exception" (7 : Nat) ({ cls := "java/lang/Throwable", name := "<init>", desc := "(Ljava/lang/String;)V" } : Jvm.MethodName)) ∈ lw_good := gw 78 (by decide +kernel) rfl
set_option maxRecDepth 20000 in
theorem q_77 : (Jvm.Cond.instanceMethod ({ cls := "java/lang/Throwable", name := "<init>", desc := "(Ljava/lang/String;)V" } : Jvm.MethodName)) ∈ lw_good := gw 79 (by decide +kernel) rfl
set_option maxRecDepth 20000 in
theorem q_78 : (Jvm.Cond.code ({ cls := "java/lang/Throwable", name := "<init>", desc := "(Ljava/lang/String;)V" } : Jvm.MethodName) prog_16_method_2_code (2 : Nat) (Option.none : Option Jvm.ClassFile.FieldType)) ∈ lw_good := gw 80 (by decide +kernel) rfl
set_option maxRecDepth 20000 in
theorem q_79 : (Jvm.Cond.fieldLink "java/lang/Throwable" (198 : Nat) "java/lang/Throwable" "backtrace" "Ljava/lang/Object;") ∈ lw_good := gw 81 (by decide +kernel) rfl
set_option maxRecDepth 20000 in
theorem q_80 : (Jvm.Cond.fieldLink "java/lang/Throwable" (31 : Nat) "java/lang/Throwable" "detailMessage" "Ljava/lang/String;") ∈ lw_good := gw 82 (by decide +kernel) rfl
set_option maxRecDepth 20000 in
theorem q_81 : (Jvm.Cond.fieldLink "java/lang/Throwable" (7 : Nat) "java/lang/Throwable" "cause" "Ljava/lang/Throwable;") ∈ lw_good := gw 83 (by decide +kernel) rfl
set_option maxRecDepth 20000 in
theorem q_82 : (Jvm.Cond.fieldLink "java/lang/Throwable" (17 : Nat) "java/lang/Throwable" "stackTrace" "[Ljava/lang/StackTraceElement;") ∈ lw_good := gw 84 (by decide +kernel) rfl
set_option maxRecDepth 20000 in
theorem q_83 : (Jvm.Cond.fieldLink "java/lang/Throwable" (24 : Nat) "java/lang/Throwable" "suppressedExceptions" "Ljava/util/List;") ∈ lw_good := gw 85 (by decide +kernel) rfl
set_option maxRecDepth 20000 in
theorem q_92 : (Jvm.Cond.arrayClass Jvm.ClassFile.FieldType.byte) ∈ lw_good := gw 94 (by decide +kernel) rfl
set_option maxRecDepth 20000 in
theorem q_93 : (Jvm.Cond.classLink "BusStage" (34 : Nat) "java/lang/IllegalArgumentException") ∈ lw_good := gw 95 (by decide +kernel) rfl
set_option maxRecDepth 20000 in
theorem q_94 : (Jvm.Cond.instantiable "java/lang/IllegalArgumentException" (6 : Nat)) ∈ lw_good := gw 96 (by decide +kernel) rfl
set_option maxRecDepth 20000 in
theorem q_95 : (Jvm.Cond.castable "java/lang/IllegalArgumentException" "java/lang/IllegalArgumentException") ∈ lw_tbl := List.mem_of_getElem? (i := 97) (by decide +kernel)
set_option maxRecDepth 20000 in
theorem q_96 : (Jvm.Cond.selects "java/lang/IllegalArgumentException" ({ cls := "java/lang/Throwable", name := "fillInStackTrace", desc := "(I)Ljava/lang/Throwable;" } : Jvm.MethodName) ({ cls := "java/lang/Throwable", name := "fillInStackTrace", desc := "(I)Ljava/lang/Throwable;" } : Jvm.MethodName)) ∈ lw_good := gw 98 (by decide +kernel) rfl
set_option maxRecDepth 20000 in
theorem q_103 : (Jvm.Cond.methodLink "BusStage" (38 : Nat) ({ cls := "java/lang/IllegalArgumentException", name := "<init>", desc := "(Ljava/lang/String;)V" } : Jvm.MethodName)) ∈ lw_good := gw 105 (by decide +kernel) rfl
set_option maxRecDepth 20000 in
theorem q_104 : (Jvm.Cond.instanceMethod ({ cls := "java/lang/IllegalArgumentException", name := "<init>", desc := "(Ljava/lang/String;)V" } : Jvm.MethodName)) ∈ lw_good := gw 106 (by decide +kernel) rfl
set_option maxRecDepth 20000 in
theorem q_105 : (Jvm.Cond.code ({ cls := "java/lang/IllegalArgumentException", name := "<init>", desc := "(Ljava/lang/String;)V" } : Jvm.MethodName) prog_10_method_2_code (2 : Nat) (Option.none : Option Jvm.ClassFile.FieldType)) ∈ lw_good := gw 107 (by decide +kernel) rfl
set_option maxRecDepth 20000 in
theorem q_106 : (Jvm.Cond.methodLink "java/lang/IllegalArgumentException" (7 : Nat) ({ cls := "java/lang/RuntimeException", name := "<init>", desc := "(Ljava/lang/String;)V" } : Jvm.MethodName)) ∈ lw_good := gw 108 (by decide +kernel) rfl
set_option maxRecDepth 20000 in
theorem q_109 : (Jvm.Cond.methodLink "BusStage" (39 : Nat) ({ cls := "BusStage$Line", name := "stopAt", desc := "(I)LBusStage$Stop;" } : Jvm.MethodName)) ∈ lw_good := gw 111 (by decide +kernel) rfl
set_option maxRecDepth 20000 in
theorem q_110 : (Jvm.Cond.instanceMethod ({ cls := "BusStage$Line", name := "stopAt", desc := "(I)LBusStage$Stop;" } : Jvm.MethodName)) ∈ lw_good := gw 112 (by decide +kernel) rfl
set_option maxRecDepth 20000 in
theorem q_111 : (Jvm.Cond.selects "BusStage$Line" ({ cls := "BusStage$Line", name := "stopAt", desc := "(I)LBusStage$Stop;" } : Jvm.MethodName) ({ cls := "BusStage$Line", name := "stopAt", desc := "(I)LBusStage$Stop;" } : Jvm.MethodName)) ∈ lw_good := gw 113 (by decide +kernel) rfl
set_option maxRecDepth 20000 in
theorem q_112 : (Jvm.Cond.code ({ cls := "BusStage$Line", name := "stopAt", desc := "(I)LBusStage$Stop;" } : Jvm.MethodName) prog_3_method_3_code (3 : Nat) (Option.some (Jvm.ClassFile.FieldType.object "BusStage$Stop"))) ∈ lw_good := gw 114 (by decide +kernel) rfl
set_option maxRecDepth 20000 in
theorem q_113 : (Jvm.Cond.methodLink "BusStageLaw" (26 : Nat) ({ cls := "BusStage", name := "hold", desc := "(I)I" } : Jvm.MethodName)) ∈ lw_good := gw 115 (by decide +kernel) rfl
set_option maxRecDepth 20000 in
theorem q_114 : (Jvm.Cond.instanceMethod ({ cls := "BusStage", name := "hold", desc := "(I)I" } : Jvm.MethodName)) ∈ lw_good := gw 116 (by decide +kernel) rfl
set_option maxRecDepth 20000 in
theorem q_115 : (Jvm.Cond.selects "BusStage" ({ cls := "BusStage", name := "hold", desc := "(I)I" } : Jvm.MethodName) ({ cls := "BusStage", name := "hold", desc := "(I)I" } : Jvm.MethodName)) ∈ lw_good := gw 117 (by decide +kernel) rfl
set_option maxRecDepth 20000 in
theorem q_116 : (Jvm.Cond.code ({ cls := "BusStage", name := "hold", desc := "(I)I" } : Jvm.MethodName) prog_1_method_3_code (3 : Nat) (Option.some Jvm.ClassFile.FieldType.int)) ∈ lw_good := gw 118 (by decide +kernel) rfl
set_option maxRecDepth 20000 in
theorem q_118 : (Jvm.Cond.methodLink "BusStageLaw" (36 : Nat) ({ cls := "BusStage", name := "queue", desc := "(II)I" } : Jvm.MethodName)) ∈ lw_good := gw 120 (by decide +kernel) rfl
set_option maxRecDepth 20000 in
theorem q_119 : (Jvm.Cond.instanceMethod ({ cls := "BusStage", name := "queue", desc := "(II)I" } : Jvm.MethodName)) ∈ lw_good := gw 121 (by decide +kernel) rfl
set_option maxRecDepth 20000 in
theorem q_120 : (Jvm.Cond.selects "BusStage" ({ cls := "BusStage", name := "queue", desc := "(II)I" } : Jvm.MethodName) ({ cls := "BusStage", name := "queue", desc := "(II)I" } : Jvm.MethodName)) ∈ lw_good := gw 122 (by decide +kernel) rfl
set_option maxRecDepth 20000 in
theorem q_121 : (Jvm.Cond.code ({ cls := "BusStage", name := "queue", desc := "(II)I" } : Jvm.MethodName) prog_1_method_5_code (3 : Nat) (Option.some Jvm.ClassFile.FieldType.int)) ∈ lw_good := gw 123 (by decide +kernel) rfl
set_option maxRecDepth 20000 in
theorem q_123 : (Jvm.Cond.classLink "BusStage" (62 : Nat) "java/lang/IllegalStateException") ∈ lw_good := gw 125 (by decide +kernel) rfl
set_option maxRecDepth 20000 in
theorem q_124 : (Jvm.Cond.instantiable "java/lang/IllegalStateException" (6 : Nat)) ∈ lw_good := gw 126 (by decide +kernel) rfl
set_option maxRecDepth 20000 in
theorem q_125 : (Jvm.Cond.castable "java/lang/IllegalStateException" "java/lang/IllegalStateException") ∈ lw_tbl := List.mem_of_getElem? (i := 127) (by decide +kernel)
set_option maxRecDepth 20000 in
theorem q_126 : (Jvm.Cond.selects "java/lang/IllegalStateException" ({ cls := "java/lang/Throwable", name := "fillInStackTrace", desc := "(I)Ljava/lang/Throwable;" } : Jvm.MethodName) ({ cls := "java/lang/Throwable", name := "fillInStackTrace", desc := "(I)Ljava/lang/Throwable;" } : Jvm.MethodName)) ∈ lw_good := gw 128 (by decide +kernel) rfl
set_option maxRecDepth 20000 in
theorem q_133 : (Jvm.Cond.methodLink "BusStage" (66 : Nat) ({ cls := "java/lang/IllegalStateException", name := "<init>", desc := "(Ljava/lang/String;)V" } : Jvm.MethodName)) ∈ lw_good := gw 135 (by decide +kernel) rfl
set_option maxRecDepth 20000 in
theorem q_134 : (Jvm.Cond.instanceMethod ({ cls := "java/lang/IllegalStateException", name := "<init>", desc := "(Ljava/lang/String;)V" } : Jvm.MethodName)) ∈ lw_good := gw 136 (by decide +kernel) rfl
set_option maxRecDepth 20000 in
theorem q_135 : (Jvm.Cond.code ({ cls := "java/lang/IllegalStateException", name := "<init>", desc := "(Ljava/lang/String;)V" } : Jvm.MethodName) prog_11_method_2_code (2 : Nat) (Option.none : Option Jvm.ClassFile.FieldType)) ∈ lw_good := gw 137 (by decide +kernel) rfl
set_option maxRecDepth 20000 in
theorem q_136 : (Jvm.Cond.methodLink "java/lang/IllegalStateException" (7 : Nat) ({ cls := "java/lang/RuntimeException", name := "<init>", desc := "(Ljava/lang/String;)V" } : Jvm.MethodName)) ∈ lw_good := gw 138 (by decide +kernel) rfl
set_option maxRecDepth 20000 in
theorem q_139 : (Jvm.Cond.methodLink "BusStage" (78 : Nat) ({ cls := "BusStage$Line", name := "addPassenger", desc := "(II)I" } : Jvm.MethodName)) ∈ lw_good := gw 141 (by decide +kernel) rfl
set_option maxRecDepth 20000 in
theorem q_140 : (Jvm.Cond.instanceMethod ({ cls := "BusStage$Line", name := "addPassenger", desc := "(II)I" } : Jvm.MethodName)) ∈ lw_good := gw 142 (by decide +kernel) rfl
set_option maxRecDepth 20000 in
theorem q_141 : (Jvm.Cond.selects "BusStage$Line" ({ cls := "BusStage$Line", name := "addPassenger", desc := "(II)I" } : Jvm.MethodName) ({ cls := "BusStage$Line", name := "addPassenger", desc := "(II)I" } : Jvm.MethodName)) ∈ lw_good := gw 143 (by decide +kernel) rfl
set_option maxRecDepth 20000 in
theorem q_142 : (Jvm.Cond.code ({ cls := "BusStage$Line", name := "addPassenger", desc := "(II)I" } : Jvm.MethodName) prog_3_method_5_code (4 : Nat) (Option.some Jvm.ClassFile.FieldType.int)) ∈ lw_good := gw 144 (by decide +kernel) rfl
set_option maxRecDepth 20000 in
theorem q_143 : (Jvm.Cond.methodLink "BusStageLaw" (84 : Nat) ({ cls := "BusStage", name := "fare", desc := "(II)I" } : Jvm.MethodName)) ∈ lw_good := gw 145 (by decide +kernel) rfl
set_option maxRecDepth 20000 in
theorem q_144 : (Jvm.Cond.instanceMethod ({ cls := "BusStage", name := "fare", desc := "(II)I" } : Jvm.MethodName)) ∈ lw_good := gw 146 (by decide +kernel) rfl
set_option maxRecDepth 20000 in
theorem q_145 : (Jvm.Cond.selects "BusStage" ({ cls := "BusStage", name := "fare", desc := "(II)I" } : Jvm.MethodName) ({ cls := "BusStage", name := "fare", desc := "(II)I" } : Jvm.MethodName)) ∈ lw_good := gw 147 (by decide +kernel) rfl
set_option maxRecDepth 20000 in
theorem q_146 : (Jvm.Cond.code ({ cls := "BusStage", name := "fare", desc := "(II)I" } : Jvm.MethodName) prog_1_method_7_code (3 : Nat) (Option.some Jvm.ClassFile.FieldType.int)) ∈ lw_good := gw 148 (by decide +kernel) rfl
set_option maxRecDepth 20000 in
theorem q_147 : (Jvm.Cond.methodLink "BusStage" (111 : Nat) ({ cls := "BusStage$Line", name := "fareBetween", desc := "(II)I" } : Jvm.MethodName)) ∈ lw_good := gw 149 (by decide +kernel) rfl
set_option maxRecDepth 20000 in
theorem q_148 : (Jvm.Cond.instanceMethod ({ cls := "BusStage$Line", name := "fareBetween", desc := "(II)I" } : Jvm.MethodName)) ∈ lw_good := gw 150 (by decide +kernel) rfl
set_option maxRecDepth 20000 in
theorem q_149 : (Jvm.Cond.selects "BusStage$Line" ({ cls := "BusStage$Line", name := "fareBetween", desc := "(II)I" } : Jvm.MethodName) ({ cls := "BusStage$Line", name := "fareBetween", desc := "(II)I" } : Jvm.MethodName)) ∈ lw_good := gw 151 (by decide +kernel) rfl
set_option maxRecDepth 20000 in
theorem q_150 : (Jvm.Cond.code ({ cls := "BusStage$Line", name := "fareBetween", desc := "(II)I" } : Jvm.MethodName) prog_3_method_6_code (6 : Nat) (Option.some Jvm.ClassFile.FieldType.int)) ∈ lw_good := gw 152 (by decide +kernel) rfl
set_option maxRecDepth 20000 in
theorem q_151 : (Jvm.Cond.methodLink "BusStage$Line" (73 : Nat) ({ cls := "BusStage$Line", name := "stopAt", desc := "(I)LBusStage$Stop;" } : Jvm.MethodName)) ∈ lw_good := gw 153 (by decide +kernel) rfl
set_option maxRecDepth 20000 in
theorem q_152 : (Jvm.Cond.methodLink "BusStageLaw" (60 : Nat) ({ cls := "BusStage", name := "bus", desc := "(II)I" } : Jvm.MethodName)) ∈ lw_good := gw 154 (by decide +kernel) rfl
set_option maxRecDepth 20000 in
theorem q_153 : (Jvm.Cond.instanceMethod ({ cls := "BusStage", name := "bus", desc := "(II)I" } : Jvm.MethodName)) ∈ lw_good := gw 155 (by decide +kernel) rfl
set_option maxRecDepth 20000 in
theorem q_154 : (Jvm.Cond.selects "BusStage" ({ cls := "BusStage", name := "bus", desc := "(II)I" } : Jvm.MethodName) ({ cls := "BusStage", name := "bus", desc := "(II)I" } : Jvm.MethodName)) ∈ lw_good := gw 156 (by decide +kernel) rfl
set_option maxRecDepth 20000 in
theorem q_155 : (Jvm.Cond.code ({ cls := "BusStage", name := "bus", desc := "(II)I" } : Jvm.MethodName) prog_1_method_8_code (3 : Nat) (Option.some Jvm.ClassFile.FieldType.int)) ∈ lw_good := gw 157 (by decide +kernel) rfl
set_option maxRecDepth 20000 in
theorem q_157 : (Jvm.Cond.methodLink "BusStage" (120 : Nat) ({ cls := "BusStage$Bus", name := "tell", desc := "(I)I" } : Jvm.MethodName)) ∈ lw_good := gw 159 (by decide +kernel) rfl
set_option maxRecDepth 20000 in
theorem q_158 : (Jvm.Cond.instanceMethod ({ cls := "BusStage$Bus", name := "tell", desc := "(I)I" } : Jvm.MethodName)) ∈ lw_good := gw 160 (by decide +kernel) rfl
set_option maxRecDepth 20000 in
theorem q_159 : (Jvm.Cond.selects "BusStage$Bus" ({ cls := "BusStage$Bus", name := "tell", desc := "(I)I" } : Jvm.MethodName) ({ cls := "BusStage$Bus", name := "tell", desc := "(I)I" } : Jvm.MethodName)) ∈ lw_good := gw 161 (by decide +kernel) rfl
set_option maxRecDepth 20000 in
theorem q_160 : (Jvm.Cond.code ({ cls := "BusStage$Bus", name := "tell", desc := "(I)I" } : Jvm.MethodName) prog_2_method_4_code (2 : Nat) (Option.some Jvm.ClassFile.FieldType.int)) ∈ lw_good := gw 162 (by decide +kernel) rfl
set_option maxRecDepth 20000 in
theorem q_161 : (Jvm.Cond.methodLink "BusStageLaw" (55 : Nat) ({ cls := "BusStage", name := "passenger", desc := "(II)I" } : Jvm.MethodName)) ∈ lw_good := gw 163 (by decide +kernel) rfl
set_option maxRecDepth 20000 in
theorem q_162 : (Jvm.Cond.instanceMethod ({ cls := "BusStage", name := "passenger", desc := "(II)I" } : Jvm.MethodName)) ∈ lw_good := gw 164 (by decide +kernel) rfl
set_option maxRecDepth 20000 in
theorem q_163 : (Jvm.Cond.selects "BusStage" ({ cls := "BusStage", name := "passenger", desc := "(II)I" } : Jvm.MethodName) ({ cls := "BusStage", name := "passenger", desc := "(II)I" } : Jvm.MethodName)) ∈ lw_good := gw 165 (by decide +kernel) rfl
set_option maxRecDepth 20000 in
theorem q_164 : (Jvm.Cond.code ({ cls := "BusStage", name := "passenger", desc := "(II)I" } : Jvm.MethodName) prog_1_method_9_code (3 : Nat) (Option.some Jvm.ClassFile.FieldType.int)) ∈ lw_good := gw 166 (by decide +kernel) rfl
set_option maxRecDepth 20000 in
theorem q_165 : (Jvm.Cond.methodLink "BusStage" (81 : Nat) ({ cls := "BusStage", name := "isPassenger", desc := "(I)Z" } : Jvm.MethodName)) ∈ lw_good := gw 167 (by decide +kernel) rfl
set_option maxRecDepth 20000 in
theorem q_167 : (Jvm.Cond.instanceMethod ({ cls := "BusStage", name := "isPassenger", desc := "(I)Z" } : Jvm.MethodName)) ∈ lw_good := gw 169 (by decide +kernel) rfl
set_option maxRecDepth 20000 in
theorem q_168 : (Jvm.Cond.instantiable "BusStage" (2 : Nat)) ∈ lw_good := gw 170 (by decide +kernel) rfl
set_option maxRecDepth 20000 in
theorem q_169 : (Jvm.Cond.code ({ cls := "BusStage", name := "isPassenger", desc := "(I)Z" } : Jvm.MethodName) prog_1_method_20_code (2 : Nat) (Option.some Jvm.ClassFile.FieldType.boolean)) ∈ lw_good := gw 171 (by decide +kernel) rfl
set_option maxRecDepth 20000 in
theorem q_171 : (Jvm.Cond.methodLink "BusStage" (128 : Nat) ({ cls := "BusStage$Passenger", name := "tell", desc := "(I)I" } : Jvm.MethodName)) ∈ lw_good := gw 173 (by decide +kernel) rfl
set_option maxRecDepth 20000 in
theorem q_172 : (Jvm.Cond.instanceMethod ({ cls := "BusStage$Passenger", name := "tell", desc := "(I)I" } : Jvm.MethodName)) ∈ lw_good := gw 174 (by decide +kernel) rfl
set_option maxRecDepth 20000 in
theorem q_173 : (Jvm.Cond.selects "BusStage$Passenger" ({ cls := "BusStage$Passenger", name := "tell", desc := "(I)I" } : Jvm.MethodName) ({ cls := "BusStage$Passenger", name := "tell", desc := "(I)I" } : Jvm.MethodName)) ∈ lw_good := gw 175 (by decide +kernel) rfl
set_option maxRecDepth 20000 in
theorem q_174 : (Jvm.Cond.code ({ cls := "BusStage$Passenger", name := "tell", desc := "(I)I" } : Jvm.MethodName) prog_4_method_8_code (2 : Nat) (Option.some Jvm.ClassFile.FieldType.int)) ∈ lw_good := gw 176 (by decide +kernel) rfl
set_option maxRecDepth 20000 in
theorem q_175 : (Jvm.Cond.methodLink "BusStageLaw" (63 : Nat) ({ cls := "BusStage", name := "stop", desc := "(II)I" } : Jvm.MethodName)) ∈ lw_good := gw 177 (by decide +kernel) rfl
set_option maxRecDepth 20000 in
theorem q_176 : (Jvm.Cond.instanceMethod ({ cls := "BusStage", name := "stop", desc := "(II)I" } : Jvm.MethodName)) ∈ lw_good := gw 178 (by decide +kernel) rfl
set_option maxRecDepth 20000 in
theorem q_177 : (Jvm.Cond.selects "BusStage" ({ cls := "BusStage", name := "stop", desc := "(II)I" } : Jvm.MethodName) ({ cls := "BusStage", name := "stop", desc := "(II)I" } : Jvm.MethodName)) ∈ lw_good := gw 179 (by decide +kernel) rfl
set_option maxRecDepth 20000 in
theorem q_178 : (Jvm.Cond.code ({ cls := "BusStage", name := "stop", desc := "(II)I" } : Jvm.MethodName) prog_1_method_10_code (3 : Nat) (Option.some Jvm.ClassFile.FieldType.int)) ∈ lw_good := gw 180 (by decide +kernel) rfl
set_option maxRecDepth 20000 in
theorem q_180 : (Jvm.Cond.methodLink "BusStage" (131 : Nat) ({ cls := "BusStage$Line", name := "tellStop", desc := "(II)I" } : Jvm.MethodName)) ∈ lw_good := gw 182 (by decide +kernel) rfl
set_option maxRecDepth 20000 in
theorem q_181 : (Jvm.Cond.instanceMethod ({ cls := "BusStage$Line", name := "tellStop", desc := "(II)I" } : Jvm.MethodName)) ∈ lw_good := gw 183 (by decide +kernel) rfl
set_option maxRecDepth 20000 in
theorem q_182 : (Jvm.Cond.selects "BusStage$Line" ({ cls := "BusStage$Line", name := "tellStop", desc := "(II)I" } : Jvm.MethodName) ({ cls := "BusStage$Line", name := "tellStop", desc := "(II)I" } : Jvm.MethodName)) ∈ lw_good := gw 184 (by decide +kernel) rfl
set_option maxRecDepth 20000 in
theorem q_183 : (Jvm.Cond.code ({ cls := "BusStage$Line", name := "tellStop", desc := "(II)I" } : Jvm.MethodName) prog_3_method_13_code (3 : Nat) (Option.some Jvm.ClassFile.FieldType.int)) ∈ lw_good := gw 185 (by decide +kernel) rfl
set_option maxRecDepth 20000 in
theorem q_184 : (Jvm.Cond.methodLink "BusStage$Line" (141 : Nat) ({ cls := "BusStage$Line", name := "waitingAt", desc := "(I)I" } : Jvm.MethodName)) ∈ lw_good := gw 186 (by decide +kernel) rfl
set_option maxRecDepth 20000 in
theorem q_185 : (Jvm.Cond.instanceMethod ({ cls := "BusStage$Line", name := "waitingAt", desc := "(I)I" } : Jvm.MethodName)) ∈ lw_good := gw 187 (by decide +kernel) rfl
set_option maxRecDepth 20000 in
theorem q_186 : (Jvm.Cond.selects "BusStage$Line" ({ cls := "BusStage$Line", name := "waitingAt", desc := "(I)I" } : Jvm.MethodName) ({ cls := "BusStage$Line", name := "waitingAt", desc := "(I)I" } : Jvm.MethodName)) ∈ lw_good := gw 188 (by decide +kernel) rfl
set_option maxRecDepth 20000 in
theorem q_187 : (Jvm.Cond.code ({ cls := "BusStage$Line", name := "waitingAt", desc := "(I)I" } : Jvm.MethodName) prog_3_method_15_code (4 : Nat) (Option.some Jvm.ClassFile.FieldType.int)) ∈ lw_good := gw 189 (by decide +kernel) rfl
set_option maxRecDepth 20000 in
theorem q_188 : (Jvm.Cond.methodLink "BusStage$Line" (126 : Nat) ({ cls := "BusStage$Passenger", name := "waitsAt", desc := "(I)Z" } : Jvm.MethodName)) ∈ lw_good := gw 190 (by decide +kernel) rfl
set_option maxRecDepth 20000 in
theorem q_189 : (Jvm.Cond.instanceMethod ({ cls := "BusStage$Passenger", name := "waitsAt", desc := "(I)Z" } : Jvm.MethodName)) ∈ lw_good := gw 191 (by decide +kernel) rfl
set_option maxRecDepth 20000 in
theorem q_190 : (Jvm.Cond.selects "BusStage$Passenger" ({ cls := "BusStage$Passenger", name := "waitsAt", desc := "(I)Z" } : Jvm.MethodName) ({ cls := "BusStage$Passenger", name := "waitsAt", desc := "(I)Z" } : Jvm.MethodName)) ∈ lw_good := gw 192 (by decide +kernel) rfl
set_option maxRecDepth 20000 in
theorem q_191 : (Jvm.Cond.code ({ cls := "BusStage$Passenger", name := "waitsAt", desc := "(I)Z" } : Jvm.MethodName) prog_4_method_3_code (2 : Nat) (Option.some Jvm.ClassFile.FieldType.boolean)) ∈ lw_good := gw 193 (by decide +kernel) rfl
set_option maxRecDepth 20000 in
theorem q_192 : (Jvm.Cond.methodLink "BusStage$Line" (145 : Nat) ({ cls := "BusStage$Line", name := "standingAt", desc := "(I)I" } : Jvm.MethodName)) ∈ lw_good := gw 194 (by decide +kernel) rfl
set_option maxRecDepth 20000 in
theorem q_193 : (Jvm.Cond.instanceMethod ({ cls := "BusStage$Line", name := "standingAt", desc := "(I)I" } : Jvm.MethodName)) ∈ lw_good := gw 195 (by decide +kernel) rfl
set_option maxRecDepth 20000 in
theorem q_194 : (Jvm.Cond.selects "BusStage$Line" ({ cls := "BusStage$Line", name := "standingAt", desc := "(I)I" } : Jvm.MethodName) ({ cls := "BusStage$Line", name := "standingAt", desc := "(I)I" } : Jvm.MethodName)) ∈ lw_good := gw 196 (by decide +kernel) rfl
set_option maxRecDepth 20000 in
theorem q_195 : (Jvm.Cond.code ({ cls := "BusStage$Line", name := "standingAt", desc := "(I)I" } : Jvm.MethodName) prog_3_method_16_code (4 : Nat) (Option.some Jvm.ClassFile.FieldType.int)) ∈ lw_good := gw 197 (by decide +kernel) rfl
set_option maxRecDepth 20000 in
theorem q_196 : (Jvm.Cond.methodLink "BusStageLaw" (52 : Nat) ({ cls := "BusStage", name := "count", desc := "(I)I" } : Jvm.MethodName)) ∈ lw_good := gw 198 (by decide +kernel) rfl
set_option maxRecDepth 20000 in
theorem q_197 : (Jvm.Cond.instanceMethod ({ cls := "BusStage", name := "count", desc := "(I)I" } : Jvm.MethodName)) ∈ lw_good := gw 199 (by decide +kernel) rfl
set_option maxRecDepth 20000 in
theorem q_198 : (Jvm.Cond.selects "BusStage" ({ cls := "BusStage", name := "count", desc := "(I)I" } : Jvm.MethodName) ({ cls := "BusStage", name := "count", desc := "(I)I" } : Jvm.MethodName)) ∈ lw_good := gw 200 (by decide +kernel) rfl
set_option maxRecDepth 20000 in
theorem q_199 : (Jvm.Cond.code ({ cls := "BusStage", name := "count", desc := "(I)I" } : Jvm.MethodName) prog_1_method_11_code (2 : Nat) (Option.some Jvm.ClassFile.FieldType.int)) ∈ lw_good := gw 201 (by decide +kernel) rfl
set_option maxRecDepth 20000 in
theorem q_201 : (Jvm.Cond.methodLink "BusStage" (136 : Nat) ({ cls := "BusStage$Line", name := "tellCount", desc := "(I)I" } : Jvm.MethodName)) ∈ lw_good := gw 203 (by decide +kernel) rfl
set_option maxRecDepth 20000 in
theorem q_202 : (Jvm.Cond.instanceMethod ({ cls := "BusStage$Line", name := "tellCount", desc := "(I)I" } : Jvm.MethodName)) ∈ lw_good := gw 204 (by decide +kernel) rfl
set_option maxRecDepth 20000 in
theorem q_203 : (Jvm.Cond.selects "BusStage$Line" ({ cls := "BusStage$Line", name := "tellCount", desc := "(I)I" } : Jvm.MethodName) ({ cls := "BusStage$Line", name := "tellCount", desc := "(I)I" } : Jvm.MethodName)) ∈ lw_good := gw 205 (by decide +kernel) rfl
set_option maxRecDepth 20000 in
theorem q_204 : (Jvm.Cond.code ({ cls := "BusStage$Line", name := "tellCount", desc := "(I)I" } : Jvm.MethodName) prog_3_method_14_code (2 : Nat) (Option.some Jvm.ClassFile.FieldType.int)) ∈ lw_good := gw 206 (by decide +kernel) rfl
set_option maxRecDepth 20000 in
theorem q_205 : (Jvm.Cond.methodLink "BusStage$Line" (148 : Nat) ({ cls := "BusStage$Line", name := "passengersIn", desc := "(I)I" } : Jvm.MethodName)) ∈ lw_good := gw 207 (by decide +kernel) rfl
set_option maxRecDepth 20000 in
theorem q_206 : (Jvm.Cond.instanceMethod ({ cls := "BusStage$Line", name := "passengersIn", desc := "(I)I" } : Jvm.MethodName)) ∈ lw_good := gw 208 (by decide +kernel) rfl
set_option maxRecDepth 20000 in
theorem q_207 : (Jvm.Cond.selects "BusStage$Line" ({ cls := "BusStage$Line", name := "passengersIn", desc := "(I)I" } : Jvm.MethodName) ({ cls := "BusStage$Line", name := "passengersIn", desc := "(I)I" } : Jvm.MethodName)) ∈ lw_good := gw 209 (by decide +kernel) rfl
set_option maxRecDepth 20000 in
theorem q_208 : (Jvm.Cond.code ({ cls := "BusStage$Line", name := "passengersIn", desc := "(I)I" } : Jvm.MethodName) prog_3_method_17_code (4 : Nat) (Option.some Jvm.ClassFile.FieldType.int)) ∈ lw_good := gw 210 (by decide +kernel) rfl
set_option maxRecDepth 20000 in
theorem q_209 : (Jvm.Cond.methodLink "BusStage$Line" (151 : Nat) ({ cls := "BusStage$Line", name := "allPaid", desc := "()I" } : Jvm.MethodName)) ∈ lw_good := gw 211 (by decide +kernel) rfl
set_option maxRecDepth 20000 in
theorem q_210 : (Jvm.Cond.instanceMethod ({ cls := "BusStage$Line", name := "allPaid", desc := "()I" } : Jvm.MethodName)) ∈ lw_good := gw 212 (by decide +kernel) rfl
set_option maxRecDepth 20000 in
theorem q_211 : (Jvm.Cond.selects "BusStage$Line" ({ cls := "BusStage$Line", name := "allPaid", desc := "()I" } : Jvm.MethodName) ({ cls := "BusStage$Line", name := "allPaid", desc := "()I" } : Jvm.MethodName)) ∈ lw_good := gw 213 (by decide +kernel) rfl
set_option maxRecDepth 20000 in
theorem q_212 : (Jvm.Cond.code ({ cls := "BusStage$Line", name := "allPaid", desc := "()I" } : Jvm.MethodName) prog_3_method_18_code (3 : Nat) (Option.some Jvm.ClassFile.FieldType.int)) ∈ lw_good := gw 214 (by decide +kernel) rfl
set_option maxRecDepth 20000 in
theorem q_213 : (Jvm.Cond.methodLink "BusStage$Line" (155 : Nat) ({ cls := "BusStage$Line", name := "allWaited", desc := "()I" } : Jvm.MethodName)) ∈ lw_good := gw 215 (by decide +kernel) rfl
set_option maxRecDepth 20000 in
theorem q_214 : (Jvm.Cond.instanceMethod ({ cls := "BusStage$Line", name := "allWaited", desc := "()I" } : Jvm.MethodName)) ∈ lw_good := gw 216 (by decide +kernel) rfl
set_option maxRecDepth 20000 in
theorem q_215 : (Jvm.Cond.selects "BusStage$Line" ({ cls := "BusStage$Line", name := "allWaited", desc := "()I" } : Jvm.MethodName) ({ cls := "BusStage$Line", name := "allWaited", desc := "()I" } : Jvm.MethodName)) ∈ lw_good := gw 217 (by decide +kernel) rfl
set_option maxRecDepth 20000 in
theorem q_216 : (Jvm.Cond.code ({ cls := "BusStage$Line", name := "allWaited", desc := "()I" } : Jvm.MethodName) prog_3_method_19_code (3 : Nat) (Option.some Jvm.ClassFile.FieldType.int)) ∈ lw_good := gw 218 (by decide +kernel) rfl
set_option maxRecDepth 20000 in
theorem q_217 : (Jvm.Cond.methodLink "BusStage$Line" (158 : Nat) ({ cls := "BusStage$Line", name := "bunchedPairs", desc := "()I" } : Jvm.MethodName)) ∈ lw_good := gw 219 (by decide +kernel) rfl
set_option maxRecDepth 20000 in
theorem q_218 : (Jvm.Cond.instanceMethod ({ cls := "BusStage$Line", name := "bunchedPairs", desc := "()I" } : Jvm.MethodName)) ∈ lw_good := gw 220 (by decide +kernel) rfl
set_option maxRecDepth 20000 in
theorem q_219 : (Jvm.Cond.selects "BusStage$Line" ({ cls := "BusStage$Line", name := "bunchedPairs", desc := "()I" } : Jvm.MethodName) ({ cls := "BusStage$Line", name := "bunchedPairs", desc := "()I" } : Jvm.MethodName)) ∈ lw_good := gw 221 (by decide +kernel) rfl
set_option maxRecDepth 20000 in
theorem q_220 : (Jvm.Cond.code ({ cls := "BusStage$Line", name := "bunchedPairs", desc := "()I" } : Jvm.MethodName) prog_3_method_20_code (4 : Nat) (Option.some Jvm.ClassFile.FieldType.int)) ∈ lw_good := gw 222 (by decide +kernel) rfl
set_option maxRecDepth 20000 in
theorem q_221 : (Jvm.Cond.methodLink "BusStage$Line" (164 : Nat) ({ cls := "BusStage$Bus", name := "isBunchedWith", desc := "(LBusStage$Bus;)Z" } : Jvm.MethodName)) ∈ lw_good := gw 223 (by decide +kernel) rfl
set_option maxRecDepth 20000 in
theorem q_222 : (Jvm.Cond.instanceMethod ({ cls := "BusStage$Bus", name := "isBunchedWith", desc := "(LBusStage$Bus;)Z" } : Jvm.MethodName)) ∈ lw_good := gw 224 (by decide +kernel) rfl
set_option maxRecDepth 20000 in
theorem q_223 : (Jvm.Cond.selects "BusStage$Bus" ({ cls := "BusStage$Bus", name := "isBunchedWith", desc := "(LBusStage$Bus;)Z" } : Jvm.MethodName) ({ cls := "BusStage$Bus", name := "isBunchedWith", desc := "(LBusStage$Bus;)Z" } : Jvm.MethodName)) ∈ lw_good := gw 225 (by decide +kernel) rfl
set_option maxRecDepth 20000 in
theorem q_224 : (Jvm.Cond.code ({ cls := "BusStage$Bus", name := "isBunchedWith", desc := "(LBusStage$Bus;)Z" } : Jvm.MethodName) prog_2_method_3_code (2 : Nat) (Option.some Jvm.ClassFile.FieldType.boolean)) ∈ lw_good := gw 226 (by decide +kernel) rfl
set_option maxRecDepth 20000 in
theorem q_225 : (Jvm.Cond.methodLink "BusStageLaw" (33 : Nat) ({ cls := "BusStage", name := "go", desc := "(I)I" } : Jvm.MethodName)) ∈ lw_good := gw 227 (by decide +kernel) rfl
set_option maxRecDepth 20000 in
theorem q_226 : (Jvm.Cond.instanceMethod ({ cls := "BusStage", name := "go", desc := "(I)I" } : Jvm.MethodName)) ∈ lw_good := gw 228 (by decide +kernel) rfl
set_option maxRecDepth 20000 in
theorem q_227 : (Jvm.Cond.selects "BusStage" ({ cls := "BusStage", name := "go", desc := "(I)I" } : Jvm.MethodName) ({ cls := "BusStage", name := "go", desc := "(I)I" } : Jvm.MethodName)) ∈ lw_good := gw 229 (by decide +kernel) rfl
set_option maxRecDepth 20000 in
theorem q_228 : (Jvm.Cond.code ({ cls := "BusStage", name := "go", desc := "(I)I" } : Jvm.MethodName) prog_1_method_12_code (3 : Nat) (Option.some Jvm.ClassFile.FieldType.int)) ∈ lw_good := gw 230 (by decide +kernel) rfl
set_option maxRecDepth 20000 in
theorem q_230 : (Jvm.Cond.methodLink "BusStage" (141 : Nat) ({ cls := "BusStage$Line", name := "passengersIn", desc := "(I)I" } : Jvm.MethodName)) ∈ lw_good := gw 232 (by decide +kernel) rfl
set_option maxRecDepth 20000 in
theorem q_231 : (Jvm.Cond.methodLink "BusStage" (144 : Nat) ({ cls := "BusStage$Line", name := "passMinutes", desc := "(I)V" } : Jvm.MethodName)) ∈ lw_good := gw 233 (by decide +kernel) rfl
set_option maxRecDepth 20000 in
theorem q_232 : (Jvm.Cond.instanceMethod ({ cls := "BusStage$Line", name := "passMinutes", desc := "(I)V" } : Jvm.MethodName)) ∈ lw_good := gw 234 (by decide +kernel) rfl
set_option maxRecDepth 20000 in
theorem q_233 : (Jvm.Cond.selects "BusStage$Line" ({ cls := "BusStage$Line", name := "passMinutes", desc := "(I)V" } : Jvm.MethodName) ({ cls := "BusStage$Line", name := "passMinutes", desc := "(I)V" } : Jvm.MethodName)) ∈ lw_good := gw 235 (by decide +kernel) rfl
set_option maxRecDepth 20000 in
theorem q_234 : (Jvm.Cond.code ({ cls := "BusStage$Line", name := "passMinutes", desc := "(I)V" } : Jvm.MethodName) prog_3_method_7_code (3 : Nat) (Option.none : Option Jvm.ClassFile.FieldType)) ∈ lw_good := gw 236 (by decide +kernel) rfl
set_option maxRecDepth 20000 in
theorem q_235 : (Jvm.Cond.methodLink "BusStage$Line" (80 : Nat) ({ cls := "BusStage$Line", name := "passMinute", desc := "()V" } : Jvm.MethodName)) ∈ lw_good := gw 237 (by decide +kernel) rfl
set_option maxRecDepth 20000 in
theorem q_236 : (Jvm.Cond.instanceMethod ({ cls := "BusStage$Line", name := "passMinute", desc := "()V" } : Jvm.MethodName)) ∈ lw_good := gw 238 (by decide +kernel) rfl
set_option maxRecDepth 20000 in
theorem q_237 : (Jvm.Cond.selects "BusStage$Line" ({ cls := "BusStage$Line", name := "passMinute", desc := "()V" } : Jvm.MethodName) ({ cls := "BusStage$Line", name := "passMinute", desc := "()V" } : Jvm.MethodName)) ∈ lw_good := gw 239 (by decide +kernel) rfl
set_option maxRecDepth 20000 in
theorem q_238 : (Jvm.Cond.code ({ cls := "BusStage$Line", name := "passMinute", desc := "()V" } : Jvm.MethodName) prog_3_method_8_code (3 : Nat) (Option.none : Option Jvm.ClassFile.FieldType)) ∈ lw_good := gw 240 (by decide +kernel) rfl
set_option maxRecDepth 20000 in
theorem q_239 : (Jvm.Cond.methodLink "BusStage$Line" (87 : Nat) ({ cls := "BusStage$Line", name := "driveOn", desc := "(LBusStage$Bus;)V" } : Jvm.MethodName)) ∈ lw_good := gw 241 (by decide +kernel) rfl
set_option maxRecDepth 20000 in
theorem q_240 : (Jvm.Cond.instanceMethod ({ cls := "BusStage$Line", name := "driveOn", desc := "(LBusStage$Bus;)V" } : Jvm.MethodName)) ∈ lw_good := gw 242 (by decide +kernel) rfl
set_option maxRecDepth 20000 in
theorem q_241 : (Jvm.Cond.selects "BusStage$Line" ({ cls := "BusStage$Line", name := "driveOn", desc := "(LBusStage$Bus;)V" } : Jvm.MethodName) ({ cls := "BusStage$Line", name := "driveOn", desc := "(LBusStage$Bus;)V" } : Jvm.MethodName)) ∈ lw_good := gw 243 (by decide +kernel) rfl
set_option maxRecDepth 20000 in
theorem q_242 : (Jvm.Cond.code ({ cls := "BusStage$Line", name := "driveOn", desc := "(LBusStage$Bus;)V" } : Jvm.MethodName) prog_3_method_9_code (4 : Nat) (Option.none : Option Jvm.ClassFile.FieldType)) ∈ lw_good := gw 244 (by decide +kernel) rfl
set_option maxRecDepth 20000 in
theorem q_243 : (Jvm.Cond.methodLink "BusStage$Line" (99 : Nat) ({ cls := "BusStage$Line", name := "letOff", desc := "(LBusStage$Bus;)I" } : Jvm.MethodName)) ∈ lw_good := gw 245 (by decide +kernel) rfl
set_option maxRecDepth 20000 in
theorem q_244 : (Jvm.Cond.instanceMethod ({ cls := "BusStage$Line", name := "letOff", desc := "(LBusStage$Bus;)I" } : Jvm.MethodName)) ∈ lw_good := gw 246 (by decide +kernel) rfl
set_option maxRecDepth 20000 in
theorem q_245 : (Jvm.Cond.selects "BusStage$Line" ({ cls := "BusStage$Line", name := "letOff", desc := "(LBusStage$Bus;)I" } : Jvm.MethodName) ({ cls := "BusStage$Line", name := "letOff", desc := "(LBusStage$Bus;)I" } : Jvm.MethodName)) ∈ lw_good := gw 247 (by decide +kernel) rfl
set_option maxRecDepth 20000 in
theorem q_246 : (Jvm.Cond.code ({ cls := "BusStage$Line", name := "letOff", desc := "(LBusStage$Bus;)I" } : Jvm.MethodName) prog_3_method_11_code (4 : Nat) (Option.some Jvm.ClassFile.FieldType.int)) ∈ lw_good := gw 248 (by decide +kernel) rfl
set_option maxRecDepth 20000 in
theorem q_247 : (Jvm.Cond.methodLink "BusStage$Line" (116 : Nat) ({ cls := "BusStage$Passenger", name := "leavesAt", desc := "(ILBusStage$Bus;)Z" } : Jvm.MethodName)) ∈ lw_good := gw 249 (by decide +kernel) rfl
set_option maxRecDepth 20000 in
theorem q_248 : (Jvm.Cond.instanceMethod ({ cls := "BusStage$Passenger", name := "leavesAt", desc := "(ILBusStage$Bus;)Z" } : Jvm.MethodName)) ∈ lw_good := gw 250 (by decide +kernel) rfl
set_option maxRecDepth 20000 in
theorem q_249 : (Jvm.Cond.selects "BusStage$Passenger" ({ cls := "BusStage$Passenger", name := "leavesAt", desc := "(ILBusStage$Bus;)Z" } : Jvm.MethodName) ({ cls := "BusStage$Passenger", name := "leavesAt", desc := "(ILBusStage$Bus;)Z" } : Jvm.MethodName)) ∈ lw_good := gw 251 (by decide +kernel) rfl
set_option maxRecDepth 20000 in
theorem q_250 : (Jvm.Cond.code ({ cls := "BusStage$Passenger", name := "leavesAt", desc := "(ILBusStage$Bus;)Z" } : Jvm.MethodName) prog_4_method_4_code (3 : Nat) (Option.some Jvm.ClassFile.FieldType.boolean)) ∈ lw_good := gw 252 (by decide +kernel) rfl
set_option maxRecDepth 20000 in
theorem q_251 : (Jvm.Cond.methodLink "BusStage$Line" (120 : Nat) ({ cls := "BusStage$Passenger", name := "getOff", desc := "(I)V" } : Jvm.MethodName)) ∈ lw_good := gw 253 (by decide +kernel) rfl
set_option maxRecDepth 20000 in
theorem q_252 : (Jvm.Cond.instanceMethod ({ cls := "BusStage$Passenger", name := "getOff", desc := "(I)V" } : Jvm.MethodName)) ∈ lw_good := gw 254 (by decide +kernel) rfl
set_option maxRecDepth 20000 in
theorem q_253 : (Jvm.Cond.selects "BusStage$Passenger" ({ cls := "BusStage$Passenger", name := "getOff", desc := "(I)V" } : Jvm.MethodName) ({ cls := "BusStage$Passenger", name := "getOff", desc := "(I)V" } : Jvm.MethodName)) ∈ lw_good := gw 255 (by decide +kernel) rfl
set_option maxRecDepth 20000 in
theorem q_254 : (Jvm.Cond.code ({ cls := "BusStage$Passenger", name := "getOff", desc := "(I)V" } : Jvm.MethodName) prog_4_method_7_code (2 : Nat) (Option.none : Option Jvm.ClassFile.FieldType)) ∈ lw_good := gw 256 (by decide +kernel) rfl
set_option maxRecDepth 20000 in
theorem q_255 : (Jvm.Cond.methodLink "BusStage$Line" (103 : Nat) ({ cls := "BusStage$Line", name := "letOn", desc := "(LBusStage$Bus;)I" } : Jvm.MethodName)) ∈ lw_good := gw 257 (by decide +kernel) rfl
set_option maxRecDepth 20000 in
theorem q_256 : (Jvm.Cond.instanceMethod ({ cls := "BusStage$Line", name := "letOn", desc := "(LBusStage$Bus;)I" } : Jvm.MethodName)) ∈ lw_good := gw 258 (by decide +kernel) rfl
set_option maxRecDepth 20000 in
theorem q_257 : (Jvm.Cond.selects "BusStage$Line" ({ cls := "BusStage$Line", name := "letOn", desc := "(LBusStage$Bus;)I" } : Jvm.MethodName) ({ cls := "BusStage$Line", name := "letOn", desc := "(LBusStage$Bus;)I" } : Jvm.MethodName)) ∈ lw_good := gw 259 (by decide +kernel) rfl
set_option maxRecDepth 20000 in
theorem q_258 : (Jvm.Cond.code ({ cls := "BusStage$Line", name := "letOn", desc := "(LBusStage$Bus;)I" } : Jvm.MethodName) prog_3_method_12_code (5 : Nat) (Option.some Jvm.ClassFile.FieldType.int)) ∈ lw_good := gw 260 (by decide +kernel) rfl
set_option maxRecDepth 20000 in
theorem q_259 : (Jvm.Cond.methodLink "BusStage$Line" (133 : Nat) ({ cls := "BusStage$Line", name := "fareBetween", desc := "(II)I" } : Jvm.MethodName)) ∈ lw_good := gw 261 (by decide +kernel) rfl
set_option maxRecDepth 20000 in
theorem q_260 : (Jvm.Cond.methodLink "BusStage$Line" (137 : Nat) ({ cls := "BusStage$Passenger", name := "getOn", desc := "(LBusStage$Bus;I)I" } : Jvm.MethodName)) ∈ lw_good := gw 262 (by decide +kernel) rfl
set_option maxRecDepth 20000 in
theorem q_261 : (Jvm.Cond.instanceMethod ({ cls := "BusStage$Passenger", name := "getOn", desc := "(LBusStage$Bus;I)I" } : Jvm.MethodName)) ∈ lw_good := gw 263 (by decide +kernel) rfl
set_option maxRecDepth 20000 in
theorem q_262 : (Jvm.Cond.selects "BusStage$Passenger" ({ cls := "BusStage$Passenger", name := "getOn", desc := "(LBusStage$Bus;I)I" } : Jvm.MethodName) ({ cls := "BusStage$Passenger", name := "getOn", desc := "(LBusStage$Bus;I)I" } : Jvm.MethodName)) ∈ lw_good := gw 264 (by decide +kernel) rfl
set_option maxRecDepth 20000 in
theorem q_263 : (Jvm.Cond.code ({ cls := "BusStage$Passenger", name := "getOn", desc := "(LBusStage$Bus;I)I" } : Jvm.MethodName) prog_4_method_6_code (4 : Nat) (Option.some Jvm.ClassFile.FieldType.int)) ∈ lw_good := gw 265 (by decide +kernel) rfl
set_option maxRecDepth 20000 in
theorem q_264 : (Jvm.Cond.methodLink "BusStage$Line" (90 : Nat) ({ cls := "BusStage$Line", name := "standOn", desc := "(LBusStage$Bus;)V" } : Jvm.MethodName)) ∈ lw_good := gw 266 (by decide +kernel) rfl
set_option maxRecDepth 20000 in
theorem q_265 : (Jvm.Cond.instanceMethod ({ cls := "BusStage$Line", name := "standOn", desc := "(LBusStage$Bus;)V" } : Jvm.MethodName)) ∈ lw_good := gw 267 (by decide +kernel) rfl
set_option maxRecDepth 20000 in
theorem q_266 : (Jvm.Cond.selects "BusStage$Line" ({ cls := "BusStage$Line", name := "standOn", desc := "(LBusStage$Bus;)V" } : Jvm.MethodName) ({ cls := "BusStage$Line", name := "standOn", desc := "(LBusStage$Bus;)V" } : Jvm.MethodName)) ∈ lw_good := gw 268 (by decide +kernel) rfl
set_option maxRecDepth 20000 in
theorem q_267 : (Jvm.Cond.code ({ cls := "BusStage$Line", name := "standOn", desc := "(LBusStage$Bus;)V" } : Jvm.MethodName) prog_3_method_10_code (3 : Nat) (Option.none : Option Jvm.ClassFile.FieldType)) ∈ lw_good := gw 269 (by decide +kernel) rfl
set_option maxRecDepth 20000 in
theorem q_268 : (Jvm.Cond.methodLink "BusStage$Line" (106 : Nat) ({ cls := "BusStage$Stop", name := "letsLeave", desc := "(II)Z" } : Jvm.MethodName)) ∈ lw_good := gw 270 (by decide +kernel) rfl
set_option maxRecDepth 20000 in
theorem q_269 : (Jvm.Cond.instanceMethod ({ cls := "BusStage$Stop", name := "letsLeave", desc := "(II)Z" } : Jvm.MethodName)) ∈ lw_good := gw 271 (by decide +kernel) rfl
set_option maxRecDepth 20000 in
theorem q_270 : (Jvm.Cond.selects "BusStage$Stop" ({ cls := "BusStage$Stop", name := "letsLeave", desc := "(II)Z" } : Jvm.MethodName) ({ cls := "BusStage$Stop", name := "letsLeave", desc := "(II)Z" } : Jvm.MethodName)) ∈ lw_good := gw 272 (by decide +kernel) rfl
set_option maxRecDepth 20000 in
theorem q_271 : (Jvm.Cond.code ({ cls := "BusStage$Stop", name := "letsLeave", desc := "(II)Z" } : Jvm.MethodName) prog_5_method_3_code (3 : Nat) (Option.some Jvm.ClassFile.FieldType.boolean)) ∈ lw_good := gw 273 (by decide +kernel) rfl
set_option maxRecDepth 20000 in
theorem q_272 : (Jvm.Cond.methodLink "BusStageLaw" (73 : Nat) ({ cls := "BusStage", name := "arrives", desc := "(I)I" } : Jvm.MethodName)) ∈ lw_good := gw 274 (by decide +kernel) rfl
set_option maxRecDepth 20000 in
theorem q_273 : (Jvm.Cond.instanceMethod ({ cls := "BusStage", name := "arrives", desc := "(I)I" } : Jvm.MethodName)) ∈ lw_good := gw 275 (by decide +kernel) rfl
set_option maxRecDepth 20000 in
theorem q_274 : (Jvm.Cond.selects "BusStage" ({ cls := "BusStage", name := "arrives", desc := "(I)I" } : Jvm.MethodName) ({ cls := "BusStage", name := "arrives", desc := "(I)I" } : Jvm.MethodName)) ∈ lw_good := gw 276 (by decide +kernel) rfl
set_option maxRecDepth 20000 in
theorem q_275 : (Jvm.Cond.code ({ cls := "BusStage", name := "arrives", desc := "(I)I" } : Jvm.MethodName) prog_1_method_13_code (4 : Nat) (Option.some Jvm.ClassFile.FieldType.int)) ∈ lw_good := gw 277 (by decide +kernel) rfl
set_option maxRecDepth 20000 in
theorem q_277 : (Jvm.Cond.methodLink "BusStage" (150 : Nat) ({ cls := "BusStage$Line", name := "copyFrom", desc := "(LBusStage$Line;)V" } : Jvm.MethodName)) ∈ lw_good := gw 279 (by decide +kernel) rfl
set_option maxRecDepth 20000 in
theorem q_278 : (Jvm.Cond.instanceMethod ({ cls := "BusStage$Line", name := "copyFrom", desc := "(LBusStage$Line;)V" } : Jvm.MethodName)) ∈ lw_good := gw 280 (by decide +kernel) rfl
set_option maxRecDepth 20000 in
theorem q_279 : (Jvm.Cond.selects "BusStage$Line" ({ cls := "BusStage$Line", name := "copyFrom", desc := "(LBusStage$Line;)V" } : Jvm.MethodName) ({ cls := "BusStage$Line", name := "copyFrom", desc := "(LBusStage$Line;)V" } : Jvm.MethodName)) ∈ lw_good := gw 281 (by decide +kernel) rfl
set_option maxRecDepth 20000 in
theorem q_280 : (Jvm.Cond.code ({ cls := "BusStage$Line", name := "copyFrom", desc := "(LBusStage$Line;)V" } : Jvm.MethodName) prog_3_method_2_code (3 : Nat) (Option.none : Option Jvm.ClassFile.FieldType)) ∈ lw_good := gw 282 (by decide +kernel) rfl
set_option maxRecDepth 20000 in
theorem q_281 : (Jvm.Cond.methodLink "BusStage$Line" (34 : Nat) ({ cls := "BusStage$Stop", name := "copyFrom", desc := "(LBusStage$Stop;)V" } : Jvm.MethodName)) ∈ lw_good := gw 283 (by decide +kernel) rfl
set_option maxRecDepth 20000 in
theorem q_282 : (Jvm.Cond.instanceMethod ({ cls := "BusStage$Stop", name := "copyFrom", desc := "(LBusStage$Stop;)V" } : Jvm.MethodName)) ∈ lw_good := gw 284 (by decide +kernel) rfl
set_option maxRecDepth 20000 in
theorem q_283 : (Jvm.Cond.selects "BusStage$Stop" ({ cls := "BusStage$Stop", name := "copyFrom", desc := "(LBusStage$Stop;)V" } : Jvm.MethodName) ({ cls := "BusStage$Stop", name := "copyFrom", desc := "(LBusStage$Stop;)V" } : Jvm.MethodName)) ∈ lw_good := gw 285 (by decide +kernel) rfl
set_option maxRecDepth 20000 in
theorem q_284 : (Jvm.Cond.code ({ cls := "BusStage$Stop", name := "copyFrom", desc := "(LBusStage$Stop;)V" } : Jvm.MethodName) prog_5_method_2_code (2 : Nat) (Option.none : Option Jvm.ClassFile.FieldType)) ∈ lw_good := gw 286 (by decide +kernel) rfl
set_option maxRecDepth 20000 in
theorem q_285 : (Jvm.Cond.methodLink "BusStage$Line" (42 : Nat) ({ cls := "BusStage$Bus", name := "copyFrom", desc := "(LBusStage$Bus;)V" } : Jvm.MethodName)) ∈ lw_good := gw 287 (by decide +kernel) rfl
set_option maxRecDepth 20000 in
theorem q_286 : (Jvm.Cond.instanceMethod ({ cls := "BusStage$Bus", name := "copyFrom", desc := "(LBusStage$Bus;)V" } : Jvm.MethodName)) ∈ lw_good := gw 288 (by decide +kernel) rfl
set_option maxRecDepth 20000 in
theorem q_287 : (Jvm.Cond.selects "BusStage$Bus" ({ cls := "BusStage$Bus", name := "copyFrom", desc := "(LBusStage$Bus;)V" } : Jvm.MethodName) ({ cls := "BusStage$Bus", name := "copyFrom", desc := "(LBusStage$Bus;)V" } : Jvm.MethodName)) ∈ lw_good := gw 289 (by decide +kernel) rfl
set_option maxRecDepth 20000 in
theorem q_288 : (Jvm.Cond.code ({ cls := "BusStage$Bus", name := "copyFrom", desc := "(LBusStage$Bus;)V" } : Jvm.MethodName) prog_2_method_2_code (2 : Nat) (Option.none : Option Jvm.ClassFile.FieldType)) ∈ lw_good := gw 290 (by decide +kernel) rfl
set_option maxRecDepth 20000 in
theorem q_289 : (Jvm.Cond.methodLink "BusStage$Line" (48 : Nat) ({ cls := "BusStage$Passenger", name := "copyFrom", desc := "(LBusStage$Passenger;)V" } : Jvm.MethodName)) ∈ lw_good := gw 291 (by decide +kernel) rfl
set_option maxRecDepth 20000 in
theorem q_290 : (Jvm.Cond.instanceMethod ({ cls := "BusStage$Passenger", name := "copyFrom", desc := "(LBusStage$Passenger;)V" } : Jvm.MethodName)) ∈ lw_good := gw 292 (by decide +kernel) rfl
set_option maxRecDepth 20000 in
theorem q_291 : (Jvm.Cond.selects "BusStage$Passenger" ({ cls := "BusStage$Passenger", name := "copyFrom", desc := "(LBusStage$Passenger;)V" } : Jvm.MethodName) ({ cls := "BusStage$Passenger", name := "copyFrom", desc := "(LBusStage$Passenger;)V" } : Jvm.MethodName)) ∈ lw_good := gw 293 (by decide +kernel) rfl
set_option maxRecDepth 20000 in
theorem q_292 : (Jvm.Cond.code ({ cls := "BusStage$Passenger", name := "copyFrom", desc := "(LBusStage$Passenger;)V" } : Jvm.MethodName) prog_4_method_2_code (2 : Nat) (Option.none : Option Jvm.ClassFile.FieldType)) ∈ lw_good := gw 294 (by decide +kernel) rfl
set_option maxRecDepth 20000 in
theorem q_293 : (Jvm.Cond.methodLink "BusStage" (154 : Nat) ({ cls := "BusStage$Line", name := "passMinute", desc := "()V" } : Jvm.MethodName)) ∈ lw_good := gw 295 (by decide +kernel) rfl
set_option maxRecDepth 20000 in
theorem q_294 : (Jvm.Cond.methodLink "BusStageLaw" (70 : Nat) ({ cls := "BusStage", name := "foresee", desc := "(II)I" } : Jvm.MethodName)) ∈ lw_good := gw 296 (by decide +kernel) rfl
set_option maxRecDepth 20000 in
theorem q_295 : (Jvm.Cond.instanceMethod ({ cls := "BusStage", name := "foresee", desc := "(II)I" } : Jvm.MethodName)) ∈ lw_good := gw 297 (by decide +kernel) rfl
set_option maxRecDepth 20000 in
theorem q_296 : (Jvm.Cond.selects "BusStage" ({ cls := "BusStage", name := "foresee", desc := "(II)I" } : Jvm.MethodName) ({ cls := "BusStage", name := "foresee", desc := "(II)I" } : Jvm.MethodName)) ∈ lw_good := gw 298 (by decide +kernel) rfl
set_option maxRecDepth 20000 in
theorem q_297 : (Jvm.Cond.code ({ cls := "BusStage", name := "foresee", desc := "(II)I" } : Jvm.MethodName) prog_1_method_14_code (3 : Nat) (Option.some Jvm.ClassFile.FieldType.int)) ∈ lw_good := gw 299 (by decide +kernel) rfl
set_option maxRecDepth 20000 in
theorem q_298 : (Jvm.Cond.methodLink "BusStage" (157 : Nat) ({ cls := "BusStage$Line", name := "allPaid", desc := "()I" } : Jvm.MethodName)) ∈ lw_good := gw 300 (by decide +kernel) rfl
set_option maxRecDepth 20000 in
theorem q_299 : (Jvm.Cond.methodLink "BusStage" (161 : Nat) ({ cls := "BusStage$Line", name := "allWaited", desc := "()I" } : Jvm.MethodName)) ∈ lw_good := gw 301 (by decide +kernel) rfl
set_option maxRecDepth 20000 in
theorem q_300 : (Jvm.Cond.methodLink "BusStage" (164 : Nat) ({ cls := "BusStage$Line", name := "bunchedPairs", desc := "()I" } : Jvm.MethodName)) ∈ lw_good := gw 302 (by decide +kernel) rfl
set_option maxRecDepth 20000 in
theorem q_301 : (Jvm.Cond.methodLink "BusStageLaw" (76 : Nat) ({ cls := "BusStage", name := "advise", desc := "(I)I" } : Jvm.MethodName)) ∈ lw_good := gw 303 (by decide +kernel) rfl
set_option maxRecDepth 20000 in
theorem q_302 : (Jvm.Cond.instanceMethod ({ cls := "BusStage", name := "advise", desc := "(I)I" } : Jvm.MethodName)) ∈ lw_good := gw 304 (by decide +kernel) rfl
set_option maxRecDepth 20000 in
theorem q_303 : (Jvm.Cond.selects "BusStage" ({ cls := "BusStage", name := "advise", desc := "(I)I" } : Jvm.MethodName) ({ cls := "BusStage", name := "advise", desc := "(I)I" } : Jvm.MethodName)) ∈ lw_good := gw 305 (by decide +kernel) rfl
set_option maxRecDepth 20000 in
theorem q_304 : (Jvm.Cond.code ({ cls := "BusStage", name := "advise", desc := "(I)I" } : Jvm.MethodName) prog_1_method_15_code (6 : Nat) (Option.some Jvm.ClassFile.FieldType.int)) ∈ lw_good := gw 306 (by decide +kernel) rfl
set_option maxRecDepth 20000 in
theorem q_305 : (Jvm.Cond.methodLink "BusStageLaw" (66 : Nat) ({ cls := "BusStage", name := "digest", desc := "()J" } : Jvm.MethodName)) ∈ lw_good := gw 307 (by decide +kernel) rfl
set_option maxRecDepth 20000 in
theorem q_306 : (Jvm.Cond.instanceMethod ({ cls := "BusStage", name := "digest", desc := "()J" } : Jvm.MethodName)) ∈ lw_good := gw 308 (by decide +kernel) rfl
set_option maxRecDepth 20000 in
theorem q_307 : (Jvm.Cond.selects "BusStage" ({ cls := "BusStage", name := "digest", desc := "()J" } : Jvm.MethodName) ({ cls := "BusStage", name := "digest", desc := "()J" } : Jvm.MethodName)) ∈ lw_good := gw 309 (by decide +kernel) rfl
set_option maxRecDepth 20000 in
theorem q_308 : (Jvm.Cond.code ({ cls := "BusStage", name := "digest", desc := "()J" } : Jvm.MethodName) prog_1_method_17_code (5 : Nat) (Option.some Jvm.ClassFile.FieldType.long)) ∈ lw_good := gw 310 (by decide +kernel) rfl
set_option maxRecDepth 20000 in
theorem q_309 : (Jvm.Cond.constantLong "BusStage" (167 : Nat) (1039 : Int64)) ∈ lw_good := gw 311 (by decide +kernel) rfl
set_option maxRecDepth 20000 in
theorem q_310 : (Jvm.Cond.constantLong "BusStage" (169 : Nat) (31 : Int64)) ∈ lw_good := gw 312 (by decide +kernel) rfl
set_option maxRecDepth 20000 in
theorem q_311 : (Jvm.Cond.methodLink "BusStageLaw" (18 : Nat) ({ cls := "BusStageLaw", name := "below", desc := "(II)I" } : Jvm.MethodName)) ∈ lw_good := gw 313 (by decide +kernel) rfl
set_option maxRecDepth 20000 in
theorem q_312 : (Jvm.Cond.static ({ cls := "BusStageLaw", name := "below", desc := "(II)I" } : Jvm.MethodName)) ∈ lw_good := gw 314 (by decide +kernel) rfl
set_option maxRecDepth 20000 in
theorem q_313 : (Jvm.Cond.code ({ cls := "BusStageLaw", name := "below", desc := "(II)I" } : Jvm.MethodName) method_2_code (2 : Nat) (Option.some Jvm.ClassFile.FieldType.int)) ∈ lw_good := gw 315 (by decide +kernel) rfl
set_option maxRecDepth 20000 in
theorem q_315 : (Jvm.Cond.methodLink "BusStageLaw" (12 : Nat) ({ cls := "BusStageLaw", name := "cell", desc := "([II)I" } : Jvm.MethodName)) ∈ lw_good := gw 317 (by decide +kernel) rfl
set_option maxRecDepth 20000 in
theorem q_316 : (Jvm.Cond.static ({ cls := "BusStageLaw", name := "cell", desc := "([II)I" } : Jvm.MethodName)) ∈ lw_good := gw 318 (by decide +kernel) rfl
set_option maxRecDepth 20000 in
theorem q_317 : (Jvm.Cond.code ({ cls := "BusStageLaw", name := "cell", desc := "([II)I" } : Jvm.MethodName) method_3_code (2 : Nat) (Option.some Jvm.ClassFile.FieldType.int)) ∈ lw_good := gw 319 (by decide +kernel) rfl
set_option maxRecDepth 20000 in
theorem q_319 : (Jvm.Cond.methodLink "BusStageLaw" (48 : Nat) ({ cls := "BusStageLaw", name := "line", desc := "([I)LBusStage;" } : Jvm.MethodName)) ∈ lw_good := gw 321 (by decide +kernel) rfl
set_option maxRecDepth 20000 in
theorem q_320 : (Jvm.Cond.static ({ cls := "BusStageLaw", name := "line", desc := "([I)LBusStage;" } : Jvm.MethodName)) ∈ lw_good := gw 322 (by decide +kernel) rfl
set_option maxRecDepth 20000 in
theorem q_321 : (Jvm.Cond.code ({ cls := "BusStageLaw", name := "line", desc := "([I)LBusStage;" } : Jvm.MethodName) method_4_code (7 : Nat) (Option.some (Jvm.ClassFile.FieldType.object "BusStage"))) ∈ lw_good := gw 323 (by decide +kernel) rfl
set_option maxRecDepth 20000 in
theorem q_322 : (Jvm.Cond.classLink "BusStageLaw" (9 : Nat) "BusStage") ∈ lw_good := gw 324 (by decide +kernel) rfl
set_option maxRecDepth 20000 in
theorem q_323 : (Jvm.Cond.methodLink "BusStageLaw" (11 : Nat) ({ cls := "BusStage", name := "<init>", desc := "()V" } : Jvm.MethodName)) ∈ lw_good := gw 325 (by decide +kernel) rfl
set_option maxRecDepth 20000 in
theorem q_324 : (Jvm.Cond.instanceMethod ({ cls := "BusStage", name := "<init>", desc := "()V" } : Jvm.MethodName)) ∈ lw_good := gw 326 (by decide +kernel) rfl
set_option maxRecDepth 20000 in
theorem q_325 : (Jvm.Cond.code ({ cls := "BusStage", name := "<init>", desc := "()V" } : Jvm.MethodName) prog_1_method_1_code (1 : Nat) (Option.none : Option Jvm.ClassFile.FieldType)) ∈ lw_good := gw 327 (by decide +kernel) rfl
set_option maxRecDepth 20000 in
theorem q_326 : (Jvm.Cond.methodLink "BusStage" (1 : Nat) ({ cls := "java/lang/Object", name := "<init>", desc := "()V" } : Jvm.MethodName)) ∈ lw_good := gw 328 (by decide +kernel) rfl
set_option maxRecDepth 20000 in
theorem q_327 : (Jvm.Cond.classLink "BusStage" (7 : Nat) "BusStage$Line") ∈ lw_good := gw 329 (by decide +kernel) rfl
set_option maxRecDepth 20000 in
theorem q_328 : (Jvm.Cond.instantiable "BusStage$Line" (7 : Nat)) ∈ lw_good := gw 330 (by decide +kernel) rfl
set_option maxRecDepth 20000 in
theorem q_329 : (Jvm.Cond.methodLink "BusStage" (9 : Nat) ({ cls := "BusStage$Line", name := "<init>", desc := "()V" } : Jvm.MethodName)) ∈ lw_good := gw 331 (by decide +kernel) rfl
set_option maxRecDepth 20000 in
theorem q_330 : (Jvm.Cond.instanceMethod ({ cls := "BusStage$Line", name := "<init>", desc := "()V" } : Jvm.MethodName)) ∈ lw_good := gw 332 (by decide +kernel) rfl
set_option maxRecDepth 20000 in
theorem q_331 : (Jvm.Cond.code ({ cls := "BusStage$Line", name := "<init>", desc := "()V" } : Jvm.MethodName) prog_3_method_1_code (2 : Nat) (Option.none : Option Jvm.ClassFile.FieldType)) ∈ lw_good := gw 333 (by decide +kernel) rfl
set_option maxRecDepth 20000 in
theorem q_332 : (Jvm.Cond.methodLink "BusStage$Line" (3 : Nat) ({ cls := "java/lang/Object", name := "<init>", desc := "()V" } : Jvm.MethodName)) ∈ lw_good := gw 334 (by decide +kernel) rfl
set_option maxRecDepth 20000 in
theorem q_333 : (Jvm.Cond.classLink "BusStage$Line" (9 : Nat) "BusStage$Stop") ∈ lw_good := gw 335 (by decide +kernel) rfl
set_option maxRecDepth 20000 in
theorem q_335 : (Jvm.Cond.classLink "BusStage$Line" (17 : Nat) "BusStage$Bus") ∈ lw_good := gw 337 (by decide +kernel) rfl
set_option maxRecDepth 20000 in
theorem q_337 : (Jvm.Cond.classLink "BusStage$Line" (23 : Nat) "BusStage$Passenger") ∈ lw_good := gw 339 (by decide +kernel) rfl
set_option maxRecDepth 20000 in
theorem q_339 : (Jvm.Cond.instantiable "BusStage$Stop" (3 : Nat)) ∈ lw_good := gw 341 (by decide +kernel) rfl
set_option maxRecDepth 20000 in
theorem q_340 : (Jvm.Cond.methodLink "BusStage$Line" (29 : Nat) ({ cls := "BusStage$Stop", name := "<init>", desc := "(I)V" } : Jvm.MethodName)) ∈ lw_good := gw 342 (by decide +kernel) rfl
set_option maxRecDepth 20000 in
theorem q_341 : (Jvm.Cond.instanceMethod ({ cls := "BusStage$Stop", name := "<init>", desc := "(I)V" } : Jvm.MethodName)) ∈ lw_good := gw 343 (by decide +kernel) rfl
set_option maxRecDepth 20000 in
theorem q_342 : (Jvm.Cond.code ({ cls := "BusStage$Stop", name := "<init>", desc := "(I)V" } : Jvm.MethodName) prog_5_method_1_code (2 : Nat) (Option.none : Option Jvm.ClassFile.FieldType)) ∈ lw_good := gw 344 (by decide +kernel) rfl
set_option maxRecDepth 20000 in
theorem q_343 : (Jvm.Cond.methodLink "BusStage$Stop" (3 : Nat) ({ cls := "java/lang/Object", name := "<init>", desc := "()V" } : Jvm.MethodName)) ∈ lw_good := gw 345 (by decide +kernel) rfl
set_option maxRecDepth 20000 in
theorem q_344 : (Jvm.Cond.fieldLink "BusStage$Stop" (9 : Nat) "BusStage$Stop" "minutes" "I") ∈ lw_good := gw 346 (by decide +kernel) rfl
set_option maxRecDepth 20000 in
theorem q_345 : (Jvm.Cond.fieldLink "BusStage" (43 : Nat) "BusStage$Stop" "minutes" "I") ∈ lw_good := gw 347 (by decide +kernel) rfl
set_option maxRecDepth 20000 in
theorem q_346 : (Jvm.Cond.fieldLink "BusStage$Line" (113 : Nat) "BusStage$Stop" "minutes" "I") ∈ lw_good := gw 348 (by decide +kernel) rfl
set_option maxRecDepth 20000 in
theorem q_347 : (Jvm.Cond.fieldLink "BusStage$Stop" (15 : Nat) "BusStage$Stop" "stage" "I") ∈ lw_good := gw 349 (by decide +kernel) rfl
set_option maxRecDepth 20000 in
theorem q_348 : (Jvm.Cond.fieldLink "BusStage" (49 : Nat) "BusStage$Stop" "stage" "I") ∈ lw_good := gw 350 (by decide +kernel) rfl
set_option maxRecDepth 20000 in
theorem q_349 : (Jvm.Cond.fieldLink "BusStage$Line" (77 : Nat) "BusStage$Stop" "stage" "I") ∈ lw_good := gw 351 (by decide +kernel) rfl
set_option maxRecDepth 20000 in
theorem q_350 : (Jvm.Cond.fieldLink "BusStage$Stop" (18 : Nat) "BusStage$Stop" "lastLeft" "I") ∈ lw_good := gw 352 (by decide +kernel) rfl
set_option maxRecDepth 20000 in
theorem q_351 : (Jvm.Cond.fieldLink "BusStage$Line" (110 : Nat) "BusStage$Stop" "lastLeft" "I") ∈ lw_good := gw 353 (by decide +kernel) rfl
set_option maxRecDepth 20000 in
theorem q_359 : (Jvm.Cond.instantiable "BusStage$Bus" (7 : Nat)) ∈ lw_good := gw 361 (by decide +kernel) rfl
set_option maxRecDepth 20000 in
theorem q_360 : (Jvm.Cond.methodLink "BusStage$Line" (32 : Nat) ({ cls := "BusStage$Bus", name := "<init>", desc := "(I)V" } : Jvm.MethodName)) ∈ lw_good := gw 362 (by decide +kernel) rfl
set_option maxRecDepth 20000 in
theorem q_361 : (Jvm.Cond.instanceMethod ({ cls := "BusStage$Bus", name := "<init>", desc := "(I)V" } : Jvm.MethodName)) ∈ lw_good := gw 363 (by decide +kernel) rfl
set_option maxRecDepth 20000 in
theorem q_362 : (Jvm.Cond.code ({ cls := "BusStage$Bus", name := "<init>", desc := "(I)V" } : Jvm.MethodName) prog_2_method_1_code (2 : Nat) (Option.none : Option Jvm.ClassFile.FieldType)) ∈ lw_good := gw 364 (by decide +kernel) rfl
set_option maxRecDepth 20000 in
theorem q_363 : (Jvm.Cond.methodLink "BusStage$Bus" (1 : Nat) ({ cls := "java/lang/Object", name := "<init>", desc := "()V" } : Jvm.MethodName)) ∈ lw_good := gw 365 (by decide +kernel) rfl
set_option maxRecDepth 20000 in
theorem q_364 : (Jvm.Cond.fieldLink "BusStage$Bus" (7 : Nat) "BusStage$Bus" "number" "I") ∈ lw_good := gw 366 (by decide +kernel) rfl
set_option maxRecDepth 20000 in
theorem q_365 : (Jvm.Cond.fieldLink "BusStage$Passenger" (37 : Nat) "BusStage$Bus" "number" "I") ∈ lw_good := gw 367 (by decide +kernel) rfl
set_option maxRecDepth 20000 in
theorem q_366 : (Jvm.Cond.fieldLink "BusStage$Line" (66 : Nat) "BusStage$Bus" "number" "I") ∈ lw_good := gw 368 (by decide +kernel) rfl
set_option maxRecDepth 20000 in
theorem q_367 : (Jvm.Cond.fieldLink "BusStage$Bus" (13 : Nat) "BusStage$Bus" "at" "I") ∈ lw_good := gw 369 (by decide +kernel) rfl
set_option maxRecDepth 20000 in
theorem q_368 : (Jvm.Cond.fieldLink "BusStage$Line" (57 : Nat) "BusStage$Bus" "at" "I") ∈ lw_good := gw 370 (by decide +kernel) rfl
set_option maxRecDepth 20000 in
theorem q_369 : (Jvm.Cond.fieldLink "BusStage$Bus" (16 : Nat) "BusStage$Bus" "goes" "Z") ∈ lw_good := gw 371 (by decide +kernel) rfl
set_option maxRecDepth 20000 in
theorem q_370 : (Jvm.Cond.fieldLink "BusStage$Line" (83 : Nat) "BusStage$Bus" "goes" "Z") ∈ lw_good := gw 372 (by decide +kernel) rfl
set_option maxRecDepth 20000 in
theorem q_371 : (Jvm.Cond.fieldLink "BusStage$Bus" (20 : Nat) "BusStage$Bus" "left" "I") ∈ lw_good := gw 373 (by decide +kernel) rfl
set_option maxRecDepth 20000 in
theorem q_372 : (Jvm.Cond.fieldLink "BusStage$Line" (60 : Nat) "BusStage$Bus" "left" "I") ∈ lw_good := gw 374 (by decide +kernel) rfl
set_option maxRecDepth 20000 in
theorem q_373 : (Jvm.Cond.fieldLink "BusStage$Bus" (23 : Nat) "BusStage$Bus" "seats" "I") ∈ lw_good := gw 375 (by decide +kernel) rfl
set_option maxRecDepth 20000 in
theorem q_374 : (Jvm.Cond.fieldLink "BusStage$Line" (63 : Nat) "BusStage$Bus" "seats" "I") ∈ lw_good := gw 376 (by decide +kernel) rfl
set_option maxRecDepth 20000 in
theorem q_375 : (Jvm.Cond.fieldLink "BusStage$Bus" (26 : Nat) "BusStage$Bus" "riders" "I") ∈ lw_good := gw 377 (by decide +kernel) rfl
set_option maxRecDepth 20000 in
theorem q_376 : (Jvm.Cond.fieldLink "BusStage$Line" (123 : Nat) "BusStage$Bus" "riders" "I") ∈ lw_good := gw 378 (by decide +kernel) rfl
set_option maxRecDepth 20000 in
theorem q_377 : (Jvm.Cond.fieldLink "BusStage$Bus" (29 : Nat) "BusStage$Bus" "takings" "I") ∈ lw_good := gw 379 (by decide +kernel) rfl
set_option maxRecDepth 20000 in
theorem q_378 : (Jvm.Cond.fieldLink "BusStage$Line" (130 : Nat) "BusStage$Bus" "takings" "I") ∈ lw_good := gw 380 (by decide +kernel) rfl
set_option maxRecDepth 20000 in
theorem q_394 : (Jvm.Cond.instantiable "BusStage$Passenger" (8 : Nat)) ∈ lw_good := gw 396 (by decide +kernel) rfl
set_option maxRecDepth 20000 in
theorem q_395 : (Jvm.Cond.methodLink "BusStage$Line" (33 : Nat) ({ cls := "BusStage$Passenger", name := "<init>", desc := "()V" } : Jvm.MethodName)) ∈ lw_good := gw 397 (by decide +kernel) rfl
set_option maxRecDepth 20000 in
theorem q_396 : (Jvm.Cond.instanceMethod ({ cls := "BusStage$Passenger", name := "<init>", desc := "()V" } : Jvm.MethodName)) ∈ lw_good := gw 398 (by decide +kernel) rfl
set_option maxRecDepth 20000 in
theorem q_397 : (Jvm.Cond.code ({ cls := "BusStage$Passenger", name := "<init>", desc := "()V" } : Jvm.MethodName) prog_4_method_1_code (1 : Nat) (Option.none : Option Jvm.ClassFile.FieldType)) ∈ lw_good := gw 399 (by decide +kernel) rfl
set_option maxRecDepth 20000 in
theorem q_398 : (Jvm.Cond.methodLink "BusStage$Passenger" (3 : Nat) ({ cls := "java/lang/Object", name := "<init>", desc := "()V" } : Jvm.MethodName)) ∈ lw_good := gw 400 (by decide +kernel) rfl
set_option maxRecDepth 20000 in
theorem q_399 : (Jvm.Cond.fieldLink "BusStage$Passenger" (18 : Nat) "BusStage$Passenger" "state" "I") ∈ lw_good := gw 401 (by decide +kernel) rfl
set_option maxRecDepth 20000 in
theorem q_400 : (Jvm.Cond.fieldLink "BusStage" (90 : Nat) "BusStage$Passenger" "state" "I") ∈ lw_good := gw 402 (by decide +kernel) rfl
set_option maxRecDepth 20000 in
theorem q_401 : (Jvm.Cond.fieldLink "BusStage$Line" (93 : Nat) "BusStage$Passenger" "state" "I") ∈ lw_good := gw 403 (by decide +kernel) rfl
set_option maxRecDepth 20000 in
theorem q_402 : (Jvm.Cond.fieldLink "BusStage$Passenger" (21 : Nat) "BusStage$Passenger" "at" "I") ∈ lw_good := gw 404 (by decide +kernel) rfl
set_option maxRecDepth 20000 in
theorem q_403 : (Jvm.Cond.fieldLink "BusStage$Line" (69 : Nat) "BusStage$Passenger" "at" "I") ∈ lw_good := gw 405 (by decide +kernel) rfl
set_option maxRecDepth 20000 in
theorem q_404 : (Jvm.Cond.fieldLink "BusStage" (95 : Nat) "BusStage$Passenger" "at" "I") ∈ lw_good := gw 406 (by decide +kernel) rfl
set_option maxRecDepth 20000 in
theorem q_405 : (Jvm.Cond.fieldLink "BusStage$Passenger" (24 : Nat) "BusStage$Passenger" "to" "I") ∈ lw_good := gw 407 (by decide +kernel) rfl
set_option maxRecDepth 20000 in
theorem q_406 : (Jvm.Cond.fieldLink "BusStage$Line" (70 : Nat) "BusStage$Passenger" "to" "I") ∈ lw_good := gw 408 (by decide +kernel) rfl
set_option maxRecDepth 20000 in
theorem q_407 : (Jvm.Cond.fieldLink "BusStage$Passenger" (9 : Nat) "BusStage$Passenger" "busNumber" "I") ∈ lw_good := gw 409 (by decide +kernel) rfl
set_option maxRecDepth 20000 in
theorem q_408 : (Jvm.Cond.fieldLink "BusStage$Passenger" (27 : Nat) "BusStage$Passenger" "paid" "I") ∈ lw_good := gw 410 (by decide +kernel) rfl
set_option maxRecDepth 20000 in
theorem q_409 : (Jvm.Cond.fieldLink "BusStage$Line" (161 : Nat) "BusStage$Passenger" "paid" "I") ∈ lw_good := gw 411 (by decide +kernel) rfl
set_option maxRecDepth 20000 in
theorem q_410 : (Jvm.Cond.fieldLink "BusStage$Passenger" (30 : Nat) "BusStage$Passenger" "waited" "I") ∈ lw_good := gw 412 (by decide +kernel) rfl
set_option maxRecDepth 20000 in
theorem q_411 : (Jvm.Cond.fieldLink "BusStage$Line" (96 : Nat) "BusStage$Passenger" "waited" "I") ∈ lw_good := gw 413 (by decide +kernel) rfl
set_option maxRecDepth 20000 in
theorem q_412 : (Jvm.Cond.fieldLink "BusStage$Passenger" (15 : Nat) "BusStage$Passenger" "lastArrival" "I") ∈ lw_good := gw 414 (by decide +kernel) rfl
set_option maxRecDepth 20000 in
theorem q_413 : (Jvm.Cond.fieldLink "BusStage$Passenger" (33 : Nat) "BusStage$Passenger" "hasTransfer" "Z") ∈ lw_good := gw 415 (by decide +kernel) rfl
set_option maxRecDepth 20000 in
theorem q_414 : (Jvm.Cond.fieldLink "BusStage" (107 : Nat) "BusStage$Passenger" "hasTransfer" "Z") ∈ lw_good := gw 416 (by decide +kernel) rfl
set_option maxRecDepth 20000 in
theorem q_432 : (Jvm.Cond.fieldLink "BusStage$Line" (11 : Nat) "BusStage$Line" "stops" "[LBusStage$Stop;") ∈ lw_good := gw 434 (by decide +kernel) rfl
set_option maxRecDepth 20000 in
theorem q_433 : (Jvm.Cond.fieldLink "BusStage$Line" (19 : Nat) "BusStage$Line" "buses" "[LBusStage$Bus;") ∈ lw_good := gw 435 (by decide +kernel) rfl
set_option maxRecDepth 20000 in
theorem q_434 : (Jvm.Cond.fieldLink "BusStage" (116 : Nat) "BusStage$Line" "buses" "[LBusStage$Bus;") ∈ lw_good := gw 436 (by decide +kernel) rfl
set_option maxRecDepth 20000 in
theorem q_435 : (Jvm.Cond.fieldLink "BusStage$Line" (25 : Nat) "BusStage$Line" "passengers" "[LBusStage$Passenger;") ∈ lw_good := gw 437 (by decide +kernel) rfl
set_option maxRecDepth 20000 in
theorem q_436 : (Jvm.Cond.fieldLink "BusStage" (86 : Nat) "BusStage$Line" "passengers" "[LBusStage$Passenger;") ∈ lw_good := gw 438 (by decide +kernel) rfl
set_option maxRecDepth 20000 in
theorem q_437 : (Jvm.Cond.fieldLink "BusStage$Line" (38 : Nat) "BusStage$Line" "busCount" "I") ∈ lw_good := gw 439 (by decide +kernel) rfl
set_option maxRecDepth 20000 in
theorem q_438 : (Jvm.Cond.fieldLink "BusStage" (59 : Nat) "BusStage$Line" "busCount" "I") ∈ lw_good := gw 440 (by decide +kernel) rfl
set_option maxRecDepth 20000 in
theorem q_439 : (Jvm.Cond.fieldLink "BusStage$Line" (45 : Nat) "BusStage$Line" "passengerCount" "I") ∈ lw_good := gw 441 (by decide +kernel) rfl
set_option maxRecDepth 20000 in
theorem q_440 : (Jvm.Cond.fieldLink "BusStage" (73 : Nat) "BusStage$Line" "passengerCount" "I") ∈ lw_good := gw 442 (by decide +kernel) rfl
set_option maxRecDepth 20000 in
theorem q_441 : (Jvm.Cond.fieldLink "BusStage$Line" (51 : Nat) "BusStage$Line" "minute" "I") ∈ lw_good := gw 443 (by decide +kernel) rfl
set_option maxRecDepth 20000 in
theorem q_442 : (Jvm.Cond.fieldLink "BusStage" (100 : Nat) "BusStage$Line" "minute" "I") ∈ lw_good := gw 444 (by decide +kernel) rfl
set_option maxRecDepth 20000 in
theorem q_443 : (Jvm.Cond.fieldLink "BusStage$Line" (54 : Nat) "BusStage$Line" "holdMinutes" "I") ∈ lw_good := gw 445 (by decide +kernel) rfl
set_option maxRecDepth 20000 in
theorem q_444 : (Jvm.Cond.fieldLink "BusStage" (54 : Nat) "BusStage$Line" "holdMinutes" "I") ∈ lw_good := gw 446 (by decide +kernel) rfl
set_option maxRecDepth 20000 in
theorem q_460 : (Jvm.Cond.fieldLink "BusStage" (10 : Nat) "BusStage" "line" "LBusStage$Line;") ∈ lw_good := gw 462 (by decide +kernel) rfl
set_option maxRecDepth 20000 in
theorem q_461 : (Jvm.Cond.fieldLink "BusStage" (16 : Nat) "BusStage" "trial" "LBusStage$Line;") ∈ lw_good := gw 463 (by decide +kernel) rfl
set_option maxRecDepth 20000 in
theorem q_467 : (Jvm.Cond.methodLink "BusStageLaw" (30 : Nat) ({ cls := "BusStage", name := "start", desc := "(II)I" } : Jvm.MethodName)) ∈ lw_good := gw 469 (by decide +kernel) rfl
set_option maxRecDepth 20000 in
theorem q_468 : (Jvm.Cond.instanceMethod ({ cls := "BusStage", name := "start", desc := "(II)I" } : Jvm.MethodName)) ∈ lw_good := gw 470 (by decide +kernel) rfl
set_option maxRecDepth 20000 in
theorem q_469 : (Jvm.Cond.selects "BusStage" ({ cls := "BusStage", name := "start", desc := "(II)I" } : Jvm.MethodName) ({ cls := "BusStage", name := "start", desc := "(II)I" } : Jvm.MethodName)) ∈ lw_good := gw 471 (by decide +kernel) rfl
set_option maxRecDepth 20000 in
theorem q_470 : (Jvm.Cond.code ({ cls := "BusStage", name := "start", desc := "(II)I" } : Jvm.MethodName) prog_1_method_4_code (3 : Nat) (Option.some Jvm.ClassFile.FieldType.int)) ∈ lw_good := gw 472 (by decide +kernel) rfl
set_option maxRecDepth 20000 in
theorem q_473 : (Jvm.Cond.methodLink "BusStage" (67 : Nat) ({ cls := "BusStage$Line", name := "addBus", desc := "(II)I" } : Jvm.MethodName)) ∈ lw_good := gw 475 (by decide +kernel) rfl
set_option maxRecDepth 20000 in
theorem q_474 : (Jvm.Cond.instanceMethod ({ cls := "BusStage$Line", name := "addBus", desc := "(II)I" } : Jvm.MethodName)) ∈ lw_good := gw 476 (by decide +kernel) rfl
set_option maxRecDepth 20000 in
theorem q_475 : (Jvm.Cond.selects "BusStage$Line" ({ cls := "BusStage$Line", name := "addBus", desc := "(II)I" } : Jvm.MethodName) ({ cls := "BusStage$Line", name := "addBus", desc := "(II)I" } : Jvm.MethodName)) ∈ lw_good := gw 477 (by decide +kernel) rfl
set_option maxRecDepth 20000 in
theorem q_476 : (Jvm.Cond.code ({ cls := "BusStage$Line", name := "addBus", desc := "(II)I" } : Jvm.MethodName) prog_3_method_4_code (4 : Nat) (Option.some Jvm.ClassFile.FieldType.int)) ∈ lw_good := gw 478 (by decide +kernel) rfl
set_option maxRecDepth 20000 in
theorem q_477 : (Jvm.Cond.methodLink "BusStageLaw" (39 : Nat) ({ cls := "BusStageLaw", name := "change", desc := "(LBusStage;II)I" } : Jvm.MethodName)) ∈ lw_good := gw 479 (by decide +kernel) rfl
set_option maxRecDepth 20000 in
theorem q_478 : (Jvm.Cond.static ({ cls := "BusStageLaw", name := "change", desc := "(LBusStage;II)I" } : Jvm.MethodName)) ∈ lw_good := gw 480 (by decide +kernel) rfl
set_option maxRecDepth 20000 in
theorem q_479 : (Jvm.Cond.codeWith ({ cls := "BusStageLaw", name := "change", desc := "(LBusStage;II)I" } : Jvm.MethodName) method_5_code (4 : Nat) (Option.some Jvm.ClassFile.FieldType.int) [((0 : Nat), (14 : Nat), (15 : Nat), (46 : Nat))]) ∈ lw_good := gw 481 (by decide +kernel) rfl
set_option maxRecDepth 20000 in
theorem q_480 : (Jvm.Cond.classLink "BusStageLaw" (46 : Nat) "java/lang/IllegalStateException") ∈ lw_good := gw 482 (by decide +kernel) rfl
set_option maxRecDepth 20000 in
theorem q_481 : (Jvm.Cond.methodLink "BusStageLaw" (43 : Nat) ({ cls := "BusStage", name := "change", desc := "(II)Z" } : Jvm.MethodName)) ∈ lw_good := gw 483 (by decide +kernel) rfl
set_option maxRecDepth 20000 in
theorem q_482 : (Jvm.Cond.instanceMethod ({ cls := "BusStage", name := "change", desc := "(II)Z" } : Jvm.MethodName)) ∈ lw_good := gw 484 (by decide +kernel) rfl
set_option maxRecDepth 20000 in
theorem q_483 : (Jvm.Cond.selects "BusStage" ({ cls := "BusStage", name := "change", desc := "(II)Z" } : Jvm.MethodName) ({ cls := "BusStage", name := "change", desc := "(II)Z" } : Jvm.MethodName)) ∈ lw_good := gw 485 (by decide +kernel) rfl
set_option maxRecDepth 20000 in
theorem q_484 : (Jvm.Cond.code ({ cls := "BusStage", name := "change", desc := "(II)Z" } : Jvm.MethodName) prog_1_method_6_code (4 : Nat) (Option.some Jvm.ClassFile.FieldType.boolean)) ∈ lw_good := gw 486 (by decide +kernel) rfl
set_option maxRecDepth 20000 in
theorem q_487 : (Jvm.Cond.methodLink "BusStage" (103 : Nat) ({ cls := "BusStage$Passenger", name := "waitAgain", desc := "(II)V" } : Jvm.MethodName)) ∈ lw_good := gw 489 (by decide +kernel) rfl
set_option maxRecDepth 20000 in
theorem q_488 : (Jvm.Cond.instanceMethod ({ cls := "BusStage$Passenger", name := "waitAgain", desc := "(II)V" } : Jvm.MethodName)) ∈ lw_good := gw 490 (by decide +kernel) rfl
set_option maxRecDepth 20000 in
theorem q_489 : (Jvm.Cond.selects "BusStage$Passenger" ({ cls := "BusStage$Passenger", name := "waitAgain", desc := "(II)V" } : Jvm.MethodName) ({ cls := "BusStage$Passenger", name := "waitAgain", desc := "(II)V" } : Jvm.MethodName)) ∈ lw_good := gw 491 (by decide +kernel) rfl
set_option maxRecDepth 20000 in
theorem q_490 : (Jvm.Cond.code ({ cls := "BusStage$Passenger", name := "waitAgain", desc := "(II)V" } : Jvm.MethodName) prog_4_method_5_code (3 : Nat) (Option.none : Option Jvm.ClassFile.FieldType)) ∈ lw_good := gw 492 (by decide +kernel) rfl
set_option maxRecDepth 20000 in
theorem q_491 : (Jvm.Cond.methodLink "BusStageLaw" (79 : Nat) ({ cls := "java/lang/Math", name := "max", desc := "(II)I" } : Jvm.MethodName)) ∈ lw_good := gw 493 (by decide +kernel) rfl
set_option maxRecDepth 20000 in
theorem q_492 : (Jvm.Cond.static ({ cls := "java/lang/Math", name := "max", desc := "(II)I" } : Jvm.MethodName)) ∈ lw_good := gw 494 (by decide +kernel) rfl
set_option maxRecDepth 20000 in
theorem q_493 : (Jvm.Cond.code ({ cls := "java/lang/Math", name := "max", desc := "(II)I" } : Jvm.MethodName) prog_13_method_65_code (2 : Nat) (Option.some Jvm.ClassFile.FieldType.int)) ∈ lw_good := gw 495 (by decide +kernel) rfl
set_option maxRecDepth 20000 in
theorem q_494 : (Jvm.Cond.classLink "BusStageLaw" (58 : Nat) "[[I") ∈ lw_good := gw 496 (by decide +kernel) rfl
set_option maxRecDepth 20000 in
theorem q_496 : (Jvm.Cond.arrayClass Jvm.ClassFile.FieldType.int) ∈ lw_good := gw 498 (by decide +kernel) rfl
set_option maxRecDepth 20000 in
theorem qs_0 : Cond.selects "java/lang/Throwable" ⟨"java/lang/Throwable", "fillInStackTrace", "(I)Ljava/lang/Throwable;"⟩ ⟨"java/lang/Throwable", "fillInStackTrace", "(I)Ljava/lang/Throwable;"⟩ ∈ lw_good := gw 0 (by decide +kernel) rfl
set_option maxRecDepth 20000 in
theorem qs_1 : Cond.selects "BusStage" ⟨"BusStage", "isPassenger", "(I)Z"⟩ ⟨"BusStage", "isPassenger", "(I)Z"⟩ ∈ lw_good := gw 1 (by decide +kernel) rfl
set_option maxRecDepth 20000 in
theorem inX0 : ∀ w ∈ wsX00, w ∈ lw_good := by decide +kernel
set_option maxRecDepth 20000 in
theorem inX1 : ∀ w ∈ wsX10, w ∈ lw_good := by decide +kernel
set_option maxRecDepth 20000 in
theorem inX2 : ∀ w ∈ wsX20, w ∈ lw_good := by decide +kernel
set_option maxRecDepth 20000 in
theorem inX3 : ∀ w ∈ wsX30, w ∈ lw_good := by decide +kernel
set_option maxRecDepth 20000 in
theorem inX4 : ∀ w ∈ wsX40, w ∈ lw_good := by decide +kernel
