set_option maxRecDepth 20000 in
theorem q_0 : (Jvm.Cond.initialized "RopeVotesLaw") ∈ rr_all := rr_in 3 rfl rfl
set_option maxRecDepth 20000 in
theorem q_1 : (Jvm.Cond.initialized "RopeVotes") ∈ rr_all := rr_in 4 rfl rfl
set_option maxRecDepth 20000 in
theorem q_2 : (Jvm.Cond.initialized "RopeVotes$Loop") ∈ rr_all := rr_in 5 rfl rfl
set_option maxRecDepth 20000 in
theorem q_3 : (Jvm.Cond.initialized "RopeVotes$Towers") ∈ rr_all := rr_in 6 rfl rfl
set_option maxRecDepth 20000 in
theorem q_4 : (Jvm.Cond.initialized "RopeVotes$Post") ∈ rr_all := rr_in 7 rfl rfl
set_option maxRecDepth 20000 in
theorem q_5 : (Jvm.Cond.initialized "RopeVotes$Control") ∈ rr_all := rr_in 8 rfl rfl
set_option maxRecDepth 20000 in
theorem q_6 : (Jvm.Cond.initialized "RopeVotes$Tickets") ∈ rr_all := rr_in 9 rfl rfl
set_option maxRecDepth 20000 in
theorem q_7 : (Jvm.Cond.initialized "java/lang/Throwable") ∈ rr_all := rr_in 10 rfl rfl
set_option maxRecDepth 20000 in
theorem q_8 : (Jvm.Cond.initialized "java/lang/Exception") ∈ rr_all := rr_in 11 rfl rfl
set_option maxRecDepth 20000 in
theorem q_9 : (Jvm.Cond.initialized "java/lang/RuntimeException") ∈ rr_all := rr_in 12 rfl rfl
set_option maxRecDepth 20000 in
theorem q_10 : (Jvm.Cond.initialized "java/lang/IndexOutOfBoundsException") ∈ rr_all := rr_in 13 rfl rfl
set_option maxRecDepth 20000 in
theorem q_11 : (Jvm.Cond.initialized "java/lang/Math") ∈ rr_all := rr_in 14 rfl rfl
set_option maxRecDepth 20000 in
theorem q_12 : (Jvm.Cond.initialized "java/lang/IllegalArgumentException") ∈ rr_all := rr_in 15 rfl rfl
set_option maxRecDepth 20000 in
theorem q_13 : (Jvm.Cond.initialized "java/lang/IllegalStateException") ∈ rr_all := rr_in 16 rfl rfl
set_option maxRecDepth 20000 in
theorem q_14 : (Jvm.Cond.initialized "java/lang/Integer") ∈ rr_all := rr_in 17 rfl rfl
set_option maxRecDepth 20000 in
theorem q_15 : (Jvm.Cond.classLink "RopeVotesLaw" (10 : Nat) "RopeVotes") ∈ rr_all := rr_in 18 rfl rfl
set_option maxRecDepth 20000 in
theorem q_16 : (Jvm.Cond.instantiable "RopeVotes" (9 : Nat)) ∈ rr_all := rr_in 19 rfl rfl
set_option maxRecDepth 20000 in
theorem q_17 : (Jvm.Cond.methodLink "RopeVotesLaw" (68 : Nat) ({ cls := "RopeVotes", name := "<init>", desc := "()V" } : Jvm.MethodName)) ∈ rr_all := rr_in 20 rfl rfl
set_option maxRecDepth 20000 in
theorem q_18 : (Jvm.Cond.instanceMethod ({ cls := "RopeVotes", name := "<init>", desc := "()V" } : Jvm.MethodName)) ∈ rr_all := rr_in 21 rfl rfl
set_option maxRecDepth 20000 in
theorem q_19 : (Jvm.Cond.code ({ cls := "RopeVotes", name := "<init>", desc := "()V" } : Jvm.MethodName) prog_1_method_1_code (1 : Nat) (Option.none : Option Jvm.ClassFile.FieldType)) ∈ rr_all := rr_in 22 rfl rfl
set_option maxRecDepth 20000 in
theorem q_20 : (Jvm.Cond.methodLink "RopeVotes" (1 : Nat) ({ cls := "java/lang/Object", name := "<init>", desc := "()V" } : Jvm.MethodName)) ∈ rr_all := rr_in 23 rfl rfl
set_option maxRecDepth 20000 in
theorem q_21 : (Jvm.Cond.instanceMethod ({ cls := "java/lang/Object", name := "<init>", desc := "()V" } : Jvm.MethodName)) ∈ rr_all := rr_in 24 rfl rfl
set_option maxRecDepth 20000 in
theorem q_22 : (Jvm.Cond.code ({ cls := "java/lang/Object", name := "<init>", desc := "()V" } : Jvm.MethodName) object_method_1_code (1 : Nat) (Option.none : Option Jvm.ClassFile.FieldType)) ∈ rr_all := rr_in 25 rfl rfl
set_option maxRecDepth 20000 in
theorem q_23 : (Jvm.Cond.classLink "RopeVotes" (7 : Nat) "RopeVotes$Loop") ∈ rr_all := rr_in 26 rfl rfl
set_option maxRecDepth 20000 in
theorem q_24 : (Jvm.Cond.instantiable "RopeVotes$Loop" (4 : Nat)) ∈ rr_all := rr_in 27 rfl rfl
set_option maxRecDepth 20000 in
theorem q_26 : (Jvm.Cond.instanceMethod ({ cls := "RopeVotes$Loop", name := "<init>", desc := "()V" } : Jvm.MethodName)) ∈ rr_all := rr_in 29 rfl rfl
set_option maxRecDepth 20000 in
theorem q_27 : (Jvm.Cond.code ({ cls := "RopeVotes$Loop", name := "<init>", desc := "()V" } : Jvm.MethodName) prog_3_method_1_code (1 : Nat) (Option.none : Option Jvm.ClassFile.FieldType)) ∈ rr_all := rr_in 30 rfl rfl
set_option maxRecDepth 20000 in
theorem q_28 : (Jvm.Cond.methodLink "RopeVotes$Loop" (3 : Nat) ({ cls := "java/lang/Object", name := "<init>", desc := "()V" } : Jvm.MethodName)) ∈ rr_all := rr_in 31 rfl rfl
set_option maxRecDepth 20000 in
theorem q_29 : (Jvm.Cond.fieldLink "RopeVotes$Loop" (9 : Nat) "RopeVotes$Loop" "place" "[I") ∈ rr_all := rr_in 32 rfl rfl
set_option maxRecDepth 20000 in
theorem q_30 : (Jvm.Cond.fieldLink "RopeVotes" (83 : Nat) "RopeVotes$Loop" "place" "[I") ∈ rr_all := rr_in 33 rfl rfl
set_option maxRecDepth 20000 in
theorem q_31 : (Jvm.Cond.fieldLink "RopeVotes$Loop" (15 : Nat) "RopeVotes$Loop" "turnsAtStart" "[I") ∈ rr_all := rr_in 34 rfl rfl
set_option maxRecDepth 20000 in
theorem q_32 : (Jvm.Cond.fieldLink "RopeVotes" (98 : Nat) "RopeVotes$Loop" "turnsAtStart" "[I") ∈ rr_all := rr_in 35 rfl rfl
set_option maxRecDepth 20000 in
theorem q_33 : (Jvm.Cond.fieldLink "RopeVotes$Loop" (18 : Nat) "RopeVotes$Loop" "isOn" "[Z") ∈ rr_all := rr_in 36 rfl rfl
set_option maxRecDepth 20000 in
theorem q_34 : (Jvm.Cond.fieldLink "RopeVotes" (94 : Nat) "RopeVotes$Loop" "isOn" "[Z") ∈ rr_all := rr_in 37 rfl rfl
set_option maxRecDepth 20000 in
theorem q_35 : (Jvm.Cond.fieldLink "RopeVotes$Loop" (22 : Nat) "RopeVotes$Loop" "started" "I") ∈ rr_all := rr_in 38 rfl rfl
set_option maxRecDepth 20000 in
theorem q_45 : (Jvm.Cond.arrayClass Jvm.ClassFile.FieldType.int) ∈ rr_all := rr_in 48 rfl rfl
set_option maxRecDepth 20000 in
theorem q_46 : (Jvm.Cond.arrayClass Jvm.ClassFile.FieldType.boolean) ∈ rr_all := rr_in 49 rfl rfl
set_option maxRecDepth 20000 in
theorem q_47 : (Jvm.Cond.classLink "RopeVotes" (16 : Nat) "RopeVotes$Towers") ∈ rr_all := rr_in 50 rfl rfl
set_option maxRecDepth 20000 in
theorem q_48 : (Jvm.Cond.instantiable "RopeVotes$Towers" (4 : Nat)) ∈ rr_all := rr_in 51 rfl rfl
set_option maxRecDepth 20000 in
theorem q_49 : (Jvm.Cond.methodLink "RopeVotes" (18 : Nat) ({ cls := "RopeVotes$Towers", name := "<init>", desc := "()V" } : Jvm.MethodName)) ∈ rr_all := rr_in 52 rfl rfl
set_option maxRecDepth 20000 in
theorem q_50 : (Jvm.Cond.instanceMethod ({ cls := "RopeVotes$Towers", name := "<init>", desc := "()V" } : Jvm.MethodName)) ∈ rr_all := rr_in 53 rfl rfl
set_option maxRecDepth 20000 in
theorem q_51 : (Jvm.Cond.code ({ cls := "RopeVotes$Towers", name := "<init>", desc := "()V" } : Jvm.MethodName) prog_6_method_1_code (2 : Nat) (Option.none : Option Jvm.ClassFile.FieldType)) ∈ rr_all := rr_in 54 rfl rfl
set_option maxRecDepth 20000 in
theorem q_52 : (Jvm.Cond.methodLink "RopeVotes$Towers" (3 : Nat) ({ cls := "java/lang/Object", name := "<init>", desc := "()V" } : Jvm.MethodName)) ∈ rr_all := rr_in 55 rfl rfl
set_option maxRecDepth 20000 in
theorem q_53 : (Jvm.Cond.fieldLink "RopeVotes$Towers" (9 : Nat) "RopeVotes$Towers" "wind" "[I") ∈ rr_all := rr_in 56 rfl rfl
set_option maxRecDepth 20000 in
theorem q_54 : (Jvm.Cond.fieldLink "RopeVotes" (118 : Nat) "RopeVotes$Towers" "wind" "[I") ∈ rr_all := rr_in 57 rfl rfl
set_option maxRecDepth 20000 in
theorem q_55 : (Jvm.Cond.fieldLink "RopeVotes$Towers" (15 : Nat) "RopeVotes$Towers" "slowLimit" "[I") ∈ rr_all := rr_in 58 rfl rfl
set_option maxRecDepth 20000 in
theorem q_56 : (Jvm.Cond.fieldLink "RopeVotes" (126 : Nat) "RopeVotes$Towers" "slowLimit" "[I") ∈ rr_all := rr_in 59 rfl rfl
set_option maxRecDepth 20000 in
theorem q_57 : (Jvm.Cond.fieldLink "RopeVotes$Towers" (18 : Nat) "RopeVotes$Towers" "stopLimit" "[I") ∈ rr_all := rr_in 60 rfl rfl
set_option maxRecDepth 20000 in
theorem q_58 : (Jvm.Cond.fieldLink "RopeVotes" (129 : Nat) "RopeVotes$Towers" "stopLimit" "[I") ∈ rr_all := rr_in 61 rfl rfl
set_option maxRecDepth 20000 in
theorem q_59 : (Jvm.Cond.fieldLink "RopeVotes$Towers" (21 : Nat) "RopeVotes$Towers" "isCutOff" "[Z") ∈ rr_all := rr_in 62 rfl rfl
set_option maxRecDepth 20000 in
theorem q_60 : (Jvm.Cond.fieldLink "RopeVotes" (132 : Nat) "RopeVotes$Towers" "isCutOff" "[Z") ∈ rr_all := rr_in 63 rfl rfl
set_option maxRecDepth 20000 in
theorem q_70 : (Jvm.Cond.classLink "RopeVotes" (23 : Nat) "RopeVotes$Post") ∈ rr_all := rr_in 73 rfl rfl
set_option maxRecDepth 20000 in
theorem q_71 : (Jvm.Cond.instantiable "RopeVotes$Post" (2 : Nat)) ∈ rr_all := rr_in 74 rfl rfl
set_option maxRecDepth 20000 in
theorem q_73 : (Jvm.Cond.instanceMethod ({ cls := "RopeVotes$Post", name := "<init>", desc := "()V" } : Jvm.MethodName)) ∈ rr_all := rr_in 76 rfl rfl
set_option maxRecDepth 20000 in
theorem q_74 : (Jvm.Cond.code ({ cls := "RopeVotes$Post", name := "<init>", desc := "()V" } : Jvm.MethodName) prog_4_method_1_code (1 : Nat) (Option.none : Option Jvm.ClassFile.FieldType)) ∈ rr_all := rr_in 77 rfl rfl
set_option maxRecDepth 20000 in
theorem q_75 : (Jvm.Cond.methodLink "RopeVotes$Post" (3 : Nat) ({ cls := "java/lang/Object", name := "<init>", desc := "()V" } : Jvm.MethodName)) ∈ rr_all := rr_in 78 rfl rfl
set_option maxRecDepth 20000 in
theorem q_76 : (Jvm.Cond.fieldLink "RopeVotes$Post" (9 : Nat) "RopeVotes$Post" "ballot" "[I") ∈ rr_all := rr_in 79 rfl rfl
set_option maxRecDepth 20000 in
theorem q_77 : (Jvm.Cond.fieldLink "RopeVotes$Post" (15 : Nat) "RopeVotes$Post" "comesAt" "[I") ∈ rr_all := rr_in 80 rfl rfl
set_option maxRecDepth 20000 in
theorem q_83 : (Jvm.Cond.classLink "RopeVotes" (30 : Nat) "RopeVotes$Control") ∈ rr_all := rr_in 86 rfl rfl
set_option maxRecDepth 20000 in
theorem q_84 : (Jvm.Cond.instantiable "RopeVotes$Control" (2 : Nat)) ∈ rr_all := rr_in 87 rfl rfl
set_option maxRecDepth 20000 in
theorem q_85 : (Jvm.Cond.methodLink "RopeVotes" (32 : Nat) ({ cls := "RopeVotes$Control", name := "<init>", desc := "()V" } : Jvm.MethodName)) ∈ rr_all := rr_in 88 rfl rfl
set_option maxRecDepth 20000 in
theorem q_86 : (Jvm.Cond.instanceMethod ({ cls := "RopeVotes$Control", name := "<init>", desc := "()V" } : Jvm.MethodName)) ∈ rr_all := rr_in 89 rfl rfl
set_option maxRecDepth 20000 in
theorem q_87 : (Jvm.Cond.code ({ cls := "RopeVotes$Control", name := "<init>", desc := "()V" } : Jvm.MethodName) prog_2_method_1_code (2 : Nat) (Option.none : Option Jvm.ClassFile.FieldType)) ∈ rr_all := rr_in 90 rfl rfl
set_option maxRecDepth 20000 in
theorem q_88 : (Jvm.Cond.methodLink "RopeVotes$Control" (3 : Nat) ({ cls := "java/lang/Object", name := "<init>", desc := "()V" } : Jvm.MethodName)) ∈ rr_all := rr_in 91 rfl rfl
set_option maxRecDepth 20000 in
theorem q_89 : (Jvm.Cond.fieldLink "RopeVotes$Control" (9 : Nat) "RopeVotes$Control" "ballot" "[I") ∈ rr_all := rr_in 92 rfl rfl
set_option maxRecDepth 20000 in
theorem q_90 : (Jvm.Cond.fieldLink "RopeVotes" (138 : Nat) "RopeVotes$Control" "ballot" "[I") ∈ rr_all := rr_in 93 rfl rfl
set_option maxRecDepth 20000 in
theorem q_91 : (Jvm.Cond.fieldLink "RopeVotes$Control" (15 : Nat) "RopeVotes$Control" "madeAt" "[I") ∈ rr_all := rr_in 94 rfl rfl
set_option maxRecDepth 20000 in
theorem q_92 : (Jvm.Cond.fieldLink "RopeVotes" (141 : Nat) "RopeVotes$Control" "madeAt" "[I") ∈ rr_all := rr_in 95 rfl rfl
set_option maxRecDepth 20000 in
theorem q_98 : (Jvm.Cond.classLink "RopeVotes" (37 : Nat) "RopeVotes$Tickets") ∈ rr_all := rr_in 101 rfl rfl
set_option maxRecDepth 20000 in
theorem q_99 : (Jvm.Cond.instantiable "RopeVotes$Tickets" (7 : Nat)) ∈ rr_all := rr_in 102 rfl rfl
set_option maxRecDepth 20000 in
theorem q_101 : (Jvm.Cond.instanceMethod ({ cls := "RopeVotes$Tickets", name := "<init>", desc := "()V" } : Jvm.MethodName)) ∈ rr_all := rr_in 104 rfl rfl
set_option maxRecDepth 20000 in
theorem q_102 : (Jvm.Cond.code ({ cls := "RopeVotes$Tickets", name := "<init>", desc := "()V" } : Jvm.MethodName) prog_5_method_1_code (1 : Nat) (Option.none : Option Jvm.ClassFile.FieldType)) ∈ rr_all := rr_in 105 rfl rfl
set_option maxRecDepth 20000 in
theorem q_103 : (Jvm.Cond.methodLink "RopeVotes$Tickets" (3 : Nat) ({ cls := "java/lang/Object", name := "<init>", desc := "()V" } : Jvm.MethodName)) ∈ rr_all := rr_in 106 rfl rfl
set_option maxRecDepth 20000 in
theorem q_104 : (Jvm.Cond.fieldLink "RopeVotes$Tickets" (9 : Nat) "RopeVotes$Tickets" "car" "[I") ∈ rr_all := rr_in 107 rfl rfl
set_option maxRecDepth 20000 in
theorem q_105 : (Jvm.Cond.fieldLink "RopeVotes$Tickets" (15 : Nat) "RopeVotes$Tickets" "people" "[I") ∈ rr_all := rr_in 108 rfl rfl
set_option maxRecDepth 20000 in
theorem q_106 : (Jvm.Cond.fieldLink "RopeVotes$Tickets" (18 : Nat) "RopeVotes$Tickets" "fare" "[I") ∈ rr_all := rr_in 109 rfl rfl
set_option maxRecDepth 20000 in
theorem q_107 : (Jvm.Cond.fieldLink "RopeVotes$Tickets" (21 : Nat) "RopeVotes$Tickets" "goalTurns" "[I") ∈ rr_all := rr_in 110 rfl rfl
set_option maxRecDepth 20000 in
theorem q_108 : (Jvm.Cond.fieldLink "RopeVotes$Tickets" (24 : Nat) "RopeVotes$Tickets" "arrivedAt" "[I") ∈ rr_all := rr_in 111 rfl rfl
set_option maxRecDepth 20000 in
theorem q_109 : (Jvm.Cond.fieldLink "RopeVotes" (181 : Nat) "RopeVotes$Tickets" "arrivedAt" "[I") ∈ rr_all := rr_in 112 rfl rfl
set_option maxRecDepth 20000 in
theorem q_110 : (Jvm.Cond.fieldLink "RopeVotes$Tickets" (27 : Nat) "RopeVotes$Tickets" "minutesHung" "[I") ∈ rr_all := rr_in 113 rfl rfl
set_option maxRecDepth 20000 in
theorem q_111 : (Jvm.Cond.fieldLink "RopeVotes" (184 : Nat) "RopeVotes$Tickets" "minutesHung" "[I") ∈ rr_all := rr_in 114 rfl rfl
set_option maxRecDepth 20000 in
theorem q_112 : (Jvm.Cond.fieldLink "RopeVotes$Tickets" (30 : Nat) "RopeVotes$Tickets" "sold" "I") ∈ rr_all := rr_in 115 rfl rfl
set_option maxRecDepth 20000 in
theorem q_128 : (Jvm.Cond.fieldLink "RopeVotes" (10 : Nat) "RopeVotes" "loop" "LRopeVotes$Loop;") ∈ rr_all := rr_in 131 rfl rfl
set_option maxRecDepth 20000 in
theorem q_129 : (Jvm.Cond.fieldLink "RopeVotes" (19 : Nat) "RopeVotes" "towers" "LRopeVotes$Towers;") ∈ rr_all := rr_in 132 rfl rfl
set_option maxRecDepth 20000 in
theorem q_130 : (Jvm.Cond.fieldLink "RopeVotes" (26 : Nat) "RopeVotes" "post" "LRopeVotes$Post;") ∈ rr_all := rr_in 133 rfl rfl
set_option maxRecDepth 20000 in
theorem q_131 : (Jvm.Cond.fieldLink "RopeVotes" (33 : Nat) "RopeVotes" "control" "LRopeVotes$Control;") ∈ rr_all := rr_in 134 rfl rfl
set_option maxRecDepth 20000 in
theorem q_132 : (Jvm.Cond.fieldLink "RopeVotes" (40 : Nat) "RopeVotes" "tickets" "LRopeVotes$Tickets;") ∈ rr_all := rr_in 135 rfl rfl
set_option maxRecDepth 20000 in
theorem q_133 : (Jvm.Cond.fieldLink "RopeVotes" (44 : Nat) "RopeVotes" "record" "[I") ∈ rr_all := rr_in 136 rfl rfl
set_option maxRecDepth 20000 in
theorem q_134 : (Jvm.Cond.fieldLink "RopeVotes" (48 : Nat) "RopeVotes" "now" "I") ∈ rr_all := rr_in 137 rfl rfl
set_option maxRecDepth 20000 in
theorem q_135 : (Jvm.Cond.fieldLink "RopeVotes" (52 : Nat) "RopeVotes" "turns" "I") ∈ rr_all := rr_in 138 rfl rfl
set_option maxRecDepth 20000 in
theorem q_136 : (Jvm.Cond.fieldLink "RopeVotes" (55 : Nat) "RopeVotes" "isHeldNow" "Z") ∈ rr_all := rr_in 139 rfl rfl
set_option maxRecDepth 20000 in
theorem q_156 : (Jvm.Cond.methodLink "RopeVotesLaw" (27 : Nat) ({ cls := "RopeVotes", name := "place", desc := "(I)I" } : Jvm.MethodName)) ∈ rr_all := rr_in 159 rfl rfl
set_option maxRecDepth 20000 in
theorem q_157 : (Jvm.Cond.instanceMethod ({ cls := "RopeVotes", name := "place", desc := "(I)I" } : Jvm.MethodName)) ∈ rr_all := rr_in 160 rfl rfl
set_option maxRecDepth 20000 in
theorem q_158 : (Jvm.Cond.selects "RopeVotes" ({ cls := "RopeVotes", name := "place", desc := "(I)I" } : Jvm.MethodName) ({ cls := "RopeVotes", name := "place", desc := "(I)I" } : Jvm.MethodName)) ∈ rr_all := rr_in 161 rfl rfl
set_option maxRecDepth 20000 in
theorem q_159 : (Jvm.Cond.code ({ cls := "RopeVotes", name := "place", desc := "(I)I" } : Jvm.MethodName) prog_1_method_5_code (2 : Nat) (Option.some Jvm.ClassFile.FieldType.int)) ∈ rr_all := rr_in 162 rfl rfl
set_option maxRecDepth 20000 in
theorem q_160 : (Jvm.Cond.methodLink "RopeVotes" (74 : Nat) ({ cls := "RopeVotes$Loop", name := "has", desc := "(I)Z" } : Jvm.MethodName)) ∈ rr_all := rr_in 163 rfl rfl
set_option maxRecDepth 20000 in
theorem q_161 : (Jvm.Cond.instanceMethod ({ cls := "RopeVotes$Loop", name := "has", desc := "(I)Z" } : Jvm.MethodName)) ∈ rr_all := rr_in 164 rfl rfl
set_option maxRecDepth 20000 in
theorem q_162 : (Jvm.Cond.selects "RopeVotes$Loop" ({ cls := "RopeVotes$Loop", name := "has", desc := "(I)Z" } : Jvm.MethodName) ({ cls := "RopeVotes$Loop", name := "has", desc := "(I)Z" } : Jvm.MethodName)) ∈ rr_all := rr_in 165 rfl rfl
set_option maxRecDepth 20000 in
theorem q_163 : (Jvm.Cond.code ({ cls := "RopeVotes$Loop", name := "has", desc := "(I)Z" } : Jvm.MethodName) prog_3_method_2_code (2 : Nat) (Option.some Jvm.ClassFile.FieldType.boolean)) ∈ rr_all := rr_in 166 rfl rfl
set_option maxRecDepth 20000 in
theorem q_164 : (Jvm.Cond.classLink "RopeVotes" (78 : Nat) "java/lang/IndexOutOfBoundsException") ∈ rr_all := rr_in 167 rfl rfl
set_option maxRecDepth 20000 in
theorem q_165 : (Jvm.Cond.instantiable "java/lang/IndexOutOfBoundsException" (6 : Nat)) ∈ rr_all := rr_in 168 rfl rfl
set_option maxRecDepth 20000 in
theorem q_173 : (Jvm.Cond.selects "java/lang/IndexOutOfBoundsException" ({ cls := "java/lang/Throwable", name := "fillInStackTrace", desc := "(I)Ljava/lang/Throwable;" } : Jvm.MethodName) ({ cls := "java/lang/Throwable", name := "fillInStackTrace", desc := "(I)Ljava/lang/Throwable;" } : Jvm.MethodName)) ∈ rr_all := rr_in 176 rfl rfl
set_option maxRecDepth 20000 in
theorem q_174 : (Jvm.Cond.selects "java/lang/IndexOutOfBoundsException" ({ cls := "java/lang/Throwable", name := "fillInStackTrace", desc := "()Ljava/lang/Throwable;" } : Jvm.MethodName) ({ cls := "java/lang/Throwable", name := "fillInStackTrace", desc := "()Ljava/lang/Throwable;" } : Jvm.MethodName)) ∈ rr_all := rr_in 177 rfl rfl
set_option maxRecDepth 20000 in
theorem q_185 : (Jvm.Cond.fieldLink "java/lang/Throwable" (198 : Nat) "java/lang/Throwable" "backtrace" "Ljava/lang/Object;") ∈ rr_all := rr_in 188 rfl rfl
set_option maxRecDepth 20000 in
theorem q_187 : (Jvm.Cond.instanceMethod ({ cls := "java/lang/Throwable", name := "<init>", desc := "()V" } : Jvm.MethodName)) ∈ rr_all := rr_in 190 rfl rfl
set_option maxRecDepth 20000 in
theorem q_188 : (Jvm.Cond.code ({ cls := "java/lang/Throwable", name := "<init>", desc := "()V" } : Jvm.MethodName) prog_17_method_1_code (1 : Nat) (Option.none : Option Jvm.ClassFile.FieldType)) ∈ rr_all := rr_in 191 rfl rfl
set_option maxRecDepth 20000 in
theorem q_189 : (Jvm.Cond.methodLink "java/lang/Throwable" (1 : Nat) ({ cls := "java/lang/Object", name := "<init>", desc := "()V" } : Jvm.MethodName)) ∈ rr_all := rr_in 192 rfl rfl
set_option maxRecDepth 20000 in
theorem q_190 : (Jvm.Cond.fieldLink "java/lang/Throwable" (13 : Nat) "java/lang/Throwable" "UNASSIGNED_STACK" "[Ljava/lang/StackTraceElement;") ∈ rr_all := rr_in 193 rfl rfl
set_option maxRecDepth 20000 in
theorem q_192 : (Jvm.Cond.fieldLink "java/lang/Throwable" (20 : Nat) "java/lang/Throwable" "SUPPRESSED_SENTINEL" "Ljava/util/List;") ∈ rr_all := rr_in 195 rfl rfl
set_option maxRecDepth 20000 in
theorem q_194 : (Jvm.Cond.methodLink "java/lang/Throwable" (27 : Nat) ({ cls := "java/lang/Throwable", name := "fillInStackTrace", desc := "()Ljava/lang/Throwable;" } : Jvm.MethodName)) ∈ rr_all := rr_in 197 rfl rfl
set_option maxRecDepth 20000 in
theorem q_195 : (Jvm.Cond.instanceMethod ({ cls := "java/lang/Throwable", name := "fillInStackTrace", desc := "()Ljava/lang/Throwable;" } : Jvm.MethodName)) ∈ rr_all := rr_in 198 rfl rfl
set_option maxRecDepth 20000 in
theorem q_197 : (Jvm.Cond.selects "java/lang/IllegalArgumentException" ({ cls := "java/lang/Throwable", name := "fillInStackTrace", desc := "()Ljava/lang/Throwable;" } : Jvm.MethodName) ({ cls := "java/lang/Throwable", name := "fillInStackTrace", desc := "()Ljava/lang/Throwable;" } : Jvm.MethodName)) ∈ rr_all := rr_in 200 rfl rfl
set_option maxRecDepth 20000 in
theorem q_198 : (Jvm.Cond.selects "java/lang/IllegalStateException" ({ cls := "java/lang/Throwable", name := "fillInStackTrace", desc := "()Ljava/lang/Throwable;" } : Jvm.MethodName) ({ cls := "java/lang/Throwable", name := "fillInStackTrace", desc := "()Ljava/lang/Throwable;" } : Jvm.MethodName)) ∈ rr_all := rr_in 201 rfl rfl
set_option maxRecDepth 20000 in
theorem q_200 : (Jvm.Cond.methodLink "java/lang/Throwable" (202 : Nat) ({ cls := "java/lang/Throwable", name := "fillInStackTrace", desc := "(I)Ljava/lang/Throwable;" } : Jvm.MethodName)) ∈ rr_all := rr_in 203 rfl rfl
set_option maxRecDepth 20000 in
theorem q_202 : (Jvm.Cond.instanceMethod ({ cls := "java/lang/Throwable", name := "fillInStackTrace", desc := "(I)Ljava/lang/Throwable;" } : Jvm.MethodName)) ∈ rr_all := rr_in 205 rfl rfl
set_option maxRecDepth 20000 in
theorem q_203 : (Jvm.Cond.instantiable "java/lang/Throwable" (6 : Nat)) ∈ rr_all := rr_in 206 rfl rfl
set_option maxRecDepth 20000 in
theorem q_206 : (Jvm.Cond.methodLink "RopeVotes" (82 : Nat) ({ cls := "java/lang/IndexOutOfBoundsException", name := "<init>", desc := "(Ljava/lang/String;)V" } : Jvm.MethodName)) ∈ rr_all := rr_in 209 rfl rfl
set_option maxRecDepth 20000 in
theorem q_207 : (Jvm.Cond.instanceMethod ({ cls := "java/lang/IndexOutOfBoundsException", name := "<init>", desc := "(Ljava/lang/String;)V" } : Jvm.MethodName)) ∈ rr_all := rr_in 210 rfl rfl
set_option maxRecDepth 20000 in
theorem q_208 : (Jvm.Cond.code ({ cls := "java/lang/IndexOutOfBoundsException", name := "<init>", desc := "(Ljava/lang/String;)V" } : Jvm.MethodName) prog_12_method_2_code (2 : Nat) (Option.none : Option Jvm.ClassFile.FieldType)) ∈ rr_all := rr_in 211 rfl rfl
set_option maxRecDepth 20000 in
theorem q_209 : (Jvm.Cond.methodLink "java/lang/IndexOutOfBoundsException" (7 : Nat) ({ cls := "java/lang/RuntimeException", name := "<init>", desc := "(Ljava/lang/String;)V" } : Jvm.MethodName)) ∈ rr_all := rr_in 212 rfl rfl
set_option maxRecDepth 20000 in
theorem q_210 : (Jvm.Cond.instanceMethod ({ cls := "java/lang/RuntimeException", name := "<init>", desc := "(Ljava/lang/String;)V" } : Jvm.MethodName)) ∈ rr_all := rr_in 213 rfl rfl
set_option maxRecDepth 20000 in
theorem q_211 : (Jvm.Cond.code ({ cls := "java/lang/RuntimeException", name := "<init>", desc := "(Ljava/lang/String;)V" } : Jvm.MethodName) prog_15_method_2_code (2 : Nat) (Option.none : Option Jvm.ClassFile.FieldType)) ∈ rr_all := rr_in 214 rfl rfl
set_option maxRecDepth 20000 in
theorem q_212 : (Jvm.Cond.methodLink "java/lang/RuntimeException" (7 : Nat) ({ cls := "java/lang/Exception", name := "<init>", desc := "(Ljava/lang/String;)V" } : Jvm.MethodName)) ∈ rr_all := rr_in 215 rfl rfl
set_option maxRecDepth 20000 in
theorem q_213 : (Jvm.Cond.instanceMethod ({ cls := "java/lang/Exception", name := "<init>", desc := "(Ljava/lang/String;)V" } : Jvm.MethodName)) ∈ rr_all := rr_in 216 rfl rfl
set_option maxRecDepth 20000 in
theorem q_214 : (Jvm.Cond.code ({ cls := "java/lang/Exception", name := "<init>", desc := "(Ljava/lang/String;)V" } : Jvm.MethodName) prog_9_method_2_code (2 : Nat) (Option.none : Option Jvm.ClassFile.FieldType)) ∈ rr_all := rr_in 217 rfl rfl
set_option maxRecDepth 20000 in
theorem q_215 : (Jvm.Cond.methodLink "java/lang/Exception" (7 : Nat) ({ cls := "java/lang/Throwable", name := "<init>", desc := "(Ljava/lang/String;)V" } : Jvm.MethodName)) ∈ rr_all := rr_in 218 rfl rfl
set_option maxRecDepth 20000 in
theorem q_216 : (Jvm.Cond.instanceMethod ({ cls := "java/lang/Throwable", name := "<init>", desc := "(Ljava/lang/String;)V" } : Jvm.MethodName)) ∈ rr_all := rr_in 219 rfl rfl
set_option maxRecDepth 20000 in
theorem q_217 : (Jvm.Cond.code ({ cls := "java/lang/Throwable", name := "<init>", desc := "(Ljava/lang/String;)V" } : Jvm.MethodName) prog_17_method_2_code (2 : Nat) (Option.none : Option Jvm.ClassFile.FieldType)) ∈ rr_all := rr_in 220 rfl rfl
set_option maxRecDepth 20000 in
theorem q_218 : (Jvm.Cond.fieldLink "java/lang/Throwable" (198 : Nat) "java/lang/Throwable" "backtrace" "Ljava/lang/Object;") ∈ rr_all := rr_in 221 rfl rfl
set_option maxRecDepth 20000 in
theorem q_219 : (Jvm.Cond.fieldLink "java/lang/Throwable" (31 : Nat) "java/lang/Throwable" "detailMessage" "Ljava/lang/String;") ∈ rr_all := rr_in 222 rfl rfl
set_option maxRecDepth 20000 in
theorem q_220 : (Jvm.Cond.fieldLink "java/lang/Throwable" (7 : Nat) "java/lang/Throwable" "cause" "Ljava/lang/Throwable;") ∈ rr_all := rr_in 223 rfl rfl
set_option maxRecDepth 20000 in
theorem q_221 : (Jvm.Cond.fieldLink "java/lang/Throwable" (17 : Nat) "java/lang/Throwable" "stackTrace" "[Ljava/lang/StackTraceElement;") ∈ rr_all := rr_in 224 rfl rfl
set_option maxRecDepth 20000 in
theorem q_222 : (Jvm.Cond.fieldLink "java/lang/Throwable" (24 : Nat) "java/lang/Throwable" "suppressedExceptions" "Ljava/util/List;") ∈ rr_all := rr_in 225 rfl rfl
set_option maxRecDepth 20000 in
theorem q_231 : (Jvm.Cond.arrayClass Jvm.ClassFile.FieldType.byte) ∈ rr_all := rr_in 234 rfl rfl
set_option maxRecDepth 20000 in
theorem q_232 : (Jvm.Cond.methodLink "RopeVotesLaw" (87 : Nat) ({ cls := "RopeVotes", name := "wind", desc := "(II)I" } : Jvm.MethodName)) ∈ rr_all := rr_in 235 rfl rfl
set_option maxRecDepth 20000 in
theorem q_233 : (Jvm.Cond.instanceMethod ({ cls := "RopeVotes", name := "wind", desc := "(II)I" } : Jvm.MethodName)) ∈ rr_all := rr_in 236 rfl rfl
set_option maxRecDepth 20000 in
theorem q_234 : (Jvm.Cond.selects "RopeVotes" ({ cls := "RopeVotes", name := "wind", desc := "(II)I" } : Jvm.MethodName) ({ cls := "RopeVotes", name := "wind", desc := "(II)I" } : Jvm.MethodName)) ∈ rr_all := rr_in 237 rfl rfl
set_option maxRecDepth 20000 in
theorem q_235 : (Jvm.Cond.code ({ cls := "RopeVotes", name := "wind", desc := "(II)I" } : Jvm.MethodName) prog_1_method_8_code (3 : Nat) (Option.some Jvm.ClassFile.FieldType.int)) ∈ rr_all := rr_in 238 rfl rfl
set_option maxRecDepth 20000 in
theorem q_236 : (Jvm.Cond.methodLink "RopeVotes" (108 : Nat) ({ cls := "RopeVotes", name := "isTower", desc := "(I)Z" } : Jvm.MethodName)) ∈ rr_all := rr_in 239 rfl rfl
set_option maxRecDepth 20000 in
theorem q_237 : (Jvm.Cond.static ({ cls := "RopeVotes", name := "isTower", desc := "(I)Z" } : Jvm.MethodName)) ∈ rr_all := rr_in 240 rfl rfl
set_option maxRecDepth 20000 in
theorem q_238 : (Jvm.Cond.code ({ cls := "RopeVotes", name := "isTower", desc := "(I)Z" } : Jvm.MethodName) prog_1_method_31_code (1 : Nat) (Option.some Jvm.ClassFile.FieldType.boolean)) ∈ rr_all := rr_in 241 rfl rfl
set_option maxRecDepth 20000 in
theorem q_240 : (Jvm.Cond.classLink "RopeVotes" (113 : Nat) "java/lang/IllegalArgumentException") ∈ rr_all := rr_in 243 rfl rfl
set_option maxRecDepth 20000 in
theorem q_241 : (Jvm.Cond.instantiable "java/lang/IllegalArgumentException" (6 : Nat)) ∈ rr_all := rr_in 244 rfl rfl
set_option maxRecDepth 20000 in
theorem q_243 : (Jvm.Cond.selects "java/lang/IllegalArgumentException" ({ cls := "java/lang/Throwable", name := "fillInStackTrace", desc := "(I)Ljava/lang/Throwable;" } : Jvm.MethodName) ({ cls := "java/lang/Throwable", name := "fillInStackTrace", desc := "(I)Ljava/lang/Throwable;" } : Jvm.MethodName)) ∈ rr_all := rr_in 246 rfl rfl
set_option maxRecDepth 20000 in
theorem q_250 : (Jvm.Cond.methodLink "RopeVotes" (117 : Nat) ({ cls := "java/lang/IllegalArgumentException", name := "<init>", desc := "(Ljava/lang/String;)V" } : Jvm.MethodName)) ∈ rr_all := rr_in 253 rfl rfl
set_option maxRecDepth 20000 in
theorem q_251 : (Jvm.Cond.instanceMethod ({ cls := "java/lang/IllegalArgumentException", name := "<init>", desc := "(Ljava/lang/String;)V" } : Jvm.MethodName)) ∈ rr_all := rr_in 254 rfl rfl
set_option maxRecDepth 20000 in
theorem q_252 : (Jvm.Cond.code ({ cls := "java/lang/IllegalArgumentException", name := "<init>", desc := "(Ljava/lang/String;)V" } : Jvm.MethodName) prog_10_method_2_code (2 : Nat) (Option.none : Option Jvm.ClassFile.FieldType)) ∈ rr_all := rr_in 255 rfl rfl
set_option maxRecDepth 20000 in
theorem q_253 : (Jvm.Cond.methodLink "java/lang/IllegalArgumentException" (7 : Nat) ({ cls := "java/lang/RuntimeException", name := "<init>", desc := "(Ljava/lang/String;)V" } : Jvm.MethodName)) ∈ rr_all := rr_in 256 rfl rfl
set_option maxRecDepth 20000 in
theorem q_256 : (Jvm.Cond.methodLink "RopeVotes" (121 : Nat) ({ cls := "RopeVotes$Towers", name := "ballotOf", desc := "(I)I" } : Jvm.MethodName)) ∈ rr_all := rr_in 259 rfl rfl
set_option maxRecDepth 20000 in
theorem q_257 : (Jvm.Cond.instanceMethod ({ cls := "RopeVotes$Towers", name := "ballotOf", desc := "(I)I" } : Jvm.MethodName)) ∈ rr_all := rr_in 260 rfl rfl
set_option maxRecDepth 20000 in
theorem q_258 : (Jvm.Cond.selects "RopeVotes$Towers" ({ cls := "RopeVotes$Towers", name := "ballotOf", desc := "(I)I" } : Jvm.MethodName) ({ cls := "RopeVotes$Towers", name := "ballotOf", desc := "(I)I" } : Jvm.MethodName)) ∈ rr_all := rr_in 261 rfl rfl
set_option maxRecDepth 20000 in
theorem q_259 : (Jvm.Cond.code ({ cls := "RopeVotes$Towers", name := "ballotOf", desc := "(I)I" } : Jvm.MethodName) prog_6_method_2_code (2 : Nat) (Option.some Jvm.ClassFile.FieldType.int)) ∈ rr_all := rr_in 262 rfl rfl
set_option maxRecDepth 20000 in
theorem q_260 : (Jvm.Cond.methodLink "RopeVotesLaw" (90 : Nat) ({ cls := "RopeVotes", name := "setLimits", desc := "(III)I" } : Jvm.MethodName)) ∈ rr_all := rr_in 263 rfl rfl
set_option maxRecDepth 20000 in
theorem q_261 : (Jvm.Cond.instanceMethod ({ cls := "RopeVotes", name := "setLimits", desc := "(III)I" } : Jvm.MethodName)) ∈ rr_all := rr_in 264 rfl rfl
set_option maxRecDepth 20000 in
theorem q_262 : (Jvm.Cond.selects "RopeVotes" ({ cls := "RopeVotes", name := "setLimits", desc := "(III)I" } : Jvm.MethodName) ({ cls := "RopeVotes", name := "setLimits", desc := "(III)I" } : Jvm.MethodName)) ∈ rr_all := rr_in 265 rfl rfl
set_option maxRecDepth 20000 in
theorem q_263 : (Jvm.Cond.code ({ cls := "RopeVotes", name := "setLimits", desc := "(III)I" } : Jvm.MethodName) prog_1_method_9_code (4 : Nat) (Option.some Jvm.ClassFile.FieldType.int)) ∈ rr_all := rr_in 266 rfl rfl
set_option maxRecDepth 20000 in
theorem q_265 : (Jvm.Cond.methodLink "RopeVotesLaw" (93 : Nat) ({ cls := "RopeVotes", name := "cut", desc := "(IZ)I" } : Jvm.MethodName)) ∈ rr_all := rr_in 268 rfl rfl
set_option maxRecDepth 20000 in
theorem q_266 : (Jvm.Cond.instanceMethod ({ cls := "RopeVotes", name := "cut", desc := "(IZ)I" } : Jvm.MethodName)) ∈ rr_all := rr_in 269 rfl rfl
set_option maxRecDepth 20000 in
theorem q_267 : (Jvm.Cond.selects "RopeVotes" ({ cls := "RopeVotes", name := "cut", desc := "(IZ)I" } : Jvm.MethodName) ({ cls := "RopeVotes", name := "cut", desc := "(IZ)I" } : Jvm.MethodName)) ∈ rr_all := rr_in 270 rfl rfl
set_option maxRecDepth 20000 in
theorem q_268 : (Jvm.Cond.code ({ cls := "RopeVotes", name := "cut", desc := "(IZ)I" } : Jvm.MethodName) prog_1_method_10_code (3 : Nat) (Option.some Jvm.ClassFile.FieldType.int)) ∈ rr_all := rr_in 271 rfl rfl
set_option maxRecDepth 20000 in
theorem q_269 : (Jvm.Cond.methodLink "RopeVotes" (135 : Nat) ({ cls := "RopeVotes$Towers", name := "countCutOff", desc := "()I" } : Jvm.MethodName)) ∈ rr_all := rr_in 272 rfl rfl
set_option maxRecDepth 20000 in
theorem q_270 : (Jvm.Cond.instanceMethod ({ cls := "RopeVotes$Towers", name := "countCutOff", desc := "()I" } : Jvm.MethodName)) ∈ rr_all := rr_in 273 rfl rfl
set_option maxRecDepth 20000 in
theorem q_271 : (Jvm.Cond.selects "RopeVotes$Towers" ({ cls := "RopeVotes$Towers", name := "countCutOff", desc := "()I" } : Jvm.MethodName) ({ cls := "RopeVotes$Towers", name := "countCutOff", desc := "()I" } : Jvm.MethodName)) ∈ rr_all := rr_in 274 rfl rfl
set_option maxRecDepth 20000 in
theorem q_272 : (Jvm.Cond.code ({ cls := "RopeVotes$Towers", name := "countCutOff", desc := "()I" } : Jvm.MethodName) prog_6_method_3_code (3 : Nat) (Option.some Jvm.ClassFile.FieldType.int)) ∈ rr_all := rr_in 275 rfl rfl
set_option maxRecDepth 20000 in
theorem q_273 : (Jvm.Cond.methodLink "RopeVotesLaw" (76 : Nat) ({ cls := "RopeVotes", name := "wouldDecide", desc := "()I" } : Jvm.MethodName)) ∈ rr_all := rr_in 276 rfl rfl
set_option maxRecDepth 20000 in
theorem q_274 : (Jvm.Cond.instanceMethod ({ cls := "RopeVotes", name := "wouldDecide", desc := "()I" } : Jvm.MethodName)) ∈ rr_all := rr_in 277 rfl rfl
set_option maxRecDepth 20000 in
theorem q_275 : (Jvm.Cond.selects "RopeVotes" ({ cls := "RopeVotes", name := "wouldDecide", desc := "()I" } : Jvm.MethodName) ({ cls := "RopeVotes", name := "wouldDecide", desc := "()I" } : Jvm.MethodName)) ∈ rr_all := rr_in 278 rfl rfl
set_option maxRecDepth 20000 in
theorem q_276 : (Jvm.Cond.code ({ cls := "RopeVotes", name := "wouldDecide", desc := "()I" } : Jvm.MethodName) prog_1_method_15_code (1 : Nat) (Option.some Jvm.ClassFile.FieldType.int)) ∈ rr_all := rr_in 279 rfl rfl
set_option maxRecDepth 20000 in
theorem q_277 : (Jvm.Cond.methodLink "RopeVotes" (150 : Nat) ({ cls := "RopeVotes$Control", name := "speedByVotes", desc := "(I)I" } : Jvm.MethodName)) ∈ rr_all := rr_in 280 rfl rfl
set_option maxRecDepth 20000 in
theorem q_278 : (Jvm.Cond.instanceMethod ({ cls := "RopeVotes$Control", name := "speedByVotes", desc := "(I)I" } : Jvm.MethodName)) ∈ rr_all := rr_in 281 rfl rfl
set_option maxRecDepth 20000 in
theorem q_279 : (Jvm.Cond.selects "RopeVotes$Control" ({ cls := "RopeVotes$Control", name := "speedByVotes", desc := "(I)I" } : Jvm.MethodName) ({ cls := "RopeVotes$Control", name := "speedByVotes", desc := "(I)I" } : Jvm.MethodName)) ∈ rr_all := rr_in 282 rfl rfl
set_option maxRecDepth 20000 in
theorem q_280 : (Jvm.Cond.code ({ cls := "RopeVotes$Control", name := "speedByVotes", desc := "(I)I" } : Jvm.MethodName) prog_2_method_6_code (5 : Nat) (Option.some Jvm.ClassFile.FieldType.int)) ∈ rr_all := rr_in 283 rfl rfl
set_option maxRecDepth 20000 in
theorem q_281 : (Jvm.Cond.methodLink "RopeVotes$Control" (22 : Nat) ({ cls := "RopeVotes$Control", name := "countFresh", desc := "(II)I" } : Jvm.MethodName)) ∈ rr_all := rr_in 284 rfl rfl
set_option maxRecDepth 20000 in
theorem q_282 : (Jvm.Cond.instanceMethod ({ cls := "RopeVotes$Control", name := "countFresh", desc := "(II)I" } : Jvm.MethodName)) ∈ rr_all := rr_in 285 rfl rfl
set_option maxRecDepth 20000 in
theorem q_283 : (Jvm.Cond.selects "RopeVotes$Control" ({ cls := "RopeVotes$Control", name := "countFresh", desc := "(II)I" } : Jvm.MethodName) ({ cls := "RopeVotes$Control", name := "countFresh", desc := "(II)I" } : Jvm.MethodName)) ∈ rr_all := rr_in 286 rfl rfl
set_option maxRecDepth 20000 in
theorem q_284 : (Jvm.Cond.code ({ cls := "RopeVotes$Control", name := "countFresh", desc := "(II)I" } : Jvm.MethodName) prog_2_method_5_code (5 : Nat) (Option.some Jvm.ClassFile.FieldType.int)) ∈ rr_all := rr_in 287 rfl rfl
set_option maxRecDepth 20000 in
theorem q_285 : (Jvm.Cond.methodLink "RopeVotes$Control" (18 : Nat) ({ cls := "RopeVotes$Control", name := "isFresh", desc := "(II)Z" } : Jvm.MethodName)) ∈ rr_all := rr_in 288 rfl rfl
set_option maxRecDepth 20000 in
theorem q_286 : (Jvm.Cond.instanceMethod ({ cls := "RopeVotes$Control", name := "isFresh", desc := "(II)Z" } : Jvm.MethodName)) ∈ rr_all := rr_in 289 rfl rfl
set_option maxRecDepth 20000 in
theorem q_287 : (Jvm.Cond.selects "RopeVotes$Control" ({ cls := "RopeVotes$Control", name := "isFresh", desc := "(II)Z" } : Jvm.MethodName) ({ cls := "RopeVotes$Control", name := "isFresh", desc := "(II)Z" } : Jvm.MethodName)) ∈ rr_all := rr_in 290 rfl rfl
set_option maxRecDepth 20000 in
theorem q_288 : (Jvm.Cond.code ({ cls := "RopeVotes$Control", name := "isFresh", desc := "(II)Z" } : Jvm.MethodName) prog_2_method_3_code (3 : Nat) (Option.some Jvm.ClassFile.FieldType.boolean)) ∈ rr_all := rr_in 291 rfl rfl
set_option maxRecDepth 20000 in
theorem q_289 : (Jvm.Cond.methodLink "RopeVotesLaw" (97 : Nat) ({ cls := "RopeVotes", name := "hold", desc := "(Z)Z" } : Jvm.MethodName)) ∈ rr_all := rr_in 292 rfl rfl
set_option maxRecDepth 20000 in
theorem q_290 : (Jvm.Cond.instanceMethod ({ cls := "RopeVotes", name := "hold", desc := "(Z)Z" } : Jvm.MethodName)) ∈ rr_all := rr_in 293 rfl rfl
set_option maxRecDepth 20000 in
theorem q_291 : (Jvm.Cond.selects "RopeVotes" ({ cls := "RopeVotes", name := "hold", desc := "(Z)Z" } : Jvm.MethodName) ({ cls := "RopeVotes", name := "hold", desc := "(Z)Z" } : Jvm.MethodName)) ∈ rr_all := rr_in 294 rfl rfl
set_option maxRecDepth 20000 in
theorem q_292 : (Jvm.Cond.code ({ cls := "RopeVotes", name := "hold", desc := "(Z)Z" } : Jvm.MethodName) prog_1_method_16_code (3 : Nat) (Option.some Jvm.ClassFile.FieldType.boolean)) ∈ rr_all := rr_in 295 rfl rfl
set_option maxRecDepth 20000 in
theorem q_293 : (Jvm.Cond.methodLink "RopeVotesLaw" (118 : Nat) ({ cls := "RopeVotes", name := "pass", desc := "(I)I" } : Jvm.MethodName)) ∈ rr_all := rr_in 296 rfl rfl
set_option maxRecDepth 20000 in
theorem q_294 : (Jvm.Cond.instanceMethod ({ cls := "RopeVotes", name := "pass", desc := "(I)I" } : Jvm.MethodName)) ∈ rr_all := rr_in 297 rfl rfl
set_option maxRecDepth 20000 in
theorem q_295 : (Jvm.Cond.selects "RopeVotes" ({ cls := "RopeVotes", name := "pass", desc := "(I)I" } : Jvm.MethodName) ({ cls := "RopeVotes", name := "pass", desc := "(I)I" } : Jvm.MethodName)) ∈ rr_all := rr_in 298 rfl rfl
set_option maxRecDepth 20000 in
theorem q_296 : (Jvm.Cond.code ({ cls := "RopeVotes", name := "pass", desc := "(I)I" } : Jvm.MethodName) prog_1_method_17_code (4 : Nat) (Option.some Jvm.ClassFile.FieldType.int)) ∈ rr_all := rr_in 299 rfl rfl
set_option maxRecDepth 20000 in
theorem q_298 : (Jvm.Cond.classLink "RopeVotes" (63 : Nat) "java/lang/IllegalStateException") ∈ rr_all := rr_in 301 rfl rfl
set_option maxRecDepth 20000 in
theorem q_299 : (Jvm.Cond.instantiable "java/lang/IllegalStateException" (6 : Nat)) ∈ rr_all := rr_in 302 rfl rfl
set_option maxRecDepth 20000 in
theorem q_301 : (Jvm.Cond.selects "java/lang/IllegalStateException" ({ cls := "java/lang/Throwable", name := "fillInStackTrace", desc := "(I)Ljava/lang/Throwable;" } : Jvm.MethodName) ({ cls := "java/lang/Throwable", name := "fillInStackTrace", desc := "(I)Ljava/lang/Throwable;" } : Jvm.MethodName)) ∈ rr_all := rr_in 304 rfl rfl
set_option maxRecDepth 20000 in
theorem q_308 : (Jvm.Cond.methodLink "RopeVotes" (67 : Nat) ({ cls := "java/lang/IllegalStateException", name := "<init>", desc := "(Ljava/lang/String;)V" } : Jvm.MethodName)) ∈ rr_all := rr_in 311 rfl rfl
set_option maxRecDepth 20000 in
theorem q_309 : (Jvm.Cond.instanceMethod ({ cls := "java/lang/IllegalStateException", name := "<init>", desc := "(Ljava/lang/String;)V" } : Jvm.MethodName)) ∈ rr_all := rr_in 312 rfl rfl
set_option maxRecDepth 20000 in
theorem q_310 : (Jvm.Cond.code ({ cls := "java/lang/IllegalStateException", name := "<init>", desc := "(Ljava/lang/String;)V" } : Jvm.MethodName) prog_11_method_2_code (2 : Nat) (Option.none : Option Jvm.ClassFile.FieldType)) ∈ rr_all := rr_in 313 rfl rfl
set_option maxRecDepth 20000 in
theorem q_311 : (Jvm.Cond.methodLink "java/lang/IllegalStateException" (7 : Nat) ({ cls := "java/lang/RuntimeException", name := "<init>", desc := "(Ljava/lang/String;)V" } : Jvm.MethodName)) ∈ rr_all := rr_in 314 rfl rfl
set_option maxRecDepth 20000 in
theorem q_314 : (Jvm.Cond.methodLink "RopeVotes" (157 : Nat) ({ cls := "RopeVotes", name := "passMinute", desc := "()V" } : Jvm.MethodName)) ∈ rr_all := rr_in 317 rfl rfl
set_option maxRecDepth 20000 in
theorem q_316 : (Jvm.Cond.instanceMethod ({ cls := "RopeVotes", name := "passMinute", desc := "()V" } : Jvm.MethodName)) ∈ rr_all := rr_in 319 rfl rfl
set_option maxRecDepth 20000 in
theorem q_317 : (Jvm.Cond.code ({ cls := "RopeVotes", name := "passMinute", desc := "()V" } : Jvm.MethodName) prog_1_method_28_code (3 : Nat) (Option.none : Option Jvm.ClassFile.FieldType)) ∈ rr_all := rr_in 320 rfl rfl
set_option maxRecDepth 20000 in
theorem q_318 : (Jvm.Cond.methodLink "RopeVotes" (193 : Nat) ({ cls := "RopeVotes", name := "makeVotes", desc := "()V" } : Jvm.MethodName)) ∈ rr_all := rr_in 321 rfl rfl
set_option maxRecDepth 20000 in
theorem q_320 : (Jvm.Cond.instanceMethod ({ cls := "RopeVotes", name := "makeVotes", desc := "()V" } : Jvm.MethodName)) ∈ rr_all := rr_in 323 rfl rfl
set_option maxRecDepth 20000 in
theorem q_321 : (Jvm.Cond.code ({ cls := "RopeVotes", name := "makeVotes", desc := "()V" } : Jvm.MethodName) prog_1_method_29_code (2 : Nat) (Option.none : Option Jvm.ClassFile.FieldType)) ∈ rr_all := rr_in 324 rfl rfl
set_option maxRecDepth 20000 in
theorem q_322 : (Jvm.Cond.methodLink "RopeVotes" (218 : Nat) ({ cls := "RopeVotes$Towers", name := "delayOf", desc := "(I)I" } : Jvm.MethodName)) ∈ rr_all := rr_in 325 rfl rfl
set_option maxRecDepth 20000 in
theorem q_323 : (Jvm.Cond.instanceMethod ({ cls := "RopeVotes$Towers", name := "delayOf", desc := "(I)I" } : Jvm.MethodName)) ∈ rr_all := rr_in 326 rfl rfl
set_option maxRecDepth 20000 in
theorem q_324 : (Jvm.Cond.selects "RopeVotes$Towers" ({ cls := "RopeVotes$Towers", name := "delayOf", desc := "(I)I" } : Jvm.MethodName) ({ cls := "RopeVotes$Towers", name := "delayOf", desc := "(I)I" } : Jvm.MethodName)) ∈ rr_all := rr_in 327 rfl rfl
set_option maxRecDepth 20000 in
theorem q_325 : (Jvm.Cond.code ({ cls := "RopeVotes$Towers", name := "delayOf", desc := "(I)I" } : Jvm.MethodName) prog_6_method_4_code (5 : Nat) (Option.some Jvm.ClassFile.FieldType.int)) ∈ rr_all := rr_in 328 rfl rfl
set_option maxRecDepth 20000 in
theorem q_326 : (Jvm.Cond.methodLink "RopeVotes$Towers" (25 : Nat) ({ cls := "java/lang/Math", name := "abs", desc := "(I)I" } : Jvm.MethodName)) ∈ rr_all := rr_in 329 rfl rfl
set_option maxRecDepth 20000 in
theorem q_327 : (Jvm.Cond.static ({ cls := "java/lang/Math", name := "abs", desc := "(I)I" } : Jvm.MethodName)) ∈ rr_all := rr_in 330 rfl rfl
set_option maxRecDepth 20000 in
theorem q_328 : (Jvm.Cond.code ({ cls := "java/lang/Math", name := "abs", desc := "(I)I" } : Jvm.MethodName) prog_14_method_59_code (1 : Nat) (Option.some Jvm.ClassFile.FieldType.int)) ∈ rr_all := rr_in 331 rfl rfl
set_option maxRecDepth 20000 in
theorem q_329 : (Jvm.Cond.methodLink "RopeVotes$Towers" (31 : Nat) ({ cls := "java/lang/Math", name := "min", desc := "(II)I" } : Jvm.MethodName)) ∈ rr_all := rr_in 332 rfl rfl
set_option maxRecDepth 20000 in
theorem q_330 : (Jvm.Cond.static ({ cls := "java/lang/Math", name := "min", desc := "(II)I" } : Jvm.MethodName)) ∈ rr_all := rr_in 333 rfl rfl
set_option maxRecDepth 20000 in
theorem q_331 : (Jvm.Cond.code ({ cls := "java/lang/Math", name := "min", desc := "(II)I" } : Jvm.MethodName) prog_14_method_69_code (2 : Nat) (Option.some Jvm.ClassFile.FieldType.int)) ∈ rr_all := rr_in 334 rfl rfl
set_option maxRecDepth 20000 in
theorem q_332 : (Jvm.Cond.methodLink "RopeVotes" (221 : Nat) ({ cls := "RopeVotes$Post", name := "send", desc := "(IIII)V" } : Jvm.MethodName)) ∈ rr_all := rr_in 335 rfl rfl
set_option maxRecDepth 20000 in
theorem q_333 : (Jvm.Cond.instanceMethod ({ cls := "RopeVotes$Post", name := "send", desc := "(IIII)V" } : Jvm.MethodName)) ∈ rr_all := rr_in 336 rfl rfl
set_option maxRecDepth 20000 in
theorem q_334 : (Jvm.Cond.selects "RopeVotes$Post" ({ cls := "RopeVotes$Post", name := "send", desc := "(IIII)V" } : Jvm.MethodName) ({ cls := "RopeVotes$Post", name := "send", desc := "(IIII)V" } : Jvm.MethodName)) ∈ rr_all := rr_in 337 rfl rfl
set_option maxRecDepth 20000 in
theorem q_335 : (Jvm.Cond.code ({ cls := "RopeVotes$Post", name := "send", desc := "(IIII)V" } : Jvm.MethodName) prog_4_method_2_code (6 : Nat) (Option.none : Option Jvm.ClassFile.FieldType)) ∈ rr_all := rr_in 338 rfl rfl
set_option maxRecDepth 20000 in
theorem q_336 : (Jvm.Cond.methodLink "RopeVotes$Post" (18 : Nat) ({ cls := "RopeVotes$Post", name := "slotOf", desc := "(II)I" } : Jvm.MethodName)) ∈ rr_all := rr_in 339 rfl rfl
set_option maxRecDepth 20000 in
theorem q_337 : (Jvm.Cond.static ({ cls := "RopeVotes$Post", name := "slotOf", desc := "(II)I" } : Jvm.MethodName)) ∈ rr_all := rr_in 340 rfl rfl
set_option maxRecDepth 20000 in
theorem q_338 : (Jvm.Cond.code ({ cls := "RopeVotes$Post", name := "slotOf", desc := "(II)I" } : Jvm.MethodName) prog_4_method_5_code (2 : Nat) (Option.some Jvm.ClassFile.FieldType.int)) ∈ rr_all := rr_in 341 rfl rfl
set_option maxRecDepth 20000 in
theorem q_339 : (Jvm.Cond.methodLink "RopeVotes$Post" (33 : Nat) ({ cls := "java/lang/Math", name := "floorMod", desc := "(II)I" } : Jvm.MethodName)) ∈ rr_all := rr_in 342 rfl rfl
set_option maxRecDepth 20000 in
theorem q_340 : (Jvm.Cond.static ({ cls := "java/lang/Math", name := "floorMod", desc := "(II)I" } : Jvm.MethodName)) ∈ rr_all := rr_in 343 rfl rfl
set_option maxRecDepth 20000 in
theorem q_341 : (Jvm.Cond.code ({ cls := "java/lang/Math", name := "floorMod", desc := "(II)I" } : Jvm.MethodName) prog_14_method_50_code (3 : Nat) (Option.some Jvm.ClassFile.FieldType.int)) ∈ rr_all := rr_in 344 rfl rfl
set_option maxRecDepth 20000 in
theorem q_342 : (Jvm.Cond.methodLink "RopeVotes" (196 : Nat) ({ cls := "RopeVotes$Post", name := "deliver", desc := "(ILRopeVotes$Control;)V" } : Jvm.MethodName)) ∈ rr_all := rr_in 345 rfl rfl
set_option maxRecDepth 20000 in
theorem q_343 : (Jvm.Cond.instanceMethod ({ cls := "RopeVotes$Post", name := "deliver", desc := "(ILRopeVotes$Control;)V" } : Jvm.MethodName)) ∈ rr_all := rr_in 346 rfl rfl
set_option maxRecDepth 20000 in
theorem q_344 : (Jvm.Cond.selects "RopeVotes$Post" ({ cls := "RopeVotes$Post", name := "deliver", desc := "(ILRopeVotes$Control;)V" } : Jvm.MethodName) ({ cls := "RopeVotes$Post", name := "deliver", desc := "(ILRopeVotes$Control;)V" } : Jvm.MethodName)) ∈ rr_all := rr_in 347 rfl rfl
set_option maxRecDepth 20000 in
theorem q_345 : (Jvm.Cond.code ({ cls := "RopeVotes$Post", name := "deliver", desc := "(ILRopeVotes$Control;)V" } : Jvm.MethodName) prog_4_method_3_code (6 : Nat) (Option.none : Option Jvm.ClassFile.FieldType)) ∈ rr_all := rr_in 348 rfl rfl
set_option maxRecDepth 20000 in
theorem q_346 : (Jvm.Cond.methodLink "RopeVotes$Post" (22 : Nat) ({ cls := "java/lang/Math", name := "max", desc := "(II)I" } : Jvm.MethodName)) ∈ rr_all := rr_in 349 rfl rfl
set_option maxRecDepth 20000 in
theorem q_347 : (Jvm.Cond.static ({ cls := "java/lang/Math", name := "max", desc := "(II)I" } : Jvm.MethodName)) ∈ rr_all := rr_in 350 rfl rfl
set_option maxRecDepth 20000 in
theorem q_348 : (Jvm.Cond.code ({ cls := "java/lang/Math", name := "max", desc := "(II)I" } : Jvm.MethodName) prog_14_method_65_code (2 : Nat) (Option.some Jvm.ClassFile.FieldType.int)) ∈ rr_all := rr_in 351 rfl rfl
set_option maxRecDepth 20000 in
theorem q_349 : (Jvm.Cond.methodLink "RopeVotes$Post" (27 : Nat) ({ cls := "RopeVotes$Control", name := "take", desc := "(III)V" } : Jvm.MethodName)) ∈ rr_all := rr_in 352 rfl rfl
set_option maxRecDepth 20000 in
theorem q_350 : (Jvm.Cond.instanceMethod ({ cls := "RopeVotes$Control", name := "take", desc := "(III)V" } : Jvm.MethodName)) ∈ rr_all := rr_in 353 rfl rfl
set_option maxRecDepth 20000 in
theorem q_351 : (Jvm.Cond.selects "RopeVotes$Control" ({ cls := "RopeVotes$Control", name := "take", desc := "(III)V" } : Jvm.MethodName) ({ cls := "RopeVotes$Control", name := "take", desc := "(III)V" } : Jvm.MethodName)) ∈ rr_all := rr_in 354 rfl rfl
set_option maxRecDepth 20000 in
theorem q_352 : (Jvm.Cond.code ({ cls := "RopeVotes$Control", name := "take", desc := "(III)V" } : Jvm.MethodName) prog_2_method_2_code (4 : Nat) (Option.none : Option Jvm.ClassFile.FieldType)) ∈ rr_all := rr_in 355 rfl rfl
set_option maxRecDepth 20000 in
theorem q_353 : (Jvm.Cond.methodLink "RopeVotes" (200 : Nat) ({ cls := "RopeVotes", name := "wouldDecide", desc := "()I" } : Jvm.MethodName)) ∈ rr_all := rr_in 356 rfl rfl
set_option maxRecDepth 20000 in
theorem q_354 : (Jvm.Cond.methodLink "RopeVotes" (144 : Nat) ({ cls := "RopeVotes$Control", name := "freshSet", desc := "(I)I" } : Jvm.MethodName)) ∈ rr_all := rr_in 357 rfl rfl
set_option maxRecDepth 20000 in
theorem q_355 : (Jvm.Cond.instanceMethod ({ cls := "RopeVotes$Control", name := "freshSet", desc := "(I)I" } : Jvm.MethodName)) ∈ rr_all := rr_in 358 rfl rfl
set_option maxRecDepth 20000 in
theorem q_356 : (Jvm.Cond.selects "RopeVotes$Control" ({ cls := "RopeVotes$Control", name := "freshSet", desc := "(I)I" } : Jvm.MethodName) ({ cls := "RopeVotes$Control", name := "freshSet", desc := "(I)I" } : Jvm.MethodName)) ∈ rr_all := rr_in 359 rfl rfl
set_option maxRecDepth 20000 in
theorem q_357 : (Jvm.Cond.code ({ cls := "RopeVotes$Control", name := "freshSet", desc := "(I)I" } : Jvm.MethodName) prog_2_method_4_code (4 : Nat) (Option.some Jvm.ClassFile.FieldType.int)) ∈ rr_all := rr_in 360 rfl rfl
set_option maxRecDepth 20000 in
theorem q_358 : (Jvm.Cond.methodLink "RopeVotes" (203 : Nat) ({ cls := "java/lang/Integer", name := "bitCount", desc := "(I)I" } : Jvm.MethodName)) ∈ rr_all := rr_in 361 rfl rfl
set_option maxRecDepth 20000 in
theorem q_359 : (Jvm.Cond.static ({ cls := "java/lang/Integer", name := "bitCount", desc := "(I)I" } : Jvm.MethodName)) ∈ rr_all := rr_in 362 rfl rfl
set_option maxRecDepth 20000 in
theorem q_360 : (Jvm.Cond.code ({ cls := "java/lang/Integer", name := "bitCount", desc := "(I)I" } : Jvm.MethodName) prog_13_method_49_code (1 : Nat) (Option.some Jvm.ClassFile.FieldType.int)) ∈ rr_all := rr_in 363 rfl rfl
set_option maxRecDepth 20000 in
theorem q_361 : (Jvm.Cond.constant "java/lang/Integer" (265 : Nat) (1431655765 : Int32)) ∈ rr_all := rr_in 364 rfl rfl
set_option maxRecDepth 20000 in
theorem q_362 : (Jvm.Cond.constant "java/lang/Integer" (266 : Nat) (858993459 : Int32)) ∈ rr_all := rr_in 365 rfl rfl
set_option maxRecDepth 20000 in
theorem q_363 : (Jvm.Cond.constant "java/lang/Integer" (267 : Nat) (252645135 : Int32)) ∈ rr_all := rr_in 366 rfl rfl
set_option maxRecDepth 20000 in
theorem q_364 : (Jvm.Cond.methodLink "RopeVotes" (208 : Nat) ({ cls := "RopeVotes", name := "partsAt", desc := "(I)I" } : Jvm.MethodName)) ∈ rr_all := rr_in 367 rfl rfl
set_option maxRecDepth 20000 in
theorem q_365 : (Jvm.Cond.static ({ cls := "RopeVotes", name := "partsAt", desc := "(I)I" } : Jvm.MethodName)) ∈ rr_all := rr_in 368 rfl rfl
set_option maxRecDepth 20000 in
theorem q_366 : (Jvm.Cond.code ({ cls := "RopeVotes", name := "partsAt", desc := "(I)I" } : Jvm.MethodName) prog_1_method_30_code (1 : Nat) (Option.some Jvm.ClassFile.FieldType.int)) ∈ rr_all := rr_in 369 rfl rfl
set_option maxRecDepth 20000 in
theorem q_367 : (Jvm.Cond.methodLink "RopeVotes" (211 : Nat) ({ cls := "RopeVotes$Loop", name := "move", desc := "(I)V" } : Jvm.MethodName)) ∈ rr_all := rr_in 370 rfl rfl
set_option maxRecDepth 20000 in
theorem q_368 : (Jvm.Cond.instanceMethod ({ cls := "RopeVotes$Loop", name := "move", desc := "(I)V" } : Jvm.MethodName)) ∈ rr_all := rr_in 371 rfl rfl
set_option maxRecDepth 20000 in
theorem q_369 : (Jvm.Cond.selects "RopeVotes$Loop" ({ cls := "RopeVotes$Loop", name := "move", desc := "(I)V" } : Jvm.MethodName) ({ cls := "RopeVotes$Loop", name := "move", desc := "(I)V" } : Jvm.MethodName)) ∈ rr_all := rr_in 372 rfl rfl
set_option maxRecDepth 20000 in
theorem q_370 : (Jvm.Cond.code ({ cls := "RopeVotes$Loop", name := "move", desc := "(I)V" } : Jvm.MethodName) prog_3_method_7_code (3 : Nat) (Option.none : Option Jvm.ClassFile.FieldType)) ∈ rr_all := rr_in 373 rfl rfl
set_option maxRecDepth 20000 in
theorem q_371 : (Jvm.Cond.methodLink "RopeVotes" (215 : Nat) ({ cls := "RopeVotes$Tickets", name := "passMinute", desc := "(IIILRopeVotes$Loop;)V" } : Jvm.MethodName)) ∈ rr_all := rr_in 374 rfl rfl
set_option maxRecDepth 20000 in
theorem q_372 : (Jvm.Cond.instanceMethod ({ cls := "RopeVotes$Tickets", name := "passMinute", desc := "(IIILRopeVotes$Loop;)V" } : Jvm.MethodName)) ∈ rr_all := rr_in 375 rfl rfl
set_option maxRecDepth 20000 in
theorem q_373 : (Jvm.Cond.selects "RopeVotes$Tickets" ({ cls := "RopeVotes$Tickets", name := "passMinute", desc := "(IIILRopeVotes$Loop;)V" } : Jvm.MethodName) ({ cls := "RopeVotes$Tickets", name := "passMinute", desc := "(IIILRopeVotes$Loop;)V" } : Jvm.MethodName)) ∈ rr_all := rr_in 376 rfl rfl
set_option maxRecDepth 20000 in
theorem q_374 : (Jvm.Cond.code ({ cls := "RopeVotes$Tickets", name := "passMinute", desc := "(IIILRopeVotes$Loop;)V" } : Jvm.MethodName) prog_5_method_6_code (6 : Nat) (Option.none : Option Jvm.ClassFile.FieldType)) ∈ rr_all := rr_in 377 rfl rfl
set_option maxRecDepth 20000 in
theorem q_375 : (Jvm.Cond.methodLink "RopeVotes$Tickets" (34 : Nat) ({ cls := "RopeVotes$Loop", name := "isOutOfStations", desc := "(I)Z" } : Jvm.MethodName)) ∈ rr_all := rr_in 378 rfl rfl
set_option maxRecDepth 20000 in
theorem q_376 : (Jvm.Cond.instanceMethod ({ cls := "RopeVotes$Loop", name := "isOutOfStations", desc := "(I)Z" } : Jvm.MethodName)) ∈ rr_all := rr_in 379 rfl rfl
set_option maxRecDepth 20000 in
theorem q_377 : (Jvm.Cond.selects "RopeVotes$Loop" ({ cls := "RopeVotes$Loop", name := "isOutOfStations", desc := "(I)Z" } : Jvm.MethodName) ({ cls := "RopeVotes$Loop", name := "isOutOfStations", desc := "(I)Z" } : Jvm.MethodName)) ∈ rr_all := rr_in 380 rfl rfl
set_option maxRecDepth 20000 in
theorem q_378 : (Jvm.Cond.code ({ cls := "RopeVotes$Loop", name := "isOutOfStations", desc := "(I)Z" } : Jvm.MethodName) prog_3_method_8_code (2 : Nat) (Option.some Jvm.ClassFile.FieldType.boolean)) ∈ rr_all := rr_in 381 rfl rfl
set_option maxRecDepth 20000 in
theorem q_379 : (Jvm.Cond.methodLink "RopeVotes$Loop" (35 : Nat) ({ cls := "RopeVotes$Loop", name := "has", desc := "(I)Z" } : Jvm.MethodName)) ∈ rr_all := rr_in 382 rfl rfl
set_option maxRecDepth 20000 in
theorem q_381 : (Jvm.Cond.static ({ cls := "RopeVotes", name := "isInStation", desc := "(I)Z" } : Jvm.MethodName)) ∈ rr_all := rr_in 384 rfl rfl
set_option maxRecDepth 20000 in
theorem q_382 : (Jvm.Cond.code ({ cls := "RopeVotes", name := "isInStation", desc := "(I)Z" } : Jvm.MethodName) prog_1_method_33_code (1 : Nat) (Option.some Jvm.ClassFile.FieldType.boolean)) ∈ rr_all := rr_in 385 rfl rfl
set_option maxRecDepth 20000 in
theorem q_383 : (Jvm.Cond.methodLink "RopeVotes" (86 : Nat) ({ cls := "RopeVotes", name := "isInBottom", desc := "(I)Z" } : Jvm.MethodName)) ∈ rr_all := rr_in 386 rfl rfl
set_option maxRecDepth 20000 in
theorem q_384 : (Jvm.Cond.static ({ cls := "RopeVotes", name := "isInBottom", desc := "(I)Z" } : Jvm.MethodName)) ∈ rr_all := rr_in 387 rfl rfl
set_option maxRecDepth 20000 in
theorem q_385 : (Jvm.Cond.code ({ cls := "RopeVotes", name := "isInBottom", desc := "(I)Z" } : Jvm.MethodName) prog_1_method_32_code (1 : Nat) (Option.some Jvm.ClassFile.FieldType.boolean)) ∈ rr_all := rr_in 388 rfl rfl
set_option maxRecDepth 20000 in
theorem q_386 : (Jvm.Cond.methodLink "RopeVotesLaw" (30 : Nat) ({ cls := "RopeVotes", name := "time", desc := "()I" } : Jvm.MethodName)) ∈ rr_all := rr_in 389 rfl rfl
set_option maxRecDepth 20000 in
theorem q_387 : (Jvm.Cond.instanceMethod ({ cls := "RopeVotes", name := "time", desc := "()I" } : Jvm.MethodName)) ∈ rr_all := rr_in 390 rfl rfl
set_option maxRecDepth 20000 in
theorem q_388 : (Jvm.Cond.selects "RopeVotes" ({ cls := "RopeVotes", name := "time", desc := "()I" } : Jvm.MethodName) ({ cls := "RopeVotes", name := "time", desc := "()I" } : Jvm.MethodName)) ∈ rr_all := rr_in 391 rfl rfl
set_option maxRecDepth 20000 in
theorem q_389 : (Jvm.Cond.code ({ cls := "RopeVotes", name := "time", desc := "()I" } : Jvm.MethodName) prog_1_method_18_code (1 : Nat) (Option.some Jvm.ClassFile.FieldType.int)) ∈ rr_all := rr_in 392 rfl rfl
set_option maxRecDepth 20000 in
theorem q_390 : (Jvm.Cond.methodLink "RopeVotesLaw" (121 : Nat) ({ cls := "RopeVotes", name := "moved", desc := "()I" } : Jvm.MethodName)) ∈ rr_all := rr_in 393 rfl rfl
set_option maxRecDepth 20000 in
theorem q_391 : (Jvm.Cond.instanceMethod ({ cls := "RopeVotes", name := "moved", desc := "()I" } : Jvm.MethodName)) ∈ rr_all := rr_in 394 rfl rfl
set_option maxRecDepth 20000 in
theorem q_392 : (Jvm.Cond.selects "RopeVotes" ({ cls := "RopeVotes", name := "moved", desc := "()I" } : Jvm.MethodName) ({ cls := "RopeVotes", name := "moved", desc := "()I" } : Jvm.MethodName)) ∈ rr_all := rr_in 395 rfl rfl
set_option maxRecDepth 20000 in
theorem q_393 : (Jvm.Cond.code ({ cls := "RopeVotes", name := "moved", desc := "()I" } : Jvm.MethodName) prog_1_method_19_code (1 : Nat) (Option.some Jvm.ClassFile.FieldType.int)) ∈ rr_all := rr_in 396 rfl rfl
set_option maxRecDepth 20000 in
theorem q_394 : (Jvm.Cond.methodLink "RopeVotesLaw" (45 : Nat) ({ cls := "RopeVotes", name := "decided", desc := "(I)I" } : Jvm.MethodName)) ∈ rr_all := rr_in 397 rfl rfl
set_option maxRecDepth 20000 in
theorem q_395 : (Jvm.Cond.instanceMethod ({ cls := "RopeVotes", name := "decided", desc := "(I)I" } : Jvm.MethodName)) ∈ rr_all := rr_in 398 rfl rfl
set_option maxRecDepth 20000 in
theorem q_396 : (Jvm.Cond.selects "RopeVotes" ({ cls := "RopeVotes", name := "decided", desc := "(I)I" } : Jvm.MethodName) ({ cls := "RopeVotes", name := "decided", desc := "(I)I" } : Jvm.MethodName)) ∈ rr_all := rr_in 399 rfl rfl
set_option maxRecDepth 20000 in
theorem q_397 : (Jvm.Cond.code ({ cls := "RopeVotes", name := "decided", desc := "(I)I" } : Jvm.MethodName) prog_1_method_20_code (2 : Nat) (Option.some Jvm.ClassFile.FieldType.int)) ∈ rr_all := rr_in 400 rfl rfl
set_option maxRecDepth 20000 in
theorem q_399 : (Jvm.Cond.methodLink "RopeVotesLaw" (124 : Nat) ({ cls := "RopeVotes", name := "minutes", desc := "(I)I" } : Jvm.MethodName)) ∈ rr_all := rr_in 402 rfl rfl
set_option maxRecDepth 20000 in
theorem q_400 : (Jvm.Cond.instanceMethod ({ cls := "RopeVotes", name := "minutes", desc := "(I)I" } : Jvm.MethodName)) ∈ rr_all := rr_in 403 rfl rfl
set_option maxRecDepth 20000 in
theorem q_401 : (Jvm.Cond.selects "RopeVotes" ({ cls := "RopeVotes", name := "minutes", desc := "(I)I" } : Jvm.MethodName) ({ cls := "RopeVotes", name := "minutes", desc := "(I)I" } : Jvm.MethodName)) ∈ rr_all := rr_in 404 rfl rfl
set_option maxRecDepth 20000 in
theorem q_402 : (Jvm.Cond.code ({ cls := "RopeVotes", name := "minutes", desc := "(I)I" } : Jvm.MethodName) prog_1_method_21_code (4 : Nat) (Option.some Jvm.ClassFile.FieldType.int)) ∈ rr_all := rr_in 405 rfl rfl
set_option maxRecDepth 20000 in
theorem q_404 : (Jvm.Cond.methodLink "RopeVotesLaw" (107 : Nat) ({ cls := "RopeVotes", name := "arrived", desc := "(I)I" } : Jvm.MethodName)) ∈ rr_all := rr_in 407 rfl rfl
set_option maxRecDepth 20000 in
theorem q_405 : (Jvm.Cond.instanceMethod ({ cls := "RopeVotes", name := "arrived", desc := "(I)I" } : Jvm.MethodName)) ∈ rr_all := rr_in 408 rfl rfl
set_option maxRecDepth 20000 in
theorem q_406 : (Jvm.Cond.selects "RopeVotes" ({ cls := "RopeVotes", name := "arrived", desc := "(I)I" } : Jvm.MethodName) ({ cls := "RopeVotes", name := "arrived", desc := "(I)I" } : Jvm.MethodName)) ∈ rr_all := rr_in 409 rfl rfl
set_option maxRecDepth 20000 in
theorem q_407 : (Jvm.Cond.code ({ cls := "RopeVotes", name := "arrived", desc := "(I)I" } : Jvm.MethodName) prog_1_method_24_code (2 : Nat) (Option.some Jvm.ClassFile.FieldType.int)) ∈ rr_all := rr_in 410 rfl rfl
set_option maxRecDepth 20000 in
theorem q_408 : (Jvm.Cond.methodLink "RopeVotes" (178 : Nat) ({ cls := "RopeVotes$Tickets", name := "has", desc := "(I)Z" } : Jvm.MethodName)) ∈ rr_all := rr_in 411 rfl rfl
set_option maxRecDepth 20000 in
theorem q_409 : (Jvm.Cond.instanceMethod ({ cls := "RopeVotes$Tickets", name := "has", desc := "(I)Z" } : Jvm.MethodName)) ∈ rr_all := rr_in 412 rfl rfl
set_option maxRecDepth 20000 in
theorem q_410 : (Jvm.Cond.selects "RopeVotes$Tickets" ({ cls := "RopeVotes$Tickets", name := "has", desc := "(I)Z" } : Jvm.MethodName) ({ cls := "RopeVotes$Tickets", name := "has", desc := "(I)Z" } : Jvm.MethodName)) ∈ rr_all := rr_in 413 rfl rfl
set_option maxRecDepth 20000 in
theorem q_411 : (Jvm.Cond.code ({ cls := "RopeVotes$Tickets", name := "has", desc := "(I)Z" } : Jvm.MethodName) prog_5_method_2_code (2 : Nat) (Option.some Jvm.ClassFile.FieldType.boolean)) ∈ rr_all := rr_in 414 rfl rfl
set_option maxRecDepth 20000 in
theorem q_413 : (Jvm.Cond.methodLink "RopeVotesLaw" (110 : Nat) ({ cls := "RopeVotes", name := "hung", desc := "(I)I" } : Jvm.MethodName)) ∈ rr_all := rr_in 416 rfl rfl
set_option maxRecDepth 20000 in
theorem q_414 : (Jvm.Cond.instanceMethod ({ cls := "RopeVotes", name := "hung", desc := "(I)I" } : Jvm.MethodName)) ∈ rr_all := rr_in 417 rfl rfl
set_option maxRecDepth 20000 in
theorem q_415 : (Jvm.Cond.selects "RopeVotes" ({ cls := "RopeVotes", name := "hung", desc := "(I)I" } : Jvm.MethodName) ({ cls := "RopeVotes", name := "hung", desc := "(I)I" } : Jvm.MethodName)) ∈ rr_all := rr_in 418 rfl rfl
set_option maxRecDepth 20000 in
theorem q_416 : (Jvm.Cond.code ({ cls := "RopeVotes", name := "hung", desc := "(I)I" } : Jvm.MethodName) prog_1_method_25_code (2 : Nat) (Option.some Jvm.ClassFile.FieldType.int)) ∈ rr_all := rr_in 419 rfl rfl
set_option maxRecDepth 20000 in
theorem q_417 : (Jvm.Cond.methodLink "RopeVotesLaw" (113 : Nat) ({ cls := "RopeVotes", name := "refund", desc := "(I)I" } : Jvm.MethodName)) ∈ rr_all := rr_in 420 rfl rfl
set_option maxRecDepth 20000 in
theorem q_418 : (Jvm.Cond.instanceMethod ({ cls := "RopeVotes", name := "refund", desc := "(I)I" } : Jvm.MethodName)) ∈ rr_all := rr_in 421 rfl rfl
set_option maxRecDepth 20000 in
theorem q_419 : (Jvm.Cond.selects "RopeVotes" ({ cls := "RopeVotes", name := "refund", desc := "(I)I" } : Jvm.MethodName) ({ cls := "RopeVotes", name := "refund", desc := "(I)I" } : Jvm.MethodName)) ∈ rr_all := rr_in 422 rfl rfl
set_option maxRecDepth 20000 in
theorem q_420 : (Jvm.Cond.code ({ cls := "RopeVotes", name := "refund", desc := "(I)I" } : Jvm.MethodName) prog_1_method_26_code (2 : Nat) (Option.some Jvm.ClassFile.FieldType.int)) ∈ rr_all := rr_in 423 rfl rfl
set_option maxRecDepth 20000 in
theorem q_421 : (Jvm.Cond.methodLink "RopeVotes" (187 : Nat) ({ cls := "RopeVotes$Tickets", name := "refundOf", desc := "(I)I" } : Jvm.MethodName)) ∈ rr_all := rr_in 424 rfl rfl
set_option maxRecDepth 20000 in
theorem q_422 : (Jvm.Cond.instanceMethod ({ cls := "RopeVotes$Tickets", name := "refundOf", desc := "(I)I" } : Jvm.MethodName)) ∈ rr_all := rr_in 425 rfl rfl
set_option maxRecDepth 20000 in
theorem q_423 : (Jvm.Cond.selects "RopeVotes$Tickets" ({ cls := "RopeVotes$Tickets", name := "refundOf", desc := "(I)I" } : Jvm.MethodName) ({ cls := "RopeVotes$Tickets", name := "refundOf", desc := "(I)I" } : Jvm.MethodName)) ∈ rr_all := rr_in 426 rfl rfl
set_option maxRecDepth 20000 in
theorem q_424 : (Jvm.Cond.code ({ cls := "RopeVotes$Tickets", name := "refundOf", desc := "(I)I" } : Jvm.MethodName) prog_5_method_7_code (4 : Nat) (Option.some Jvm.ClassFile.FieldType.int)) ∈ rr_all := rr_in 427 rfl rfl
set_option maxRecDepth 20000 in
theorem q_425 : (Jvm.Cond.methodLink "RopeVotes$Tickets" (40 : Nat) ({ cls := "java/lang/Math", name := "max", desc := "(II)I" } : Jvm.MethodName)) ∈ rr_all := rr_in 428 rfl rfl
set_option maxRecDepth 20000 in
theorem q_426 : (Jvm.Cond.methodLink "RopeVotes$Tickets" (46 : Nat) ({ cls := "java/lang/Math", name := "min", desc := "(II)I" } : Jvm.MethodName)) ∈ rr_all := rr_in 429 rfl rfl
set_option maxRecDepth 20000 in
theorem q_427 : (Jvm.Cond.methodLink "RopeVotesLaw" (127 : Nat) ({ cls := "RopeVotes", name := "refunds", desc := "()I" } : Jvm.MethodName)) ∈ rr_all := rr_in 430 rfl rfl
set_option maxRecDepth 20000 in
theorem q_428 : (Jvm.Cond.instanceMethod ({ cls := "RopeVotes", name := "refunds", desc := "()I" } : Jvm.MethodName)) ∈ rr_all := rr_in 431 rfl rfl
set_option maxRecDepth 20000 in
theorem q_429 : (Jvm.Cond.selects "RopeVotes" ({ cls := "RopeVotes", name := "refunds", desc := "()I" } : Jvm.MethodName) ({ cls := "RopeVotes", name := "refunds", desc := "()I" } : Jvm.MethodName)) ∈ rr_all := rr_in 432 rfl rfl
set_option maxRecDepth 20000 in
theorem q_430 : (Jvm.Cond.code ({ cls := "RopeVotes", name := "refunds", desc := "()I" } : Jvm.MethodName) prog_1_method_27_code (1 : Nat) (Option.some Jvm.ClassFile.FieldType.int)) ∈ rr_all := rr_in 433 rfl rfl
set_option maxRecDepth 20000 in
theorem q_431 : (Jvm.Cond.methodLink "RopeVotes" (190 : Nat) ({ cls := "RopeVotes$Tickets", name := "sumOfRefunds", desc := "()I" } : Jvm.MethodName)) ∈ rr_all := rr_in 434 rfl rfl
set_option maxRecDepth 20000 in
theorem q_432 : (Jvm.Cond.instanceMethod ({ cls := "RopeVotes$Tickets", name := "sumOfRefunds", desc := "()I" } : Jvm.MethodName)) ∈ rr_all := rr_in 435 rfl rfl
set_option maxRecDepth 20000 in
theorem q_433 : (Jvm.Cond.selects "RopeVotes$Tickets" ({ cls := "RopeVotes$Tickets", name := "sumOfRefunds", desc := "()I" } : Jvm.MethodName) ({ cls := "RopeVotes$Tickets", name := "sumOfRefunds", desc := "()I" } : Jvm.MethodName)) ∈ rr_all := rr_in 436 rfl rfl
set_option maxRecDepth 20000 in
theorem q_434 : (Jvm.Cond.code ({ cls := "RopeVotes$Tickets", name := "sumOfRefunds", desc := "()I" } : Jvm.MethodName) prog_5_method_8_code (3 : Nat) (Option.some Jvm.ClassFile.FieldType.int)) ∈ rr_all := rr_in 437 rfl rfl
set_option maxRecDepth 20000 in
theorem q_435 : (Jvm.Cond.methodLink "RopeVotes$Tickets" (49 : Nat) ({ cls := "RopeVotes$Tickets", name := "refundOf", desc := "(I)I" } : Jvm.MethodName)) ∈ rr_all := rr_in 438 rfl rfl
set_option maxRecDepth 20000 in
theorem q_436 : (Jvm.Cond.methodLink "RopeVotesLaw" (83 : Nat) ({ cls := "RopeVotesLaw", name := "low", desc := "(II)I" } : Jvm.MethodName)) ∈ rr_all := rr_in 439 rfl rfl
set_option maxRecDepth 20000 in
theorem q_437 : (Jvm.Cond.static ({ cls := "RopeVotesLaw", name := "low", desc := "(II)I" } : Jvm.MethodName)) ∈ rr_all := rr_in 440 rfl rfl
set_option maxRecDepth 20000 in
theorem q_438 : (Jvm.Cond.code ({ cls := "RopeVotesLaw", name := "low", desc := "(II)I" } : Jvm.MethodName) method_2_code (2 : Nat) (Option.some Jvm.ClassFile.FieldType.int)) ∈ rr_all := rr_in 441 rfl rfl
set_option maxRecDepth 20000 in
theorem q_439 : (Jvm.Cond.constant "RopeVotesLaw" (7 : Nat) (2147483647 : Int32)) ∈ rr_all := rr_in 442 rfl rfl
set_option maxRecDepth 20000 in
theorem q_440 : (Jvm.Cond.methodLink "RopeVotesLaw" (79 : Nat) ({ cls := "RopeVotesLaw", name := "cell", desc := "([II)I" } : Jvm.MethodName)) ∈ rr_all := rr_in 443 rfl rfl
set_option maxRecDepth 20000 in
theorem q_441 : (Jvm.Cond.static ({ cls := "RopeVotesLaw", name := "cell", desc := "([II)I" } : Jvm.MethodName)) ∈ rr_all := rr_in 444 rfl rfl
set_option maxRecDepth 20000 in
theorem q_442 : (Jvm.Cond.code ({ cls := "RopeVotesLaw", name := "cell", desc := "([II)I" } : Jvm.MethodName) method_3_code (2 : Nat) (Option.some Jvm.ClassFile.FieldType.int)) ∈ rr_all := rr_in 445 rfl rfl
set_option maxRecDepth 20000 in
theorem q_443 : (Jvm.Cond.constant "RopeVotesLaw" (8 : Nat) (40503 : Int32)) ∈ rr_all := rr_in 446 rfl rfl
set_option maxRecDepth 20000 in
theorem q_444 : (Jvm.Cond.methodLink "RopeVotesLaw" (101 : Nat) ({ cls := "RopeVotesLaw", name := "putOn", desc := "(LRopeVotes;)I" } : Jvm.MethodName)) ∈ rr_all := rr_in 447 rfl rfl
set_option maxRecDepth 20000 in
theorem q_445 : (Jvm.Cond.static ({ cls := "RopeVotesLaw", name := "putOn", desc := "(LRopeVotes;)I" } : Jvm.MethodName)) ∈ rr_all := rr_in 448 rfl rfl
set_option maxRecDepth 20000 in
theorem q_447 : (Jvm.Cond.classLink "RopeVotesLaw" (15 : Nat) "java/lang/IllegalStateException") ∈ rr_all := rr_in 450 rfl rfl
set_option maxRecDepth 20000 in
theorem q_448 : (Jvm.Cond.methodLink "RopeVotesLaw" (9 : Nat) ({ cls := "RopeVotes", name := "putOn", desc := "()I" } : Jvm.MethodName)) ∈ rr_all := rr_in 451 rfl rfl
set_option maxRecDepth 20000 in
theorem q_449 : (Jvm.Cond.instanceMethod ({ cls := "RopeVotes", name := "putOn", desc := "()I" } : Jvm.MethodName)) ∈ rr_all := rr_in 452 rfl rfl
set_option maxRecDepth 20000 in
theorem q_450 : (Jvm.Cond.selects "RopeVotes" ({ cls := "RopeVotes", name := "putOn", desc := "()I" } : Jvm.MethodName) ({ cls := "RopeVotes", name := "putOn", desc := "()I" } : Jvm.MethodName)) ∈ rr_all := rr_in 453 rfl rfl
set_option maxRecDepth 20000 in
theorem q_451 : (Jvm.Cond.code ({ cls := "RopeVotes", name := "putOn", desc := "()I" } : Jvm.MethodName) prog_1_method_2_code (1 : Nat) (Option.some Jvm.ClassFile.FieldType.int)) ∈ rr_all := rr_in 454 rfl rfl
set_option maxRecDepth 20000 in
theorem q_452 : (Jvm.Cond.methodLink "RopeVotes" (59 : Nat) ({ cls := "RopeVotes$Loop", name := "canStart", desc := "()Z" } : Jvm.MethodName)) ∈ rr_all := rr_in 455 rfl rfl
set_option maxRecDepth 20000 in
theorem q_453 : (Jvm.Cond.instanceMethod ({ cls := "RopeVotes$Loop", name := "canStart", desc := "()Z" } : Jvm.MethodName)) ∈ rr_all := rr_in 456 rfl rfl
set_option maxRecDepth 20000 in
theorem q_454 : (Jvm.Cond.selects "RopeVotes$Loop" ({ cls := "RopeVotes$Loop", name := "canStart", desc := "()Z" } : Jvm.MethodName) ({ cls := "RopeVotes$Loop", name := "canStart", desc := "()Z" } : Jvm.MethodName)) ∈ rr_all := rr_in 457 rfl rfl
set_option maxRecDepth 20000 in
theorem q_455 : (Jvm.Cond.code ({ cls := "RopeVotes$Loop", name := "canStart", desc := "()Z" } : Jvm.MethodName) prog_3_method_3_code (2 : Nat) (Option.some Jvm.ClassFile.FieldType.boolean)) ∈ rr_all := rr_in 458 rfl rfl
set_option maxRecDepth 20000 in
theorem q_457 : (Jvm.Cond.static ({ cls := "RopeVotes", name := "gapBetween", desc := "(II)I" } : Jvm.MethodName)) ∈ rr_all := rr_in 460 rfl rfl
set_option maxRecDepth 20000 in
theorem q_458 : (Jvm.Cond.code ({ cls := "RopeVotes", name := "gapBetween", desc := "(II)I" } : Jvm.MethodName) prog_1_method_34_code (3 : Nat) (Option.some Jvm.ClassFile.FieldType.int)) ∈ rr_all := rr_in 461 rfl rfl
set_option maxRecDepth 20000 in
theorem q_459 : (Jvm.Cond.methodLink "RopeVotes" (225 : Nat) ({ cls := "java/lang/Math", name := "abs", desc := "(I)I" } : Jvm.MethodName)) ∈ rr_all := rr_in 462 rfl rfl
set_option maxRecDepth 20000 in
theorem q_460 : (Jvm.Cond.methodLink "RopeVotes" (230 : Nat) ({ cls := "java/lang/Math", name := "min", desc := "(II)I" } : Jvm.MethodName)) ∈ rr_all := rr_in 463 rfl rfl
set_option maxRecDepth 20000 in
theorem q_462 : (Jvm.Cond.methodLink "RopeVotes" (70 : Nat) ({ cls := "RopeVotes$Loop", name := "start", desc := "(I)I" } : Jvm.MethodName)) ∈ rr_all := rr_in 465 rfl rfl
set_option maxRecDepth 20000 in
theorem q_463 : (Jvm.Cond.instanceMethod ({ cls := "RopeVotes$Loop", name := "start", desc := "(I)I" } : Jvm.MethodName)) ∈ rr_all := rr_in 466 rfl rfl
set_option maxRecDepth 20000 in
theorem q_464 : (Jvm.Cond.selects "RopeVotes$Loop" ({ cls := "RopeVotes$Loop", name := "start", desc := "(I)I" } : Jvm.MethodName) ({ cls := "RopeVotes$Loop", name := "start", desc := "(I)I" } : Jvm.MethodName)) ∈ rr_all := rr_in 467 rfl rfl
set_option maxRecDepth 20000 in
theorem q_465 : (Jvm.Cond.code ({ cls := "RopeVotes$Loop", name := "start", desc := "(I)I" } : Jvm.MethodName) prog_3_method_4_code (3 : Nat) (Option.some Jvm.ClassFile.FieldType.int)) ∈ rr_all := rr_in 468 rfl rfl
set_option maxRecDepth 20000 in
theorem q_466 : (Jvm.Cond.methodLink "RopeVotesLaw" (116 : Nat) ({ cls := "RopeVotesLaw", name := "takeOff", desc := "(LRopeVotes;I)I" } : Jvm.MethodName)) ∈ rr_all := rr_in 469 rfl rfl
set_option maxRecDepth 20000 in
theorem q_467 : (Jvm.Cond.static ({ cls := "RopeVotesLaw", name := "takeOff", desc := "(LRopeVotes;I)I" } : Jvm.MethodName)) ∈ rr_all := rr_in 470 rfl rfl
set_option maxRecDepth 20000 in
theorem q_469 : (Jvm.Cond.classLink "RopeVotesLaw" (21 : Nat) "java/lang/IndexOutOfBoundsException") ∈ rr_all := rr_in 472 rfl rfl
set_option maxRecDepth 20000 in
theorem q_470 : (Jvm.Cond.methodLink "RopeVotesLaw" (17 : Nat) ({ cls := "RopeVotes", name := "takeOff", desc := "(I)I" } : Jvm.MethodName)) ∈ rr_all := rr_in 473 rfl rfl
set_option maxRecDepth 20000 in
theorem q_471 : (Jvm.Cond.instanceMethod ({ cls := "RopeVotes", name := "takeOff", desc := "(I)I" } : Jvm.MethodName)) ∈ rr_all := rr_in 474 rfl rfl
set_option maxRecDepth 20000 in
theorem q_472 : (Jvm.Cond.selects "RopeVotes" ({ cls := "RopeVotes", name := "takeOff", desc := "(I)I" } : Jvm.MethodName) ({ cls := "RopeVotes", name := "takeOff", desc := "(I)I" } : Jvm.MethodName)) ∈ rr_all := rr_in 475 rfl rfl
set_option maxRecDepth 20000 in
theorem q_473 : (Jvm.Cond.code ({ cls := "RopeVotes", name := "takeOff", desc := "(I)I" } : Jvm.MethodName) prog_1_method_3_code (2 : Nat) (Option.some Jvm.ClassFile.FieldType.int)) ∈ rr_all := rr_in 476 rfl rfl
set_option maxRecDepth 20000 in
theorem q_474 : (Jvm.Cond.methodLink "RopeVotes" (89 : Nat) ({ cls := "RopeVotes$Tickets", name := "peopleIn", desc := "(I)I" } : Jvm.MethodName)) ∈ rr_all := rr_in 477 rfl rfl
set_option maxRecDepth 20000 in
theorem q_475 : (Jvm.Cond.instanceMethod ({ cls := "RopeVotes$Tickets", name := "peopleIn", desc := "(I)I" } : Jvm.MethodName)) ∈ rr_all := rr_in 478 rfl rfl
set_option maxRecDepth 20000 in
theorem q_476 : (Jvm.Cond.selects "RopeVotes$Tickets" ({ cls := "RopeVotes$Tickets", name := "peopleIn", desc := "(I)I" } : Jvm.MethodName) ({ cls := "RopeVotes$Tickets", name := "peopleIn", desc := "(I)I" } : Jvm.MethodName)) ∈ rr_all := rr_in 479 rfl rfl
set_option maxRecDepth 20000 in
theorem q_477 : (Jvm.Cond.code ({ cls := "RopeVotes$Tickets", name := "peopleIn", desc := "(I)I" } : Jvm.MethodName) prog_5_method_5_code (4 : Nat) (Option.some Jvm.ClassFile.FieldType.int)) ∈ rr_all := rr_in 480 rfl rfl
set_option maxRecDepth 20000 in
theorem q_479 : (Jvm.Cond.methodLink "RopeVotesLaw" (104 : Nat) ({ cls := "RopeVotesLaw", name := "board", desc := "(LRopeVotes;III)I" } : Jvm.MethodName)) ∈ rr_all := rr_in 482 rfl rfl
set_option maxRecDepth 20000 in
theorem q_480 : (Jvm.Cond.static ({ cls := "RopeVotesLaw", name := "board", desc := "(LRopeVotes;III)I" } : Jvm.MethodName)) ∈ rr_all := rr_in 483 rfl rfl
set_option maxRecDepth 20000 in
theorem q_482 : (Jvm.Cond.methodLink "RopeVotesLaw" (23 : Nat) ({ cls := "RopeVotes", name := "board", desc := "(III)I" } : Jvm.MethodName)) ∈ rr_all := rr_in 485 rfl rfl
set_option maxRecDepth 20000 in
theorem q_483 : (Jvm.Cond.instanceMethod ({ cls := "RopeVotes", name := "board", desc := "(III)I" } : Jvm.MethodName)) ∈ rr_all := rr_in 486 rfl rfl
set_option maxRecDepth 20000 in
theorem q_484 : (Jvm.Cond.selects "RopeVotes" ({ cls := "RopeVotes", name := "board", desc := "(III)I" } : Jvm.MethodName) ({ cls := "RopeVotes", name := "board", desc := "(III)I" } : Jvm.MethodName)) ∈ rr_all := rr_in 487 rfl rfl
set_option maxRecDepth 20000 in
theorem q_485 : (Jvm.Cond.code ({ cls := "RopeVotes", name := "board", desc := "(III)I" } : Jvm.MethodName) prog_1_method_22_code (6 : Nat) (Option.some Jvm.ClassFile.FieldType.int)) ∈ rr_all := rr_in 488 rfl rfl
set_option maxRecDepth 20000 in
theorem q_487 : (Jvm.Cond.methodLink "RopeVotes" (166 : Nat) ({ cls := "RopeVotes", name := "isInStation", desc := "(I)Z" } : Jvm.MethodName)) ∈ rr_all := rr_in 490 rfl rfl
set_option maxRecDepth 20000 in
theorem q_488 : (Jvm.Cond.methodLink "RopeVotes" (169 : Nat) ({ cls := "RopeVotes$Tickets", name := "isLeft", desc := "()Z" } : Jvm.MethodName)) ∈ rr_all := rr_in 491 rfl rfl
set_option maxRecDepth 20000 in
theorem q_489 : (Jvm.Cond.instanceMethod ({ cls := "RopeVotes$Tickets", name := "isLeft", desc := "()Z" } : Jvm.MethodName)) ∈ rr_all := rr_in 492 rfl rfl
set_option maxRecDepth 20000 in
theorem q_490 : (Jvm.Cond.selects "RopeVotes$Tickets" ({ cls := "RopeVotes$Tickets", name := "isLeft", desc := "()Z" } : Jvm.MethodName) ({ cls := "RopeVotes$Tickets", name := "isLeft", desc := "()Z" } : Jvm.MethodName)) ∈ rr_all := rr_in 493 rfl rfl
set_option maxRecDepth 20000 in
theorem q_491 : (Jvm.Cond.code ({ cls := "RopeVotes$Tickets", name := "isLeft", desc := "()Z" } : Jvm.MethodName) prog_5_method_3_code (1 : Nat) (Option.some Jvm.ClassFile.FieldType.boolean)) ∈ rr_all := rr_in 494 rfl rfl
set_option maxRecDepth 20000 in
theorem q_493 : (Jvm.Cond.methodLink "RopeVotes" (174 : Nat) ({ cls := "RopeVotes$Tickets", name := "sell", desc := "(IIII)I" } : Jvm.MethodName)) ∈ rr_all := rr_in 496 rfl rfl
set_option maxRecDepth 20000 in
theorem q_494 : (Jvm.Cond.instanceMethod ({ cls := "RopeVotes$Tickets", name := "sell", desc := "(IIII)I" } : Jvm.MethodName)) ∈ rr_all := rr_in 497 rfl rfl
set_option maxRecDepth 20000 in
theorem q_495 : (Jvm.Cond.selects "RopeVotes$Tickets" ({ cls := "RopeVotes$Tickets", name := "sell", desc := "(IIII)I" } : Jvm.MethodName) ({ cls := "RopeVotes$Tickets", name := "sell", desc := "(IIII)I" } : Jvm.MethodName)) ∈ rr_all := rr_in 498 rfl rfl
set_option maxRecDepth 20000 in
theorem q_496 : (Jvm.Cond.code ({ cls := "RopeVotes$Tickets", name := "sell", desc := "(IIII)I" } : Jvm.MethodName) prog_5_method_4_code (6 : Nat) (Option.some Jvm.ClassFile.FieldType.int)) ∈ rr_all := rr_in 499 rfl rfl
set_option maxRecDepth 20000 in
theorem q_497 : (Jvm.Cond.methodLink "RopeVotesLaw" (53 : Nat) ({ cls := "RopeVotesLaw", name := "place", desc := "(LRopeVotes;I)I" } : Jvm.MethodName)) ∈ rr_all := rr_in 500 rfl rfl
set_option maxRecDepth 20000 in
theorem q_498 : (Jvm.Cond.static ({ cls := "RopeVotesLaw", name := "place", desc := "(LRopeVotes;I)I" } : Jvm.MethodName)) ∈ rr_all := rr_in 501 rfl rfl
set_option maxRecDepth 20000 in
theorem q_500 : (Jvm.Cond.methodLink "RopeVotesLaw" (69 : Nat) ({ cls := "RopeVotesLaw", name := "votes", desc := "(LRopeVotes;)Z" } : Jvm.MethodName)) ∈ rr_all := rr_in 503 rfl rfl
set_option maxRecDepth 20000 in
theorem q_501 : (Jvm.Cond.static ({ cls := "RopeVotesLaw", name := "votes", desc := "(LRopeVotes;)Z" } : Jvm.MethodName)) ∈ rr_all := rr_in 504 rfl rfl
set_option maxRecDepth 20000 in
theorem q_502 : (Jvm.Cond.code ({ cls := "RopeVotesLaw", name := "votes", desc := "(LRopeVotes;)Z" } : Jvm.MethodName) method_9_code (7 : Nat) (Option.some Jvm.ClassFile.FieldType.boolean)) ∈ rr_all := rr_in 505 rfl rfl
set_option maxRecDepth 20000 in
theorem q_503 : (Jvm.Cond.methodLink "RopeVotesLaw" (33 : Nat) ({ cls := "RopeVotes", name := "fresh", desc := "()I" } : Jvm.MethodName)) ∈ rr_all := rr_in 506 rfl rfl
set_option maxRecDepth 20000 in
theorem q_504 : (Jvm.Cond.instanceMethod ({ cls := "RopeVotes", name := "fresh", desc := "()I" } : Jvm.MethodName)) ∈ rr_all := rr_in 507 rfl rfl
set_option maxRecDepth 20000 in
theorem q_505 : (Jvm.Cond.selects "RopeVotes" ({ cls := "RopeVotes", name := "fresh", desc := "()I" } : Jvm.MethodName) ({ cls := "RopeVotes", name := "fresh", desc := "()I" } : Jvm.MethodName)) ∈ rr_all := rr_in 508 rfl rfl
set_option maxRecDepth 20000 in
theorem q_506 : (Jvm.Cond.code ({ cls := "RopeVotes", name := "fresh", desc := "()I" } : Jvm.MethodName) prog_1_method_13_code (1 : Nat) (Option.some Jvm.ClassFile.FieldType.int)) ∈ rr_all := rr_in 509 rfl rfl
set_option maxRecDepth 20000 in
theorem q_507 : (Jvm.Cond.methodLink "RopeVotesLaw" (36 : Nat) ({ cls := "RopeVotes", name := "onTheWay", desc := "()I" } : Jvm.MethodName)) ∈ rr_all := rr_in 510 rfl rfl
set_option maxRecDepth 20000 in
theorem q_508 : (Jvm.Cond.instanceMethod ({ cls := "RopeVotes", name := "onTheWay", desc := "()I" } : Jvm.MethodName)) ∈ rr_all := rr_in 511 rfl rfl
set_option maxRecDepth 20000 in
theorem q_509 : (Jvm.Cond.selects "RopeVotes" ({ cls := "RopeVotes", name := "onTheWay", desc := "()I" } : Jvm.MethodName) ({ cls := "RopeVotes", name := "onTheWay", desc := "()I" } : Jvm.MethodName)) ∈ rr_all := rr_in 512 rfl rfl
set_option maxRecDepth 20000 in
theorem q_510 : (Jvm.Cond.code ({ cls := "RopeVotes", name := "onTheWay", desc := "()I" } : Jvm.MethodName) prog_1_method_14_code (1 : Nat) (Option.some Jvm.ClassFile.FieldType.int)) ∈ rr_all := rr_in 513 rfl rfl
set_option maxRecDepth 20000 in
theorem q_511 : (Jvm.Cond.methodLink "RopeVotes" (147 : Nat) ({ cls := "RopeVotes$Post", name := "countLater", desc := "(I)I" } : Jvm.MethodName)) ∈ rr_all := rr_in 514 rfl rfl
set_option maxRecDepth 20000 in
theorem q_512 : (Jvm.Cond.instanceMethod ({ cls := "RopeVotes$Post", name := "countLater", desc := "(I)I" } : Jvm.MethodName)) ∈ rr_all := rr_in 515 rfl rfl
set_option maxRecDepth 20000 in
theorem q_513 : (Jvm.Cond.selects "RopeVotes$Post" ({ cls := "RopeVotes$Post", name := "countLater", desc := "(I)I" } : Jvm.MethodName) ({ cls := "RopeVotes$Post", name := "countLater", desc := "(I)I" } : Jvm.MethodName)) ∈ rr_all := rr_in 516 rfl rfl
set_option maxRecDepth 20000 in
theorem q_514 : (Jvm.Cond.code ({ cls := "RopeVotes$Post", name := "countLater", desc := "(I)I" } : Jvm.MethodName) prog_4_method_4_code (4 : Nat) (Option.some Jvm.ClassFile.FieldType.int)) ∈ rr_all := rr_in 517 rfl rfl
set_option maxRecDepth 20000 in
theorem q_515 : (Jvm.Cond.methodLink "RopeVotesLaw" (39 : Nat) ({ cls := "RopeVotes", name := "voteTime", desc := "(I)I" } : Jvm.MethodName)) ∈ rr_all := rr_in 518 rfl rfl
set_option maxRecDepth 20000 in
theorem q_516 : (Jvm.Cond.instanceMethod ({ cls := "RopeVotes", name := "voteTime", desc := "(I)I" } : Jvm.MethodName)) ∈ rr_all := rr_in 519 rfl rfl
set_option maxRecDepth 20000 in
theorem q_517 : (Jvm.Cond.selects "RopeVotes" ({ cls := "RopeVotes", name := "voteTime", desc := "(I)I" } : Jvm.MethodName) ({ cls := "RopeVotes", name := "voteTime", desc := "(I)I" } : Jvm.MethodName)) ∈ rr_all := rr_in 520 rfl rfl
set_option maxRecDepth 20000 in
theorem q_518 : (Jvm.Cond.code ({ cls := "RopeVotes", name := "voteTime", desc := "(I)I" } : Jvm.MethodName) prog_1_method_12_code (2 : Nat) (Option.some Jvm.ClassFile.FieldType.int)) ∈ rr_all := rr_in 521 rfl rfl
set_option maxRecDepth 20000 in
theorem q_519 : (Jvm.Cond.methodLink "RopeVotesLaw" (42 : Nat) ({ cls := "RopeVotes", name := "vote", desc := "(I)I" } : Jvm.MethodName)) ∈ rr_all := rr_in 522 rfl rfl
set_option maxRecDepth 20000 in
theorem q_520 : (Jvm.Cond.instanceMethod ({ cls := "RopeVotes", name := "vote", desc := "(I)I" } : Jvm.MethodName)) ∈ rr_all := rr_in 523 rfl rfl
set_option maxRecDepth 20000 in
theorem q_521 : (Jvm.Cond.selects "RopeVotes" ({ cls := "RopeVotes", name := "vote", desc := "(I)I" } : Jvm.MethodName) ({ cls := "RopeVotes", name := "vote", desc := "(I)I" } : Jvm.MethodName)) ∈ rr_all := rr_in 524 rfl rfl
set_option maxRecDepth 20000 in
theorem q_522 : (Jvm.Cond.code ({ cls := "RopeVotes", name := "vote", desc := "(I)I" } : Jvm.MethodName) prog_1_method_11_code (2 : Nat) (Option.some Jvm.ClassFile.FieldType.int)) ∈ rr_all := rr_in 525 rfl rfl
set_option maxRecDepth 20000 in
theorem q_523 : (Jvm.Cond.methodLink "RopeVotesLaw" (48 : Nat) ({ cls := "RopeVotesLaw", name := "bits", desc := "(I)I" } : Jvm.MethodName)) ∈ rr_all := rr_in 526 rfl rfl
set_option maxRecDepth 20000 in
theorem q_524 : (Jvm.Cond.static ({ cls := "RopeVotesLaw", name := "bits", desc := "(I)I" } : Jvm.MethodName)) ∈ rr_all := rr_in 527 rfl rfl
set_option maxRecDepth 20000 in
theorem q_525 : (Jvm.Cond.code ({ cls := "RopeVotesLaw", name := "bits", desc := "(I)I" } : Jvm.MethodName) method_8_code (3 : Nat) (Option.some Jvm.ClassFile.FieldType.int)) ∈ rr_all := rr_in 528 rfl rfl
set_option maxRecDepth 20000 in
theorem q_526 : (Jvm.Cond.methodLink "RopeVotesLaw" (73 : Nat) ({ cls := "RopeVotesLaw", name := "cars", desc := "(LRopeVotes;I)Z" } : Jvm.MethodName)) ∈ rr_all := rr_in 529 rfl rfl
set_option maxRecDepth 20000 in
theorem q_527 : (Jvm.Cond.static ({ cls := "RopeVotesLaw", name := "cars", desc := "(LRopeVotes;I)Z" } : Jvm.MethodName)) ∈ rr_all := rr_in 530 rfl rfl
set_option maxRecDepth 20000 in
theorem q_528 : (Jvm.Cond.code ({ cls := "RopeVotesLaw", name := "cars", desc := "(LRopeVotes;I)Z" } : Jvm.MethodName) method_10_code (6 : Nat) (Option.some Jvm.ClassFile.FieldType.boolean)) ∈ rr_all := rr_in 531 rfl rfl
set_option maxRecDepth 20000 in
theorem q_529 : (Jvm.Cond.methodLink "RopeVotesLaw" (56 : Nat) ({ cls := "RopeVotes", name := "placeByTurns", desc := "(I)I" } : Jvm.MethodName)) ∈ rr_all := rr_in 532 rfl rfl
set_option maxRecDepth 20000 in
theorem q_530 : (Jvm.Cond.instanceMethod ({ cls := "RopeVotes", name := "placeByTurns", desc := "(I)I" } : Jvm.MethodName)) ∈ rr_all := rr_in 533 rfl rfl
set_option maxRecDepth 20000 in
theorem q_531 : (Jvm.Cond.selects "RopeVotes" ({ cls := "RopeVotes", name := "placeByTurns", desc := "(I)I" } : Jvm.MethodName) ({ cls := "RopeVotes", name := "placeByTurns", desc := "(I)I" } : Jvm.MethodName)) ∈ rr_all := rr_in 534 rfl rfl
set_option maxRecDepth 20000 in
theorem q_532 : (Jvm.Cond.code ({ cls := "RopeVotes", name := "placeByTurns", desc := "(I)I" } : Jvm.MethodName) prog_1_method_6_code (2 : Nat) (Option.some Jvm.ClassFile.FieldType.int)) ∈ rr_all := rr_in 535 rfl rfl
set_option maxRecDepth 20000 in
theorem q_533 : (Jvm.Cond.methodLink "RopeVotesLaw" (59 : Nat) ({ cls := "RopeVotes", name := "people", desc := "(I)I" } : Jvm.MethodName)) ∈ rr_all := rr_in 536 rfl rfl
set_option maxRecDepth 20000 in
theorem q_534 : (Jvm.Cond.instanceMethod ({ cls := "RopeVotes", name := "people", desc := "(I)I" } : Jvm.MethodName)) ∈ rr_all := rr_in 537 rfl rfl
set_option maxRecDepth 20000 in
theorem q_535 : (Jvm.Cond.selects "RopeVotes" ({ cls := "RopeVotes", name := "people", desc := "(I)I" } : Jvm.MethodName) ({ cls := "RopeVotes", name := "people", desc := "(I)I" } : Jvm.MethodName)) ∈ rr_all := rr_in 538 rfl rfl
set_option maxRecDepth 20000 in
theorem q_536 : (Jvm.Cond.code ({ cls := "RopeVotes", name := "people", desc := "(I)I" } : Jvm.MethodName) prog_1_method_23_code (2 : Nat) (Option.some Jvm.ClassFile.FieldType.int)) ∈ rr_all := rr_in 539 rfl rfl
set_option maxRecDepth 20000 in
theorem q_537 : (Jvm.Cond.methodLink "RopeVotesLaw" (62 : Nat) ({ cls := "RopeVotes", name := "cars", desc := "()I" } : Jvm.MethodName)) ∈ rr_all := rr_in 540 rfl rfl
set_option maxRecDepth 20000 in
theorem q_538 : (Jvm.Cond.instanceMethod ({ cls := "RopeVotes", name := "cars", desc := "()I" } : Jvm.MethodName)) ∈ rr_all := rr_in 541 rfl rfl
set_option maxRecDepth 20000 in
theorem q_539 : (Jvm.Cond.selects "RopeVotes" ({ cls := "RopeVotes", name := "cars", desc := "()I" } : Jvm.MethodName) ({ cls := "RopeVotes", name := "cars", desc := "()I" } : Jvm.MethodName)) ∈ rr_all := rr_in 542 rfl rfl
set_option maxRecDepth 20000 in
theorem q_540 : (Jvm.Cond.code ({ cls := "RopeVotes", name := "cars", desc := "()I" } : Jvm.MethodName) prog_1_method_4_code (1 : Nat) (Option.some Jvm.ClassFile.FieldType.int)) ∈ rr_all := rr_in 543 rfl rfl
set_option maxRecDepth 20000 in
theorem q_541 : (Jvm.Cond.methodLink "RopeVotes" (101 : Nat) ({ cls := "RopeVotes$Loop", name := "countOn", desc := "()I" } : Jvm.MethodName)) ∈ rr_all := rr_in 544 rfl rfl
set_option maxRecDepth 20000 in
theorem q_542 : (Jvm.Cond.instanceMethod ({ cls := "RopeVotes$Loop", name := "countOn", desc := "()I" } : Jvm.MethodName)) ∈ rr_all := rr_in 545 rfl rfl
set_option maxRecDepth 20000 in
theorem q_543 : (Jvm.Cond.selects "RopeVotes$Loop" ({ cls := "RopeVotes$Loop", name := "countOn", desc := "()I" } : Jvm.MethodName) ({ cls := "RopeVotes$Loop", name := "countOn", desc := "()I" } : Jvm.MethodName)) ∈ rr_all := rr_in 546 rfl rfl
set_option maxRecDepth 20000 in
theorem q_544 : (Jvm.Cond.code ({ cls := "RopeVotes$Loop", name := "countOn", desc := "()I" } : Jvm.MethodName) prog_3_method_5_code (3 : Nat) (Option.some Jvm.ClassFile.FieldType.int)) ∈ rr_all := rr_in 547 rfl rfl
set_option maxRecDepth 20000 in
theorem q_545 : (Jvm.Cond.methodLink "RopeVotesLaw" (65 : Nat) ({ cls := "RopeVotes", name := "leastGap", desc := "()I" } : Jvm.MethodName)) ∈ rr_all := rr_in 548 rfl rfl
set_option maxRecDepth 20000 in
theorem q_546 : (Jvm.Cond.instanceMethod ({ cls := "RopeVotes", name := "leastGap", desc := "()I" } : Jvm.MethodName)) ∈ rr_all := rr_in 549 rfl rfl
set_option maxRecDepth 20000 in
theorem q_547 : (Jvm.Cond.selects "RopeVotes" ({ cls := "RopeVotes", name := "leastGap", desc := "()I" } : Jvm.MethodName) ({ cls := "RopeVotes", name := "leastGap", desc := "()I" } : Jvm.MethodName)) ∈ rr_all := rr_in 550 rfl rfl
set_option maxRecDepth 20000 in
theorem q_548 : (Jvm.Cond.code ({ cls := "RopeVotes", name := "leastGap", desc := "()I" } : Jvm.MethodName) prog_1_method_7_code (1 : Nat) (Option.some Jvm.ClassFile.FieldType.int)) ∈ rr_all := rr_in 551 rfl rfl
set_option maxRecDepth 20000 in
theorem q_549 : (Jvm.Cond.methodLink "RopeVotes" (105 : Nat) ({ cls := "RopeVotes$Loop", name := "leastGapOfPairs", desc := "()I" } : Jvm.MethodName)) ∈ rr_all := rr_in 552 rfl rfl
set_option maxRecDepth 20000 in
theorem q_550 : (Jvm.Cond.instanceMethod ({ cls := "RopeVotes$Loop", name := "leastGapOfPairs", desc := "()I" } : Jvm.MethodName)) ∈ rr_all := rr_in 553 rfl rfl
set_option maxRecDepth 20000 in
theorem q_551 : (Jvm.Cond.selects "RopeVotes$Loop" ({ cls := "RopeVotes$Loop", name := "leastGapOfPairs", desc := "()I" } : Jvm.MethodName) ({ cls := "RopeVotes$Loop", name := "leastGapOfPairs", desc := "()I" } : Jvm.MethodName)) ∈ rr_all := rr_in 554 rfl rfl
set_option maxRecDepth 20000 in
theorem q_552 : (Jvm.Cond.code ({ cls := "RopeVotes$Loop", name := "leastGapOfPairs", desc := "()I" } : Jvm.MethodName) prog_3_method_6_code (5 : Nat) (Option.some Jvm.ClassFile.FieldType.int)) ∈ rr_all := rr_in 555 rfl rfl
set_option maxRecDepth 20000 in
theorem q_553 : (Jvm.Cond.methodLink "RopeVotes$Loop" (30 : Nat) ({ cls := "java/lang/Math", name := "min", desc := "(II)I" } : Jvm.MethodName)) ∈ rr_all := rr_in 556 rfl rfl
set_option maxRecDepth 20000 in
theorem qs_V_passMinute : Cond.selects "RopeVotes" y_V_passMinute y_V_passMinute ∈ rr_all := rr_in 1 rfl rfl
set_option maxRecDepth 20000 in
theorem qs_V_makeVotes : Cond.selects "RopeVotes" y_V_makeVotes y_V_makeVotes ∈ rr_all := rr_in 2 rfl rfl
