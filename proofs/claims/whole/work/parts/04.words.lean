set_option maxRecDepth 20000 in
theorem q_0 : (Jvm.Cond.initialized "RopeVotesLaw") ∈ rr_all := rr_in 15 rfl rfl
set_option maxRecDepth 20000 in
theorem q_1 : (Jvm.Cond.initialized "RopeVotes") ∈ rr_all := rr_in 16 rfl rfl
set_option maxRecDepth 20000 in
theorem q_2 : (Jvm.Cond.initialized "RopeVotes$Loop") ∈ rr_all := rr_in 17 rfl rfl
set_option maxRecDepth 20000 in
theorem q_3 : (Jvm.Cond.initialized "RopeVotes$Towers") ∈ rr_all := rr_in 18 rfl rfl
set_option maxRecDepth 20000 in
theorem q_4 : (Jvm.Cond.initialized "RopeVotes$Post") ∈ rr_all := rr_in 19 rfl rfl
set_option maxRecDepth 20000 in
theorem q_5 : (Jvm.Cond.initialized "RopeVotes$Control") ∈ rr_all := rr_in 20 rfl rfl
set_option maxRecDepth 20000 in
theorem q_6 : (Jvm.Cond.initialized "RopeVotes$Tickets") ∈ rr_all := rr_in 21 rfl rfl
set_option maxRecDepth 20000 in
theorem q_7 : (Jvm.Cond.initialized "RopeVotesModel") ∈ rr_all := rr_in 22 rfl rfl
set_option maxRecDepth 20000 in
theorem q_8 : (Jvm.Cond.initialized "java/lang/Math") ∈ rr_all := rr_in 23 rfl rfl
set_option maxRecDepth 20000 in
theorem q_9 : (Jvm.Cond.initialized "java/lang/Throwable") ∈ rr_all := rr_in 24 rfl rfl
set_option maxRecDepth 20000 in
theorem q_10 : (Jvm.Cond.initialized "java/lang/Exception") ∈ rr_all := rr_in 25 rfl rfl
set_option maxRecDepth 20000 in
theorem q_11 : (Jvm.Cond.initialized "java/lang/RuntimeException") ∈ rr_all := rr_in 26 rfl rfl
set_option maxRecDepth 20000 in
theorem q_12 : (Jvm.Cond.initialized "java/lang/IllegalStateException") ∈ rr_all := rr_in 27 rfl rfl
set_option maxRecDepth 20000 in
theorem q_13 : (Jvm.Cond.initialized "java/lang/IndexOutOfBoundsException") ∈ rr_all := rr_in 28 rfl rfl
set_option maxRecDepth 20000 in
theorem q_14 : (Jvm.Cond.initialized "java/lang/IllegalArgumentException") ∈ rr_all := rr_in 29 rfl rfl
set_option maxRecDepth 20000 in
theorem q_15 : (Jvm.Cond.initialized "java/lang/Integer") ∈ rr_all := rr_in 30 rfl rfl
set_option maxRecDepth 20000 in
theorem q_16 : (Jvm.Cond.classLink "RopeVotesLaw" (8 : Nat) "RopeVotes") ∈ rr_all := rr_in 31 rfl rfl
set_option maxRecDepth 20000 in
theorem q_17 : (Jvm.Cond.instantiable "RopeVotes" (9 : Nat)) ∈ rr_all := rr_in 32 rfl rfl
set_option maxRecDepth 20000 in
theorem q_18 : (Jvm.Cond.methodLink "RopeVotesLaw" (71 : Nat) ({ cls := "RopeVotes", name := "<init>", desc := "()V" } : Jvm.MethodName)) ∈ rr_all := rr_in 33 rfl rfl
set_option maxRecDepth 20000 in
theorem q_19 : (Jvm.Cond.instanceMethod ({ cls := "RopeVotes", name := "<init>", desc := "()V" } : Jvm.MethodName)) ∈ rr_all := rr_in 34 rfl rfl
set_option maxRecDepth 20000 in
theorem q_20 : (Jvm.Cond.code ({ cls := "RopeVotes", name := "<init>", desc := "()V" } : Jvm.MethodName) prog_1_method_1_code (1 : Nat) (Option.none : Option Jvm.ClassFile.FieldType)) ∈ rr_all := rr_in 35 rfl rfl
set_option maxRecDepth 20000 in
theorem q_21 : (Jvm.Cond.methodLink "RopeVotes" (1 : Nat) ({ cls := "java/lang/Object", name := "<init>", desc := "()V" } : Jvm.MethodName)) ∈ rr_all := rr_in 36 rfl rfl
set_option maxRecDepth 20000 in
theorem q_22 : (Jvm.Cond.instanceMethod ({ cls := "java/lang/Object", name := "<init>", desc := "()V" } : Jvm.MethodName)) ∈ rr_all := rr_in 37 rfl rfl
set_option maxRecDepth 20000 in
theorem q_23 : (Jvm.Cond.code ({ cls := "java/lang/Object", name := "<init>", desc := "()V" } : Jvm.MethodName) object_method_1_code (1 : Nat) (Option.none : Option Jvm.ClassFile.FieldType)) ∈ rr_all := rr_in 38 rfl rfl
set_option maxRecDepth 20000 in
theorem q_24 : (Jvm.Cond.classLink "RopeVotes" (7 : Nat) "RopeVotes$Loop") ∈ rr_all := rr_in 39 rfl rfl
set_option maxRecDepth 20000 in
theorem q_25 : (Jvm.Cond.instantiable "RopeVotes$Loop" (4 : Nat)) ∈ rr_all := rr_in 40 rfl rfl
set_option maxRecDepth 20000 in
theorem q_27 : (Jvm.Cond.instanceMethod ({ cls := "RopeVotes$Loop", name := "<init>", desc := "()V" } : Jvm.MethodName)) ∈ rr_all := rr_in 42 rfl rfl
set_option maxRecDepth 20000 in
theorem q_28 : (Jvm.Cond.code ({ cls := "RopeVotes$Loop", name := "<init>", desc := "()V" } : Jvm.MethodName) prog_3_method_1_code (1 : Nat) (Option.none : Option Jvm.ClassFile.FieldType)) ∈ rr_all := rr_in 43 rfl rfl
set_option maxRecDepth 20000 in
theorem q_29 : (Jvm.Cond.methodLink "RopeVotes$Loop" (3 : Nat) ({ cls := "java/lang/Object", name := "<init>", desc := "()V" } : Jvm.MethodName)) ∈ rr_all := rr_in 44 rfl rfl
set_option maxRecDepth 20000 in
theorem q_30 : (Jvm.Cond.fieldLink "RopeVotes$Loop" (9 : Nat) "RopeVotes$Loop" "place" "[I") ∈ rr_all := rr_in 45 rfl rfl
set_option maxRecDepth 20000 in
theorem q_31 : (Jvm.Cond.fieldLink "RopeVotes" (83 : Nat) "RopeVotes$Loop" "place" "[I") ∈ rr_all := rr_in 46 rfl rfl
set_option maxRecDepth 20000 in
theorem q_32 : (Jvm.Cond.fieldLink "RopeVotes$Loop" (15 : Nat) "RopeVotes$Loop" "turnsAtStart" "[I") ∈ rr_all := rr_in 47 rfl rfl
set_option maxRecDepth 20000 in
theorem q_33 : (Jvm.Cond.fieldLink "RopeVotes" (98 : Nat) "RopeVotes$Loop" "turnsAtStart" "[I") ∈ rr_all := rr_in 48 rfl rfl
set_option maxRecDepth 20000 in
theorem q_34 : (Jvm.Cond.fieldLink "RopeVotes$Loop" (18 : Nat) "RopeVotes$Loop" "isOn" "[Z") ∈ rr_all := rr_in 49 rfl rfl
set_option maxRecDepth 20000 in
theorem q_35 : (Jvm.Cond.fieldLink "RopeVotes" (94 : Nat) "RopeVotes$Loop" "isOn" "[Z") ∈ rr_all := rr_in 50 rfl rfl
set_option maxRecDepth 20000 in
theorem q_36 : (Jvm.Cond.fieldLink "RopeVotes$Loop" (22 : Nat) "RopeVotes$Loop" "started" "I") ∈ rr_all := rr_in 51 rfl rfl
set_option maxRecDepth 20000 in
theorem q_46 : (Jvm.Cond.arrayClass Jvm.ClassFile.FieldType.int) ∈ rr_all := rr_in 61 rfl rfl
set_option maxRecDepth 20000 in
theorem q_47 : (Jvm.Cond.arrayClass Jvm.ClassFile.FieldType.boolean) ∈ rr_all := rr_in 62 rfl rfl
set_option maxRecDepth 20000 in
theorem q_48 : (Jvm.Cond.classLink "RopeVotes" (16 : Nat) "RopeVotes$Towers") ∈ rr_all := rr_in 63 rfl rfl
set_option maxRecDepth 20000 in
theorem q_49 : (Jvm.Cond.instantiable "RopeVotes$Towers" (4 : Nat)) ∈ rr_all := rr_in 64 rfl rfl
set_option maxRecDepth 20000 in
theorem q_50 : (Jvm.Cond.methodLink "RopeVotes" (18 : Nat) ({ cls := "RopeVotes$Towers", name := "<init>", desc := "()V" } : Jvm.MethodName)) ∈ rr_all := rr_in 65 rfl rfl
set_option maxRecDepth 20000 in
theorem q_51 : (Jvm.Cond.instanceMethod ({ cls := "RopeVotes$Towers", name := "<init>", desc := "()V" } : Jvm.MethodName)) ∈ rr_all := rr_in 66 rfl rfl
set_option maxRecDepth 20000 in
theorem q_52 : (Jvm.Cond.code ({ cls := "RopeVotes$Towers", name := "<init>", desc := "()V" } : Jvm.MethodName) prog_6_method_1_code (2 : Nat) (Option.none : Option Jvm.ClassFile.FieldType)) ∈ rr_all := rr_in 67 rfl rfl
set_option maxRecDepth 20000 in
theorem q_53 : (Jvm.Cond.methodLink "RopeVotes$Towers" (3 : Nat) ({ cls := "java/lang/Object", name := "<init>", desc := "()V" } : Jvm.MethodName)) ∈ rr_all := rr_in 68 rfl rfl
set_option maxRecDepth 20000 in
theorem q_54 : (Jvm.Cond.fieldLink "RopeVotes$Towers" (9 : Nat) "RopeVotes$Towers" "wind" "[I") ∈ rr_all := rr_in 69 rfl rfl
set_option maxRecDepth 20000 in
theorem q_55 : (Jvm.Cond.fieldLink "RopeVotes" (118 : Nat) "RopeVotes$Towers" "wind" "[I") ∈ rr_all := rr_in 70 rfl rfl
set_option maxRecDepth 20000 in
theorem q_56 : (Jvm.Cond.fieldLink "RopeVotes$Towers" (15 : Nat) "RopeVotes$Towers" "slowLimit" "[I") ∈ rr_all := rr_in 71 rfl rfl
set_option maxRecDepth 20000 in
theorem q_57 : (Jvm.Cond.fieldLink "RopeVotes" (126 : Nat) "RopeVotes$Towers" "slowLimit" "[I") ∈ rr_all := rr_in 72 rfl rfl
set_option maxRecDepth 20000 in
theorem q_58 : (Jvm.Cond.fieldLink "RopeVotes$Towers" (18 : Nat) "RopeVotes$Towers" "stopLimit" "[I") ∈ rr_all := rr_in 73 rfl rfl
set_option maxRecDepth 20000 in
theorem q_59 : (Jvm.Cond.fieldLink "RopeVotes" (129 : Nat) "RopeVotes$Towers" "stopLimit" "[I") ∈ rr_all := rr_in 74 rfl rfl
set_option maxRecDepth 20000 in
theorem q_60 : (Jvm.Cond.fieldLink "RopeVotes$Towers" (21 : Nat) "RopeVotes$Towers" "isCutOff" "[Z") ∈ rr_all := rr_in 75 rfl rfl
set_option maxRecDepth 20000 in
theorem q_61 : (Jvm.Cond.fieldLink "RopeVotes" (132 : Nat) "RopeVotes$Towers" "isCutOff" "[Z") ∈ rr_all := rr_in 76 rfl rfl
set_option maxRecDepth 20000 in
theorem q_71 : (Jvm.Cond.classLink "RopeVotes" (23 : Nat) "RopeVotes$Post") ∈ rr_all := rr_in 86 rfl rfl
set_option maxRecDepth 20000 in
theorem q_72 : (Jvm.Cond.instantiable "RopeVotes$Post" (2 : Nat)) ∈ rr_all := rr_in 87 rfl rfl
set_option maxRecDepth 20000 in
theorem q_74 : (Jvm.Cond.instanceMethod ({ cls := "RopeVotes$Post", name := "<init>", desc := "()V" } : Jvm.MethodName)) ∈ rr_all := rr_in 89 rfl rfl
set_option maxRecDepth 20000 in
theorem q_75 : (Jvm.Cond.code ({ cls := "RopeVotes$Post", name := "<init>", desc := "()V" } : Jvm.MethodName) prog_4_method_1_code (1 : Nat) (Option.none : Option Jvm.ClassFile.FieldType)) ∈ rr_all := rr_in 90 rfl rfl
set_option maxRecDepth 20000 in
theorem q_76 : (Jvm.Cond.methodLink "RopeVotes$Post" (3 : Nat) ({ cls := "java/lang/Object", name := "<init>", desc := "()V" } : Jvm.MethodName)) ∈ rr_all := rr_in 91 rfl rfl
set_option maxRecDepth 20000 in
theorem q_77 : (Jvm.Cond.fieldLink "RopeVotes$Post" (9 : Nat) "RopeVotes$Post" "ballot" "[I") ∈ rr_all := rr_in 92 rfl rfl
set_option maxRecDepth 20000 in
theorem q_78 : (Jvm.Cond.fieldLink "RopeVotes$Post" (15 : Nat) "RopeVotes$Post" "comesAt" "[I") ∈ rr_all := rr_in 93 rfl rfl
set_option maxRecDepth 20000 in
theorem q_84 : (Jvm.Cond.classLink "RopeVotes" (30 : Nat) "RopeVotes$Control") ∈ rr_all := rr_in 99 rfl rfl
set_option maxRecDepth 20000 in
theorem q_85 : (Jvm.Cond.instantiable "RopeVotes$Control" (2 : Nat)) ∈ rr_all := rr_in 100 rfl rfl
set_option maxRecDepth 20000 in
theorem q_86 : (Jvm.Cond.methodLink "RopeVotes" (32 : Nat) ({ cls := "RopeVotes$Control", name := "<init>", desc := "()V" } : Jvm.MethodName)) ∈ rr_all := rr_in 101 rfl rfl
set_option maxRecDepth 20000 in
theorem q_87 : (Jvm.Cond.instanceMethod ({ cls := "RopeVotes$Control", name := "<init>", desc := "()V" } : Jvm.MethodName)) ∈ rr_all := rr_in 102 rfl rfl
set_option maxRecDepth 20000 in
theorem q_88 : (Jvm.Cond.code ({ cls := "RopeVotes$Control", name := "<init>", desc := "()V" } : Jvm.MethodName) prog_2_method_1_code (2 : Nat) (Option.none : Option Jvm.ClassFile.FieldType)) ∈ rr_all := rr_in 103 rfl rfl
set_option maxRecDepth 20000 in
theorem q_89 : (Jvm.Cond.methodLink "RopeVotes$Control" (3 : Nat) ({ cls := "java/lang/Object", name := "<init>", desc := "()V" } : Jvm.MethodName)) ∈ rr_all := rr_in 104 rfl rfl
set_option maxRecDepth 20000 in
theorem q_90 : (Jvm.Cond.fieldLink "RopeVotes$Control" (9 : Nat) "RopeVotes$Control" "ballot" "[I") ∈ rr_all := rr_in 105 rfl rfl
set_option maxRecDepth 20000 in
theorem q_91 : (Jvm.Cond.fieldLink "RopeVotes" (138 : Nat) "RopeVotes$Control" "ballot" "[I") ∈ rr_all := rr_in 106 rfl rfl
set_option maxRecDepth 20000 in
theorem q_92 : (Jvm.Cond.fieldLink "RopeVotes$Control" (15 : Nat) "RopeVotes$Control" "madeAt" "[I") ∈ rr_all := rr_in 107 rfl rfl
set_option maxRecDepth 20000 in
theorem q_93 : (Jvm.Cond.fieldLink "RopeVotes" (141 : Nat) "RopeVotes$Control" "madeAt" "[I") ∈ rr_all := rr_in 108 rfl rfl
set_option maxRecDepth 20000 in
theorem q_99 : (Jvm.Cond.classLink "RopeVotes" (37 : Nat) "RopeVotes$Tickets") ∈ rr_all := rr_in 114 rfl rfl
set_option maxRecDepth 20000 in
theorem q_100 : (Jvm.Cond.instantiable "RopeVotes$Tickets" (7 : Nat)) ∈ rr_all := rr_in 115 rfl rfl
set_option maxRecDepth 20000 in
theorem q_102 : (Jvm.Cond.instanceMethod ({ cls := "RopeVotes$Tickets", name := "<init>", desc := "()V" } : Jvm.MethodName)) ∈ rr_all := rr_in 117 rfl rfl
set_option maxRecDepth 20000 in
theorem q_103 : (Jvm.Cond.code ({ cls := "RopeVotes$Tickets", name := "<init>", desc := "()V" } : Jvm.MethodName) prog_5_method_1_code (1 : Nat) (Option.none : Option Jvm.ClassFile.FieldType)) ∈ rr_all := rr_in 118 rfl rfl
set_option maxRecDepth 20000 in
theorem q_104 : (Jvm.Cond.methodLink "RopeVotes$Tickets" (3 : Nat) ({ cls := "java/lang/Object", name := "<init>", desc := "()V" } : Jvm.MethodName)) ∈ rr_all := rr_in 119 rfl rfl
set_option maxRecDepth 20000 in
theorem q_105 : (Jvm.Cond.fieldLink "RopeVotes$Tickets" (9 : Nat) "RopeVotes$Tickets" "car" "[I") ∈ rr_all := rr_in 120 rfl rfl
set_option maxRecDepth 20000 in
theorem q_106 : (Jvm.Cond.fieldLink "RopeVotes$Tickets" (15 : Nat) "RopeVotes$Tickets" "people" "[I") ∈ rr_all := rr_in 121 rfl rfl
set_option maxRecDepth 20000 in
theorem q_107 : (Jvm.Cond.fieldLink "RopeVotes$Tickets" (18 : Nat) "RopeVotes$Tickets" "fare" "[I") ∈ rr_all := rr_in 122 rfl rfl
set_option maxRecDepth 20000 in
theorem q_108 : (Jvm.Cond.fieldLink "RopeVotes$Tickets" (21 : Nat) "RopeVotes$Tickets" "goalTurns" "[I") ∈ rr_all := rr_in 123 rfl rfl
set_option maxRecDepth 20000 in
theorem q_109 : (Jvm.Cond.fieldLink "RopeVotes$Tickets" (24 : Nat) "RopeVotes$Tickets" "arrivedAt" "[I") ∈ rr_all := rr_in 124 rfl rfl
set_option maxRecDepth 20000 in
theorem q_110 : (Jvm.Cond.fieldLink "RopeVotes" (181 : Nat) "RopeVotes$Tickets" "arrivedAt" "[I") ∈ rr_all := rr_in 125 rfl rfl
set_option maxRecDepth 20000 in
theorem q_111 : (Jvm.Cond.fieldLink "RopeVotes$Tickets" (27 : Nat) "RopeVotes$Tickets" "minutesHung" "[I") ∈ rr_all := rr_in 126 rfl rfl
set_option maxRecDepth 20000 in
theorem q_112 : (Jvm.Cond.fieldLink "RopeVotes" (184 : Nat) "RopeVotes$Tickets" "minutesHung" "[I") ∈ rr_all := rr_in 127 rfl rfl
set_option maxRecDepth 20000 in
theorem q_113 : (Jvm.Cond.fieldLink "RopeVotes$Tickets" (30 : Nat) "RopeVotes$Tickets" "sold" "I") ∈ rr_all := rr_in 128 rfl rfl
set_option maxRecDepth 20000 in
theorem q_129 : (Jvm.Cond.fieldLink "RopeVotes" (10 : Nat) "RopeVotes" "loop" "LRopeVotes$Loop;") ∈ rr_all := rr_in 144 rfl rfl
set_option maxRecDepth 20000 in
theorem q_130 : (Jvm.Cond.fieldLink "RopeVotes" (19 : Nat) "RopeVotes" "towers" "LRopeVotes$Towers;") ∈ rr_all := rr_in 145 rfl rfl
set_option maxRecDepth 20000 in
theorem q_131 : (Jvm.Cond.fieldLink "RopeVotes" (26 : Nat) "RopeVotes" "post" "LRopeVotes$Post;") ∈ rr_all := rr_in 146 rfl rfl
set_option maxRecDepth 20000 in
theorem q_132 : (Jvm.Cond.fieldLink "RopeVotes" (33 : Nat) "RopeVotes" "control" "LRopeVotes$Control;") ∈ rr_all := rr_in 147 rfl rfl
set_option maxRecDepth 20000 in
theorem q_133 : (Jvm.Cond.fieldLink "RopeVotes" (40 : Nat) "RopeVotes" "tickets" "LRopeVotes$Tickets;") ∈ rr_all := rr_in 148 rfl rfl
set_option maxRecDepth 20000 in
theorem q_134 : (Jvm.Cond.fieldLink "RopeVotes" (44 : Nat) "RopeVotes" "record" "[I") ∈ rr_all := rr_in 149 rfl rfl
set_option maxRecDepth 20000 in
theorem q_135 : (Jvm.Cond.fieldLink "RopeVotes" (48 : Nat) "RopeVotes" "now" "I") ∈ rr_all := rr_in 150 rfl rfl
set_option maxRecDepth 20000 in
theorem q_136 : (Jvm.Cond.fieldLink "RopeVotes" (52 : Nat) "RopeVotes" "turns" "I") ∈ rr_all := rr_in 151 rfl rfl
set_option maxRecDepth 20000 in
theorem q_137 : (Jvm.Cond.fieldLink "RopeVotes" (55 : Nat) "RopeVotes" "isHeldNow" "Z") ∈ rr_all := rr_in 152 rfl rfl
set_option maxRecDepth 20000 in
theorem q_157 : (Jvm.Cond.methodLink "RopeVotesLaw" (88 : Nat) ({ cls := "RopeVotes", name := "cars", desc := "()I" } : Jvm.MethodName)) ∈ rr_all := rr_in 172 rfl rfl
set_option maxRecDepth 20000 in
theorem q_158 : (Jvm.Cond.instanceMethod ({ cls := "RopeVotes", name := "cars", desc := "()I" } : Jvm.MethodName)) ∈ rr_all := rr_in 173 rfl rfl
set_option maxRecDepth 20000 in
theorem q_159 : (Jvm.Cond.selects "RopeVotes" ({ cls := "RopeVotes", name := "cars", desc := "()I" } : Jvm.MethodName) ({ cls := "RopeVotes", name := "cars", desc := "()I" } : Jvm.MethodName)) ∈ rr_all := rr_in 174 rfl rfl
set_option maxRecDepth 20000 in
theorem q_160 : (Jvm.Cond.code ({ cls := "RopeVotes", name := "cars", desc := "()I" } : Jvm.MethodName) prog_1_method_4_code (1 : Nat) (Option.some Jvm.ClassFile.FieldType.int)) ∈ rr_all := rr_in 175 rfl rfl
set_option maxRecDepth 20000 in
theorem q_161 : (Jvm.Cond.methodLink "RopeVotes" (101 : Nat) ({ cls := "RopeVotes$Loop", name := "countOn", desc := "()I" } : Jvm.MethodName)) ∈ rr_all := rr_in 176 rfl rfl
set_option maxRecDepth 20000 in
theorem q_162 : (Jvm.Cond.instanceMethod ({ cls := "RopeVotes$Loop", name := "countOn", desc := "()I" } : Jvm.MethodName)) ∈ rr_all := rr_in 177 rfl rfl
set_option maxRecDepth 20000 in
theorem q_163 : (Jvm.Cond.selects "RopeVotes$Loop" ({ cls := "RopeVotes$Loop", name := "countOn", desc := "()I" } : Jvm.MethodName) ({ cls := "RopeVotes$Loop", name := "countOn", desc := "()I" } : Jvm.MethodName)) ∈ rr_all := rr_in 178 rfl rfl
set_option maxRecDepth 20000 in
theorem q_164 : (Jvm.Cond.code ({ cls := "RopeVotes$Loop", name := "countOn", desc := "()I" } : Jvm.MethodName) prog_3_method_5_code (3 : Nat) (Option.some Jvm.ClassFile.FieldType.int)) ∈ rr_all := rr_in 179 rfl rfl
set_option maxRecDepth 20000 in
theorem q_165 : (Jvm.Cond.methodLink "RopeVotesLaw" (98 : Nat) ({ cls := "RopeVotes", name := "leastGap", desc := "()I" } : Jvm.MethodName)) ∈ rr_all := rr_in 180 rfl rfl
set_option maxRecDepth 20000 in
theorem q_166 : (Jvm.Cond.instanceMethod ({ cls := "RopeVotes", name := "leastGap", desc := "()I" } : Jvm.MethodName)) ∈ rr_all := rr_in 181 rfl rfl
set_option maxRecDepth 20000 in
theorem q_167 : (Jvm.Cond.selects "RopeVotes" ({ cls := "RopeVotes", name := "leastGap", desc := "()I" } : Jvm.MethodName) ({ cls := "RopeVotes", name := "leastGap", desc := "()I" } : Jvm.MethodName)) ∈ rr_all := rr_in 182 rfl rfl
set_option maxRecDepth 20000 in
theorem q_168 : (Jvm.Cond.code ({ cls := "RopeVotes", name := "leastGap", desc := "()I" } : Jvm.MethodName) prog_1_method_7_code (1 : Nat) (Option.some Jvm.ClassFile.FieldType.int)) ∈ rr_all := rr_in 183 rfl rfl
set_option maxRecDepth 20000 in
theorem q_169 : (Jvm.Cond.methodLink "RopeVotes" (105 : Nat) ({ cls := "RopeVotes$Loop", name := "leastGapOfPairs", desc := "()I" } : Jvm.MethodName)) ∈ rr_all := rr_in 184 rfl rfl
set_option maxRecDepth 20000 in
theorem q_170 : (Jvm.Cond.instanceMethod ({ cls := "RopeVotes$Loop", name := "leastGapOfPairs", desc := "()I" } : Jvm.MethodName)) ∈ rr_all := rr_in 185 rfl rfl
set_option maxRecDepth 20000 in
theorem q_171 : (Jvm.Cond.selects "RopeVotes$Loop" ({ cls := "RopeVotes$Loop", name := "leastGapOfPairs", desc := "()I" } : Jvm.MethodName) ({ cls := "RopeVotes$Loop", name := "leastGapOfPairs", desc := "()I" } : Jvm.MethodName)) ∈ rr_all := rr_in 186 rfl rfl
set_option maxRecDepth 20000 in
theorem q_172 : (Jvm.Cond.code ({ cls := "RopeVotes$Loop", name := "leastGapOfPairs", desc := "()I" } : Jvm.MethodName) prog_3_method_6_code (5 : Nat) (Option.some Jvm.ClassFile.FieldType.int)) ∈ rr_all := rr_in 187 rfl rfl
set_option maxRecDepth 20000 in
theorem q_174 : (Jvm.Cond.static ({ cls := "RopeVotes", name := "gapBetween", desc := "(II)I" } : Jvm.MethodName)) ∈ rr_all := rr_in 189 rfl rfl
set_option maxRecDepth 20000 in
theorem q_175 : (Jvm.Cond.code ({ cls := "RopeVotes", name := "gapBetween", desc := "(II)I" } : Jvm.MethodName) prog_1_method_34_code (3 : Nat) (Option.some Jvm.ClassFile.FieldType.int)) ∈ rr_all := rr_in 190 rfl rfl
set_option maxRecDepth 20000 in
theorem q_176 : (Jvm.Cond.methodLink "RopeVotes" (225 : Nat) ({ cls := "java/lang/Math", name := "abs", desc := "(I)I" } : Jvm.MethodName)) ∈ rr_all := rr_in 191 rfl rfl
set_option maxRecDepth 20000 in
theorem q_177 : (Jvm.Cond.static ({ cls := "java/lang/Math", name := "abs", desc := "(I)I" } : Jvm.MethodName)) ∈ rr_all := rr_in 192 rfl rfl
set_option maxRecDepth 20000 in
theorem q_178 : (Jvm.Cond.code ({ cls := "java/lang/Math", name := "abs", desc := "(I)I" } : Jvm.MethodName) prog_14_method_59_code (1 : Nat) (Option.some Jvm.ClassFile.FieldType.int)) ∈ rr_all := rr_in 193 rfl rfl
set_option maxRecDepth 20000 in
theorem q_179 : (Jvm.Cond.methodLink "RopeVotes" (230 : Nat) ({ cls := "java/lang/Math", name := "min", desc := "(II)I" } : Jvm.MethodName)) ∈ rr_all := rr_in 194 rfl rfl
set_option maxRecDepth 20000 in
theorem q_180 : (Jvm.Cond.static ({ cls := "java/lang/Math", name := "min", desc := "(II)I" } : Jvm.MethodName)) ∈ rr_all := rr_in 195 rfl rfl
set_option maxRecDepth 20000 in
theorem q_181 : (Jvm.Cond.code ({ cls := "java/lang/Math", name := "min", desc := "(II)I" } : Jvm.MethodName) prog_14_method_69_code (2 : Nat) (Option.some Jvm.ClassFile.FieldType.int)) ∈ rr_all := rr_in 196 rfl rfl
set_option maxRecDepth 20000 in
theorem q_182 : (Jvm.Cond.methodLink "RopeVotes$Loop" (30 : Nat) ({ cls := "java/lang/Math", name := "min", desc := "(II)I" } : Jvm.MethodName)) ∈ rr_all := rr_in 197 rfl rfl
set_option maxRecDepth 20000 in
theorem q_183 : (Jvm.Cond.methodLink "RopeVotesLaw" (120 : Nat) ({ cls := "RopeVotes", name := "fresh", desc := "()I" } : Jvm.MethodName)) ∈ rr_all := rr_in 198 rfl rfl
set_option maxRecDepth 20000 in
theorem q_184 : (Jvm.Cond.instanceMethod ({ cls := "RopeVotes", name := "fresh", desc := "()I" } : Jvm.MethodName)) ∈ rr_all := rr_in 199 rfl rfl
set_option maxRecDepth 20000 in
theorem q_185 : (Jvm.Cond.selects "RopeVotes" ({ cls := "RopeVotes", name := "fresh", desc := "()I" } : Jvm.MethodName) ({ cls := "RopeVotes", name := "fresh", desc := "()I" } : Jvm.MethodName)) ∈ rr_all := rr_in 200 rfl rfl
set_option maxRecDepth 20000 in
theorem q_186 : (Jvm.Cond.code ({ cls := "RopeVotes", name := "fresh", desc := "()I" } : Jvm.MethodName) prog_1_method_13_code (1 : Nat) (Option.some Jvm.ClassFile.FieldType.int)) ∈ rr_all := rr_in 201 rfl rfl
set_option maxRecDepth 20000 in
theorem q_187 : (Jvm.Cond.methodLink "RopeVotes" (144 : Nat) ({ cls := "RopeVotes$Control", name := "freshSet", desc := "(I)I" } : Jvm.MethodName)) ∈ rr_all := rr_in 202 rfl rfl
set_option maxRecDepth 20000 in
theorem q_188 : (Jvm.Cond.instanceMethod ({ cls := "RopeVotes$Control", name := "freshSet", desc := "(I)I" } : Jvm.MethodName)) ∈ rr_all := rr_in 203 rfl rfl
set_option maxRecDepth 20000 in
theorem q_189 : (Jvm.Cond.selects "RopeVotes$Control" ({ cls := "RopeVotes$Control", name := "freshSet", desc := "(I)I" } : Jvm.MethodName) ({ cls := "RopeVotes$Control", name := "freshSet", desc := "(I)I" } : Jvm.MethodName)) ∈ rr_all := rr_in 204 rfl rfl
set_option maxRecDepth 20000 in
theorem q_190 : (Jvm.Cond.code ({ cls := "RopeVotes$Control", name := "freshSet", desc := "(I)I" } : Jvm.MethodName) prog_2_method_4_code (4 : Nat) (Option.some Jvm.ClassFile.FieldType.int)) ∈ rr_all := rr_in 205 rfl rfl
set_option maxRecDepth 20000 in
theorem q_191 : (Jvm.Cond.methodLink "RopeVotes$Control" (18 : Nat) ({ cls := "RopeVotes$Control", name := "isFresh", desc := "(II)Z" } : Jvm.MethodName)) ∈ rr_all := rr_in 206 rfl rfl
set_option maxRecDepth 20000 in
theorem q_192 : (Jvm.Cond.instanceMethod ({ cls := "RopeVotes$Control", name := "isFresh", desc := "(II)Z" } : Jvm.MethodName)) ∈ rr_all := rr_in 207 rfl rfl
set_option maxRecDepth 20000 in
theorem q_193 : (Jvm.Cond.selects "RopeVotes$Control" ({ cls := "RopeVotes$Control", name := "isFresh", desc := "(II)Z" } : Jvm.MethodName) ({ cls := "RopeVotes$Control", name := "isFresh", desc := "(II)Z" } : Jvm.MethodName)) ∈ rr_all := rr_in 208 rfl rfl
set_option maxRecDepth 20000 in
theorem q_194 : (Jvm.Cond.code ({ cls := "RopeVotes$Control", name := "isFresh", desc := "(II)Z" } : Jvm.MethodName) prog_2_method_3_code (3 : Nat) (Option.some Jvm.ClassFile.FieldType.boolean)) ∈ rr_all := rr_in 209 rfl rfl
set_option maxRecDepth 20000 in
theorem q_195 : (Jvm.Cond.methodLink "RopeVotesLaw" (124 : Nat) ({ cls := "RopeVotes", name := "onTheWay", desc := "()I" } : Jvm.MethodName)) ∈ rr_all := rr_in 210 rfl rfl
set_option maxRecDepth 20000 in
theorem q_196 : (Jvm.Cond.instanceMethod ({ cls := "RopeVotes", name := "onTheWay", desc := "()I" } : Jvm.MethodName)) ∈ rr_all := rr_in 211 rfl rfl
set_option maxRecDepth 20000 in
theorem q_197 : (Jvm.Cond.selects "RopeVotes" ({ cls := "RopeVotes", name := "onTheWay", desc := "()I" } : Jvm.MethodName) ({ cls := "RopeVotes", name := "onTheWay", desc := "()I" } : Jvm.MethodName)) ∈ rr_all := rr_in 212 rfl rfl
set_option maxRecDepth 20000 in
theorem q_198 : (Jvm.Cond.code ({ cls := "RopeVotes", name := "onTheWay", desc := "()I" } : Jvm.MethodName) prog_1_method_14_code (1 : Nat) (Option.some Jvm.ClassFile.FieldType.int)) ∈ rr_all := rr_in 213 rfl rfl
set_option maxRecDepth 20000 in
theorem q_199 : (Jvm.Cond.methodLink "RopeVotes" (147 : Nat) ({ cls := "RopeVotes$Post", name := "countLater", desc := "(I)I" } : Jvm.MethodName)) ∈ rr_all := rr_in 214 rfl rfl
set_option maxRecDepth 20000 in
theorem q_200 : (Jvm.Cond.instanceMethod ({ cls := "RopeVotes$Post", name := "countLater", desc := "(I)I" } : Jvm.MethodName)) ∈ rr_all := rr_in 215 rfl rfl
set_option maxRecDepth 20000 in
theorem q_201 : (Jvm.Cond.selects "RopeVotes$Post" ({ cls := "RopeVotes$Post", name := "countLater", desc := "(I)I" } : Jvm.MethodName) ({ cls := "RopeVotes$Post", name := "countLater", desc := "(I)I" } : Jvm.MethodName)) ∈ rr_all := rr_in 216 rfl rfl
set_option maxRecDepth 20000 in
theorem q_202 : (Jvm.Cond.code ({ cls := "RopeVotes$Post", name := "countLater", desc := "(I)I" } : Jvm.MethodName) prog_4_method_4_code (4 : Nat) (Option.some Jvm.ClassFile.FieldType.int)) ∈ rr_all := rr_in 217 rfl rfl
set_option maxRecDepth 20000 in
theorem q_203 : (Jvm.Cond.methodLink "RopeVotesLaw" (128 : Nat) ({ cls := "RopeVotes", name := "wouldDecide", desc := "()I" } : Jvm.MethodName)) ∈ rr_all := rr_in 218 rfl rfl
set_option maxRecDepth 20000 in
theorem q_204 : (Jvm.Cond.instanceMethod ({ cls := "RopeVotes", name := "wouldDecide", desc := "()I" } : Jvm.MethodName)) ∈ rr_all := rr_in 219 rfl rfl
set_option maxRecDepth 20000 in
theorem q_205 : (Jvm.Cond.selects "RopeVotes" ({ cls := "RopeVotes", name := "wouldDecide", desc := "()I" } : Jvm.MethodName) ({ cls := "RopeVotes", name := "wouldDecide", desc := "()I" } : Jvm.MethodName)) ∈ rr_all := rr_in 220 rfl rfl
set_option maxRecDepth 20000 in
theorem q_206 : (Jvm.Cond.code ({ cls := "RopeVotes", name := "wouldDecide", desc := "()I" } : Jvm.MethodName) prog_1_method_15_code (1 : Nat) (Option.some Jvm.ClassFile.FieldType.int)) ∈ rr_all := rr_in 221 rfl rfl
set_option maxRecDepth 20000 in
theorem q_207 : (Jvm.Cond.methodLink "RopeVotes" (150 : Nat) ({ cls := "RopeVotes$Control", name := "speedByVotes", desc := "(I)I" } : Jvm.MethodName)) ∈ rr_all := rr_in 222 rfl rfl
set_option maxRecDepth 20000 in
theorem q_208 : (Jvm.Cond.instanceMethod ({ cls := "RopeVotes$Control", name := "speedByVotes", desc := "(I)I" } : Jvm.MethodName)) ∈ rr_all := rr_in 223 rfl rfl
set_option maxRecDepth 20000 in
theorem q_209 : (Jvm.Cond.selects "RopeVotes$Control" ({ cls := "RopeVotes$Control", name := "speedByVotes", desc := "(I)I" } : Jvm.MethodName) ({ cls := "RopeVotes$Control", name := "speedByVotes", desc := "(I)I" } : Jvm.MethodName)) ∈ rr_all := rr_in 224 rfl rfl
set_option maxRecDepth 20000 in
theorem q_210 : (Jvm.Cond.code ({ cls := "RopeVotes$Control", name := "speedByVotes", desc := "(I)I" } : Jvm.MethodName) prog_2_method_6_code (5 : Nat) (Option.some Jvm.ClassFile.FieldType.int)) ∈ rr_all := rr_in 225 rfl rfl
set_option maxRecDepth 20000 in
theorem q_211 : (Jvm.Cond.methodLink "RopeVotes$Control" (22 : Nat) ({ cls := "RopeVotes$Control", name := "countFresh", desc := "(II)I" } : Jvm.MethodName)) ∈ rr_all := rr_in 226 rfl rfl
set_option maxRecDepth 20000 in
theorem q_212 : (Jvm.Cond.instanceMethod ({ cls := "RopeVotes$Control", name := "countFresh", desc := "(II)I" } : Jvm.MethodName)) ∈ rr_all := rr_in 227 rfl rfl
set_option maxRecDepth 20000 in
theorem q_213 : (Jvm.Cond.selects "RopeVotes$Control" ({ cls := "RopeVotes$Control", name := "countFresh", desc := "(II)I" } : Jvm.MethodName) ({ cls := "RopeVotes$Control", name := "countFresh", desc := "(II)I" } : Jvm.MethodName)) ∈ rr_all := rr_in 228 rfl rfl
set_option maxRecDepth 20000 in
theorem q_214 : (Jvm.Cond.code ({ cls := "RopeVotes$Control", name := "countFresh", desc := "(II)I" } : Jvm.MethodName) prog_2_method_5_code (5 : Nat) (Option.some Jvm.ClassFile.FieldType.int)) ∈ rr_all := rr_in 229 rfl rfl
set_option maxRecDepth 20000 in
theorem q_215 : (Jvm.Cond.methodLink "RopeVotesLaw" (132 : Nat) ({ cls := "RopeVotes", name := "hold", desc := "(Z)Z" } : Jvm.MethodName)) ∈ rr_all := rr_in 230 rfl rfl
set_option maxRecDepth 20000 in
theorem q_216 : (Jvm.Cond.instanceMethod ({ cls := "RopeVotes", name := "hold", desc := "(Z)Z" } : Jvm.MethodName)) ∈ rr_all := rr_in 231 rfl rfl
set_option maxRecDepth 20000 in
theorem q_217 : (Jvm.Cond.selects "RopeVotes" ({ cls := "RopeVotes", name := "hold", desc := "(Z)Z" } : Jvm.MethodName) ({ cls := "RopeVotes", name := "hold", desc := "(Z)Z" } : Jvm.MethodName)) ∈ rr_all := rr_in 232 rfl rfl
set_option maxRecDepth 20000 in
theorem q_218 : (Jvm.Cond.code ({ cls := "RopeVotes", name := "hold", desc := "(Z)Z" } : Jvm.MethodName) prog_1_method_16_code (3 : Nat) (Option.some Jvm.ClassFile.FieldType.boolean)) ∈ rr_all := rr_in 233 rfl rfl
set_option maxRecDepth 20000 in
theorem q_219 : (Jvm.Cond.methodLink "RopeVotesLaw" (140 : Nat) ({ cls := "RopeVotes", name := "time", desc := "()I" } : Jvm.MethodName)) ∈ rr_all := rr_in 234 rfl rfl
set_option maxRecDepth 20000 in
theorem q_220 : (Jvm.Cond.instanceMethod ({ cls := "RopeVotes", name := "time", desc := "()I" } : Jvm.MethodName)) ∈ rr_all := rr_in 235 rfl rfl
set_option maxRecDepth 20000 in
theorem q_221 : (Jvm.Cond.selects "RopeVotes" ({ cls := "RopeVotes", name := "time", desc := "()I" } : Jvm.MethodName) ({ cls := "RopeVotes", name := "time", desc := "()I" } : Jvm.MethodName)) ∈ rr_all := rr_in 236 rfl rfl
set_option maxRecDepth 20000 in
theorem q_222 : (Jvm.Cond.code ({ cls := "RopeVotes", name := "time", desc := "()I" } : Jvm.MethodName) prog_1_method_18_code (1 : Nat) (Option.some Jvm.ClassFile.FieldType.int)) ∈ rr_all := rr_in 237 rfl rfl
set_option maxRecDepth 20000 in
theorem q_223 : (Jvm.Cond.methodLink "RopeVotesLaw" (144 : Nat) ({ cls := "RopeVotes", name := "moved", desc := "()I" } : Jvm.MethodName)) ∈ rr_all := rr_in 238 rfl rfl
set_option maxRecDepth 20000 in
theorem q_224 : (Jvm.Cond.instanceMethod ({ cls := "RopeVotes", name := "moved", desc := "()I" } : Jvm.MethodName)) ∈ rr_all := rr_in 239 rfl rfl
set_option maxRecDepth 20000 in
theorem q_225 : (Jvm.Cond.selects "RopeVotes" ({ cls := "RopeVotes", name := "moved", desc := "()I" } : Jvm.MethodName) ({ cls := "RopeVotes", name := "moved", desc := "()I" } : Jvm.MethodName)) ∈ rr_all := rr_in 240 rfl rfl
set_option maxRecDepth 20000 in
theorem q_226 : (Jvm.Cond.code ({ cls := "RopeVotes", name := "moved", desc := "()I" } : Jvm.MethodName) prog_1_method_19_code (1 : Nat) (Option.some Jvm.ClassFile.FieldType.int)) ∈ rr_all := rr_in 241 rfl rfl
set_option maxRecDepth 20000 in
theorem q_227 : (Jvm.Cond.methodLink "RopeVotesLaw" (169 : Nat) ({ cls := "RopeVotes", name := "refunds", desc := "()I" } : Jvm.MethodName)) ∈ rr_all := rr_in 242 rfl rfl
set_option maxRecDepth 20000 in
theorem q_228 : (Jvm.Cond.instanceMethod ({ cls := "RopeVotes", name := "refunds", desc := "()I" } : Jvm.MethodName)) ∈ rr_all := rr_in 243 rfl rfl
set_option maxRecDepth 20000 in
theorem q_229 : (Jvm.Cond.selects "RopeVotes" ({ cls := "RopeVotes", name := "refunds", desc := "()I" } : Jvm.MethodName) ({ cls := "RopeVotes", name := "refunds", desc := "()I" } : Jvm.MethodName)) ∈ rr_all := rr_in 244 rfl rfl
set_option maxRecDepth 20000 in
theorem q_230 : (Jvm.Cond.code ({ cls := "RopeVotes", name := "refunds", desc := "()I" } : Jvm.MethodName) prog_1_method_27_code (1 : Nat) (Option.some Jvm.ClassFile.FieldType.int)) ∈ rr_all := rr_in 245 rfl rfl
set_option maxRecDepth 20000 in
theorem q_231 : (Jvm.Cond.methodLink "RopeVotes" (190 : Nat) ({ cls := "RopeVotes$Tickets", name := "sumOfRefunds", desc := "()I" } : Jvm.MethodName)) ∈ rr_all := rr_in 246 rfl rfl
set_option maxRecDepth 20000 in
theorem q_232 : (Jvm.Cond.instanceMethod ({ cls := "RopeVotes$Tickets", name := "sumOfRefunds", desc := "()I" } : Jvm.MethodName)) ∈ rr_all := rr_in 247 rfl rfl
set_option maxRecDepth 20000 in
theorem q_233 : (Jvm.Cond.selects "RopeVotes$Tickets" ({ cls := "RopeVotes$Tickets", name := "sumOfRefunds", desc := "()I" } : Jvm.MethodName) ({ cls := "RopeVotes$Tickets", name := "sumOfRefunds", desc := "()I" } : Jvm.MethodName)) ∈ rr_all := rr_in 248 rfl rfl
set_option maxRecDepth 20000 in
theorem q_234 : (Jvm.Cond.code ({ cls := "RopeVotes$Tickets", name := "sumOfRefunds", desc := "()I" } : Jvm.MethodName) prog_5_method_8_code (3 : Nat) (Option.some Jvm.ClassFile.FieldType.int)) ∈ rr_all := rr_in 249 rfl rfl
set_option maxRecDepth 20000 in
theorem q_235 : (Jvm.Cond.methodLink "RopeVotes$Tickets" (49 : Nat) ({ cls := "RopeVotes$Tickets", name := "refundOf", desc := "(I)I" } : Jvm.MethodName)) ∈ rr_all := rr_in 250 rfl rfl
set_option maxRecDepth 20000 in
theorem q_236 : (Jvm.Cond.instanceMethod ({ cls := "RopeVotes$Tickets", name := "refundOf", desc := "(I)I" } : Jvm.MethodName)) ∈ rr_all := rr_in 251 rfl rfl
set_option maxRecDepth 20000 in
theorem q_237 : (Jvm.Cond.selects "RopeVotes$Tickets" ({ cls := "RopeVotes$Tickets", name := "refundOf", desc := "(I)I" } : Jvm.MethodName) ({ cls := "RopeVotes$Tickets", name := "refundOf", desc := "(I)I" } : Jvm.MethodName)) ∈ rr_all := rr_in 252 rfl rfl
set_option maxRecDepth 20000 in
theorem q_238 : (Jvm.Cond.code ({ cls := "RopeVotes$Tickets", name := "refundOf", desc := "(I)I" } : Jvm.MethodName) prog_5_method_7_code (4 : Nat) (Option.some Jvm.ClassFile.FieldType.int)) ∈ rr_all := rr_in 253 rfl rfl
set_option maxRecDepth 20000 in
theorem q_239 : (Jvm.Cond.methodLink "RopeVotes$Tickets" (40 : Nat) ({ cls := "java/lang/Math", name := "max", desc := "(II)I" } : Jvm.MethodName)) ∈ rr_all := rr_in 254 rfl rfl
set_option maxRecDepth 20000 in
theorem q_240 : (Jvm.Cond.static ({ cls := "java/lang/Math", name := "max", desc := "(II)I" } : Jvm.MethodName)) ∈ rr_all := rr_in 255 rfl rfl
set_option maxRecDepth 20000 in
theorem q_241 : (Jvm.Cond.code ({ cls := "java/lang/Math", name := "max", desc := "(II)I" } : Jvm.MethodName) prog_14_method_65_code (2 : Nat) (Option.some Jvm.ClassFile.FieldType.int)) ∈ rr_all := rr_in 256 rfl rfl
set_option maxRecDepth 20000 in
theorem q_242 : (Jvm.Cond.methodLink "RopeVotes$Tickets" (46 : Nat) ({ cls := "java/lang/Math", name := "min", desc := "(II)I" } : Jvm.MethodName)) ∈ rr_all := rr_in 257 rfl rfl
set_option maxRecDepth 20000 in
theorem q_243 : (Jvm.Cond.methodLink "RopeVotesLaw" (75 : Nat) ({ cls := "RopeVotesLaw", name := "putOn", desc := "(LRopeVotes;[J)I" } : Jvm.MethodName)) ∈ rr_all := rr_in 258 rfl rfl
set_option maxRecDepth 20000 in
theorem q_244 : (Jvm.Cond.static ({ cls := "RopeVotesLaw", name := "putOn", desc := "(LRopeVotes;[J)I" } : Jvm.MethodName)) ∈ rr_all := rr_in 259 rfl rfl
set_option maxRecDepth 20000 in
theorem q_246 : (Jvm.Cond.classLink "RopeVotesLaw" (13 : Nat) "java/lang/IllegalStateException") ∈ rr_all := rr_in 261 rfl rfl
set_option maxRecDepth 20000 in
theorem q_247 : (Jvm.Cond.methodLink "RopeVotesLaw" (7 : Nat) ({ cls := "RopeVotes", name := "putOn", desc := "()I" } : Jvm.MethodName)) ∈ rr_all := rr_in 262 rfl rfl
set_option maxRecDepth 20000 in
theorem q_248 : (Jvm.Cond.instanceMethod ({ cls := "RopeVotes", name := "putOn", desc := "()I" } : Jvm.MethodName)) ∈ rr_all := rr_in 263 rfl rfl
set_option maxRecDepth 20000 in
theorem q_249 : (Jvm.Cond.selects "RopeVotes" ({ cls := "RopeVotes", name := "putOn", desc := "()I" } : Jvm.MethodName) ({ cls := "RopeVotes", name := "putOn", desc := "()I" } : Jvm.MethodName)) ∈ rr_all := rr_in 264 rfl rfl
set_option maxRecDepth 20000 in
theorem q_250 : (Jvm.Cond.code ({ cls := "RopeVotes", name := "putOn", desc := "()I" } : Jvm.MethodName) prog_1_method_2_code (1 : Nat) (Option.some Jvm.ClassFile.FieldType.int)) ∈ rr_all := rr_in 265 rfl rfl
set_option maxRecDepth 20000 in
theorem q_251 : (Jvm.Cond.methodLink "RopeVotes" (59 : Nat) ({ cls := "RopeVotes$Loop", name := "canStart", desc := "()Z" } : Jvm.MethodName)) ∈ rr_all := rr_in 266 rfl rfl
set_option maxRecDepth 20000 in
theorem q_252 : (Jvm.Cond.instanceMethod ({ cls := "RopeVotes$Loop", name := "canStart", desc := "()Z" } : Jvm.MethodName)) ∈ rr_all := rr_in 267 rfl rfl
set_option maxRecDepth 20000 in
theorem q_253 : (Jvm.Cond.selects "RopeVotes$Loop" ({ cls := "RopeVotes$Loop", name := "canStart", desc := "()Z" } : Jvm.MethodName) ({ cls := "RopeVotes$Loop", name := "canStart", desc := "()Z" } : Jvm.MethodName)) ∈ rr_all := rr_in 268 rfl rfl
set_option maxRecDepth 20000 in
theorem q_254 : (Jvm.Cond.code ({ cls := "RopeVotes$Loop", name := "canStart", desc := "()Z" } : Jvm.MethodName) prog_3_method_3_code (2 : Nat) (Option.some Jvm.ClassFile.FieldType.boolean)) ∈ rr_all := rr_in 269 rfl rfl
set_option maxRecDepth 20000 in
theorem q_255 : (Jvm.Cond.classLink "RopeVotes" (63 : Nat) "java/lang/IllegalStateException") ∈ rr_all := rr_in 270 rfl rfl
set_option maxRecDepth 20000 in
theorem q_256 : (Jvm.Cond.instantiable "java/lang/IllegalStateException" (6 : Nat)) ∈ rr_all := rr_in 271 rfl rfl
set_option maxRecDepth 20000 in
theorem q_264 : (Jvm.Cond.selects "java/lang/IllegalStateException" ({ cls := "java/lang/Throwable", name := "fillInStackTrace", desc := "(I)Ljava/lang/Throwable;" } : Jvm.MethodName) ({ cls := "java/lang/Throwable", name := "fillInStackTrace", desc := "(I)Ljava/lang/Throwable;" } : Jvm.MethodName)) ∈ rr_all := rr_in 279 rfl rfl
set_option maxRecDepth 20000 in
theorem q_265 : (Jvm.Cond.selects "java/lang/IllegalStateException" ({ cls := "java/lang/Throwable", name := "fillInStackTrace", desc := "()Ljava/lang/Throwable;" } : Jvm.MethodName) ({ cls := "java/lang/Throwable", name := "fillInStackTrace", desc := "()Ljava/lang/Throwable;" } : Jvm.MethodName)) ∈ rr_all := rr_in 280 rfl rfl
set_option maxRecDepth 20000 in
theorem q_276 : (Jvm.Cond.fieldLink "java/lang/Throwable" (198 : Nat) "java/lang/Throwable" "backtrace" "Ljava/lang/Object;") ∈ rr_all := rr_in 291 rfl rfl
set_option maxRecDepth 20000 in
theorem q_278 : (Jvm.Cond.instanceMethod ({ cls := "java/lang/Throwable", name := "<init>", desc := "()V" } : Jvm.MethodName)) ∈ rr_all := rr_in 293 rfl rfl
set_option maxRecDepth 20000 in
theorem q_279 : (Jvm.Cond.code ({ cls := "java/lang/Throwable", name := "<init>", desc := "()V" } : Jvm.MethodName) prog_17_method_1_code (1 : Nat) (Option.none : Option Jvm.ClassFile.FieldType)) ∈ rr_all := rr_in 294 rfl rfl
set_option maxRecDepth 20000 in
theorem q_280 : (Jvm.Cond.methodLink "java/lang/Throwable" (1 : Nat) ({ cls := "java/lang/Object", name := "<init>", desc := "()V" } : Jvm.MethodName)) ∈ rr_all := rr_in 295 rfl rfl
set_option maxRecDepth 20000 in
theorem q_281 : (Jvm.Cond.fieldLink "java/lang/Throwable" (13 : Nat) "java/lang/Throwable" "UNASSIGNED_STACK" "[Ljava/lang/StackTraceElement;") ∈ rr_all := rr_in 296 rfl rfl
set_option maxRecDepth 20000 in
theorem q_283 : (Jvm.Cond.fieldLink "java/lang/Throwable" (20 : Nat) "java/lang/Throwable" "SUPPRESSED_SENTINEL" "Ljava/util/List;") ∈ rr_all := rr_in 298 rfl rfl
set_option maxRecDepth 20000 in
theorem q_285 : (Jvm.Cond.methodLink "java/lang/Throwable" (27 : Nat) ({ cls := "java/lang/Throwable", name := "fillInStackTrace", desc := "()Ljava/lang/Throwable;" } : Jvm.MethodName)) ∈ rr_all := rr_in 300 rfl rfl
set_option maxRecDepth 20000 in
theorem q_286 : (Jvm.Cond.instanceMethod ({ cls := "java/lang/Throwable", name := "fillInStackTrace", desc := "()Ljava/lang/Throwable;" } : Jvm.MethodName)) ∈ rr_all := rr_in 301 rfl rfl
set_option maxRecDepth 20000 in
theorem q_288 : (Jvm.Cond.selects "java/lang/IllegalArgumentException" ({ cls := "java/lang/Throwable", name := "fillInStackTrace", desc := "()Ljava/lang/Throwable;" } : Jvm.MethodName) ({ cls := "java/lang/Throwable", name := "fillInStackTrace", desc := "()Ljava/lang/Throwable;" } : Jvm.MethodName)) ∈ rr_all := rr_in 303 rfl rfl
set_option maxRecDepth 20000 in
theorem q_289 : (Jvm.Cond.selects "java/lang/IndexOutOfBoundsException" ({ cls := "java/lang/Throwable", name := "fillInStackTrace", desc := "()Ljava/lang/Throwable;" } : Jvm.MethodName) ({ cls := "java/lang/Throwable", name := "fillInStackTrace", desc := "()Ljava/lang/Throwable;" } : Jvm.MethodName)) ∈ rr_all := rr_in 304 rfl rfl
set_option maxRecDepth 20000 in
theorem q_291 : (Jvm.Cond.methodLink "java/lang/Throwable" (202 : Nat) ({ cls := "java/lang/Throwable", name := "fillInStackTrace", desc := "(I)Ljava/lang/Throwable;" } : Jvm.MethodName)) ∈ rr_all := rr_in 306 rfl rfl
set_option maxRecDepth 20000 in
theorem q_293 : (Jvm.Cond.instanceMethod ({ cls := "java/lang/Throwable", name := "fillInStackTrace", desc := "(I)Ljava/lang/Throwable;" } : Jvm.MethodName)) ∈ rr_all := rr_in 308 rfl rfl
set_option maxRecDepth 20000 in
theorem q_294 : (Jvm.Cond.instantiable "java/lang/Throwable" (6 : Nat)) ∈ rr_all := rr_in 309 rfl rfl
set_option maxRecDepth 20000 in
theorem q_297 : (Jvm.Cond.methodLink "RopeVotes" (67 : Nat) ({ cls := "java/lang/IllegalStateException", name := "<init>", desc := "(Ljava/lang/String;)V" } : Jvm.MethodName)) ∈ rr_all := rr_in 312 rfl rfl
set_option maxRecDepth 20000 in
theorem q_298 : (Jvm.Cond.instanceMethod ({ cls := "java/lang/IllegalStateException", name := "<init>", desc := "(Ljava/lang/String;)V" } : Jvm.MethodName)) ∈ rr_all := rr_in 313 rfl rfl
set_option maxRecDepth 20000 in
theorem q_299 : (Jvm.Cond.code ({ cls := "java/lang/IllegalStateException", name := "<init>", desc := "(Ljava/lang/String;)V" } : Jvm.MethodName) prog_11_method_2_code (2 : Nat) (Option.none : Option Jvm.ClassFile.FieldType)) ∈ rr_all := rr_in 314 rfl rfl
set_option maxRecDepth 20000 in
theorem q_300 : (Jvm.Cond.methodLink "java/lang/IllegalStateException" (7 : Nat) ({ cls := "java/lang/RuntimeException", name := "<init>", desc := "(Ljava/lang/String;)V" } : Jvm.MethodName)) ∈ rr_all := rr_in 315 rfl rfl
set_option maxRecDepth 20000 in
theorem q_301 : (Jvm.Cond.instanceMethod ({ cls := "java/lang/RuntimeException", name := "<init>", desc := "(Ljava/lang/String;)V" } : Jvm.MethodName)) ∈ rr_all := rr_in 316 rfl rfl
set_option maxRecDepth 20000 in
theorem q_302 : (Jvm.Cond.code ({ cls := "java/lang/RuntimeException", name := "<init>", desc := "(Ljava/lang/String;)V" } : Jvm.MethodName) prog_15_method_2_code (2 : Nat) (Option.none : Option Jvm.ClassFile.FieldType)) ∈ rr_all := rr_in 317 rfl rfl
set_option maxRecDepth 20000 in
theorem q_303 : (Jvm.Cond.methodLink "java/lang/RuntimeException" (7 : Nat) ({ cls := "java/lang/Exception", name := "<init>", desc := "(Ljava/lang/String;)V" } : Jvm.MethodName)) ∈ rr_all := rr_in 318 rfl rfl
set_option maxRecDepth 20000 in
theorem q_304 : (Jvm.Cond.instanceMethod ({ cls := "java/lang/Exception", name := "<init>", desc := "(Ljava/lang/String;)V" } : Jvm.MethodName)) ∈ rr_all := rr_in 319 rfl rfl
set_option maxRecDepth 20000 in
theorem q_305 : (Jvm.Cond.code ({ cls := "java/lang/Exception", name := "<init>", desc := "(Ljava/lang/String;)V" } : Jvm.MethodName) prog_9_method_2_code (2 : Nat) (Option.none : Option Jvm.ClassFile.FieldType)) ∈ rr_all := rr_in 320 rfl rfl
set_option maxRecDepth 20000 in
theorem q_306 : (Jvm.Cond.methodLink "java/lang/Exception" (7 : Nat) ({ cls := "java/lang/Throwable", name := "<init>", desc := "(Ljava/lang/String;)V" } : Jvm.MethodName)) ∈ rr_all := rr_in 321 rfl rfl
set_option maxRecDepth 20000 in
theorem q_307 : (Jvm.Cond.instanceMethod ({ cls := "java/lang/Throwable", name := "<init>", desc := "(Ljava/lang/String;)V" } : Jvm.MethodName)) ∈ rr_all := rr_in 322 rfl rfl
set_option maxRecDepth 20000 in
theorem q_308 : (Jvm.Cond.code ({ cls := "java/lang/Throwable", name := "<init>", desc := "(Ljava/lang/String;)V" } : Jvm.MethodName) prog_17_method_2_code (2 : Nat) (Option.none : Option Jvm.ClassFile.FieldType)) ∈ rr_all := rr_in 323 rfl rfl
set_option maxRecDepth 20000 in
theorem q_309 : (Jvm.Cond.fieldLink "java/lang/Throwable" (198 : Nat) "java/lang/Throwable" "backtrace" "Ljava/lang/Object;") ∈ rr_all := rr_in 324 rfl rfl
set_option maxRecDepth 20000 in
theorem q_310 : (Jvm.Cond.fieldLink "java/lang/Throwable" (31 : Nat) "java/lang/Throwable" "detailMessage" "Ljava/lang/String;") ∈ rr_all := rr_in 325 rfl rfl
set_option maxRecDepth 20000 in
theorem q_311 : (Jvm.Cond.fieldLink "java/lang/Throwable" (7 : Nat) "java/lang/Throwable" "cause" "Ljava/lang/Throwable;") ∈ rr_all := rr_in 326 rfl rfl
set_option maxRecDepth 20000 in
theorem q_312 : (Jvm.Cond.fieldLink "java/lang/Throwable" (17 : Nat) "java/lang/Throwable" "stackTrace" "[Ljava/lang/StackTraceElement;") ∈ rr_all := rr_in 327 rfl rfl
set_option maxRecDepth 20000 in
theorem q_313 : (Jvm.Cond.fieldLink "java/lang/Throwable" (24 : Nat) "java/lang/Throwable" "suppressedExceptions" "Ljava/util/List;") ∈ rr_all := rr_in 328 rfl rfl
set_option maxRecDepth 20000 in
theorem q_322 : (Jvm.Cond.arrayClass Jvm.ClassFile.FieldType.byte) ∈ rr_all := rr_in 337 rfl rfl
set_option maxRecDepth 20000 in
theorem q_323 : (Jvm.Cond.methodLink "RopeVotes" (70 : Nat) ({ cls := "RopeVotes$Loop", name := "start", desc := "(I)I" } : Jvm.MethodName)) ∈ rr_all := rr_in 338 rfl rfl
set_option maxRecDepth 20000 in
theorem q_324 : (Jvm.Cond.instanceMethod ({ cls := "RopeVotes$Loop", name := "start", desc := "(I)I" } : Jvm.MethodName)) ∈ rr_all := rr_in 339 rfl rfl
set_option maxRecDepth 20000 in
theorem q_325 : (Jvm.Cond.selects "RopeVotes$Loop" ({ cls := "RopeVotes$Loop", name := "start", desc := "(I)I" } : Jvm.MethodName) ({ cls := "RopeVotes$Loop", name := "start", desc := "(I)I" } : Jvm.MethodName)) ∈ rr_all := rr_in 340 rfl rfl
set_option maxRecDepth 20000 in
theorem q_326 : (Jvm.Cond.code ({ cls := "RopeVotes$Loop", name := "start", desc := "(I)I" } : Jvm.MethodName) prog_3_method_4_code (3 : Nat) (Option.some Jvm.ClassFile.FieldType.int)) ∈ rr_all := rr_in 341 rfl rfl
set_option maxRecDepth 20000 in
theorem q_327 : (Jvm.Cond.methodLink "RopeVotesLaw" (84 : Nat) ({ cls := "RopeVotesLaw", name := "takeOff", desc := "(LRopeVotes;I[J)I" } : Jvm.MethodName)) ∈ rr_all := rr_in 342 rfl rfl
set_option maxRecDepth 20000 in
theorem q_328 : (Jvm.Cond.static ({ cls := "RopeVotesLaw", name := "takeOff", desc := "(LRopeVotes;I[J)I" } : Jvm.MethodName)) ∈ rr_all := rr_in 343 rfl rfl
set_option maxRecDepth 20000 in
theorem q_330 : (Jvm.Cond.classLink "RopeVotesLaw" (19 : Nat) "java/lang/IndexOutOfBoundsException") ∈ rr_all := rr_in 345 rfl rfl
set_option maxRecDepth 20000 in
theorem q_331 : (Jvm.Cond.methodLink "RopeVotesLaw" (15 : Nat) ({ cls := "RopeVotes", name := "takeOff", desc := "(I)I" } : Jvm.MethodName)) ∈ rr_all := rr_in 346 rfl rfl
set_option maxRecDepth 20000 in
theorem q_332 : (Jvm.Cond.instanceMethod ({ cls := "RopeVotes", name := "takeOff", desc := "(I)I" } : Jvm.MethodName)) ∈ rr_all := rr_in 347 rfl rfl
set_option maxRecDepth 20000 in
theorem q_333 : (Jvm.Cond.selects "RopeVotes" ({ cls := "RopeVotes", name := "takeOff", desc := "(I)I" } : Jvm.MethodName) ({ cls := "RopeVotes", name := "takeOff", desc := "(I)I" } : Jvm.MethodName)) ∈ rr_all := rr_in 348 rfl rfl
set_option maxRecDepth 20000 in
theorem q_334 : (Jvm.Cond.code ({ cls := "RopeVotes", name := "takeOff", desc := "(I)I" } : Jvm.MethodName) prog_1_method_3_code (2 : Nat) (Option.some Jvm.ClassFile.FieldType.int)) ∈ rr_all := rr_in 349 rfl rfl
set_option maxRecDepth 20000 in
theorem q_335 : (Jvm.Cond.methodLink "RopeVotes" (74 : Nat) ({ cls := "RopeVotes$Loop", name := "has", desc := "(I)Z" } : Jvm.MethodName)) ∈ rr_all := rr_in 350 rfl rfl
set_option maxRecDepth 20000 in
theorem q_336 : (Jvm.Cond.instanceMethod ({ cls := "RopeVotes$Loop", name := "has", desc := "(I)Z" } : Jvm.MethodName)) ∈ rr_all := rr_in 351 rfl rfl
set_option maxRecDepth 20000 in
theorem q_337 : (Jvm.Cond.selects "RopeVotes$Loop" ({ cls := "RopeVotes$Loop", name := "has", desc := "(I)Z" } : Jvm.MethodName) ({ cls := "RopeVotes$Loop", name := "has", desc := "(I)Z" } : Jvm.MethodName)) ∈ rr_all := rr_in 352 rfl rfl
set_option maxRecDepth 20000 in
theorem q_338 : (Jvm.Cond.code ({ cls := "RopeVotes$Loop", name := "has", desc := "(I)Z" } : Jvm.MethodName) prog_3_method_2_code (2 : Nat) (Option.some Jvm.ClassFile.FieldType.boolean)) ∈ rr_all := rr_in 353 rfl rfl
set_option maxRecDepth 20000 in
theorem q_339 : (Jvm.Cond.classLink "RopeVotes" (78 : Nat) "java/lang/IndexOutOfBoundsException") ∈ rr_all := rr_in 354 rfl rfl
set_option maxRecDepth 20000 in
theorem q_340 : (Jvm.Cond.instantiable "java/lang/IndexOutOfBoundsException" (6 : Nat)) ∈ rr_all := rr_in 355 rfl rfl
set_option maxRecDepth 20000 in
theorem q_342 : (Jvm.Cond.selects "java/lang/IndexOutOfBoundsException" ({ cls := "java/lang/Throwable", name := "fillInStackTrace", desc := "(I)Ljava/lang/Throwable;" } : Jvm.MethodName) ({ cls := "java/lang/Throwable", name := "fillInStackTrace", desc := "(I)Ljava/lang/Throwable;" } : Jvm.MethodName)) ∈ rr_all := rr_in 357 rfl rfl
set_option maxRecDepth 20000 in
theorem q_349 : (Jvm.Cond.methodLink "RopeVotes" (82 : Nat) ({ cls := "java/lang/IndexOutOfBoundsException", name := "<init>", desc := "(Ljava/lang/String;)V" } : Jvm.MethodName)) ∈ rr_all := rr_in 364 rfl rfl
set_option maxRecDepth 20000 in
theorem q_350 : (Jvm.Cond.instanceMethod ({ cls := "java/lang/IndexOutOfBoundsException", name := "<init>", desc := "(Ljava/lang/String;)V" } : Jvm.MethodName)) ∈ rr_all := rr_in 365 rfl rfl
set_option maxRecDepth 20000 in
theorem q_351 : (Jvm.Cond.code ({ cls := "java/lang/IndexOutOfBoundsException", name := "<init>", desc := "(Ljava/lang/String;)V" } : Jvm.MethodName) prog_12_method_2_code (2 : Nat) (Option.none : Option Jvm.ClassFile.FieldType)) ∈ rr_all := rr_in 366 rfl rfl
set_option maxRecDepth 20000 in
theorem q_352 : (Jvm.Cond.methodLink "java/lang/IndexOutOfBoundsException" (7 : Nat) ({ cls := "java/lang/RuntimeException", name := "<init>", desc := "(Ljava/lang/String;)V" } : Jvm.MethodName)) ∈ rr_all := rr_in 367 rfl rfl
set_option maxRecDepth 20000 in
theorem q_355 : (Jvm.Cond.methodLink "RopeVotes" (86 : Nat) ({ cls := "RopeVotes", name := "isInBottom", desc := "(I)Z" } : Jvm.MethodName)) ∈ rr_all := rr_in 370 rfl rfl
set_option maxRecDepth 20000 in
theorem q_356 : (Jvm.Cond.static ({ cls := "RopeVotes", name := "isInBottom", desc := "(I)Z" } : Jvm.MethodName)) ∈ rr_all := rr_in 371 rfl rfl
set_option maxRecDepth 20000 in
theorem q_357 : (Jvm.Cond.code ({ cls := "RopeVotes", name := "isInBottom", desc := "(I)Z" } : Jvm.MethodName) prog_1_method_32_code (1 : Nat) (Option.some Jvm.ClassFile.FieldType.boolean)) ∈ rr_all := rr_in 372 rfl rfl
set_option maxRecDepth 20000 in
theorem q_358 : (Jvm.Cond.methodLink "RopeVotes" (89 : Nat) ({ cls := "RopeVotes$Tickets", name := "peopleIn", desc := "(I)I" } : Jvm.MethodName)) ∈ rr_all := rr_in 373 rfl rfl
set_option maxRecDepth 20000 in
theorem q_359 : (Jvm.Cond.instanceMethod ({ cls := "RopeVotes$Tickets", name := "peopleIn", desc := "(I)I" } : Jvm.MethodName)) ∈ rr_all := rr_in 374 rfl rfl
set_option maxRecDepth 20000 in
theorem q_360 : (Jvm.Cond.selects "RopeVotes$Tickets" ({ cls := "RopeVotes$Tickets", name := "peopleIn", desc := "(I)I" } : Jvm.MethodName) ({ cls := "RopeVotes$Tickets", name := "peopleIn", desc := "(I)I" } : Jvm.MethodName)) ∈ rr_all := rr_in 375 rfl rfl
set_option maxRecDepth 20000 in
theorem q_361 : (Jvm.Cond.code ({ cls := "RopeVotes$Tickets", name := "peopleIn", desc := "(I)I" } : Jvm.MethodName) prog_5_method_5_code (4 : Nat) (Option.some Jvm.ClassFile.FieldType.int)) ∈ rr_all := rr_in 376 rfl rfl
set_option maxRecDepth 20000 in
theorem q_363 : (Jvm.Cond.methodLink "RopeVotesLaw" (92 : Nat) ({ cls := "RopeVotesLaw", name := "place", desc := "(LRopeVotes;I[J)I" } : Jvm.MethodName)) ∈ rr_all := rr_in 378 rfl rfl
set_option maxRecDepth 20000 in
theorem q_364 : (Jvm.Cond.static ({ cls := "RopeVotesLaw", name := "place", desc := "(LRopeVotes;I[J)I" } : Jvm.MethodName)) ∈ rr_all := rr_in 379 rfl rfl
set_option maxRecDepth 20000 in
theorem q_366 : (Jvm.Cond.methodLink "RopeVotesLaw" (21 : Nat) ({ cls := "RopeVotes", name := "place", desc := "(I)I" } : Jvm.MethodName)) ∈ rr_all := rr_in 381 rfl rfl
set_option maxRecDepth 20000 in
theorem q_367 : (Jvm.Cond.instanceMethod ({ cls := "RopeVotes", name := "place", desc := "(I)I" } : Jvm.MethodName)) ∈ rr_all := rr_in 382 rfl rfl
set_option maxRecDepth 20000 in
theorem q_368 : (Jvm.Cond.selects "RopeVotes" ({ cls := "RopeVotes", name := "place", desc := "(I)I" } : Jvm.MethodName) ({ cls := "RopeVotes", name := "place", desc := "(I)I" } : Jvm.MethodName)) ∈ rr_all := rr_in 383 rfl rfl
set_option maxRecDepth 20000 in
theorem q_369 : (Jvm.Cond.code ({ cls := "RopeVotes", name := "place", desc := "(I)I" } : Jvm.MethodName) prog_1_method_5_code (2 : Nat) (Option.some Jvm.ClassFile.FieldType.int)) ∈ rr_all := rr_in 384 rfl rfl
set_option maxRecDepth 20000 in
theorem q_370 : (Jvm.Cond.methodLink "RopeVotesLaw" (95 : Nat) ({ cls := "RopeVotesLaw", name := "placeByTurns", desc := "(LRopeVotes;I[J)I" } : Jvm.MethodName)) ∈ rr_all := rr_in 385 rfl rfl
set_option maxRecDepth 20000 in
theorem q_371 : (Jvm.Cond.static ({ cls := "RopeVotesLaw", name := "placeByTurns", desc := "(LRopeVotes;I[J)I" } : Jvm.MethodName)) ∈ rr_all := rr_in 386 rfl rfl
set_option maxRecDepth 20000 in
theorem q_373 : (Jvm.Cond.methodLink "RopeVotesLaw" (24 : Nat) ({ cls := "RopeVotes", name := "placeByTurns", desc := "(I)I" } : Jvm.MethodName)) ∈ rr_all := rr_in 388 rfl rfl
set_option maxRecDepth 20000 in
theorem q_374 : (Jvm.Cond.instanceMethod ({ cls := "RopeVotes", name := "placeByTurns", desc := "(I)I" } : Jvm.MethodName)) ∈ rr_all := rr_in 389 rfl rfl
set_option maxRecDepth 20000 in
theorem q_375 : (Jvm.Cond.selects "RopeVotes" ({ cls := "RopeVotes", name := "placeByTurns", desc := "(I)I" } : Jvm.MethodName) ({ cls := "RopeVotes", name := "placeByTurns", desc := "(I)I" } : Jvm.MethodName)) ∈ rr_all := rr_in 390 rfl rfl
set_option maxRecDepth 20000 in
theorem q_376 : (Jvm.Cond.code ({ cls := "RopeVotes", name := "placeByTurns", desc := "(I)I" } : Jvm.MethodName) prog_1_method_6_code (2 : Nat) (Option.some Jvm.ClassFile.FieldType.int)) ∈ rr_all := rr_in 391 rfl rfl
set_option maxRecDepth 20000 in
theorem q_377 : (Jvm.Cond.methodLink "RopeVotesLaw" (102 : Nat) ({ cls := "RopeVotesLaw", name := "wind", desc := "(LRopeVotes;II[J)I" } : Jvm.MethodName)) ∈ rr_all := rr_in 392 rfl rfl
set_option maxRecDepth 20000 in
theorem q_378 : (Jvm.Cond.static ({ cls := "RopeVotesLaw", name := "wind", desc := "(LRopeVotes;II[J)I" } : Jvm.MethodName)) ∈ rr_all := rr_in 393 rfl rfl
set_option maxRecDepth 20000 in
theorem q_380 : (Jvm.Cond.classLink "RopeVotesLaw" (31 : Nat) "java/lang/IllegalArgumentException") ∈ rr_all := rr_in 395 rfl rfl
set_option maxRecDepth 20000 in
theorem q_381 : (Jvm.Cond.methodLink "RopeVotesLaw" (27 : Nat) ({ cls := "RopeVotes", name := "wind", desc := "(II)I" } : Jvm.MethodName)) ∈ rr_all := rr_in 396 rfl rfl
set_option maxRecDepth 20000 in
theorem q_382 : (Jvm.Cond.instanceMethod ({ cls := "RopeVotes", name := "wind", desc := "(II)I" } : Jvm.MethodName)) ∈ rr_all := rr_in 397 rfl rfl
set_option maxRecDepth 20000 in
theorem q_383 : (Jvm.Cond.selects "RopeVotes" ({ cls := "RopeVotes", name := "wind", desc := "(II)I" } : Jvm.MethodName) ({ cls := "RopeVotes", name := "wind", desc := "(II)I" } : Jvm.MethodName)) ∈ rr_all := rr_in 398 rfl rfl
set_option maxRecDepth 20000 in
theorem q_384 : (Jvm.Cond.code ({ cls := "RopeVotes", name := "wind", desc := "(II)I" } : Jvm.MethodName) prog_1_method_8_code (3 : Nat) (Option.some Jvm.ClassFile.FieldType.int)) ∈ rr_all := rr_in 399 rfl rfl
set_option maxRecDepth 20000 in
theorem q_385 : (Jvm.Cond.methodLink "RopeVotes" (108 : Nat) ({ cls := "RopeVotes", name := "isTower", desc := "(I)Z" } : Jvm.MethodName)) ∈ rr_all := rr_in 400 rfl rfl
set_option maxRecDepth 20000 in
theorem q_386 : (Jvm.Cond.static ({ cls := "RopeVotes", name := "isTower", desc := "(I)Z" } : Jvm.MethodName)) ∈ rr_all := rr_in 401 rfl rfl
set_option maxRecDepth 20000 in
theorem q_387 : (Jvm.Cond.code ({ cls := "RopeVotes", name := "isTower", desc := "(I)Z" } : Jvm.MethodName) prog_1_method_31_code (1 : Nat) (Option.some Jvm.ClassFile.FieldType.boolean)) ∈ rr_all := rr_in 402 rfl rfl
set_option maxRecDepth 20000 in
theorem q_389 : (Jvm.Cond.classLink "RopeVotes" (113 : Nat) "java/lang/IllegalArgumentException") ∈ rr_all := rr_in 404 rfl rfl
set_option maxRecDepth 20000 in
theorem q_390 : (Jvm.Cond.instantiable "java/lang/IllegalArgumentException" (6 : Nat)) ∈ rr_all := rr_in 405 rfl rfl
set_option maxRecDepth 20000 in
theorem q_392 : (Jvm.Cond.selects "java/lang/IllegalArgumentException" ({ cls := "java/lang/Throwable", name := "fillInStackTrace", desc := "(I)Ljava/lang/Throwable;" } : Jvm.MethodName) ({ cls := "java/lang/Throwable", name := "fillInStackTrace", desc := "(I)Ljava/lang/Throwable;" } : Jvm.MethodName)) ∈ rr_all := rr_in 407 rfl rfl
set_option maxRecDepth 20000 in
theorem q_399 : (Jvm.Cond.methodLink "RopeVotes" (117 : Nat) ({ cls := "java/lang/IllegalArgumentException", name := "<init>", desc := "(Ljava/lang/String;)V" } : Jvm.MethodName)) ∈ rr_all := rr_in 414 rfl rfl
set_option maxRecDepth 20000 in
theorem q_400 : (Jvm.Cond.instanceMethod ({ cls := "java/lang/IllegalArgumentException", name := "<init>", desc := "(Ljava/lang/String;)V" } : Jvm.MethodName)) ∈ rr_all := rr_in 415 rfl rfl
set_option maxRecDepth 20000 in
theorem q_401 : (Jvm.Cond.code ({ cls := "java/lang/IllegalArgumentException", name := "<init>", desc := "(Ljava/lang/String;)V" } : Jvm.MethodName) prog_10_method_2_code (2 : Nat) (Option.none : Option Jvm.ClassFile.FieldType)) ∈ rr_all := rr_in 416 rfl rfl
set_option maxRecDepth 20000 in
theorem q_402 : (Jvm.Cond.methodLink "java/lang/IllegalArgumentException" (7 : Nat) ({ cls := "java/lang/RuntimeException", name := "<init>", desc := "(Ljava/lang/String;)V" } : Jvm.MethodName)) ∈ rr_all := rr_in 417 rfl rfl
set_option maxRecDepth 20000 in
theorem q_405 : (Jvm.Cond.methodLink "RopeVotes" (121 : Nat) ({ cls := "RopeVotes$Towers", name := "ballotOf", desc := "(I)I" } : Jvm.MethodName)) ∈ rr_all := rr_in 420 rfl rfl
set_option maxRecDepth 20000 in
theorem q_406 : (Jvm.Cond.instanceMethod ({ cls := "RopeVotes$Towers", name := "ballotOf", desc := "(I)I" } : Jvm.MethodName)) ∈ rr_all := rr_in 421 rfl rfl
set_option maxRecDepth 20000 in
theorem q_407 : (Jvm.Cond.selects "RopeVotes$Towers" ({ cls := "RopeVotes$Towers", name := "ballotOf", desc := "(I)I" } : Jvm.MethodName) ({ cls := "RopeVotes$Towers", name := "ballotOf", desc := "(I)I" } : Jvm.MethodName)) ∈ rr_all := rr_in 422 rfl rfl
set_option maxRecDepth 20000 in
theorem q_408 : (Jvm.Cond.code ({ cls := "RopeVotes$Towers", name := "ballotOf", desc := "(I)I" } : Jvm.MethodName) prog_6_method_2_code (2 : Nat) (Option.some Jvm.ClassFile.FieldType.int)) ∈ rr_all := rr_in 423 rfl rfl
set_option maxRecDepth 20000 in
theorem q_409 : (Jvm.Cond.methodLink "RopeVotesLaw" (106 : Nat) ({ cls := "RopeVotesLaw", name := "setLimits", desc := "(LRopeVotes;III[J)I" } : Jvm.MethodName)) ∈ rr_all := rr_in 424 rfl rfl
set_option maxRecDepth 20000 in
theorem q_410 : (Jvm.Cond.static ({ cls := "RopeVotesLaw", name := "setLimits", desc := "(LRopeVotes;III[J)I" } : Jvm.MethodName)) ∈ rr_all := rr_in 425 rfl rfl
set_option maxRecDepth 20000 in
theorem q_412 : (Jvm.Cond.methodLink "RopeVotesLaw" (33 : Nat) ({ cls := "RopeVotes", name := "setLimits", desc := "(III)I" } : Jvm.MethodName)) ∈ rr_all := rr_in 427 rfl rfl
set_option maxRecDepth 20000 in
theorem q_413 : (Jvm.Cond.instanceMethod ({ cls := "RopeVotes", name := "setLimits", desc := "(III)I" } : Jvm.MethodName)) ∈ rr_all := rr_in 428 rfl rfl
set_option maxRecDepth 20000 in
theorem q_414 : (Jvm.Cond.selects "RopeVotes" ({ cls := "RopeVotes", name := "setLimits", desc := "(III)I" } : Jvm.MethodName) ({ cls := "RopeVotes", name := "setLimits", desc := "(III)I" } : Jvm.MethodName)) ∈ rr_all := rr_in 429 rfl rfl
set_option maxRecDepth 20000 in
theorem q_415 : (Jvm.Cond.code ({ cls := "RopeVotes", name := "setLimits", desc := "(III)I" } : Jvm.MethodName) prog_1_method_9_code (4 : Nat) (Option.some Jvm.ClassFile.FieldType.int)) ∈ rr_all := rr_in 430 rfl rfl
set_option maxRecDepth 20000 in
theorem q_417 : (Jvm.Cond.methodLink "RopeVotesLaw" (110 : Nat) ({ cls := "RopeVotesLaw", name := "cut", desc := "(LRopeVotes;IZ[J)I" } : Jvm.MethodName)) ∈ rr_all := rr_in 432 rfl rfl
set_option maxRecDepth 20000 in
theorem q_418 : (Jvm.Cond.static ({ cls := "RopeVotesLaw", name := "cut", desc := "(LRopeVotes;IZ[J)I" } : Jvm.MethodName)) ∈ rr_all := rr_in 433 rfl rfl
set_option maxRecDepth 20000 in
theorem q_420 : (Jvm.Cond.methodLink "RopeVotesLaw" (37 : Nat) ({ cls := "RopeVotes", name := "cut", desc := "(IZ)I" } : Jvm.MethodName)) ∈ rr_all := rr_in 435 rfl rfl
set_option maxRecDepth 20000 in
theorem q_421 : (Jvm.Cond.instanceMethod ({ cls := "RopeVotes", name := "cut", desc := "(IZ)I" } : Jvm.MethodName)) ∈ rr_all := rr_in 436 rfl rfl
set_option maxRecDepth 20000 in
theorem q_422 : (Jvm.Cond.selects "RopeVotes" ({ cls := "RopeVotes", name := "cut", desc := "(IZ)I" } : Jvm.MethodName) ({ cls := "RopeVotes", name := "cut", desc := "(IZ)I" } : Jvm.MethodName)) ∈ rr_all := rr_in 437 rfl rfl
set_option maxRecDepth 20000 in
theorem q_423 : (Jvm.Cond.code ({ cls := "RopeVotes", name := "cut", desc := "(IZ)I" } : Jvm.MethodName) prog_1_method_10_code (3 : Nat) (Option.some Jvm.ClassFile.FieldType.int)) ∈ rr_all := rr_in 438 rfl rfl
set_option maxRecDepth 20000 in
theorem q_424 : (Jvm.Cond.methodLink "RopeVotes" (135 : Nat) ({ cls := "RopeVotes$Towers", name := "countCutOff", desc := "()I" } : Jvm.MethodName)) ∈ rr_all := rr_in 439 rfl rfl
set_option maxRecDepth 20000 in
theorem q_425 : (Jvm.Cond.instanceMethod ({ cls := "RopeVotes$Towers", name := "countCutOff", desc := "()I" } : Jvm.MethodName)) ∈ rr_all := rr_in 440 rfl rfl
set_option maxRecDepth 20000 in
theorem q_426 : (Jvm.Cond.selects "RopeVotes$Towers" ({ cls := "RopeVotes$Towers", name := "countCutOff", desc := "()I" } : Jvm.MethodName) ({ cls := "RopeVotes$Towers", name := "countCutOff", desc := "()I" } : Jvm.MethodName)) ∈ rr_all := rr_in 441 rfl rfl
set_option maxRecDepth 20000 in
theorem q_427 : (Jvm.Cond.code ({ cls := "RopeVotes$Towers", name := "countCutOff", desc := "()I" } : Jvm.MethodName) prog_6_method_3_code (3 : Nat) (Option.some Jvm.ClassFile.FieldType.int)) ∈ rr_all := rr_in 442 rfl rfl
set_option maxRecDepth 20000 in
theorem q_428 : (Jvm.Cond.methodLink "RopeVotesLaw" (114 : Nat) ({ cls := "RopeVotesLaw", name := "vote", desc := "(LRopeVotes;I[J)I" } : Jvm.MethodName)) ∈ rr_all := rr_in 443 rfl rfl
set_option maxRecDepth 20000 in
theorem q_429 : (Jvm.Cond.static ({ cls := "RopeVotesLaw", name := "vote", desc := "(LRopeVotes;I[J)I" } : Jvm.MethodName)) ∈ rr_all := rr_in 444 rfl rfl
set_option maxRecDepth 20000 in
theorem q_431 : (Jvm.Cond.methodLink "RopeVotesLaw" (41 : Nat) ({ cls := "RopeVotes", name := "vote", desc := "(I)I" } : Jvm.MethodName)) ∈ rr_all := rr_in 446 rfl rfl
set_option maxRecDepth 20000 in
theorem q_432 : (Jvm.Cond.instanceMethod ({ cls := "RopeVotes", name := "vote", desc := "(I)I" } : Jvm.MethodName)) ∈ rr_all := rr_in 447 rfl rfl
set_option maxRecDepth 20000 in
theorem q_433 : (Jvm.Cond.selects "RopeVotes" ({ cls := "RopeVotes", name := "vote", desc := "(I)I" } : Jvm.MethodName) ({ cls := "RopeVotes", name := "vote", desc := "(I)I" } : Jvm.MethodName)) ∈ rr_all := rr_in 448 rfl rfl
set_option maxRecDepth 20000 in
theorem q_434 : (Jvm.Cond.code ({ cls := "RopeVotes", name := "vote", desc := "(I)I" } : Jvm.MethodName) prog_1_method_11_code (2 : Nat) (Option.some Jvm.ClassFile.FieldType.int)) ∈ rr_all := rr_in 449 rfl rfl
set_option maxRecDepth 20000 in
theorem q_435 : (Jvm.Cond.methodLink "RopeVotesLaw" (117 : Nat) ({ cls := "RopeVotesLaw", name := "voteTime", desc := "(LRopeVotes;I[J)I" } : Jvm.MethodName)) ∈ rr_all := rr_in 450 rfl rfl
set_option maxRecDepth 20000 in
theorem q_436 : (Jvm.Cond.static ({ cls := "RopeVotesLaw", name := "voteTime", desc := "(LRopeVotes;I[J)I" } : Jvm.MethodName)) ∈ rr_all := rr_in 451 rfl rfl
set_option maxRecDepth 20000 in
theorem q_438 : (Jvm.Cond.methodLink "RopeVotesLaw" (44 : Nat) ({ cls := "RopeVotes", name := "voteTime", desc := "(I)I" } : Jvm.MethodName)) ∈ rr_all := rr_in 453 rfl rfl
set_option maxRecDepth 20000 in
theorem q_439 : (Jvm.Cond.instanceMethod ({ cls := "RopeVotes", name := "voteTime", desc := "(I)I" } : Jvm.MethodName)) ∈ rr_all := rr_in 454 rfl rfl
set_option maxRecDepth 20000 in
theorem q_440 : (Jvm.Cond.selects "RopeVotes" ({ cls := "RopeVotes", name := "voteTime", desc := "(I)I" } : Jvm.MethodName) ({ cls := "RopeVotes", name := "voteTime", desc := "(I)I" } : Jvm.MethodName)) ∈ rr_all := rr_in 455 rfl rfl
set_option maxRecDepth 20000 in
theorem q_441 : (Jvm.Cond.code ({ cls := "RopeVotes", name := "voteTime", desc := "(I)I" } : Jvm.MethodName) prog_1_method_12_code (2 : Nat) (Option.some Jvm.ClassFile.FieldType.int)) ∈ rr_all := rr_in 456 rfl rfl
set_option maxRecDepth 20000 in
theorem q_442 : (Jvm.Cond.methodLink "RopeVotesLaw" (137 : Nat) ({ cls := "RopeVotesLaw", name := "pass", desc := "(LRopeVotes;I[J)I" } : Jvm.MethodName)) ∈ rr_all := rr_in 457 rfl rfl
set_option maxRecDepth 20000 in
theorem q_443 : (Jvm.Cond.static ({ cls := "RopeVotesLaw", name := "pass", desc := "(LRopeVotes;I[J)I" } : Jvm.MethodName)) ∈ rr_all := rr_in 458 rfl rfl
set_option maxRecDepth 20000 in
theorem q_445 : (Jvm.Cond.methodLink "RopeVotesLaw" (47 : Nat) ({ cls := "RopeVotes", name := "pass", desc := "(I)I" } : Jvm.MethodName)) ∈ rr_all := rr_in 460 rfl rfl
set_option maxRecDepth 20000 in
theorem q_446 : (Jvm.Cond.instanceMethod ({ cls := "RopeVotes", name := "pass", desc := "(I)I" } : Jvm.MethodName)) ∈ rr_all := rr_in 461 rfl rfl
set_option maxRecDepth 20000 in
theorem q_447 : (Jvm.Cond.selects "RopeVotes" ({ cls := "RopeVotes", name := "pass", desc := "(I)I" } : Jvm.MethodName) ({ cls := "RopeVotes", name := "pass", desc := "(I)I" } : Jvm.MethodName)) ∈ rr_all := rr_in 462 rfl rfl
set_option maxRecDepth 20000 in
theorem q_448 : (Jvm.Cond.code ({ cls := "RopeVotes", name := "pass", desc := "(I)I" } : Jvm.MethodName) prog_1_method_17_code (4 : Nat) (Option.some Jvm.ClassFile.FieldType.int)) ∈ rr_all := rr_in 463 rfl rfl
set_option maxRecDepth 20000 in
theorem q_451 : (Jvm.Cond.methodLink "RopeVotes" (157 : Nat) ({ cls := "RopeVotes", name := "passMinute", desc := "()V" } : Jvm.MethodName)) ∈ rr_all := rr_in 466 rfl rfl
set_option maxRecDepth 20000 in
theorem q_453 : (Jvm.Cond.instanceMethod ({ cls := "RopeVotes", name := "passMinute", desc := "()V" } : Jvm.MethodName)) ∈ rr_all := rr_in 468 rfl rfl
set_option maxRecDepth 20000 in
theorem q_454 : (Jvm.Cond.code ({ cls := "RopeVotes", name := "passMinute", desc := "()V" } : Jvm.MethodName) prog_1_method_28_code (3 : Nat) (Option.none : Option Jvm.ClassFile.FieldType)) ∈ rr_all := rr_in 469 rfl rfl
set_option maxRecDepth 20000 in
theorem q_455 : (Jvm.Cond.methodLink "RopeVotes" (193 : Nat) ({ cls := "RopeVotes", name := "makeVotes", desc := "()V" } : Jvm.MethodName)) ∈ rr_all := rr_in 470 rfl rfl
set_option maxRecDepth 20000 in
theorem q_457 : (Jvm.Cond.instanceMethod ({ cls := "RopeVotes", name := "makeVotes", desc := "()V" } : Jvm.MethodName)) ∈ rr_all := rr_in 472 rfl rfl
set_option maxRecDepth 20000 in
theorem q_458 : (Jvm.Cond.code ({ cls := "RopeVotes", name := "makeVotes", desc := "()V" } : Jvm.MethodName) prog_1_method_29_code (2 : Nat) (Option.none : Option Jvm.ClassFile.FieldType)) ∈ rr_all := rr_in 473 rfl rfl
set_option maxRecDepth 20000 in
theorem q_459 : (Jvm.Cond.methodLink "RopeVotes" (218 : Nat) ({ cls := "RopeVotes$Towers", name := "delayOf", desc := "(I)I" } : Jvm.MethodName)) ∈ rr_all := rr_in 474 rfl rfl
set_option maxRecDepth 20000 in
theorem q_460 : (Jvm.Cond.instanceMethod ({ cls := "RopeVotes$Towers", name := "delayOf", desc := "(I)I" } : Jvm.MethodName)) ∈ rr_all := rr_in 475 rfl rfl
set_option maxRecDepth 20000 in
theorem q_461 : (Jvm.Cond.selects "RopeVotes$Towers" ({ cls := "RopeVotes$Towers", name := "delayOf", desc := "(I)I" } : Jvm.MethodName) ({ cls := "RopeVotes$Towers", name := "delayOf", desc := "(I)I" } : Jvm.MethodName)) ∈ rr_all := rr_in 476 rfl rfl
set_option maxRecDepth 20000 in
theorem q_462 : (Jvm.Cond.code ({ cls := "RopeVotes$Towers", name := "delayOf", desc := "(I)I" } : Jvm.MethodName) prog_6_method_4_code (5 : Nat) (Option.some Jvm.ClassFile.FieldType.int)) ∈ rr_all := rr_in 477 rfl rfl
set_option maxRecDepth 20000 in
theorem q_463 : (Jvm.Cond.methodLink "RopeVotes$Towers" (25 : Nat) ({ cls := "java/lang/Math", name := "abs", desc := "(I)I" } : Jvm.MethodName)) ∈ rr_all := rr_in 478 rfl rfl
set_option maxRecDepth 20000 in
theorem q_464 : (Jvm.Cond.methodLink "RopeVotes$Towers" (31 : Nat) ({ cls := "java/lang/Math", name := "min", desc := "(II)I" } : Jvm.MethodName)) ∈ rr_all := rr_in 479 rfl rfl
set_option maxRecDepth 20000 in
theorem q_465 : (Jvm.Cond.methodLink "RopeVotes" (221 : Nat) ({ cls := "RopeVotes$Post", name := "send", desc := "(IIII)V" } : Jvm.MethodName)) ∈ rr_all := rr_in 480 rfl rfl
set_option maxRecDepth 20000 in
theorem q_466 : (Jvm.Cond.instanceMethod ({ cls := "RopeVotes$Post", name := "send", desc := "(IIII)V" } : Jvm.MethodName)) ∈ rr_all := rr_in 481 rfl rfl
set_option maxRecDepth 20000 in
theorem q_467 : (Jvm.Cond.selects "RopeVotes$Post" ({ cls := "RopeVotes$Post", name := "send", desc := "(IIII)V" } : Jvm.MethodName) ({ cls := "RopeVotes$Post", name := "send", desc := "(IIII)V" } : Jvm.MethodName)) ∈ rr_all := rr_in 482 rfl rfl
set_option maxRecDepth 20000 in
theorem q_468 : (Jvm.Cond.code ({ cls := "RopeVotes$Post", name := "send", desc := "(IIII)V" } : Jvm.MethodName) prog_4_method_2_code (6 : Nat) (Option.none : Option Jvm.ClassFile.FieldType)) ∈ rr_all := rr_in 483 rfl rfl
set_option maxRecDepth 20000 in
theorem q_469 : (Jvm.Cond.methodLink "RopeVotes$Post" (18 : Nat) ({ cls := "RopeVotes$Post", name := "slotOf", desc := "(II)I" } : Jvm.MethodName)) ∈ rr_all := rr_in 484 rfl rfl
set_option maxRecDepth 20000 in
theorem q_470 : (Jvm.Cond.static ({ cls := "RopeVotes$Post", name := "slotOf", desc := "(II)I" } : Jvm.MethodName)) ∈ rr_all := rr_in 485 rfl rfl
set_option maxRecDepth 20000 in
theorem q_471 : (Jvm.Cond.code ({ cls := "RopeVotes$Post", name := "slotOf", desc := "(II)I" } : Jvm.MethodName) prog_4_method_5_code (2 : Nat) (Option.some Jvm.ClassFile.FieldType.int)) ∈ rr_all := rr_in 486 rfl rfl
set_option maxRecDepth 20000 in
theorem q_472 : (Jvm.Cond.methodLink "RopeVotes$Post" (33 : Nat) ({ cls := "java/lang/Math", name := "floorMod", desc := "(II)I" } : Jvm.MethodName)) ∈ rr_all := rr_in 487 rfl rfl
set_option maxRecDepth 20000 in
theorem q_473 : (Jvm.Cond.static ({ cls := "java/lang/Math", name := "floorMod", desc := "(II)I" } : Jvm.MethodName)) ∈ rr_all := rr_in 488 rfl rfl
set_option maxRecDepth 20000 in
theorem q_474 : (Jvm.Cond.code ({ cls := "java/lang/Math", name := "floorMod", desc := "(II)I" } : Jvm.MethodName) prog_14_method_50_code (3 : Nat) (Option.some Jvm.ClassFile.FieldType.int)) ∈ rr_all := rr_in 489 rfl rfl
set_option maxRecDepth 20000 in
theorem q_475 : (Jvm.Cond.methodLink "RopeVotes" (196 : Nat) ({ cls := "RopeVotes$Post", name := "deliver", desc := "(ILRopeVotes$Control;)V" } : Jvm.MethodName)) ∈ rr_all := rr_in 490 rfl rfl
set_option maxRecDepth 20000 in
theorem q_476 : (Jvm.Cond.instanceMethod ({ cls := "RopeVotes$Post", name := "deliver", desc := "(ILRopeVotes$Control;)V" } : Jvm.MethodName)) ∈ rr_all := rr_in 491 rfl rfl
set_option maxRecDepth 20000 in
theorem q_477 : (Jvm.Cond.selects "RopeVotes$Post" ({ cls := "RopeVotes$Post", name := "deliver", desc := "(ILRopeVotes$Control;)V" } : Jvm.MethodName) ({ cls := "RopeVotes$Post", name := "deliver", desc := "(ILRopeVotes$Control;)V" } : Jvm.MethodName)) ∈ rr_all := rr_in 492 rfl rfl
set_option maxRecDepth 20000 in
theorem q_478 : (Jvm.Cond.code ({ cls := "RopeVotes$Post", name := "deliver", desc := "(ILRopeVotes$Control;)V" } : Jvm.MethodName) prog_4_method_3_code (6 : Nat) (Option.none : Option Jvm.ClassFile.FieldType)) ∈ rr_all := rr_in 493 rfl rfl
set_option maxRecDepth 20000 in
theorem q_479 : (Jvm.Cond.methodLink "RopeVotes$Post" (22 : Nat) ({ cls := "java/lang/Math", name := "max", desc := "(II)I" } : Jvm.MethodName)) ∈ rr_all := rr_in 494 rfl rfl
set_option maxRecDepth 20000 in
theorem q_480 : (Jvm.Cond.methodLink "RopeVotes$Post" (27 : Nat) ({ cls := "RopeVotes$Control", name := "take", desc := "(III)V" } : Jvm.MethodName)) ∈ rr_all := rr_in 495 rfl rfl
set_option maxRecDepth 20000 in
theorem q_481 : (Jvm.Cond.instanceMethod ({ cls := "RopeVotes$Control", name := "take", desc := "(III)V" } : Jvm.MethodName)) ∈ rr_all := rr_in 496 rfl rfl
set_option maxRecDepth 20000 in
theorem q_482 : (Jvm.Cond.selects "RopeVotes$Control" ({ cls := "RopeVotes$Control", name := "take", desc := "(III)V" } : Jvm.MethodName) ({ cls := "RopeVotes$Control", name := "take", desc := "(III)V" } : Jvm.MethodName)) ∈ rr_all := rr_in 497 rfl rfl
set_option maxRecDepth 20000 in
theorem q_483 : (Jvm.Cond.code ({ cls := "RopeVotes$Control", name := "take", desc := "(III)V" } : Jvm.MethodName) prog_2_method_2_code (4 : Nat) (Option.none : Option Jvm.ClassFile.FieldType)) ∈ rr_all := rr_in 498 rfl rfl
set_option maxRecDepth 20000 in
theorem q_484 : (Jvm.Cond.methodLink "RopeVotes" (200 : Nat) ({ cls := "RopeVotes", name := "wouldDecide", desc := "()I" } : Jvm.MethodName)) ∈ rr_all := rr_in 499 rfl rfl
set_option maxRecDepth 20000 in
theorem q_485 : (Jvm.Cond.methodLink "RopeVotes" (203 : Nat) ({ cls := "java/lang/Integer", name := "bitCount", desc := "(I)I" } : Jvm.MethodName)) ∈ rr_all := rr_in 500 rfl rfl
set_option maxRecDepth 20000 in
theorem q_486 : (Jvm.Cond.static ({ cls := "java/lang/Integer", name := "bitCount", desc := "(I)I" } : Jvm.MethodName)) ∈ rr_all := rr_in 501 rfl rfl
set_option maxRecDepth 20000 in
theorem q_487 : (Jvm.Cond.code ({ cls := "java/lang/Integer", name := "bitCount", desc := "(I)I" } : Jvm.MethodName) prog_13_method_49_code (1 : Nat) (Option.some Jvm.ClassFile.FieldType.int)) ∈ rr_all := rr_in 502 rfl rfl
set_option maxRecDepth 20000 in
theorem q_488 : (Jvm.Cond.constant "java/lang/Integer" (265 : Nat) (1431655765 : Int32)) ∈ rr_all := rr_in 503 rfl rfl
set_option maxRecDepth 20000 in
theorem q_489 : (Jvm.Cond.constant "java/lang/Integer" (266 : Nat) (858993459 : Int32)) ∈ rr_all := rr_in 504 rfl rfl
set_option maxRecDepth 20000 in
theorem q_490 : (Jvm.Cond.constant "java/lang/Integer" (267 : Nat) (252645135 : Int32)) ∈ rr_all := rr_in 505 rfl rfl
set_option maxRecDepth 20000 in
theorem q_491 : (Jvm.Cond.methodLink "RopeVotes" (208 : Nat) ({ cls := "RopeVotes", name := "partsAt", desc := "(I)I" } : Jvm.MethodName)) ∈ rr_all := rr_in 506 rfl rfl
set_option maxRecDepth 20000 in
theorem q_492 : (Jvm.Cond.static ({ cls := "RopeVotes", name := "partsAt", desc := "(I)I" } : Jvm.MethodName)) ∈ rr_all := rr_in 507 rfl rfl
set_option maxRecDepth 20000 in
theorem q_493 : (Jvm.Cond.code ({ cls := "RopeVotes", name := "partsAt", desc := "(I)I" } : Jvm.MethodName) prog_1_method_30_code (1 : Nat) (Option.some Jvm.ClassFile.FieldType.int)) ∈ rr_all := rr_in 508 rfl rfl
set_option maxRecDepth 20000 in
theorem q_494 : (Jvm.Cond.methodLink "RopeVotes" (211 : Nat) ({ cls := "RopeVotes$Loop", name := "move", desc := "(I)V" } : Jvm.MethodName)) ∈ rr_all := rr_in 509 rfl rfl
set_option maxRecDepth 20000 in
theorem q_495 : (Jvm.Cond.instanceMethod ({ cls := "RopeVotes$Loop", name := "move", desc := "(I)V" } : Jvm.MethodName)) ∈ rr_all := rr_in 510 rfl rfl
set_option maxRecDepth 20000 in
theorem q_496 : (Jvm.Cond.selects "RopeVotes$Loop" ({ cls := "RopeVotes$Loop", name := "move", desc := "(I)V" } : Jvm.MethodName) ({ cls := "RopeVotes$Loop", name := "move", desc := "(I)V" } : Jvm.MethodName)) ∈ rr_all := rr_in 511 rfl rfl
set_option maxRecDepth 20000 in
theorem q_497 : (Jvm.Cond.code ({ cls := "RopeVotes$Loop", name := "move", desc := "(I)V" } : Jvm.MethodName) prog_3_method_7_code (3 : Nat) (Option.none : Option Jvm.ClassFile.FieldType)) ∈ rr_all := rr_in 512 rfl rfl
set_option maxRecDepth 20000 in
theorem q_498 : (Jvm.Cond.methodLink "RopeVotes" (215 : Nat) ({ cls := "RopeVotes$Tickets", name := "passMinute", desc := "(IIILRopeVotes$Loop;)V" } : Jvm.MethodName)) ∈ rr_all := rr_in 513 rfl rfl
set_option maxRecDepth 20000 in
theorem q_499 : (Jvm.Cond.instanceMethod ({ cls := "RopeVotes$Tickets", name := "passMinute", desc := "(IIILRopeVotes$Loop;)V" } : Jvm.MethodName)) ∈ rr_all := rr_in 514 rfl rfl
set_option maxRecDepth 20000 in
theorem q_500 : (Jvm.Cond.selects "RopeVotes$Tickets" ({ cls := "RopeVotes$Tickets", name := "passMinute", desc := "(IIILRopeVotes$Loop;)V" } : Jvm.MethodName) ({ cls := "RopeVotes$Tickets", name := "passMinute", desc := "(IIILRopeVotes$Loop;)V" } : Jvm.MethodName)) ∈ rr_all := rr_in 515 rfl rfl
set_option maxRecDepth 20000 in
theorem q_501 : (Jvm.Cond.code ({ cls := "RopeVotes$Tickets", name := "passMinute", desc := "(IIILRopeVotes$Loop;)V" } : Jvm.MethodName) prog_5_method_6_code (6 : Nat) (Option.none : Option Jvm.ClassFile.FieldType)) ∈ rr_all := rr_in 516 rfl rfl
set_option maxRecDepth 20000 in
theorem q_502 : (Jvm.Cond.methodLink "RopeVotes$Tickets" (34 : Nat) ({ cls := "RopeVotes$Loop", name := "isOutOfStations", desc := "(I)Z" } : Jvm.MethodName)) ∈ rr_all := rr_in 517 rfl rfl
set_option maxRecDepth 20000 in
theorem q_503 : (Jvm.Cond.instanceMethod ({ cls := "RopeVotes$Loop", name := "isOutOfStations", desc := "(I)Z" } : Jvm.MethodName)) ∈ rr_all := rr_in 518 rfl rfl
set_option maxRecDepth 20000 in
theorem q_504 : (Jvm.Cond.selects "RopeVotes$Loop" ({ cls := "RopeVotes$Loop", name := "isOutOfStations", desc := "(I)Z" } : Jvm.MethodName) ({ cls := "RopeVotes$Loop", name := "isOutOfStations", desc := "(I)Z" } : Jvm.MethodName)) ∈ rr_all := rr_in 519 rfl rfl
set_option maxRecDepth 20000 in
theorem q_505 : (Jvm.Cond.code ({ cls := "RopeVotes$Loop", name := "isOutOfStations", desc := "(I)Z" } : Jvm.MethodName) prog_3_method_8_code (2 : Nat) (Option.some Jvm.ClassFile.FieldType.boolean)) ∈ rr_all := rr_in 520 rfl rfl
set_option maxRecDepth 20000 in
theorem q_506 : (Jvm.Cond.methodLink "RopeVotes$Loop" (35 : Nat) ({ cls := "RopeVotes$Loop", name := "has", desc := "(I)Z" } : Jvm.MethodName)) ∈ rr_all := rr_in 521 rfl rfl
set_option maxRecDepth 20000 in
theorem q_508 : (Jvm.Cond.static ({ cls := "RopeVotes", name := "isInStation", desc := "(I)Z" } : Jvm.MethodName)) ∈ rr_all := rr_in 523 rfl rfl
set_option maxRecDepth 20000 in
theorem q_509 : (Jvm.Cond.code ({ cls := "RopeVotes", name := "isInStation", desc := "(I)Z" } : Jvm.MethodName) prog_1_method_33_code (1 : Nat) (Option.some Jvm.ClassFile.FieldType.boolean)) ∈ rr_all := rr_in 524 rfl rfl
set_option maxRecDepth 20000 in
theorem q_510 : (Jvm.Cond.methodLink "RopeVotesLaw" (148 : Nat) ({ cls := "RopeVotesLaw", name := "decided", desc := "(LRopeVotes;I[J)I" } : Jvm.MethodName)) ∈ rr_all := rr_in 525 rfl rfl
set_option maxRecDepth 20000 in
theorem q_511 : (Jvm.Cond.static ({ cls := "RopeVotesLaw", name := "decided", desc := "(LRopeVotes;I[J)I" } : Jvm.MethodName)) ∈ rr_all := rr_in 526 rfl rfl
set_option maxRecDepth 20000 in
theorem q_513 : (Jvm.Cond.methodLink "RopeVotesLaw" (50 : Nat) ({ cls := "RopeVotes", name := "decided", desc := "(I)I" } : Jvm.MethodName)) ∈ rr_all := rr_in 528 rfl rfl
set_option maxRecDepth 20000 in
theorem q_514 : (Jvm.Cond.instanceMethod ({ cls := "RopeVotes", name := "decided", desc := "(I)I" } : Jvm.MethodName)) ∈ rr_all := rr_in 529 rfl rfl
set_option maxRecDepth 20000 in
theorem q_515 : (Jvm.Cond.selects "RopeVotes" ({ cls := "RopeVotes", name := "decided", desc := "(I)I" } : Jvm.MethodName) ({ cls := "RopeVotes", name := "decided", desc := "(I)I" } : Jvm.MethodName)) ∈ rr_all := rr_in 530 rfl rfl
set_option maxRecDepth 20000 in
theorem q_516 : (Jvm.Cond.code ({ cls := "RopeVotes", name := "decided", desc := "(I)I" } : Jvm.MethodName) prog_1_method_20_code (2 : Nat) (Option.some Jvm.ClassFile.FieldType.int)) ∈ rr_all := rr_in 531 rfl rfl
set_option maxRecDepth 20000 in
theorem q_518 : (Jvm.Cond.methodLink "RopeVotesLaw" (151 : Nat) ({ cls := "RopeVotesLaw", name := "minutes", desc := "(LRopeVotes;I[J)I" } : Jvm.MethodName)) ∈ rr_all := rr_in 533 rfl rfl
set_option maxRecDepth 20000 in
theorem q_519 : (Jvm.Cond.static ({ cls := "RopeVotesLaw", name := "minutes", desc := "(LRopeVotes;I[J)I" } : Jvm.MethodName)) ∈ rr_all := rr_in 534 rfl rfl
set_option maxRecDepth 20000 in
theorem q_521 : (Jvm.Cond.methodLink "RopeVotesLaw" (53 : Nat) ({ cls := "RopeVotes", name := "minutes", desc := "(I)I" } : Jvm.MethodName)) ∈ rr_all := rr_in 536 rfl rfl
set_option maxRecDepth 20000 in
theorem q_522 : (Jvm.Cond.instanceMethod ({ cls := "RopeVotes", name := "minutes", desc := "(I)I" } : Jvm.MethodName)) ∈ rr_all := rr_in 537 rfl rfl
set_option maxRecDepth 20000 in
theorem q_523 : (Jvm.Cond.selects "RopeVotes" ({ cls := "RopeVotes", name := "minutes", desc := "(I)I" } : Jvm.MethodName) ({ cls := "RopeVotes", name := "minutes", desc := "(I)I" } : Jvm.MethodName)) ∈ rr_all := rr_in 538 rfl rfl
set_option maxRecDepth 20000 in
theorem q_524 : (Jvm.Cond.code ({ cls := "RopeVotes", name := "minutes", desc := "(I)I" } : Jvm.MethodName) prog_1_method_21_code (4 : Nat) (Option.some Jvm.ClassFile.FieldType.int)) ∈ rr_all := rr_in 539 rfl rfl
set_option maxRecDepth 20000 in
theorem q_526 : (Jvm.Cond.methodLink "RopeVotesLaw" (154 : Nat) ({ cls := "RopeVotesLaw", name := "board", desc := "(LRopeVotes;III[J)I" } : Jvm.MethodName)) ∈ rr_all := rr_in 541 rfl rfl
set_option maxRecDepth 20000 in
theorem q_527 : (Jvm.Cond.static ({ cls := "RopeVotesLaw", name := "board", desc := "(LRopeVotes;III[J)I" } : Jvm.MethodName)) ∈ rr_all := rr_in 542 rfl rfl
set_option maxRecDepth 20000 in
theorem q_529 : (Jvm.Cond.methodLink "RopeVotesLaw" (56 : Nat) ({ cls := "RopeVotes", name := "board", desc := "(III)I" } : Jvm.MethodName)) ∈ rr_all := rr_in 544 rfl rfl
set_option maxRecDepth 20000 in
theorem q_530 : (Jvm.Cond.instanceMethod ({ cls := "RopeVotes", name := "board", desc := "(III)I" } : Jvm.MethodName)) ∈ rr_all := rr_in 545 rfl rfl
set_option maxRecDepth 20000 in
theorem q_531 : (Jvm.Cond.selects "RopeVotes" ({ cls := "RopeVotes", name := "board", desc := "(III)I" } : Jvm.MethodName) ({ cls := "RopeVotes", name := "board", desc := "(III)I" } : Jvm.MethodName)) ∈ rr_all := rr_in 546 rfl rfl
set_option maxRecDepth 20000 in
theorem q_532 : (Jvm.Cond.code ({ cls := "RopeVotes", name := "board", desc := "(III)I" } : Jvm.MethodName) prog_1_method_22_code (6 : Nat) (Option.some Jvm.ClassFile.FieldType.int)) ∈ rr_all := rr_in 547 rfl rfl
set_option maxRecDepth 20000 in
theorem q_534 : (Jvm.Cond.methodLink "RopeVotes" (166 : Nat) ({ cls := "RopeVotes", name := "isInStation", desc := "(I)Z" } : Jvm.MethodName)) ∈ rr_all := rr_in 549 rfl rfl
set_option maxRecDepth 20000 in
theorem q_535 : (Jvm.Cond.methodLink "RopeVotes" (169 : Nat) ({ cls := "RopeVotes$Tickets", name := "isLeft", desc := "()Z" } : Jvm.MethodName)) ∈ rr_all := rr_in 550 rfl rfl
set_option maxRecDepth 20000 in
theorem q_536 : (Jvm.Cond.instanceMethod ({ cls := "RopeVotes$Tickets", name := "isLeft", desc := "()Z" } : Jvm.MethodName)) ∈ rr_all := rr_in 551 rfl rfl
set_option maxRecDepth 20000 in
theorem q_537 : (Jvm.Cond.selects "RopeVotes$Tickets" ({ cls := "RopeVotes$Tickets", name := "isLeft", desc := "()Z" } : Jvm.MethodName) ({ cls := "RopeVotes$Tickets", name := "isLeft", desc := "()Z" } : Jvm.MethodName)) ∈ rr_all := rr_in 552 rfl rfl
set_option maxRecDepth 20000 in
theorem q_538 : (Jvm.Cond.code ({ cls := "RopeVotes$Tickets", name := "isLeft", desc := "()Z" } : Jvm.MethodName) prog_5_method_3_code (1 : Nat) (Option.some Jvm.ClassFile.FieldType.boolean)) ∈ rr_all := rr_in 553 rfl rfl
set_option maxRecDepth 20000 in
theorem q_540 : (Jvm.Cond.methodLink "RopeVotes" (174 : Nat) ({ cls := "RopeVotes$Tickets", name := "sell", desc := "(IIII)I" } : Jvm.MethodName)) ∈ rr_all := rr_in 555 rfl rfl
set_option maxRecDepth 20000 in
theorem q_541 : (Jvm.Cond.instanceMethod ({ cls := "RopeVotes$Tickets", name := "sell", desc := "(IIII)I" } : Jvm.MethodName)) ∈ rr_all := rr_in 556 rfl rfl
set_option maxRecDepth 20000 in
theorem q_542 : (Jvm.Cond.selects "RopeVotes$Tickets" ({ cls := "RopeVotes$Tickets", name := "sell", desc := "(IIII)I" } : Jvm.MethodName) ({ cls := "RopeVotes$Tickets", name := "sell", desc := "(IIII)I" } : Jvm.MethodName)) ∈ rr_all := rr_in 557 rfl rfl
set_option maxRecDepth 20000 in
theorem q_543 : (Jvm.Cond.code ({ cls := "RopeVotes$Tickets", name := "sell", desc := "(IIII)I" } : Jvm.MethodName) prog_5_method_4_code (6 : Nat) (Option.some Jvm.ClassFile.FieldType.int)) ∈ rr_all := rr_in 558 rfl rfl
set_option maxRecDepth 20000 in
theorem q_544 : (Jvm.Cond.methodLink "RopeVotesLaw" (157 : Nat) ({ cls := "RopeVotesLaw", name := "people", desc := "(LRopeVotes;I[J)I" } : Jvm.MethodName)) ∈ rr_all := rr_in 559 rfl rfl
set_option maxRecDepth 20000 in
theorem q_545 : (Jvm.Cond.static ({ cls := "RopeVotesLaw", name := "people", desc := "(LRopeVotes;I[J)I" } : Jvm.MethodName)) ∈ rr_all := rr_in 560 rfl rfl
set_option maxRecDepth 20000 in
theorem q_547 : (Jvm.Cond.methodLink "RopeVotesLaw" (59 : Nat) ({ cls := "RopeVotes", name := "people", desc := "(I)I" } : Jvm.MethodName)) ∈ rr_all := rr_in 562 rfl rfl
set_option maxRecDepth 20000 in
theorem q_548 : (Jvm.Cond.instanceMethod ({ cls := "RopeVotes", name := "people", desc := "(I)I" } : Jvm.MethodName)) ∈ rr_all := rr_in 563 rfl rfl
set_option maxRecDepth 20000 in
theorem q_549 : (Jvm.Cond.selects "RopeVotes" ({ cls := "RopeVotes", name := "people", desc := "(I)I" } : Jvm.MethodName) ({ cls := "RopeVotes", name := "people", desc := "(I)I" } : Jvm.MethodName)) ∈ rr_all := rr_in 564 rfl rfl
set_option maxRecDepth 20000 in
theorem q_550 : (Jvm.Cond.code ({ cls := "RopeVotes", name := "people", desc := "(I)I" } : Jvm.MethodName) prog_1_method_23_code (2 : Nat) (Option.some Jvm.ClassFile.FieldType.int)) ∈ rr_all := rr_in 565 rfl rfl
set_option maxRecDepth 20000 in
theorem q_551 : (Jvm.Cond.methodLink "RopeVotesLaw" (160 : Nat) ({ cls := "RopeVotesLaw", name := "arrived", desc := "(LRopeVotes;I[J)I" } : Jvm.MethodName)) ∈ rr_all := rr_in 566 rfl rfl
set_option maxRecDepth 20000 in
theorem q_552 : (Jvm.Cond.static ({ cls := "RopeVotesLaw", name := "arrived", desc := "(LRopeVotes;I[J)I" } : Jvm.MethodName)) ∈ rr_all := rr_in 567 rfl rfl
set_option maxRecDepth 20000 in
theorem q_554 : (Jvm.Cond.methodLink "RopeVotesLaw" (62 : Nat) ({ cls := "RopeVotes", name := "arrived", desc := "(I)I" } : Jvm.MethodName)) ∈ rr_all := rr_in 569 rfl rfl
set_option maxRecDepth 20000 in
theorem q_555 : (Jvm.Cond.instanceMethod ({ cls := "RopeVotes", name := "arrived", desc := "(I)I" } : Jvm.MethodName)) ∈ rr_all := rr_in 570 rfl rfl
set_option maxRecDepth 20000 in
theorem q_556 : (Jvm.Cond.selects "RopeVotes" ({ cls := "RopeVotes", name := "arrived", desc := "(I)I" } : Jvm.MethodName) ({ cls := "RopeVotes", name := "arrived", desc := "(I)I" } : Jvm.MethodName)) ∈ rr_all := rr_in 571 rfl rfl
set_option maxRecDepth 20000 in
theorem q_557 : (Jvm.Cond.code ({ cls := "RopeVotes", name := "arrived", desc := "(I)I" } : Jvm.MethodName) prog_1_method_24_code (2 : Nat) (Option.some Jvm.ClassFile.FieldType.int)) ∈ rr_all := rr_in 572 rfl rfl
set_option maxRecDepth 20000 in
theorem q_558 : (Jvm.Cond.methodLink "RopeVotes" (178 : Nat) ({ cls := "RopeVotes$Tickets", name := "has", desc := "(I)Z" } : Jvm.MethodName)) ∈ rr_all := rr_in 573 rfl rfl
set_option maxRecDepth 20000 in
theorem q_559 : (Jvm.Cond.instanceMethod ({ cls := "RopeVotes$Tickets", name := "has", desc := "(I)Z" } : Jvm.MethodName)) ∈ rr_all := rr_in 574 rfl rfl
set_option maxRecDepth 20000 in
theorem q_560 : (Jvm.Cond.selects "RopeVotes$Tickets" ({ cls := "RopeVotes$Tickets", name := "has", desc := "(I)Z" } : Jvm.MethodName) ({ cls := "RopeVotes$Tickets", name := "has", desc := "(I)Z" } : Jvm.MethodName)) ∈ rr_all := rr_in 575 rfl rfl
set_option maxRecDepth 20000 in
theorem q_561 : (Jvm.Cond.code ({ cls := "RopeVotes$Tickets", name := "has", desc := "(I)Z" } : Jvm.MethodName) prog_5_method_2_code (2 : Nat) (Option.some Jvm.ClassFile.FieldType.boolean)) ∈ rr_all := rr_in 576 rfl rfl
set_option maxRecDepth 20000 in
theorem q_563 : (Jvm.Cond.methodLink "RopeVotesLaw" (163 : Nat) ({ cls := "RopeVotesLaw", name := "hung", desc := "(LRopeVotes;I[J)I" } : Jvm.MethodName)) ∈ rr_all := rr_in 578 rfl rfl
set_option maxRecDepth 20000 in
theorem q_564 : (Jvm.Cond.static ({ cls := "RopeVotesLaw", name := "hung", desc := "(LRopeVotes;I[J)I" } : Jvm.MethodName)) ∈ rr_all := rr_in 579 rfl rfl
set_option maxRecDepth 20000 in
theorem q_566 : (Jvm.Cond.methodLink "RopeVotesLaw" (65 : Nat) ({ cls := "RopeVotes", name := "hung", desc := "(I)I" } : Jvm.MethodName)) ∈ rr_all := rr_in 581 rfl rfl
set_option maxRecDepth 20000 in
theorem q_567 : (Jvm.Cond.instanceMethod ({ cls := "RopeVotes", name := "hung", desc := "(I)I" } : Jvm.MethodName)) ∈ rr_all := rr_in 582 rfl rfl
set_option maxRecDepth 20000 in
theorem q_568 : (Jvm.Cond.selects "RopeVotes" ({ cls := "RopeVotes", name := "hung", desc := "(I)I" } : Jvm.MethodName) ({ cls := "RopeVotes", name := "hung", desc := "(I)I" } : Jvm.MethodName)) ∈ rr_all := rr_in 583 rfl rfl
set_option maxRecDepth 20000 in
theorem q_569 : (Jvm.Cond.code ({ cls := "RopeVotes", name := "hung", desc := "(I)I" } : Jvm.MethodName) prog_1_method_25_code (2 : Nat) (Option.some Jvm.ClassFile.FieldType.int)) ∈ rr_all := rr_in 584 rfl rfl
set_option maxRecDepth 20000 in
theorem q_570 : (Jvm.Cond.methodLink "RopeVotesLaw" (166 : Nat) ({ cls := "RopeVotesLaw", name := "refund", desc := "(LRopeVotes;I[J)I" } : Jvm.MethodName)) ∈ rr_all := rr_in 585 rfl rfl
set_option maxRecDepth 20000 in
theorem q_571 : (Jvm.Cond.static ({ cls := "RopeVotesLaw", name := "refund", desc := "(LRopeVotes;I[J)I" } : Jvm.MethodName)) ∈ rr_all := rr_in 586 rfl rfl
set_option maxRecDepth 20000 in
theorem q_573 : (Jvm.Cond.methodLink "RopeVotesLaw" (68 : Nat) ({ cls := "RopeVotes", name := "refund", desc := "(I)I" } : Jvm.MethodName)) ∈ rr_all := rr_in 588 rfl rfl
set_option maxRecDepth 20000 in
theorem q_574 : (Jvm.Cond.instanceMethod ({ cls := "RopeVotes", name := "refund", desc := "(I)I" } : Jvm.MethodName)) ∈ rr_all := rr_in 589 rfl rfl
set_option maxRecDepth 20000 in
theorem q_575 : (Jvm.Cond.selects "RopeVotes" ({ cls := "RopeVotes", name := "refund", desc := "(I)I" } : Jvm.MethodName) ({ cls := "RopeVotes", name := "refund", desc := "(I)I" } : Jvm.MethodName)) ∈ rr_all := rr_in 590 rfl rfl
set_option maxRecDepth 20000 in
theorem q_576 : (Jvm.Cond.code ({ cls := "RopeVotes", name := "refund", desc := "(I)I" } : Jvm.MethodName) prog_1_method_26_code (2 : Nat) (Option.some Jvm.ClassFile.FieldType.int)) ∈ rr_all := rr_in 591 rfl rfl
set_option maxRecDepth 20000 in
theorem q_577 : (Jvm.Cond.methodLink "RopeVotes" (187 : Nat) ({ cls := "RopeVotes$Tickets", name := "refundOf", desc := "(I)I" } : Jvm.MethodName)) ∈ rr_all := rr_in 592 rfl rfl
set_option maxRecDepth 20000 in
theorem q_578 : (Jvm.Cond.classLink "RopeVotesLaw" (72 : Nat) "RopeVotesModel") ∈ rr_all := rr_in 593 rfl rfl
set_option maxRecDepth 20000 in
theorem q_579 : (Jvm.Cond.instantiable "RopeVotesModel" (23 : Nat)) ∈ rr_all := rr_in 594 rfl rfl
set_option maxRecDepth 20000 in
theorem q_580 : (Jvm.Cond.methodLink "RopeVotesLaw" (74 : Nat) ({ cls := "RopeVotesModel", name := "<init>", desc := "()V" } : Jvm.MethodName)) ∈ rr_all := rr_in 595 rfl rfl
set_option maxRecDepth 20000 in
theorem q_581 : (Jvm.Cond.instanceMethod ({ cls := "RopeVotesModel", name := "<init>", desc := "()V" } : Jvm.MethodName)) ∈ rr_all := rr_in 596 rfl rfl
set_option maxRecDepth 20000 in
theorem q_582 : (Jvm.Cond.code ({ cls := "RopeVotesModel", name := "<init>", desc := "()V" } : Jvm.MethodName) prog_8_method_1_code (2 : Nat) (Option.none : Option Jvm.ClassFile.FieldType)) ∈ rr_all := rr_in 597 rfl rfl
set_option maxRecDepth 20000 in
theorem q_583 : (Jvm.Cond.methodLink "RopeVotesModel" (1 : Nat) ({ cls := "java/lang/Object", name := "<init>", desc := "()V" } : Jvm.MethodName)) ∈ rr_all := rr_in 598 rfl rfl
set_option maxRecDepth 20000 in
theorem q_584 : (Jvm.Cond.fieldLink "RopeVotesModel" (102 : Nat) "RopeVotesModel" "time" "I") ∈ rr_all := rr_in 599 rfl rfl
set_option maxRecDepth 20000 in
theorem q_585 : (Jvm.Cond.fieldLink "RopeVotesModel" (72 : Nat) "RopeVotesModel" "turns" "I") ∈ rr_all := rr_in 600 rfl rfl
set_option maxRecDepth 20000 in
theorem q_586 : (Jvm.Cond.fieldLink "RopeVotesModel" (111 : Nat) "RopeVotesModel" "held" "I") ∈ rr_all := rr_in 601 rfl rfl
set_option maxRecDepth 20000 in
theorem q_587 : (Jvm.Cond.fieldLink "RopeVotesModel" (65 : Nat) "RopeVotesModel" "cars" "I") ∈ rr_all := rr_in 602 rfl rfl
set_option maxRecDepth 20000 in
theorem q_588 : (Jvm.Cond.fieldLink "RopeVotesModel" (7 : Nat) "RopeVotesModel" "bases" "[I") ∈ rr_all := rr_in 603 rfl rfl
set_option maxRecDepth 20000 in
theorem q_589 : (Jvm.Cond.fieldLink "RopeVotesModel" (13 : Nat) "RopeVotesModel" "off" "[I") ∈ rr_all := rr_in 604 rfl rfl
set_option maxRecDepth 20000 in
theorem q_590 : (Jvm.Cond.fieldLink "RopeVotesModel" (16 : Nat) "RopeVotesModel" "winds" "[I") ∈ rr_all := rr_in 605 rfl rfl
set_option maxRecDepth 20000 in
theorem q_591 : (Jvm.Cond.fieldLink "RopeVotesModel" (19 : Nat) "RopeVotesModel" "slows" "[I") ∈ rr_all := rr_in 606 rfl rfl
set_option maxRecDepth 20000 in
theorem q_592 : (Jvm.Cond.fieldLink "RopeVotesModel" (22 : Nat) "RopeVotesModel" "stops" "[I") ∈ rr_all := rr_in 607 rfl rfl
set_option maxRecDepth 20000 in
theorem q_593 : (Jvm.Cond.fieldLink "RopeVotesModel" (25 : Nat) "RopeVotesModel" "cuts" "[I") ∈ rr_all := rr_in 608 rfl rfl
set_option maxRecDepth 20000 in
theorem q_594 : (Jvm.Cond.fieldLink "RopeVotesModel" (28 : Nat) "RopeVotesModel" "comes" "[I") ∈ rr_all := rr_in 609 rfl rfl
set_option maxRecDepth 20000 in
theorem q_595 : (Jvm.Cond.fieldLink "RopeVotesModel" (31 : Nat) "RopeVotesModel" "voted" "[I") ∈ rr_all := rr_in 610 rfl rfl
set_option maxRecDepth 20000 in
theorem q_596 : (Jvm.Cond.fieldLink "RopeVotesModel" (34 : Nat) "RopeVotesModel" "times" "[I") ∈ rr_all := rr_in 611 rfl rfl
set_option maxRecDepth 20000 in
theorem q_597 : (Jvm.Cond.fieldLink "RopeVotesModel" (37 : Nat) "RopeVotesModel" "votes" "[I") ∈ rr_all := rr_in 612 rfl rfl
set_option maxRecDepth 20000 in
theorem q_598 : (Jvm.Cond.fieldLink "RopeVotesModel" (40 : Nat) "RopeVotesModel" "told" "[I") ∈ rr_all := rr_in 613 rfl rfl
set_option maxRecDepth 20000 in
theorem q_599 : (Jvm.Cond.fieldLink "RopeVotesModel" (83 : Nat) "RopeVotesModel" "tickets" "I") ∈ rr_all := rr_in 614 rfl rfl
set_option maxRecDepth 20000 in
theorem q_600 : (Jvm.Cond.fieldLink "RopeVotesModel" (43 : Nat) "RopeVotesModel" "ofCar" "[I") ∈ rr_all := rr_in 615 rfl rfl
set_option maxRecDepth 20000 in
theorem q_601 : (Jvm.Cond.fieldLink "RopeVotesModel" (46 : Nat) "RopeVotesModel" "people" "[I") ∈ rr_all := rr_in 616 rfl rfl
set_option maxRecDepth 20000 in
theorem q_602 : (Jvm.Cond.fieldLink "RopeVotesModel" (49 : Nat) "RopeVotesModel" "fares" "[I") ∈ rr_all := rr_in 617 rfl rfl
set_option maxRecDepth 20000 in
theorem q_603 : (Jvm.Cond.fieldLink "RopeVotesModel" (52 : Nat) "RopeVotesModel" "ends" "[I") ∈ rr_all := rr_in 618 rfl rfl
set_option maxRecDepth 20000 in
theorem q_604 : (Jvm.Cond.fieldLink "RopeVotesModel" (55 : Nat) "RopeVotesModel" "arrivals" "[I") ∈ rr_all := rr_in 619 rfl rfl
set_option maxRecDepth 20000 in
theorem q_605 : (Jvm.Cond.fieldLink "RopeVotesModel" (58 : Nat) "RopeVotesModel" "hangs" "[I") ∈ rr_all := rr_in 620 rfl rfl
set_option maxRecDepth 20000 in
theorem q_606 : (Jvm.Cond.fieldLink "RopeVotesModel" (61 : Nat) "RopeVotesModel" "thrown" "I") ∈ rr_all := rr_in 621 rfl rfl
set_option maxRecDepth 20000 in
theorem q_654 : (Jvm.Cond.methodLink "RopeVotesLaw" (81 : Nat) ({ cls := "RopeVotesModel", name := "thrown", desc := "()I" } : Jvm.MethodName)) ∈ rr_all := rr_in 669 rfl rfl
set_option maxRecDepth 20000 in
theorem q_655 : (Jvm.Cond.instanceMethod ({ cls := "RopeVotesModel", name := "thrown", desc := "()I" } : Jvm.MethodName)) ∈ rr_all := rr_in 670 rfl rfl
set_option maxRecDepth 20000 in
theorem q_656 : (Jvm.Cond.selects "RopeVotesModel" ({ cls := "RopeVotesModel", name := "thrown", desc := "()I" } : Jvm.MethodName) ({ cls := "RopeVotesModel", name := "thrown", desc := "()I" } : Jvm.MethodName)) ∈ rr_all := rr_in 671 rfl rfl
set_option maxRecDepth 20000 in
theorem q_657 : (Jvm.Cond.code ({ cls := "RopeVotesModel", name := "thrown", desc := "()I" } : Jvm.MethodName) prog_8_method_2_code (1 : Nat) (Option.some Jvm.ClassFile.FieldType.int)) ∈ rr_all := rr_in 672 rfl rfl
set_option maxRecDepth 20000 in
theorem q_658 : (Jvm.Cond.methodLink "RopeVotesLaw" (80 : Nat) ({ cls := "RopeVotesModel", name := "putOn", desc := "()I" } : Jvm.MethodName)) ∈ rr_all := rr_in 673 rfl rfl
set_option maxRecDepth 20000 in
theorem q_659 : (Jvm.Cond.instanceMethod ({ cls := "RopeVotesModel", name := "putOn", desc := "()I" } : Jvm.MethodName)) ∈ rr_all := rr_in 674 rfl rfl
set_option maxRecDepth 20000 in
theorem q_660 : (Jvm.Cond.selects "RopeVotesModel" ({ cls := "RopeVotesModel", name := "putOn", desc := "()I" } : Jvm.MethodName) ({ cls := "RopeVotesModel", name := "putOn", desc := "()I" } : Jvm.MethodName)) ∈ rr_all := rr_in 675 rfl rfl
set_option maxRecDepth 20000 in
theorem q_661 : (Jvm.Cond.code ({ cls := "RopeVotesModel", name := "putOn", desc := "()I" } : Jvm.MethodName) prog_8_method_7_code (2 : Nat) (Option.some Jvm.ClassFile.FieldType.int)) ∈ rr_all := rr_in 676 rfl rfl
set_option maxRecDepth 20000 in
theorem q_662 : (Jvm.Cond.methodLink "RopeVotesModel" (75 : Nat) ({ cls := "RopeVotesModel", name := "placeOf", desc := "(I)I" } : Jvm.MethodName)) ∈ rr_all := rr_in 677 rfl rfl
set_option maxRecDepth 20000 in
theorem q_664 : (Jvm.Cond.instanceMethod ({ cls := "RopeVotesModel", name := "placeOf", desc := "(I)I" } : Jvm.MethodName)) ∈ rr_all := rr_in 679 rfl rfl
set_option maxRecDepth 20000 in
theorem q_665 : (Jvm.Cond.code ({ cls := "RopeVotesModel", name := "placeOf", desc := "(I)I" } : Jvm.MethodName) prog_8_method_5_code (2 : Nat) (Option.some Jvm.ClassFile.FieldType.int)) ∈ rr_all := rr_in 680 rfl rfl
set_option maxRecDepth 20000 in
theorem q_666 : (Jvm.Cond.methodLink "RopeVotesModel" (79 : Nat) ({ cls := "RopeVotesModel", name := "gap", desc := "(II)I" } : Jvm.MethodName)) ∈ rr_all := rr_in 681 rfl rfl
set_option maxRecDepth 20000 in
theorem q_667 : (Jvm.Cond.static ({ cls := "RopeVotesModel", name := "gap", desc := "(II)I" } : Jvm.MethodName)) ∈ rr_all := rr_in 682 rfl rfl
set_option maxRecDepth 20000 in
theorem q_668 : (Jvm.Cond.code ({ cls := "RopeVotesModel", name := "gap", desc := "(II)I" } : Jvm.MethodName) prog_8_method_6_code (3 : Nat) (Option.some Jvm.ClassFile.FieldType.int)) ∈ rr_all := rr_in 683 rfl rfl
set_option maxRecDepth 20000 in
theorem q_669 : (Jvm.Cond.methodLink "RopeVotesLaw" (87 : Nat) ({ cls := "RopeVotesModel", name := "takeOff", desc := "(I)I" } : Jvm.MethodName)) ∈ rr_all := rr_in 684 rfl rfl
set_option maxRecDepth 20000 in
theorem q_670 : (Jvm.Cond.instanceMethod ({ cls := "RopeVotesModel", name := "takeOff", desc := "(I)I" } : Jvm.MethodName)) ∈ rr_all := rr_in 685 rfl rfl
set_option maxRecDepth 20000 in
theorem q_671 : (Jvm.Cond.selects "RopeVotesModel" ({ cls := "RopeVotesModel", name := "takeOff", desc := "(I)I" } : Jvm.MethodName) ({ cls := "RopeVotesModel", name := "takeOff", desc := "(I)I" } : Jvm.MethodName)) ∈ rr_all := rr_in 686 rfl rfl
set_option maxRecDepth 20000 in
theorem q_672 : (Jvm.Cond.code ({ cls := "RopeVotesModel", name := "takeOff", desc := "(I)I" } : Jvm.MethodName) prog_8_method_9_code (2 : Nat) (Option.some Jvm.ClassFile.FieldType.int)) ∈ rr_all := rr_in 687 rfl rfl
set_option maxRecDepth 20000 in
theorem q_673 : (Jvm.Cond.methodLink "RopeVotesModel" (86 : Nat) ({ cls := "RopeVotesModel", name := "isCar", desc := "(I)Z" } : Jvm.MethodName)) ∈ rr_all := rr_in 688 rfl rfl
set_option maxRecDepth 20000 in
theorem q_675 : (Jvm.Cond.instanceMethod ({ cls := "RopeVotesModel", name := "isCar", desc := "(I)Z" } : Jvm.MethodName)) ∈ rr_all := rr_in 690 rfl rfl
set_option maxRecDepth 20000 in
theorem q_676 : (Jvm.Cond.code ({ cls := "RopeVotesModel", name := "isCar", desc := "(I)Z" } : Jvm.MethodName) prog_8_method_4_code (2 : Nat) (Option.some Jvm.ClassFile.FieldType.boolean)) ∈ rr_all := rr_in 691 rfl rfl
set_option maxRecDepth 20000 in
theorem q_677 : (Jvm.Cond.methodLink "RopeVotesModel" (68 : Nat) ({ cls := "RopeVotesModel", name := "in", desc := "(III)Z" } : Jvm.MethodName)) ∈ rr_all := rr_in 692 rfl rfl
set_option maxRecDepth 20000 in
theorem q_678 : (Jvm.Cond.static ({ cls := "RopeVotesModel", name := "in", desc := "(III)Z" } : Jvm.MethodName)) ∈ rr_all := rr_in 693 rfl rfl
set_option maxRecDepth 20000 in
theorem q_679 : (Jvm.Cond.code ({ cls := "RopeVotesModel", name := "in", desc := "(III)Z" } : Jvm.MethodName) prog_8_method_3_code (3 : Nat) (Option.some Jvm.ClassFile.FieldType.boolean)) ∈ rr_all := rr_in 694 rfl rfl
set_option maxRecDepth 20000 in
theorem q_680 : (Jvm.Cond.methodLink "RopeVotesModel" (90 : Nat) ({ cls := "RopeVotesModel", name := "peopleIn", desc := "(I)I" } : Jvm.MethodName)) ∈ rr_all := rr_in 695 rfl rfl
set_option maxRecDepth 20000 in
theorem q_682 : (Jvm.Cond.instanceMethod ({ cls := "RopeVotesModel", name := "peopleIn", desc := "(I)I" } : Jvm.MethodName)) ∈ rr_all := rr_in 697 rfl rfl
set_option maxRecDepth 20000 in
theorem q_683 : (Jvm.Cond.code ({ cls := "RopeVotesModel", name := "peopleIn", desc := "(I)I" } : Jvm.MethodName) prog_8_method_8_code (4 : Nat) (Option.some Jvm.ClassFile.FieldType.int)) ∈ rr_all := rr_in 698 rfl rfl
set_option maxRecDepth 20000 in
theorem q_684 : (Jvm.Cond.methodLink "RopeVotesLaw" (91 : Nat) ({ cls := "RopeVotesModel", name := "cars", desc := "()I" } : Jvm.MethodName)) ∈ rr_all := rr_in 699 rfl rfl
set_option maxRecDepth 20000 in
theorem q_685 : (Jvm.Cond.instanceMethod ({ cls := "RopeVotesModel", name := "cars", desc := "()I" } : Jvm.MethodName)) ∈ rr_all := rr_in 700 rfl rfl
set_option maxRecDepth 20000 in
theorem q_686 : (Jvm.Cond.selects "RopeVotesModel" ({ cls := "RopeVotesModel", name := "cars", desc := "()I" } : Jvm.MethodName) ({ cls := "RopeVotesModel", name := "cars", desc := "()I" } : Jvm.MethodName)) ∈ rr_all := rr_in 701 rfl rfl
set_option maxRecDepth 20000 in
theorem q_687 : (Jvm.Cond.code ({ cls := "RopeVotesModel", name := "cars", desc := "()I" } : Jvm.MethodName) prog_8_method_10_code (3 : Nat) (Option.some Jvm.ClassFile.FieldType.int)) ∈ rr_all := rr_in 702 rfl rfl
set_option maxRecDepth 20000 in
theorem q_688 : (Jvm.Cond.methodLink "RopeVotesLaw" (94 : Nat) ({ cls := "RopeVotesModel", name := "place", desc := "(I)I" } : Jvm.MethodName)) ∈ rr_all := rr_in 703 rfl rfl
set_option maxRecDepth 20000 in
theorem q_689 : (Jvm.Cond.instanceMethod ({ cls := "RopeVotesModel", name := "place", desc := "(I)I" } : Jvm.MethodName)) ∈ rr_all := rr_in 704 rfl rfl
set_option maxRecDepth 20000 in
theorem q_690 : (Jvm.Cond.selects "RopeVotesModel" ({ cls := "RopeVotesModel", name := "place", desc := "(I)I" } : Jvm.MethodName) ({ cls := "RopeVotesModel", name := "place", desc := "(I)I" } : Jvm.MethodName)) ∈ rr_all := rr_in 705 rfl rfl
set_option maxRecDepth 20000 in
theorem q_691 : (Jvm.Cond.code ({ cls := "RopeVotesModel", name := "place", desc := "(I)I" } : Jvm.MethodName) prog_8_method_11_code (2 : Nat) (Option.some Jvm.ClassFile.FieldType.int)) ∈ rr_all := rr_in 706 rfl rfl
set_option maxRecDepth 20000 in
theorem q_692 : (Jvm.Cond.methodLink "RopeVotesLaw" (97 : Nat) ({ cls := "RopeVotesModel", name := "placeByTurns", desc := "(I)I" } : Jvm.MethodName)) ∈ rr_all := rr_in 707 rfl rfl
set_option maxRecDepth 20000 in
theorem q_693 : (Jvm.Cond.instanceMethod ({ cls := "RopeVotesModel", name := "placeByTurns", desc := "(I)I" } : Jvm.MethodName)) ∈ rr_all := rr_in 708 rfl rfl
set_option maxRecDepth 20000 in
theorem q_694 : (Jvm.Cond.selects "RopeVotesModel" ({ cls := "RopeVotesModel", name := "placeByTurns", desc := "(I)I" } : Jvm.MethodName) ({ cls := "RopeVotesModel", name := "placeByTurns", desc := "(I)I" } : Jvm.MethodName)) ∈ rr_all := rr_in 709 rfl rfl
set_option maxRecDepth 20000 in
theorem q_695 : (Jvm.Cond.code ({ cls := "RopeVotesModel", name := "placeByTurns", desc := "(I)I" } : Jvm.MethodName) prog_8_method_12_code (2 : Nat) (Option.some Jvm.ClassFile.FieldType.int)) ∈ rr_all := rr_in 710 rfl rfl
set_option maxRecDepth 20000 in
theorem q_696 : (Jvm.Cond.methodLink "RopeVotesModel" (93 : Nat) ({ cls := "RopeVotesModel", name := "place", desc := "(I)I" } : Jvm.MethodName)) ∈ rr_all := rr_in 711 rfl rfl
set_option maxRecDepth 20000 in
theorem q_697 : (Jvm.Cond.methodLink "RopeVotesLaw" (101 : Nat) ({ cls := "RopeVotesModel", name := "leastGap", desc := "()I" } : Jvm.MethodName)) ∈ rr_all := rr_in 712 rfl rfl
set_option maxRecDepth 20000 in
theorem q_698 : (Jvm.Cond.instanceMethod ({ cls := "RopeVotesModel", name := "leastGap", desc := "()I" } : Jvm.MethodName)) ∈ rr_all := rr_in 713 rfl rfl
set_option maxRecDepth 20000 in
theorem q_699 : (Jvm.Cond.selects "RopeVotesModel" ({ cls := "RopeVotesModel", name := "leastGap", desc := "()I" } : Jvm.MethodName) ({ cls := "RopeVotesModel", name := "leastGap", desc := "()I" } : Jvm.MethodName)) ∈ rr_all := rr_in 714 rfl rfl
set_option maxRecDepth 20000 in
theorem q_700 : (Jvm.Cond.code ({ cls := "RopeVotesModel", name := "leastGap", desc := "()I" } : Jvm.MethodName) prog_8_method_13_code (5 : Nat) (Option.some Jvm.ClassFile.FieldType.int)) ∈ rr_all := rr_in 715 rfl rfl
set_option maxRecDepth 20000 in
theorem q_701 : (Jvm.Cond.methodLink "RopeVotesLaw" (105 : Nat) ({ cls := "RopeVotesModel", name := "wind", desc := "(II)I" } : Jvm.MethodName)) ∈ rr_all := rr_in 716 rfl rfl
set_option maxRecDepth 20000 in
theorem q_702 : (Jvm.Cond.instanceMethod ({ cls := "RopeVotesModel", name := "wind", desc := "(II)I" } : Jvm.MethodName)) ∈ rr_all := rr_in 717 rfl rfl
set_option maxRecDepth 20000 in
theorem q_703 : (Jvm.Cond.selects "RopeVotesModel" ({ cls := "RopeVotesModel", name := "wind", desc := "(II)I" } : Jvm.MethodName) ({ cls := "RopeVotesModel", name := "wind", desc := "(II)I" } : Jvm.MethodName)) ∈ rr_all := rr_in 718 rfl rfl
set_option maxRecDepth 20000 in
theorem q_704 : (Jvm.Cond.code ({ cls := "RopeVotesModel", name := "wind", desc := "(II)I" } : Jvm.MethodName) prog_8_method_16_code (3 : Nat) (Option.some Jvm.ClassFile.FieldType.int)) ∈ rr_all := rr_in 719 rfl rfl
set_option maxRecDepth 20000 in
theorem q_705 : (Jvm.Cond.methodLink "RopeVotesModel" (96 : Nat) ({ cls := "RopeVotesModel", name := "isTower", desc := "(I)Z" } : Jvm.MethodName)) ∈ rr_all := rr_in 720 rfl rfl
set_option maxRecDepth 20000 in
theorem q_706 : (Jvm.Cond.static ({ cls := "RopeVotesModel", name := "isTower", desc := "(I)Z" } : Jvm.MethodName)) ∈ rr_all := rr_in 721 rfl rfl
set_option maxRecDepth 20000 in
theorem q_707 : (Jvm.Cond.code ({ cls := "RopeVotesModel", name := "isTower", desc := "(I)Z" } : Jvm.MethodName) prog_8_method_14_code (1 : Nat) (Option.some Jvm.ClassFile.FieldType.boolean)) ∈ rr_all := rr_in 722 rfl rfl
set_option maxRecDepth 20000 in
theorem q_708 : (Jvm.Cond.methodLink "RopeVotesModel" (99 : Nat) ({ cls := "RopeVotesModel", name := "votesNow", desc := "(I)I" } : Jvm.MethodName)) ∈ rr_all := rr_in 723 rfl rfl
set_option maxRecDepth 20000 in
theorem q_710 : (Jvm.Cond.instanceMethod ({ cls := "RopeVotesModel", name := "votesNow", desc := "(I)I" } : Jvm.MethodName)) ∈ rr_all := rr_in 725 rfl rfl
set_option maxRecDepth 20000 in
theorem q_711 : (Jvm.Cond.code ({ cls := "RopeVotesModel", name := "votesNow", desc := "(I)I" } : Jvm.MethodName) prog_8_method_15_code (2 : Nat) (Option.some Jvm.ClassFile.FieldType.int)) ∈ rr_all := rr_in 726 rfl rfl
set_option maxRecDepth 20000 in
theorem q_712 : (Jvm.Cond.methodLink "RopeVotesLaw" (109 : Nat) ({ cls := "RopeVotesModel", name := "setLimits", desc := "(III)I" } : Jvm.MethodName)) ∈ rr_all := rr_in 727 rfl rfl
set_option maxRecDepth 20000 in
theorem q_713 : (Jvm.Cond.instanceMethod ({ cls := "RopeVotesModel", name := "setLimits", desc := "(III)I" } : Jvm.MethodName)) ∈ rr_all := rr_in 728 rfl rfl
set_option maxRecDepth 20000 in
theorem q_714 : (Jvm.Cond.selects "RopeVotesModel" ({ cls := "RopeVotesModel", name := "setLimits", desc := "(III)I" } : Jvm.MethodName) ({ cls := "RopeVotesModel", name := "setLimits", desc := "(III)I" } : Jvm.MethodName)) ∈ rr_all := rr_in 729 rfl rfl
set_option maxRecDepth 20000 in
theorem q_715 : (Jvm.Cond.code ({ cls := "RopeVotesModel", name := "setLimits", desc := "(III)I" } : Jvm.MethodName) prog_8_method_17_code (4 : Nat) (Option.some Jvm.ClassFile.FieldType.int)) ∈ rr_all := rr_in 730 rfl rfl
set_option maxRecDepth 20000 in
theorem q_716 : (Jvm.Cond.methodLink "RopeVotesLaw" (113 : Nat) ({ cls := "RopeVotesModel", name := "cut", desc := "(IZ)I" } : Jvm.MethodName)) ∈ rr_all := rr_in 731 rfl rfl
set_option maxRecDepth 20000 in
theorem q_717 : (Jvm.Cond.instanceMethod ({ cls := "RopeVotesModel", name := "cut", desc := "(IZ)I" } : Jvm.MethodName)) ∈ rr_all := rr_in 732 rfl rfl
set_option maxRecDepth 20000 in
theorem q_718 : (Jvm.Cond.selects "RopeVotesModel" ({ cls := "RopeVotesModel", name := "cut", desc := "(IZ)I" } : Jvm.MethodName) ({ cls := "RopeVotesModel", name := "cut", desc := "(IZ)I" } : Jvm.MethodName)) ∈ rr_all := rr_in 733 rfl rfl
set_option maxRecDepth 20000 in
theorem q_719 : (Jvm.Cond.code ({ cls := "RopeVotesModel", name := "cut", desc := "(IZ)I" } : Jvm.MethodName) prog_8_method_18_code (5 : Nat) (Option.some Jvm.ClassFile.FieldType.int)) ∈ rr_all := rr_in 734 rfl rfl
set_option maxRecDepth 20000 in
theorem q_720 : (Jvm.Cond.methodLink "RopeVotesLaw" (116 : Nat) ({ cls := "RopeVotesModel", name := "vote", desc := "(I)I" } : Jvm.MethodName)) ∈ rr_all := rr_in 735 rfl rfl
set_option maxRecDepth 20000 in
theorem q_721 : (Jvm.Cond.instanceMethod ({ cls := "RopeVotesModel", name := "vote", desc := "(I)I" } : Jvm.MethodName)) ∈ rr_all := rr_in 736 rfl rfl
set_option maxRecDepth 20000 in
theorem q_722 : (Jvm.Cond.selects "RopeVotesModel" ({ cls := "RopeVotesModel", name := "vote", desc := "(I)I" } : Jvm.MethodName) ({ cls := "RopeVotesModel", name := "vote", desc := "(I)I" } : Jvm.MethodName)) ∈ rr_all := rr_in 737 rfl rfl
set_option maxRecDepth 20000 in
theorem q_723 : (Jvm.Cond.code ({ cls := "RopeVotesModel", name := "vote", desc := "(I)I" } : Jvm.MethodName) prog_8_method_19_code (2 : Nat) (Option.some Jvm.ClassFile.FieldType.int)) ∈ rr_all := rr_in 738 rfl rfl
set_option maxRecDepth 20000 in
theorem q_724 : (Jvm.Cond.methodLink "RopeVotesLaw" (119 : Nat) ({ cls := "RopeVotesModel", name := "voteTime", desc := "(I)I" } : Jvm.MethodName)) ∈ rr_all := rr_in 739 rfl rfl
set_option maxRecDepth 20000 in
theorem q_725 : (Jvm.Cond.instanceMethod ({ cls := "RopeVotesModel", name := "voteTime", desc := "(I)I" } : Jvm.MethodName)) ∈ rr_all := rr_in 740 rfl rfl
set_option maxRecDepth 20000 in
theorem q_726 : (Jvm.Cond.selects "RopeVotesModel" ({ cls := "RopeVotesModel", name := "voteTime", desc := "(I)I" } : Jvm.MethodName) ({ cls := "RopeVotesModel", name := "voteTime", desc := "(I)I" } : Jvm.MethodName)) ∈ rr_all := rr_in 741 rfl rfl
set_option maxRecDepth 20000 in
theorem q_727 : (Jvm.Cond.code ({ cls := "RopeVotesModel", name := "voteTime", desc := "(I)I" } : Jvm.MethodName) prog_8_method_20_code (2 : Nat) (Option.some Jvm.ClassFile.FieldType.int)) ∈ rr_all := rr_in 742 rfl rfl
set_option maxRecDepth 20000 in
theorem q_728 : (Jvm.Cond.methodLink "RopeVotesLaw" (123 : Nat) ({ cls := "RopeVotesModel", name := "fresh", desc := "()I" } : Jvm.MethodName)) ∈ rr_all := rr_in 743 rfl rfl
set_option maxRecDepth 20000 in
theorem q_729 : (Jvm.Cond.instanceMethod ({ cls := "RopeVotesModel", name := "fresh", desc := "()I" } : Jvm.MethodName)) ∈ rr_all := rr_in 744 rfl rfl
set_option maxRecDepth 20000 in
theorem q_730 : (Jvm.Cond.selects "RopeVotesModel" ({ cls := "RopeVotesModel", name := "fresh", desc := "()I" } : Jvm.MethodName) ({ cls := "RopeVotesModel", name := "fresh", desc := "()I" } : Jvm.MethodName)) ∈ rr_all := rr_in 745 rfl rfl
set_option maxRecDepth 20000 in
theorem q_731 : (Jvm.Cond.code ({ cls := "RopeVotesModel", name := "fresh", desc := "()I" } : Jvm.MethodName) prog_8_method_22_code (3 : Nat) (Option.some Jvm.ClassFile.FieldType.int)) ∈ rr_all := rr_in 746 rfl rfl
set_option maxRecDepth 20000 in
theorem q_732 : (Jvm.Cond.methodLink "RopeVotesModel" (105 : Nat) ({ cls := "RopeVotesModel", name := "isFresh", desc := "(I)Z" } : Jvm.MethodName)) ∈ rr_all := rr_in 747 rfl rfl
set_option maxRecDepth 20000 in
theorem q_734 : (Jvm.Cond.instanceMethod ({ cls := "RopeVotesModel", name := "isFresh", desc := "(I)Z" } : Jvm.MethodName)) ∈ rr_all := rr_in 749 rfl rfl
set_option maxRecDepth 20000 in
theorem q_735 : (Jvm.Cond.code ({ cls := "RopeVotesModel", name := "isFresh", desc := "(I)Z" } : Jvm.MethodName) prog_8_method_21_code (2 : Nat) (Option.some Jvm.ClassFile.FieldType.boolean)) ∈ rr_all := rr_in 750 rfl rfl
set_option maxRecDepth 20000 in
theorem q_736 : (Jvm.Cond.methodLink "RopeVotesLaw" (127 : Nat) ({ cls := "RopeVotesModel", name := "onTheWay", desc := "()I" } : Jvm.MethodName)) ∈ rr_all := rr_in 751 rfl rfl
set_option maxRecDepth 20000 in
theorem q_737 : (Jvm.Cond.instanceMethod ({ cls := "RopeVotesModel", name := "onTheWay", desc := "()I" } : Jvm.MethodName)) ∈ rr_all := rr_in 752 rfl rfl
set_option maxRecDepth 20000 in
theorem q_738 : (Jvm.Cond.selects "RopeVotesModel" ({ cls := "RopeVotesModel", name := "onTheWay", desc := "()I" } : Jvm.MethodName) ({ cls := "RopeVotesModel", name := "onTheWay", desc := "()I" } : Jvm.MethodName)) ∈ rr_all := rr_in 753 rfl rfl
set_option maxRecDepth 20000 in
theorem q_739 : (Jvm.Cond.code ({ cls := "RopeVotesModel", name := "onTheWay", desc := "()I" } : Jvm.MethodName) prog_8_method_23_code (3 : Nat) (Option.some Jvm.ClassFile.FieldType.int)) ∈ rr_all := rr_in 754 rfl rfl
set_option maxRecDepth 20000 in
theorem q_740 : (Jvm.Cond.methodLink "RopeVotesLaw" (131 : Nat) ({ cls := "RopeVotesModel", name := "wouldDecide", desc := "()I" } : Jvm.MethodName)) ∈ rr_all := rr_in 755 rfl rfl
set_option maxRecDepth 20000 in
theorem q_741 : (Jvm.Cond.instanceMethod ({ cls := "RopeVotesModel", name := "wouldDecide", desc := "()I" } : Jvm.MethodName)) ∈ rr_all := rr_in 756 rfl rfl
set_option maxRecDepth 20000 in
theorem q_742 : (Jvm.Cond.selects "RopeVotesModel" ({ cls := "RopeVotesModel", name := "wouldDecide", desc := "()I" } : Jvm.MethodName) ({ cls := "RopeVotesModel", name := "wouldDecide", desc := "()I" } : Jvm.MethodName)) ∈ rr_all := rr_in 757 rfl rfl
set_option maxRecDepth 20000 in
theorem q_743 : (Jvm.Cond.code ({ cls := "RopeVotesModel", name := "wouldDecide", desc := "()I" } : Jvm.MethodName) prog_8_method_26_code (1 : Nat) (Option.some Jvm.ClassFile.FieldType.int)) ∈ rr_all := rr_in 758 rfl rfl
set_option maxRecDepth 20000 in
theorem q_744 : (Jvm.Cond.methodLink "RopeVotesModel" (114 : Nat) ({ cls := "RopeVotesModel", name := "decides", desc := "()I" } : Jvm.MethodName)) ∈ rr_all := rr_in 759 rfl rfl
set_option maxRecDepth 20000 in
theorem q_746 : (Jvm.Cond.instanceMethod ({ cls := "RopeVotesModel", name := "decides", desc := "()I" } : Jvm.MethodName)) ∈ rr_all := rr_in 761 rfl rfl
set_option maxRecDepth 20000 in
theorem q_747 : (Jvm.Cond.code ({ cls := "RopeVotesModel", name := "decides", desc := "()I" } : Jvm.MethodName) prog_8_method_25_code (4 : Nat) (Option.some Jvm.ClassFile.FieldType.int)) ∈ rr_all := rr_in 762 rfl rfl
set_option maxRecDepth 20000 in
theorem q_748 : (Jvm.Cond.methodLink "RopeVotesModel" (108 : Nat) ({ cls := "RopeVotesModel", name := "count", desc := "(I)I" } : Jvm.MethodName)) ∈ rr_all := rr_in 763 rfl rfl
set_option maxRecDepth 20000 in
theorem q_750 : (Jvm.Cond.instanceMethod ({ cls := "RopeVotesModel", name := "count", desc := "(I)I" } : Jvm.MethodName)) ∈ rr_all := rr_in 765 rfl rfl
set_option maxRecDepth 20000 in
theorem q_751 : (Jvm.Cond.code ({ cls := "RopeVotesModel", name := "count", desc := "(I)I" } : Jvm.MethodName) prog_8_method_24_code (4 : Nat) (Option.some Jvm.ClassFile.FieldType.int)) ∈ rr_all := rr_in 766 rfl rfl
set_option maxRecDepth 20000 in
theorem q_752 : (Jvm.Cond.methodLink "RopeVotesLaw" (136 : Nat) ({ cls := "RopeVotesModel", name := "hold", desc := "(Z)Z" } : Jvm.MethodName)) ∈ rr_all := rr_in 767 rfl rfl
set_option maxRecDepth 20000 in
theorem q_753 : (Jvm.Cond.instanceMethod ({ cls := "RopeVotesModel", name := "hold", desc := "(Z)Z" } : Jvm.MethodName)) ∈ rr_all := rr_in 768 rfl rfl
set_option maxRecDepth 20000 in
theorem q_754 : (Jvm.Cond.selects "RopeVotesModel" ({ cls := "RopeVotesModel", name := "hold", desc := "(Z)Z" } : Jvm.MethodName) ({ cls := "RopeVotesModel", name := "hold", desc := "(Z)Z" } : Jvm.MethodName)) ∈ rr_all := rr_in 769 rfl rfl
set_option maxRecDepth 20000 in
theorem q_755 : (Jvm.Cond.code ({ cls := "RopeVotesModel", name := "hold", desc := "(Z)Z" } : Jvm.MethodName) prog_8_method_27_code (3 : Nat) (Option.some Jvm.ClassFile.FieldType.boolean)) ∈ rr_all := rr_in 770 rfl rfl
set_option maxRecDepth 20000 in
theorem q_756 : (Jvm.Cond.methodLink "RopeVotesLaw" (139 : Nat) ({ cls := "RopeVotesModel", name := "pass", desc := "(I)I" } : Jvm.MethodName)) ∈ rr_all := rr_in 771 rfl rfl
set_option maxRecDepth 20000 in
theorem q_757 : (Jvm.Cond.instanceMethod ({ cls := "RopeVotesModel", name := "pass", desc := "(I)I" } : Jvm.MethodName)) ∈ rr_all := rr_in 772 rfl rfl
set_option maxRecDepth 20000 in
theorem q_758 : (Jvm.Cond.selects "RopeVotesModel" ({ cls := "RopeVotesModel", name := "pass", desc := "(I)I" } : Jvm.MethodName) ({ cls := "RopeVotesModel", name := "pass", desc := "(I)I" } : Jvm.MethodName)) ∈ rr_all := rr_in 773 rfl rfl
set_option maxRecDepth 20000 in
theorem q_759 : (Jvm.Cond.code ({ cls := "RopeVotesModel", name := "pass", desc := "(I)I" } : Jvm.MethodName) prog_8_method_32_code (5 : Nat) (Option.some Jvm.ClassFile.FieldType.int)) ∈ rr_all := rr_in 774 rfl rfl
set_option maxRecDepth 20000 in
theorem q_760 : (Jvm.Cond.methodLink "RopeVotesModel" (127 : Nat) ({ cls := "RopeVotesModel", name := "passesOne", desc := "()I" } : Jvm.MethodName)) ∈ rr_all := rr_in 775 rfl rfl
set_option maxRecDepth 20000 in
theorem q_762 : (Jvm.Cond.instanceMethod ({ cls := "RopeVotesModel", name := "passesOne", desc := "()I" } : Jvm.MethodName)) ∈ rr_all := rr_in 777 rfl rfl
set_option maxRecDepth 20000 in
theorem q_763 : (Jvm.Cond.code ({ cls := "RopeVotesModel", name := "passesOne", desc := "()I" } : Jvm.MethodName) prog_8_method_31_code (4 : Nat) (Option.some Jvm.ClassFile.FieldType.int)) ∈ rr_all := rr_in 778 rfl rfl
set_option maxRecDepth 20000 in
theorem q_764 : (Jvm.Cond.methodLink "RopeVotesModel" (121 : Nat) ({ cls := "RopeVotesModel", name := "votesAll", desc := "()V" } : Jvm.MethodName)) ∈ rr_all := rr_in 779 rfl rfl
set_option maxRecDepth 20000 in
theorem q_766 : (Jvm.Cond.instanceMethod ({ cls := "RopeVotesModel", name := "votesAll", desc := "()V" } : Jvm.MethodName)) ∈ rr_all := rr_in 781 rfl rfl
set_option maxRecDepth 20000 in
theorem q_767 : (Jvm.Cond.code ({ cls := "RopeVotesModel", name := "votesAll", desc := "()V" } : Jvm.MethodName) prog_8_method_29_code (3 : Nat) (Option.none : Option Jvm.ClassFile.FieldType)) ∈ rr_all := rr_in 782 rfl rfl
set_option maxRecDepth 20000 in
theorem q_768 : (Jvm.Cond.methodLink "RopeVotesModel" (118 : Nat) ({ cls := "RopeVotesModel", name := "way", desc := "(I)I" } : Jvm.MethodName)) ∈ rr_all := rr_in 783 rfl rfl
set_option maxRecDepth 20000 in
theorem q_770 : (Jvm.Cond.instanceMethod ({ cls := "RopeVotesModel", name := "way", desc := "(I)I" } : Jvm.MethodName)) ∈ rr_all := rr_in 785 rfl rfl
set_option maxRecDepth 20000 in
theorem q_771 : (Jvm.Cond.code ({ cls := "RopeVotesModel", name := "way", desc := "(I)I" } : Jvm.MethodName) prog_8_method_28_code (5 : Nat) (Option.some Jvm.ClassFile.FieldType.int)) ∈ rr_all := rr_in 786 rfl rfl
set_option maxRecDepth 20000 in
theorem q_772 : (Jvm.Cond.methodLink "RopeVotesModel" (124 : Nat) ({ cls := "RopeVotesModel", name := "isInStation", desc := "(I)Z" } : Jvm.MethodName)) ∈ rr_all := rr_in 787 rfl rfl
set_option maxRecDepth 20000 in
theorem q_773 : (Jvm.Cond.static ({ cls := "RopeVotesModel", name := "isInStation", desc := "(I)Z" } : Jvm.MethodName)) ∈ rr_all := rr_in 788 rfl rfl
set_option maxRecDepth 20000 in
theorem q_774 : (Jvm.Cond.code ({ cls := "RopeVotesModel", name := "isInStation", desc := "(I)Z" } : Jvm.MethodName) prog_8_method_30_code (1 : Nat) (Option.some Jvm.ClassFile.FieldType.boolean)) ∈ rr_all := rr_in 789 rfl rfl
set_option maxRecDepth 20000 in
theorem q_775 : (Jvm.Cond.methodLink "RopeVotesLaw" (143 : Nat) ({ cls := "RopeVotesModel", name := "time", desc := "()I" } : Jvm.MethodName)) ∈ rr_all := rr_in 790 rfl rfl
set_option maxRecDepth 20000 in
theorem q_776 : (Jvm.Cond.instanceMethod ({ cls := "RopeVotesModel", name := "time", desc := "()I" } : Jvm.MethodName)) ∈ rr_all := rr_in 791 rfl rfl
set_option maxRecDepth 20000 in
theorem q_777 : (Jvm.Cond.selects "RopeVotesModel" ({ cls := "RopeVotesModel", name := "time", desc := "()I" } : Jvm.MethodName) ({ cls := "RopeVotesModel", name := "time", desc := "()I" } : Jvm.MethodName)) ∈ rr_all := rr_in 792 rfl rfl
set_option maxRecDepth 20000 in
theorem q_778 : (Jvm.Cond.code ({ cls := "RopeVotesModel", name := "time", desc := "()I" } : Jvm.MethodName) prog_8_method_33_code (1 : Nat) (Option.some Jvm.ClassFile.FieldType.int)) ∈ rr_all := rr_in 793 rfl rfl
set_option maxRecDepth 20000 in
theorem q_779 : (Jvm.Cond.methodLink "RopeVotesLaw" (147 : Nat) ({ cls := "RopeVotesModel", name := "moved", desc := "()I" } : Jvm.MethodName)) ∈ rr_all := rr_in 794 rfl rfl
set_option maxRecDepth 20000 in
theorem q_780 : (Jvm.Cond.instanceMethod ({ cls := "RopeVotesModel", name := "moved", desc := "()I" } : Jvm.MethodName)) ∈ rr_all := rr_in 795 rfl rfl
set_option maxRecDepth 20000 in
theorem q_781 : (Jvm.Cond.selects "RopeVotesModel" ({ cls := "RopeVotesModel", name := "moved", desc := "()I" } : Jvm.MethodName) ({ cls := "RopeVotesModel", name := "moved", desc := "()I" } : Jvm.MethodName)) ∈ rr_all := rr_in 796 rfl rfl
set_option maxRecDepth 20000 in
theorem q_782 : (Jvm.Cond.code ({ cls := "RopeVotesModel", name := "moved", desc := "()I" } : Jvm.MethodName) prog_8_method_34_code (1 : Nat) (Option.some Jvm.ClassFile.FieldType.int)) ∈ rr_all := rr_in 797 rfl rfl
set_option maxRecDepth 20000 in
theorem q_783 : (Jvm.Cond.methodLink "RopeVotesLaw" (150 : Nat) ({ cls := "RopeVotesModel", name := "decided", desc := "(I)I" } : Jvm.MethodName)) ∈ rr_all := rr_in 798 rfl rfl
set_option maxRecDepth 20000 in
theorem q_784 : (Jvm.Cond.instanceMethod ({ cls := "RopeVotesModel", name := "decided", desc := "(I)I" } : Jvm.MethodName)) ∈ rr_all := rr_in 799 rfl rfl
set_option maxRecDepth 20000 in
theorem q_785 : (Jvm.Cond.selects "RopeVotesModel" ({ cls := "RopeVotesModel", name := "decided", desc := "(I)I" } : Jvm.MethodName) ({ cls := "RopeVotesModel", name := "decided", desc := "(I)I" } : Jvm.MethodName)) ∈ rr_all := rr_in 800 rfl rfl
set_option maxRecDepth 20000 in
theorem q_786 : (Jvm.Cond.code ({ cls := "RopeVotesModel", name := "decided", desc := "(I)I" } : Jvm.MethodName) prog_8_method_35_code (2 : Nat) (Option.some Jvm.ClassFile.FieldType.int)) ∈ rr_all := rr_in 801 rfl rfl
set_option maxRecDepth 20000 in
theorem q_787 : (Jvm.Cond.methodLink "RopeVotesLaw" (153 : Nat) ({ cls := "RopeVotesModel", name := "minutes", desc := "(I)I" } : Jvm.MethodName)) ∈ rr_all := rr_in 802 rfl rfl
set_option maxRecDepth 20000 in
theorem q_788 : (Jvm.Cond.instanceMethod ({ cls := "RopeVotesModel", name := "minutes", desc := "(I)I" } : Jvm.MethodName)) ∈ rr_all := rr_in 803 rfl rfl
set_option maxRecDepth 20000 in
theorem q_789 : (Jvm.Cond.selects "RopeVotesModel" ({ cls := "RopeVotesModel", name := "minutes", desc := "(I)I" } : Jvm.MethodName) ({ cls := "RopeVotesModel", name := "minutes", desc := "(I)I" } : Jvm.MethodName)) ∈ rr_all := rr_in 804 rfl rfl
set_option maxRecDepth 20000 in
theorem q_790 : (Jvm.Cond.code ({ cls := "RopeVotesModel", name := "minutes", desc := "(I)I" } : Jvm.MethodName) prog_8_method_36_code (4 : Nat) (Option.some Jvm.ClassFile.FieldType.int)) ∈ rr_all := rr_in 805 rfl rfl
set_option maxRecDepth 20000 in
theorem q_791 : (Jvm.Cond.methodLink "RopeVotesLaw" (156 : Nat) ({ cls := "RopeVotesModel", name := "board", desc := "(III)I" } : Jvm.MethodName)) ∈ rr_all := rr_in 806 rfl rfl
set_option maxRecDepth 20000 in
theorem q_792 : (Jvm.Cond.instanceMethod ({ cls := "RopeVotesModel", name := "board", desc := "(III)I" } : Jvm.MethodName)) ∈ rr_all := rr_in 807 rfl rfl
set_option maxRecDepth 20000 in
theorem q_793 : (Jvm.Cond.selects "RopeVotesModel" ({ cls := "RopeVotesModel", name := "board", desc := "(III)I" } : Jvm.MethodName) ({ cls := "RopeVotesModel", name := "board", desc := "(III)I" } : Jvm.MethodName)) ∈ rr_all := rr_in 808 rfl rfl
set_option maxRecDepth 20000 in
theorem q_794 : (Jvm.Cond.code ({ cls := "RopeVotesModel", name := "board", desc := "(III)I" } : Jvm.MethodName) prog_8_method_37_code (5 : Nat) (Option.some Jvm.ClassFile.FieldType.int)) ∈ rr_all := rr_in 809 rfl rfl
set_option maxRecDepth 20000 in
theorem q_795 : (Jvm.Cond.methodLink "RopeVotesLaw" (159 : Nat) ({ cls := "RopeVotesModel", name := "people", desc := "(I)I" } : Jvm.MethodName)) ∈ rr_all := rr_in 810 rfl rfl
set_option maxRecDepth 20000 in
theorem q_796 : (Jvm.Cond.instanceMethod ({ cls := "RopeVotesModel", name := "people", desc := "(I)I" } : Jvm.MethodName)) ∈ rr_all := rr_in 811 rfl rfl
set_option maxRecDepth 20000 in
theorem q_797 : (Jvm.Cond.selects "RopeVotesModel" ({ cls := "RopeVotesModel", name := "people", desc := "(I)I" } : Jvm.MethodName) ({ cls := "RopeVotesModel", name := "people", desc := "(I)I" } : Jvm.MethodName)) ∈ rr_all := rr_in 812 rfl rfl
set_option maxRecDepth 20000 in
theorem q_798 : (Jvm.Cond.code ({ cls := "RopeVotesModel", name := "people", desc := "(I)I" } : Jvm.MethodName) prog_8_method_38_code (2 : Nat) (Option.some Jvm.ClassFile.FieldType.int)) ∈ rr_all := rr_in 813 rfl rfl
set_option maxRecDepth 20000 in
theorem q_799 : (Jvm.Cond.methodLink "RopeVotesLaw" (162 : Nat) ({ cls := "RopeVotesModel", name := "arrived", desc := "(I)I" } : Jvm.MethodName)) ∈ rr_all := rr_in 814 rfl rfl
set_option maxRecDepth 20000 in
theorem q_800 : (Jvm.Cond.instanceMethod ({ cls := "RopeVotesModel", name := "arrived", desc := "(I)I" } : Jvm.MethodName)) ∈ rr_all := rr_in 815 rfl rfl
set_option maxRecDepth 20000 in
theorem q_801 : (Jvm.Cond.selects "RopeVotesModel" ({ cls := "RopeVotesModel", name := "arrived", desc := "(I)I" } : Jvm.MethodName) ({ cls := "RopeVotesModel", name := "arrived", desc := "(I)I" } : Jvm.MethodName)) ∈ rr_all := rr_in 816 rfl rfl
set_option maxRecDepth 20000 in
theorem q_802 : (Jvm.Cond.code ({ cls := "RopeVotesModel", name := "arrived", desc := "(I)I" } : Jvm.MethodName) prog_8_method_40_code (2 : Nat) (Option.some Jvm.ClassFile.FieldType.int)) ∈ rr_all := rr_in 817 rfl rfl
set_option maxRecDepth 20000 in
theorem q_803 : (Jvm.Cond.methodLink "RopeVotesModel" (130 : Nat) ({ cls := "RopeVotesModel", name := "isTicket", desc := "(I)Z" } : Jvm.MethodName)) ∈ rr_all := rr_in 818 rfl rfl
set_option maxRecDepth 20000 in
theorem q_805 : (Jvm.Cond.instanceMethod ({ cls := "RopeVotesModel", name := "isTicket", desc := "(I)Z" } : Jvm.MethodName)) ∈ rr_all := rr_in 820 rfl rfl
set_option maxRecDepth 20000 in
theorem q_806 : (Jvm.Cond.code ({ cls := "RopeVotesModel", name := "isTicket", desc := "(I)Z" } : Jvm.MethodName) prog_8_method_39_code (2 : Nat) (Option.some Jvm.ClassFile.FieldType.boolean)) ∈ rr_all := rr_in 821 rfl rfl
set_option maxRecDepth 20000 in
theorem q_807 : (Jvm.Cond.methodLink "RopeVotesLaw" (165 : Nat) ({ cls := "RopeVotesModel", name := "hung", desc := "(I)I" } : Jvm.MethodName)) ∈ rr_all := rr_in 822 rfl rfl
set_option maxRecDepth 20000 in
theorem q_808 : (Jvm.Cond.instanceMethod ({ cls := "RopeVotesModel", name := "hung", desc := "(I)I" } : Jvm.MethodName)) ∈ rr_all := rr_in 823 rfl rfl
set_option maxRecDepth 20000 in
theorem q_809 : (Jvm.Cond.selects "RopeVotesModel" ({ cls := "RopeVotesModel", name := "hung", desc := "(I)I" } : Jvm.MethodName) ({ cls := "RopeVotesModel", name := "hung", desc := "(I)I" } : Jvm.MethodName)) ∈ rr_all := rr_in 824 rfl rfl
set_option maxRecDepth 20000 in
theorem q_810 : (Jvm.Cond.code ({ cls := "RopeVotesModel", name := "hung", desc := "(I)I" } : Jvm.MethodName) prog_8_method_41_code (2 : Nat) (Option.some Jvm.ClassFile.FieldType.int)) ∈ rr_all := rr_in 825 rfl rfl
set_option maxRecDepth 20000 in
theorem q_811 : (Jvm.Cond.methodLink "RopeVotesLaw" (168 : Nat) ({ cls := "RopeVotesModel", name := "refund", desc := "(I)I" } : Jvm.MethodName)) ∈ rr_all := rr_in 826 rfl rfl
set_option maxRecDepth 20000 in
theorem q_812 : (Jvm.Cond.instanceMethod ({ cls := "RopeVotesModel", name := "refund", desc := "(I)I" } : Jvm.MethodName)) ∈ rr_all := rr_in 827 rfl rfl
set_option maxRecDepth 20000 in
theorem q_813 : (Jvm.Cond.selects "RopeVotesModel" ({ cls := "RopeVotesModel", name := "refund", desc := "(I)I" } : Jvm.MethodName) ({ cls := "RopeVotesModel", name := "refund", desc := "(I)I" } : Jvm.MethodName)) ∈ rr_all := rr_in 828 rfl rfl
set_option maxRecDepth 20000 in
theorem q_814 : (Jvm.Cond.code ({ cls := "RopeVotesModel", name := "refund", desc := "(I)I" } : Jvm.MethodName) prog_8_method_43_code (2 : Nat) (Option.some Jvm.ClassFile.FieldType.int)) ∈ rr_all := rr_in 829 rfl rfl
set_option maxRecDepth 20000 in
theorem q_815 : (Jvm.Cond.methodLink "RopeVotesModel" (133 : Nat) ({ cls := "RopeVotesModel", name := "refundOf", desc := "(I)I" } : Jvm.MethodName)) ∈ rr_all := rr_in 830 rfl rfl
set_option maxRecDepth 20000 in
theorem q_817 : (Jvm.Cond.instanceMethod ({ cls := "RopeVotesModel", name := "refundOf", desc := "(I)I" } : Jvm.MethodName)) ∈ rr_all := rr_in 832 rfl rfl
set_option maxRecDepth 20000 in
theorem q_818 : (Jvm.Cond.code ({ cls := "RopeVotesModel", name := "refundOf", desc := "(I)I" } : Jvm.MethodName) prog_8_method_42_code (4 : Nat) (Option.some Jvm.ClassFile.FieldType.int)) ∈ rr_all := rr_in 833 rfl rfl
set_option maxRecDepth 20000 in
theorem q_819 : (Jvm.Cond.methodLink "RopeVotesLaw" (172 : Nat) ({ cls := "RopeVotesModel", name := "refunds", desc := "()I" } : Jvm.MethodName)) ∈ rr_all := rr_in 834 rfl rfl
set_option maxRecDepth 20000 in
theorem q_820 : (Jvm.Cond.instanceMethod ({ cls := "RopeVotesModel", name := "refunds", desc := "()I" } : Jvm.MethodName)) ∈ rr_all := rr_in 835 rfl rfl
set_option maxRecDepth 20000 in
theorem q_821 : (Jvm.Cond.selects "RopeVotesModel" ({ cls := "RopeVotesModel", name := "refunds", desc := "()I" } : Jvm.MethodName) ({ cls := "RopeVotesModel", name := "refunds", desc := "()I" } : Jvm.MethodName)) ∈ rr_all := rr_in 836 rfl rfl
set_option maxRecDepth 20000 in
theorem q_822 : (Jvm.Cond.code ({ cls := "RopeVotesModel", name := "refunds", desc := "()I" } : Jvm.MethodName) prog_8_method_44_code (3 : Nat) (Option.some Jvm.ClassFile.FieldType.int)) ∈ rr_all := rr_in 837 rfl rfl
set_option maxRecDepth 20000 in
theorem q_823 : (Jvm.Cond.arrayClass Jvm.ClassFile.FieldType.long) ∈ rr_all := rr_in 838 rfl rfl
set_option maxRecDepth 20000 in
theorem qs_V_passMinute : Cond.selects "RopeVotes" y_V_passMinute y_V_passMinute ∈ rr_all := rr_in 1 rfl rfl
set_option maxRecDepth 20000 in
theorem qs_V_makeVotes : Cond.selects "RopeVotes" y_V_makeVotes y_V_makeVotes ∈ rr_all := rr_in 2 rfl rfl
set_option maxRecDepth 20000 in
theorem qs_M_placeOf : Cond.selects "RopeVotesModel" y_M_placeOf y_M_placeOf ∈ rr_all := rr_in 3 rfl rfl
set_option maxRecDepth 20000 in
theorem qs_M_isCar : Cond.selects "RopeVotesModel" y_M_isCar y_M_isCar ∈ rr_all := rr_in 4 rfl rfl
set_option maxRecDepth 20000 in
theorem qs_M_peopleIn : Cond.selects "RopeVotesModel" y_M_peopleIn y_M_peopleIn ∈ rr_all := rr_in 5 rfl rfl
set_option maxRecDepth 20000 in
theorem qs_M_votesNow : Cond.selects "RopeVotesModel" y_M_votesNow y_M_votesNow ∈ rr_all := rr_in 6 rfl rfl
set_option maxRecDepth 20000 in
theorem qs_M_isFresh : Cond.selects "RopeVotesModel" y_M_isFresh y_M_isFresh ∈ rr_all := rr_in 7 rfl rfl
set_option maxRecDepth 20000 in
theorem qs_M_decides : Cond.selects "RopeVotesModel" y_M_decides y_M_decides ∈ rr_all := rr_in 8 rfl rfl
set_option maxRecDepth 20000 in
theorem qs_M_count : Cond.selects "RopeVotesModel" y_M_count y_M_count ∈ rr_all := rr_in 9 rfl rfl
set_option maxRecDepth 20000 in
theorem qs_M_passesOne : Cond.selects "RopeVotesModel" y_M_passesOne y_M_passesOne ∈ rr_all := rr_in 10 rfl rfl
set_option maxRecDepth 20000 in
theorem qs_M_votesAll : Cond.selects "RopeVotesModel" y_M_votesAll y_M_votesAll ∈ rr_all := rr_in 11 rfl rfl
set_option maxRecDepth 20000 in
theorem qs_M_way : Cond.selects "RopeVotesModel" y_M_way y_M_way ∈ rr_all := rr_in 12 rfl rfl
set_option maxRecDepth 20000 in
theorem qs_M_isTicket : Cond.selects "RopeVotesModel" y_M_isTicket y_M_isTicket ∈ rr_all := rr_in 13 rfl rfl
set_option maxRecDepth 20000 in
theorem qs_M_refundOf : Cond.selects "RopeVotesModel" y_M_refundOf y_M_refundOf ∈ rr_all := rr_in 14 rfl rfl
