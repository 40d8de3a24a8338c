-- names, fields, decode rows: written by a program of this repository (wip/whole/gen_names.py) out of the claim's listing
def rr_all : List Cond := lw_tbl.filter goodWord
theorem rr_in {w : Cond} (i : Nat) (h : lw_tbl[i]? = some w) (g : goodWord w = true) : w ∈ rr_all := List.mem_filter.mpr ⟨List.mem_of_getElem? h, g⟩
theorem rr_of_good {w : Cond} (h : w ∈ rr_all) : (w.onTables && w.keeps) = true ∨ ∃ ty, w = .arrayClass ty := good_of_word (List.mem_filter.mp h).2
def R_C : String := "RopeVotes$Control"
def F_C : u_T := fun k => match k with
  | 0 => ("RopeVotes$Control", "ballot", "[I", true)
  | _ => ("RopeVotes$Control", "madeAt", "[I", true)
def t_C : Nat → FieldType := fun k => match k with
  | 0 => .array .int
  | _ => .array .int
theorem n_C : ∀ a, a < 2 → ∀ b, b < 2 → a ≠ b → (F_C a).2.1 ≠ (F_C b).2.1 := by decide +kernel
theorem t_C_ok : ∀ k, k < 2 → parseFieldDescriptor (F_C k).2.2.1 = some (t_C k) := by decide +kernel
theorem i_C : ∀ w ∈ u_ws R_C F_C 2, w ∈ lw_tbl ∧ goodWord w = true := by decide +kernel
theorem j_C : ∀ w ∈ u_ws R_C F_C 2, w ∈ rr_all := fun w h => List.mem_filter.mpr (i_C w h)
def R_L : String := "RopeVotes$Loop"
def F_L : u_T := fun k => match k with
  | 0 => ("RopeVotes$Loop", "place", "[I", true)
  | 1 => ("RopeVotes$Loop", "turnsAtStart", "[I", true)
  | 2 => ("RopeVotes$Loop", "isOn", "[Z", true)
  | _ => ("RopeVotes$Loop", "started", "I", false)
def t_L : Nat → FieldType := fun k => match k with
  | 0 => .array .int
  | 1 => .array .int
  | 2 => .array .boolean
  | _ => .int
theorem n_L : ∀ a, a < 4 → ∀ b, b < 4 → a ≠ b → (F_L a).2.1 ≠ (F_L b).2.1 := by decide +kernel
theorem t_L_ok : ∀ k, k < 4 → parseFieldDescriptor (F_L k).2.2.1 = some (t_L k) := by decide +kernel
theorem i_L : ∀ w ∈ u_ws R_L F_L 4, w ∈ lw_tbl ∧ goodWord w = true := by decide +kernel
theorem j_L : ∀ w ∈ u_ws R_L F_L 4, w ∈ rr_all := fun w h => List.mem_filter.mpr (i_L w h)
def R_P : String := "RopeVotes$Post"
def F_P : u_T := fun k => match k with
  | 0 => ("RopeVotes$Post", "ballot", "[I", true)
  | _ => ("RopeVotes$Post", "comesAt", "[I", true)
def t_P : Nat → FieldType := fun k => match k with
  | 0 => .array .int
  | _ => .array .int
theorem n_P : ∀ a, a < 2 → ∀ b, b < 2 → a ≠ b → (F_P a).2.1 ≠ (F_P b).2.1 := by decide +kernel
theorem t_P_ok : ∀ k, k < 2 → parseFieldDescriptor (F_P k).2.2.1 = some (t_P k) := by decide +kernel
theorem i_P : ∀ w ∈ u_ws R_P F_P 2, w ∈ lw_tbl ∧ goodWord w = true := by decide +kernel
theorem j_P : ∀ w ∈ u_ws R_P F_P 2, w ∈ rr_all := fun w h => List.mem_filter.mpr (i_P w h)
def R_K : String := "RopeVotes$Tickets"
def F_K : u_T := fun k => match k with
  | 0 => ("RopeVotes$Tickets", "car", "[I", true)
  | 1 => ("RopeVotes$Tickets", "people", "[I", true)
  | 2 => ("RopeVotes$Tickets", "fare", "[I", true)
  | 3 => ("RopeVotes$Tickets", "goalTurns", "[I", true)
  | 4 => ("RopeVotes$Tickets", "arrivedAt", "[I", true)
  | 5 => ("RopeVotes$Tickets", "minutesHung", "[I", true)
  | _ => ("RopeVotes$Tickets", "sold", "I", false)
def t_K : Nat → FieldType := fun k => match k with
  | 0 => .array .int
  | 1 => .array .int
  | 2 => .array .int
  | 3 => .array .int
  | 4 => .array .int
  | 5 => .array .int
  | _ => .int
theorem n_K : ∀ a, a < 7 → ∀ b, b < 7 → a ≠ b → (F_K a).2.1 ≠ (F_K b).2.1 := by decide +kernel
theorem t_K_ok : ∀ k, k < 7 → parseFieldDescriptor (F_K k).2.2.1 = some (t_K k) := by decide +kernel
theorem i_K : ∀ w ∈ u_ws R_K F_K 7, w ∈ lw_tbl ∧ goodWord w = true := by decide +kernel
theorem j_K : ∀ w ∈ u_ws R_K F_K 7, w ∈ rr_all := fun w h => List.mem_filter.mpr (i_K w h)
def R_W : String := "RopeVotes$Towers"
def F_W : u_T := fun k => match k with
  | 0 => ("RopeVotes$Towers", "wind", "[I", true)
  | 1 => ("RopeVotes$Towers", "slowLimit", "[I", true)
  | 2 => ("RopeVotes$Towers", "stopLimit", "[I", true)
  | _ => ("RopeVotes$Towers", "isCutOff", "[Z", true)
def t_W : Nat → FieldType := fun k => match k with
  | 0 => .array .int
  | 1 => .array .int
  | 2 => .array .int
  | _ => .array .boolean
theorem n_W : ∀ a, a < 4 → ∀ b, b < 4 → a ≠ b → (F_W a).2.1 ≠ (F_W b).2.1 := by decide +kernel
theorem t_W_ok : ∀ k, k < 4 → parseFieldDescriptor (F_W k).2.2.1 = some (t_W k) := by decide +kernel
theorem i_W : ∀ w ∈ u_ws R_W F_W 4, w ∈ lw_tbl ∧ goodWord w = true := by decide +kernel
theorem j_W : ∀ w ∈ u_ws R_W F_W 4, w ∈ rr_all := fun w h => List.mem_filter.mpr (i_W w h)
def R_V : String := "RopeVotes"
def F_V : u_T := fun k => match k with
  | 0 => ("RopeVotes", "loop", "LRopeVotes$Loop;", true)
  | 1 => ("RopeVotes", "towers", "LRopeVotes$Towers;", true)
  | 2 => ("RopeVotes", "post", "LRopeVotes$Post;", true)
  | 3 => ("RopeVotes", "control", "LRopeVotes$Control;", true)
  | 4 => ("RopeVotes", "tickets", "LRopeVotes$Tickets;", true)
  | 5 => ("RopeVotes", "record", "[I", true)
  | 6 => ("RopeVotes", "now", "I", false)
  | 7 => ("RopeVotes", "turns", "I", false)
  | _ => ("RopeVotes", "isHeldNow", "Z", false)
def t_V : Nat → FieldType := fun k => match k with
  | 0 => .object "RopeVotes$Loop"
  | 1 => .object "RopeVotes$Towers"
  | 2 => .object "RopeVotes$Post"
  | 3 => .object "RopeVotes$Control"
  | 4 => .object "RopeVotes$Tickets"
  | 5 => .array .int
  | 6 => .int
  | 7 => .int
  | _ => .boolean
theorem n_V : ∀ a, a < 9 → ∀ b, b < 9 → a ≠ b → (F_V a).2.1 ≠ (F_V b).2.1 := by decide +kernel
theorem t_V_ok : ∀ k, k < 9 → parseFieldDescriptor (F_V k).2.2.1 = some (t_V k) := by decide +kernel
theorem i_V : ∀ w ∈ u_ws R_V F_V 9, w ∈ lw_tbl ∧ goodWord w = true := by decide +kernel
theorem j_V : ∀ w ∈ u_ws R_V F_V 9, w ∈ rr_all := fun w h => List.mem_filter.mpr (i_V w h)
abbrev classes : List vw_C := [(R_C, F_C, 2), (R_L, F_L, 4), (R_P, F_P, 2), (R_K, F_K, 7), (R_W, F_W, 4), (R_V, F_V, 9)]
abbrev b_C_init : ByteArray := prog_2_method_1_code
def y_C_init : MethodName := ⟨"RopeVotes$Control", "<init>", "()V"⟩
abbrev b_C_take : ByteArray := prog_2_method_2_code
def y_C_take : MethodName := ⟨"RopeVotes$Control", "take", "(III)V"⟩
abbrev b_C_isFresh : ByteArray := prog_2_method_3_code
def y_C_isFresh : MethodName := ⟨"RopeVotes$Control", "isFresh", "(II)Z"⟩
abbrev b_C_freshSet : ByteArray := prog_2_method_4_code
def y_C_freshSet : MethodName := ⟨"RopeVotes$Control", "freshSet", "(I)I"⟩
abbrev b_C_countFresh : ByteArray := prog_2_method_5_code
def y_C_countFresh : MethodName := ⟨"RopeVotes$Control", "countFresh", "(II)I"⟩
abbrev b_C_speedByVotes : ByteArray := prog_2_method_6_code
def y_C_speedByVotes : MethodName := ⟨"RopeVotes$Control", "speedByVotes", "(I)I"⟩
abbrev b_L_init : ByteArray := prog_3_method_1_code
def y_L_init : MethodName := ⟨"RopeVotes$Loop", "<init>", "()V"⟩
abbrev b_L_has : ByteArray := prog_3_method_2_code
def y_L_has : MethodName := ⟨"RopeVotes$Loop", "has", "(I)Z"⟩
abbrev b_L_canStart : ByteArray := prog_3_method_3_code
def y_L_canStart : MethodName := ⟨"RopeVotes$Loop", "canStart", "()Z"⟩
abbrev b_L_start : ByteArray := prog_3_method_4_code
def y_L_start : MethodName := ⟨"RopeVotes$Loop", "start", "(I)I"⟩
abbrev b_L_countOn : ByteArray := prog_3_method_5_code
def y_L_countOn : MethodName := ⟨"RopeVotes$Loop", "countOn", "()I"⟩
abbrev b_L_leastGapOfPairs : ByteArray := prog_3_method_6_code
def y_L_leastGapOfPairs : MethodName := ⟨"RopeVotes$Loop", "leastGapOfPairs", "()I"⟩
abbrev b_L_move : ByteArray := prog_3_method_7_code
def y_L_move : MethodName := ⟨"RopeVotes$Loop", "move", "(I)V"⟩
abbrev b_L_isOutOfStations : ByteArray := prog_3_method_8_code
def y_L_isOutOfStations : MethodName := ⟨"RopeVotes$Loop", "isOutOfStations", "(I)Z"⟩
abbrev b_P_init : ByteArray := prog_4_method_1_code
def y_P_init : MethodName := ⟨"RopeVotes$Post", "<init>", "()V"⟩
abbrev b_P_send : ByteArray := prog_4_method_2_code
def y_P_send : MethodName := ⟨"RopeVotes$Post", "send", "(IIII)V"⟩
abbrev b_P_deliver : ByteArray := prog_4_method_3_code
def y_P_deliver : MethodName := ⟨"RopeVotes$Post", "deliver", "(ILRopeVotes$Control;)V"⟩
abbrev b_P_countLater : ByteArray := prog_4_method_4_code
def y_P_countLater : MethodName := ⟨"RopeVotes$Post", "countLater", "(I)I"⟩
abbrev b_P_slotOf : ByteArray := prog_4_method_5_code
def y_P_slotOf : MethodName := ⟨"RopeVotes$Post", "slotOf", "(II)I"⟩
abbrev b_K_init : ByteArray := prog_5_method_1_code
def y_K_init : MethodName := ⟨"RopeVotes$Tickets", "<init>", "()V"⟩
abbrev b_K_has : ByteArray := prog_5_method_2_code
def y_K_has : MethodName := ⟨"RopeVotes$Tickets", "has", "(I)Z"⟩
abbrev b_K_isLeft : ByteArray := prog_5_method_3_code
def y_K_isLeft : MethodName := ⟨"RopeVotes$Tickets", "isLeft", "()Z"⟩
abbrev b_K_sell : ByteArray := prog_5_method_4_code
def y_K_sell : MethodName := ⟨"RopeVotes$Tickets", "sell", "(IIII)I"⟩
abbrev b_K_peopleIn : ByteArray := prog_5_method_5_code
def y_K_peopleIn : MethodName := ⟨"RopeVotes$Tickets", "peopleIn", "(I)I"⟩
abbrev b_K_passMinute : ByteArray := prog_5_method_6_code
def y_K_passMinute : MethodName := ⟨"RopeVotes$Tickets", "passMinute", "(IIILRopeVotes$Loop;)V"⟩
abbrev b_K_refundOf : ByteArray := prog_5_method_7_code
def y_K_refundOf : MethodName := ⟨"RopeVotes$Tickets", "refundOf", "(I)I"⟩
abbrev b_K_sumOfRefunds : ByteArray := prog_5_method_8_code
def y_K_sumOfRefunds : MethodName := ⟨"RopeVotes$Tickets", "sumOfRefunds", "()I"⟩
abbrev b_W_init : ByteArray := prog_6_method_1_code
def y_W_init : MethodName := ⟨"RopeVotes$Towers", "<init>", "()V"⟩
abbrev b_W_ballotOf : ByteArray := prog_6_method_2_code
def y_W_ballotOf : MethodName := ⟨"RopeVotes$Towers", "ballotOf", "(I)I"⟩
abbrev b_W_countCutOff : ByteArray := prog_6_method_3_code
def y_W_countCutOff : MethodName := ⟨"RopeVotes$Towers", "countCutOff", "()I"⟩
abbrev b_W_delayOf : ByteArray := prog_6_method_4_code
def y_W_delayOf : MethodName := ⟨"RopeVotes$Towers", "delayOf", "(I)I"⟩
abbrev b_V_init : ByteArray := prog_1_method_1_code
def y_V_init : MethodName := ⟨"RopeVotes", "<init>", "()V"⟩
abbrev b_V_putOn : ByteArray := prog_1_method_2_code
def y_V_putOn : MethodName := ⟨"RopeVotes", "putOn", "()I"⟩
abbrev b_V_takeOff : ByteArray := prog_1_method_3_code
def y_V_takeOff : MethodName := ⟨"RopeVotes", "takeOff", "(I)I"⟩
abbrev b_V_cars : ByteArray := prog_1_method_4_code
def y_V_cars : MethodName := ⟨"RopeVotes", "cars", "()I"⟩
abbrev b_V_place : ByteArray := prog_1_method_5_code
def y_V_place : MethodName := ⟨"RopeVotes", "place", "(I)I"⟩
abbrev b_V_placeByTurns : ByteArray := prog_1_method_6_code
def y_V_placeByTurns : MethodName := ⟨"RopeVotes", "placeByTurns", "(I)I"⟩
abbrev b_V_leastGap : ByteArray := prog_1_method_7_code
def y_V_leastGap : MethodName := ⟨"RopeVotes", "leastGap", "()I"⟩
abbrev b_V_wind : ByteArray := prog_1_method_8_code
def y_V_wind : MethodName := ⟨"RopeVotes", "wind", "(II)I"⟩
abbrev b_V_setLimits : ByteArray := prog_1_method_9_code
def y_V_setLimits : MethodName := ⟨"RopeVotes", "setLimits", "(III)I"⟩
abbrev b_V_cut : ByteArray := prog_1_method_10_code
def y_V_cut : MethodName := ⟨"RopeVotes", "cut", "(IZ)I"⟩
abbrev b_V_vote : ByteArray := prog_1_method_11_code
def y_V_vote : MethodName := ⟨"RopeVotes", "vote", "(I)I"⟩
abbrev b_V_voteTime : ByteArray := prog_1_method_12_code
def y_V_voteTime : MethodName := ⟨"RopeVotes", "voteTime", "(I)I"⟩
abbrev b_V_fresh : ByteArray := prog_1_method_13_code
def y_V_fresh : MethodName := ⟨"RopeVotes", "fresh", "()I"⟩
abbrev b_V_onTheWay : ByteArray := prog_1_method_14_code
def y_V_onTheWay : MethodName := ⟨"RopeVotes", "onTheWay", "()I"⟩
abbrev b_V_wouldDecide : ByteArray := prog_1_method_15_code
def y_V_wouldDecide : MethodName := ⟨"RopeVotes", "wouldDecide", "()I"⟩
abbrev b_V_hold : ByteArray := prog_1_method_16_code
def y_V_hold : MethodName := ⟨"RopeVotes", "hold", "(Z)Z"⟩
abbrev b_V_pass : ByteArray := prog_1_method_17_code
def y_V_pass : MethodName := ⟨"RopeVotes", "pass", "(I)I"⟩
abbrev b_V_time : ByteArray := prog_1_method_18_code
def y_V_time : MethodName := ⟨"RopeVotes", "time", "()I"⟩
abbrev b_V_moved : ByteArray := prog_1_method_19_code
def y_V_moved : MethodName := ⟨"RopeVotes", "moved", "()I"⟩
abbrev b_V_decided : ByteArray := prog_1_method_20_code
def y_V_decided : MethodName := ⟨"RopeVotes", "decided", "(I)I"⟩
abbrev b_V_minutes : ByteArray := prog_1_method_21_code
def y_V_minutes : MethodName := ⟨"RopeVotes", "minutes", "(I)I"⟩
abbrev b_V_board : ByteArray := prog_1_method_22_code
def y_V_board : MethodName := ⟨"RopeVotes", "board", "(III)I"⟩
abbrev b_V_people : ByteArray := prog_1_method_23_code
def y_V_people : MethodName := ⟨"RopeVotes", "people", "(I)I"⟩
abbrev b_V_arrived : ByteArray := prog_1_method_24_code
def y_V_arrived : MethodName := ⟨"RopeVotes", "arrived", "(I)I"⟩
abbrev b_V_hung : ByteArray := prog_1_method_25_code
def y_V_hung : MethodName := ⟨"RopeVotes", "hung", "(I)I"⟩
abbrev b_V_refund : ByteArray := prog_1_method_26_code
def y_V_refund : MethodName := ⟨"RopeVotes", "refund", "(I)I"⟩
abbrev b_V_refunds : ByteArray := prog_1_method_27_code
def y_V_refunds : MethodName := ⟨"RopeVotes", "refunds", "()I"⟩
abbrev b_V_passMinute : ByteArray := prog_1_method_28_code
def y_V_passMinute : MethodName := ⟨"RopeVotes", "passMinute", "()V"⟩
abbrev b_V_makeVotes : ByteArray := prog_1_method_29_code
def y_V_makeVotes : MethodName := ⟨"RopeVotes", "makeVotes", "()V"⟩
abbrev b_V_partsAt : ByteArray := prog_1_method_30_code
def y_V_partsAt : MethodName := ⟨"RopeVotes", "partsAt", "(I)I"⟩
abbrev b_V_isTower : ByteArray := prog_1_method_31_code
def y_V_isTower : MethodName := ⟨"RopeVotes", "isTower", "(I)Z"⟩
abbrev b_V_isInBottom : ByteArray := prog_1_method_32_code
def y_V_isInBottom : MethodName := ⟨"RopeVotes", "isInBottom", "(I)Z"⟩
abbrev b_V_isInStation : ByteArray := prog_1_method_33_code
def y_V_isInStation : MethodName := ⟨"RopeVotes", "isInStation", "(I)Z"⟩
abbrev b_V_gapBetween : ByteArray := prog_1_method_34_code
def y_V_gapBetween : MethodName := ⟨"RopeVotes", "gapBetween", "(II)I"⟩
abbrev b_A_low : ByteArray := method_2_code
def y_A_low : MethodName := ⟨"RopeVotesLaw", "low", "(II)I"⟩
abbrev b_A_cell : ByteArray := method_3_code
def y_A_cell : MethodName := ⟨"RopeVotesLaw", "cell", "([II)I"⟩
abbrev b_A_putOn : ByteArray := method_4_code
def y_A_putOn : MethodName := ⟨"RopeVotesLaw", "putOn", "(LRopeVotes;)I"⟩
abbrev b_A_takeOff : ByteArray := method_5_code
def y_A_takeOff : MethodName := ⟨"RopeVotesLaw", "takeOff", "(LRopeVotes;I)I"⟩
abbrev b_A_board : ByteArray := method_6_code
def y_A_board : MethodName := ⟨"RopeVotesLaw", "board", "(LRopeVotes;III)I"⟩
abbrev b_A_place : ByteArray := method_7_code
def y_A_place : MethodName := ⟨"RopeVotesLaw", "place", "(LRopeVotes;I)I"⟩
abbrev b_A_bits : ByteArray := method_8_code
def y_A_bits : MethodName := ⟨"RopeVotesLaw", "bits", "(I)I"⟩
abbrev b_A_votes : ByteArray := method_9_code
def y_A_votes : MethodName := ⟨"RopeVotesLaw", "votes", "(LRopeVotes;)Z"⟩
abbrev b_A_cars : ByteArray := method_10_code
def y_A_cars : MethodName := ⟨"RopeVotesLaw", "cars", "(LRopeVotes;I)Z"⟩
abbrev b_J_bitCount : ByteArray := prog_13_method_49_code
def y_J_bitCount : MethodName := ⟨"java/lang/Integer", "bitCount", "(I)I"⟩
abbrev b_J_floorMod : ByteArray := prog_14_method_50_code
def y_J_floorMod : MethodName := ⟨"java/lang/Math", "floorMod", "(II)I"⟩
theorem d_C_init_0 : decode b_C_init 0 = .ok (.aload_n 0, 1) := by decide +kernel
theorem d_C_init_1 : decode b_C_init 1 = .ok (.invokespecial 3, 3) := by decide +kernel
theorem d_C_init_4 : decode b_C_init 4 = .ok (.aload_n 0, 1) := by decide +kernel
theorem d_C_init_5 : decode b_C_init 5 = .ok (.bipush 7, 2) := by decide +kernel
theorem d_C_init_7 : decode b_C_init 7 = .ok (.newarray .int, 2) := by decide +kernel
theorem d_C_init_9 : decode b_C_init 9 = .ok (.putfield 9, 3) := by decide +kernel
theorem d_C_init_12 : decode b_C_init 12 = .ok (.aload_n 0, 1) := by decide +kernel
theorem d_C_init_13 : decode b_C_init 13 = .ok (.bipush 7, 2) := by decide +kernel
theorem d_C_init_15 : decode b_C_init 15 = .ok (.newarray .int, 2) := by decide +kernel
theorem d_C_init_17 : decode b_C_init 17 = .ok (.putfield 15, 3) := by decide +kernel
theorem d_C_init_20 : decode b_C_init 20 = .ok (.iconst 0, 1) := by decide +kernel
theorem d_C_init_21 : decode b_C_init 21 = .ok (.istore_n 1, 1) := by decide +kernel
theorem d_C_init_22 : decode b_C_init 22 = .ok (.iload_n 1, 1) := by decide +kernel
theorem d_C_init_23 : decode b_C_init 23 = .ok (.bipush 7, 2) := by decide +kernel
theorem d_C_init_25 : decode b_C_init 25 = .ok (.if_icmp .ge 23, 3) := by decide +kernel
theorem d_C_init_28 : decode b_C_init 28 = .ok (.aload_n 0, 1) := by decide +kernel
theorem d_C_init_29 : decode b_C_init 29 = .ok (.getfield 9, 3) := by decide +kernel
theorem d_C_init_32 : decode b_C_init 32 = .ok (.iload_n 1, 1) := by decide +kernel
theorem d_C_init_33 : decode b_C_init 33 = .ok (.iconst (-1), 1) := by decide +kernel
theorem d_C_init_34 : decode b_C_init 34 = .ok (.iastore, 1) := by decide +kernel
theorem d_C_init_35 : decode b_C_init 35 = .ok (.aload_n 0, 1) := by decide +kernel
theorem d_C_init_36 : decode b_C_init 36 = .ok (.getfield 15, 3) := by decide +kernel
theorem d_C_init_39 : decode b_C_init 39 = .ok (.iload_n 1, 1) := by decide +kernel
theorem d_C_init_40 : decode b_C_init 40 = .ok (.iconst (-1), 1) := by decide +kernel
theorem d_C_init_41 : decode b_C_init 41 = .ok (.iastore, 1) := by decide +kernel
theorem d_C_init_42 : decode b_C_init 42 = .ok (.iinc 1 1, 3) := by decide +kernel
theorem d_C_init_45 : decode b_C_init 45 = .ok (.goto (-23), 3) := by decide +kernel
theorem d_C_init_48 : decode b_C_init 48 = .ok (.return_, 1) := by decide +kernel
theorem d_C_take_0 : decode b_C_take 0 = .ok (.iload_n 3, 1) := by decide +kernel
theorem d_C_take_1 : decode b_C_take 1 = .ok (.aload_n 0, 1) := by decide +kernel
theorem d_C_take_2 : decode b_C_take 2 = .ok (.getfield 15, 3) := by decide +kernel
theorem d_C_take_5 : decode b_C_take 5 = .ok (.iload_n 1, 1) := by decide +kernel
theorem d_C_take_6 : decode b_C_take 6 = .ok (.iaload, 1) := by decide +kernel
theorem d_C_take_7 : decode b_C_take 7 = .ok (.if_icmp .le 17, 3) := by decide +kernel
theorem d_C_take_10 : decode b_C_take 10 = .ok (.aload_n 0, 1) := by decide +kernel
theorem d_C_take_11 : decode b_C_take 11 = .ok (.getfield 9, 3) := by decide +kernel
theorem d_C_take_14 : decode b_C_take 14 = .ok (.iload_n 1, 1) := by decide +kernel
theorem d_C_take_15 : decode b_C_take 15 = .ok (.iload_n 2, 1) := by decide +kernel
theorem d_C_take_16 : decode b_C_take 16 = .ok (.iastore, 1) := by decide +kernel
theorem d_C_take_17 : decode b_C_take 17 = .ok (.aload_n 0, 1) := by decide +kernel
theorem d_C_take_18 : decode b_C_take 18 = .ok (.getfield 15, 3) := by decide +kernel
theorem d_C_take_21 : decode b_C_take 21 = .ok (.iload_n 1, 1) := by decide +kernel
theorem d_C_take_22 : decode b_C_take 22 = .ok (.iload_n 3, 1) := by decide +kernel
theorem d_C_take_23 : decode b_C_take 23 = .ok (.iastore, 1) := by decide +kernel
theorem d_C_take_24 : decode b_C_take 24 = .ok (.return_, 1) := by decide +kernel
theorem d_C_isFresh_0 : decode b_C_isFresh 0 = .ok (.aload_n 0, 1) := by decide +kernel
theorem d_C_isFresh_1 : decode b_C_isFresh 1 = .ok (.getfield 15, 3) := by decide +kernel
theorem d_C_isFresh_4 : decode b_C_isFresh 4 = .ok (.iload_n 1, 1) := by decide +kernel
theorem d_C_isFresh_5 : decode b_C_isFresh 5 = .ok (.iaload, 1) := by decide +kernel
theorem d_C_isFresh_6 : decode b_C_isFresh 6 = .ok (.iconst (-1), 1) := by decide +kernel
theorem d_C_isFresh_7 : decode b_C_isFresh 7 = .ok (.if_icmp .eq 19, 3) := by decide +kernel
theorem d_C_isFresh_10 : decode b_C_isFresh 10 = .ok (.iload_n 2, 1) := by decide +kernel
theorem d_C_isFresh_11 : decode b_C_isFresh 11 = .ok (.aload_n 0, 1) := by decide +kernel
theorem d_C_isFresh_12 : decode b_C_isFresh 12 = .ok (.getfield 15, 3) := by decide +kernel
theorem d_C_isFresh_15 : decode b_C_isFresh 15 = .ok (.iload_n 1, 1) := by decide +kernel
theorem d_C_isFresh_16 : decode b_C_isFresh 16 = .ok (.iaload, 1) := by decide +kernel
theorem d_C_isFresh_17 : decode b_C_isFresh 17 = .ok (.isub, 1) := by decide +kernel
theorem d_C_isFresh_18 : decode b_C_isFresh 18 = .ok (.iconst 3, 1) := by decide +kernel
theorem d_C_isFresh_19 : decode b_C_isFresh 19 = .ok (.if_icmp .gt 7, 3) := by decide +kernel
theorem d_C_isFresh_22 : decode b_C_isFresh 22 = .ok (.iconst 1, 1) := by decide +kernel
theorem d_C_isFresh_23 : decode b_C_isFresh 23 = .ok (.goto 4, 3) := by decide +kernel
theorem d_C_isFresh_26 : decode b_C_isFresh 26 = .ok (.iconst 0, 1) := by decide +kernel
theorem d_C_isFresh_27 : decode b_C_isFresh 27 = .ok (.ireturn, 1) := by decide +kernel
theorem d_C_freshSet_0 : decode b_C_freshSet 0 = .ok (.iconst 0, 1) := by decide +kernel
theorem d_C_freshSet_1 : decode b_C_freshSet 1 = .ok (.istore_n 2, 1) := by decide +kernel
theorem d_C_freshSet_2 : decode b_C_freshSet 2 = .ok (.iconst 0, 1) := by decide +kernel
theorem d_C_freshSet_3 : decode b_C_freshSet 3 = .ok (.istore_n 3, 1) := by decide +kernel
theorem d_C_freshSet_4 : decode b_C_freshSet 4 = .ok (.iload_n 3, 1) := by decide +kernel
theorem d_C_freshSet_5 : decode b_C_freshSet 5 = .ok (.bipush 7, 2) := by decide +kernel
theorem d_C_freshSet_7 : decode b_C_freshSet 7 = .ok (.if_icmp .ge 24, 3) := by decide +kernel
theorem d_C_freshSet_10 : decode b_C_freshSet 10 = .ok (.aload_n 0, 1) := by decide +kernel
theorem d_C_freshSet_11 : decode b_C_freshSet 11 = .ok (.iload_n 3, 1) := by decide +kernel
theorem d_C_freshSet_12 : decode b_C_freshSet 12 = .ok (.iload_n 1, 1) := by decide +kernel
theorem d_C_freshSet_13 : decode b_C_freshSet 13 = .ok (.invokevirtual 18, 3) := by decide +kernel
theorem d_C_freshSet_16 : decode b_C_freshSet 16 = .ok (.ifCond .eq 9, 3) := by decide +kernel
theorem d_C_freshSet_19 : decode b_C_freshSet 19 = .ok (.iload_n 2, 1) := by decide +kernel
theorem d_C_freshSet_20 : decode b_C_freshSet 20 = .ok (.iconst 1, 1) := by decide +kernel
theorem d_C_freshSet_21 : decode b_C_freshSet 21 = .ok (.iload_n 3, 1) := by decide +kernel
theorem d_C_freshSet_22 : decode b_C_freshSet 22 = .ok (.ishl, 1) := by decide +kernel
theorem d_C_freshSet_23 : decode b_C_freshSet 23 = .ok (.ior, 1) := by decide +kernel
theorem d_C_freshSet_24 : decode b_C_freshSet 24 = .ok (.istore_n 2, 1) := by decide +kernel
theorem d_C_freshSet_25 : decode b_C_freshSet 25 = .ok (.iinc 3 1, 3) := by decide +kernel
theorem d_C_freshSet_28 : decode b_C_freshSet 28 = .ok (.goto (-24), 3) := by decide +kernel
theorem d_C_freshSet_31 : decode b_C_freshSet 31 = .ok (.iload_n 2, 1) := by decide +kernel
theorem d_C_freshSet_32 : decode b_C_freshSet 32 = .ok (.ireturn, 1) := by decide +kernel
theorem d_C_countFresh_0 : decode b_C_countFresh 0 = .ok (.iconst 0, 1) := by decide +kernel
theorem d_C_countFresh_1 : decode b_C_countFresh 1 = .ok (.istore_n 3, 1) := by decide +kernel
theorem d_C_countFresh_2 : decode b_C_countFresh 2 = .ok (.iconst 0, 1) := by decide +kernel
theorem d_C_countFresh_3 : decode b_C_countFresh 3 = .ok (.istore 4, 2) := by decide +kernel
theorem d_C_countFresh_5 : decode b_C_countFresh 5 = .ok (.iload 4, 2) := by decide +kernel
theorem d_C_countFresh_7 : decode b_C_countFresh 7 = .ok (.bipush 7, 2) := by decide +kernel
theorem d_C_countFresh_9 : decode b_C_countFresh 9 = .ok (.if_icmp .ge 33, 3) := by decide +kernel
theorem d_C_countFresh_12 : decode b_C_countFresh 12 = .ok (.aload_n 0, 1) := by decide +kernel
theorem d_C_countFresh_13 : decode b_C_countFresh 13 = .ok (.getfield 9, 3) := by decide +kernel
theorem d_C_countFresh_16 : decode b_C_countFresh 16 = .ok (.iload 4, 2) := by decide +kernel
theorem d_C_countFresh_18 : decode b_C_countFresh 18 = .ok (.iaload, 1) := by decide +kernel
theorem d_C_countFresh_19 : decode b_C_countFresh 19 = .ok (.iload_n 1, 1) := by decide +kernel
theorem d_C_countFresh_20 : decode b_C_countFresh 20 = .ok (.if_icmp .ne 16, 3) := by decide +kernel
theorem d_C_countFresh_23 : decode b_C_countFresh 23 = .ok (.aload_n 0, 1) := by decide +kernel
theorem d_C_countFresh_24 : decode b_C_countFresh 24 = .ok (.iload 4, 2) := by decide +kernel
theorem d_C_countFresh_26 : decode b_C_countFresh 26 = .ok (.iload_n 2, 1) := by decide +kernel
theorem d_C_countFresh_27 : decode b_C_countFresh 27 = .ok (.invokevirtual 18, 3) := by decide +kernel
theorem d_C_countFresh_30 : decode b_C_countFresh 30 = .ok (.ifCond .eq 6, 3) := by decide +kernel
theorem d_C_countFresh_33 : decode b_C_countFresh 33 = .ok (.iinc 3 1, 3) := by decide +kernel
theorem d_C_countFresh_36 : decode b_C_countFresh 36 = .ok (.iinc 4 1, 3) := by decide +kernel
theorem d_C_countFresh_39 : decode b_C_countFresh 39 = .ok (.goto (-34), 3) := by decide +kernel
theorem d_C_countFresh_42 : decode b_C_countFresh 42 = .ok (.iload_n 3, 1) := by decide +kernel
theorem d_C_countFresh_43 : decode b_C_countFresh 43 = .ok (.ireturn, 1) := by decide +kernel
theorem d_C_speedByVotes_0 : decode b_C_speedByVotes 0 = .ok (.aload_n 0, 1) := by decide +kernel
theorem d_C_speedByVotes_1 : decode b_C_speedByVotes 1 = .ok (.iconst 2, 1) := by decide +kernel
theorem d_C_speedByVotes_2 : decode b_C_speedByVotes 2 = .ok (.iload_n 1, 1) := by decide +kernel
theorem d_C_speedByVotes_3 : decode b_C_speedByVotes 3 = .ok (.invokevirtual 22, 3) := by decide +kernel
theorem d_C_speedByVotes_6 : decode b_C_speedByVotes 6 = .ok (.istore_n 2, 1) := by decide +kernel
theorem d_C_speedByVotes_7 : decode b_C_speedByVotes 7 = .ok (.aload_n 0, 1) := by decide +kernel
theorem d_C_speedByVotes_8 : decode b_C_speedByVotes 8 = .ok (.iconst 1, 1) := by decide +kernel
theorem d_C_speedByVotes_9 : decode b_C_speedByVotes 9 = .ok (.iload_n 1, 1) := by decide +kernel
theorem d_C_speedByVotes_10 : decode b_C_speedByVotes 10 = .ok (.invokevirtual 22, 3) := by decide +kernel
theorem d_C_speedByVotes_13 : decode b_C_speedByVotes 13 = .ok (.istore_n 3, 1) := by decide +kernel
theorem d_C_speedByVotes_14 : decode b_C_speedByVotes 14 = .ok (.aload_n 0, 1) := by decide +kernel
theorem d_C_speedByVotes_15 : decode b_C_speedByVotes 15 = .ok (.iconst 0, 1) := by decide +kernel
theorem d_C_speedByVotes_16 : decode b_C_speedByVotes 16 = .ok (.iload_n 1, 1) := by decide +kernel
theorem d_C_speedByVotes_17 : decode b_C_speedByVotes 17 = .ok (.invokevirtual 22, 3) := by decide +kernel
theorem d_C_speedByVotes_20 : decode b_C_speedByVotes 20 = .ok (.istore 4, 2) := by decide +kernel
theorem d_C_speedByVotes_22 : decode b_C_speedByVotes 22 = .ok (.iload_n 2, 1) := by decide +kernel
theorem d_C_speedByVotes_23 : decode b_C_speedByVotes 23 = .ok (.iconst 4, 1) := by decide +kernel
theorem d_C_speedByVotes_24 : decode b_C_speedByVotes 24 = .ok (.if_icmp .lt 10, 3) := by decide +kernel
theorem d_C_speedByVotes_27 : decode b_C_speedByVotes 27 = .ok (.iload 4, 2) := by decide +kernel
theorem d_C_speedByVotes_29 : decode b_C_speedByVotes 29 = .ok (.ifCond .ne 5, 3) := by decide +kernel
theorem d_C_speedByVotes_32 : decode b_C_speedByVotes 32 = .ok (.iconst 2, 1) := by decide +kernel
theorem d_C_speedByVotes_33 : decode b_C_speedByVotes 33 = .ok (.ireturn, 1) := by decide +kernel
theorem d_C_speedByVotes_34 : decode b_C_speedByVotes 34 = .ok (.iload_n 2, 1) := by decide +kernel
theorem d_C_speedByVotes_35 : decode b_C_speedByVotes 35 = .ok (.iload_n 3, 1) := by decide +kernel
theorem d_C_speedByVotes_36 : decode b_C_speedByVotes 36 = .ok (.iadd, 1) := by decide +kernel
theorem d_C_speedByVotes_37 : decode b_C_speedByVotes 37 = .ok (.iconst 4, 1) := by decide +kernel
theorem d_C_speedByVotes_38 : decode b_C_speedByVotes 38 = .ok (.if_icmp .lt 13, 3) := by decide +kernel
theorem d_C_speedByVotes_41 : decode b_C_speedByVotes 41 = .ok (.iload 4, 2) := by decide +kernel
theorem d_C_speedByVotes_43 : decode b_C_speedByVotes 43 = .ok (.iconst 1, 1) := by decide +kernel
theorem d_C_speedByVotes_44 : decode b_C_speedByVotes 44 = .ok (.if_icmp .gt 7, 3) := by decide +kernel
theorem d_C_speedByVotes_47 : decode b_C_speedByVotes 47 = .ok (.iconst 1, 1) := by decide +kernel
theorem d_C_speedByVotes_48 : decode b_C_speedByVotes 48 = .ok (.goto 4, 3) := by decide +kernel
theorem d_C_speedByVotes_51 : decode b_C_speedByVotes 51 = .ok (.iconst 0, 1) := by decide +kernel
theorem d_C_speedByVotes_52 : decode b_C_speedByVotes 52 = .ok (.ireturn, 1) := by decide +kernel
theorem d_L_init_0 : decode b_L_init 0 = .ok (.aload_n 0, 1) := by decide +kernel
theorem d_L_init_1 : decode b_L_init 1 = .ok (.invokespecial 3, 3) := by decide +kernel
theorem d_L_init_4 : decode b_L_init 4 = .ok (.aload_n 0, 1) := by decide +kernel
theorem d_L_init_5 : decode b_L_init 5 = .ok (.bipush 16, 2) := by decide +kernel
theorem d_L_init_7 : decode b_L_init 7 = .ok (.newarray .int, 2) := by decide +kernel
theorem d_L_init_9 : decode b_L_init 9 = .ok (.putfield 9, 3) := by decide +kernel
theorem d_L_init_12 : decode b_L_init 12 = .ok (.aload_n 0, 1) := by decide +kernel
theorem d_L_init_13 : decode b_L_init 13 = .ok (.bipush 16, 2) := by decide +kernel
theorem d_L_init_15 : decode b_L_init 15 = .ok (.newarray .int, 2) := by decide +kernel
theorem d_L_init_17 : decode b_L_init 17 = .ok (.putfield 15, 3) := by decide +kernel
theorem d_L_init_20 : decode b_L_init 20 = .ok (.aload_n 0, 1) := by decide +kernel
theorem d_L_init_21 : decode b_L_init 21 = .ok (.bipush 16, 2) := by decide +kernel
theorem d_L_init_23 : decode b_L_init 23 = .ok (.newarray .boolean, 2) := by decide +kernel
theorem d_L_init_25 : decode b_L_init 25 = .ok (.putfield 18, 3) := by decide +kernel
theorem d_L_init_28 : decode b_L_init 28 = .ok (.aload_n 0, 1) := by decide +kernel
theorem d_L_init_29 : decode b_L_init 29 = .ok (.iconst 0, 1) := by decide +kernel
theorem d_L_init_30 : decode b_L_init 30 = .ok (.putfield 22, 3) := by decide +kernel
theorem d_L_init_33 : decode b_L_init 33 = .ok (.return_, 1) := by decide +kernel
theorem d_L_has_0 : decode b_L_has 0 = .ok (.iload_n 1, 1) := by decide +kernel
theorem d_L_has_1 : decode b_L_has 1 = .ok (.ifCond .lt 22, 3) := by decide +kernel
theorem d_L_has_4 : decode b_L_has 4 = .ok (.iload_n 1, 1) := by decide +kernel
theorem d_L_has_5 : decode b_L_has 5 = .ok (.bipush 16, 2) := by decide +kernel
theorem d_L_has_7 : decode b_L_has 7 = .ok (.if_icmp .ge 16, 3) := by decide +kernel
theorem d_L_has_10 : decode b_L_has 10 = .ok (.aload_n 0, 1) := by decide +kernel
theorem d_L_has_11 : decode b_L_has 11 = .ok (.getfield 18, 3) := by decide +kernel
theorem d_L_has_14 : decode b_L_has 14 = .ok (.iload_n 1, 1) := by decide +kernel
theorem d_L_has_15 : decode b_L_has 15 = .ok (.baload, 1) := by decide +kernel
theorem d_L_has_16 : decode b_L_has 16 = .ok (.ifCond .eq 7, 3) := by decide +kernel
theorem d_L_has_19 : decode b_L_has 19 = .ok (.iconst 1, 1) := by decide +kernel
theorem d_L_has_20 : decode b_L_has 20 = .ok (.goto 4, 3) := by decide +kernel
theorem d_L_has_23 : decode b_L_has 23 = .ok (.iconst 0, 1) := by decide +kernel
theorem d_L_has_24 : decode b_L_has 24 = .ok (.ireturn, 1) := by decide +kernel
theorem d_L_canStart_0 : decode b_L_canStart 0 = .ok (.aload_n 0, 1) := by decide +kernel
theorem d_L_canStart_1 : decode b_L_canStart 1 = .ok (.getfield 22, 3) := by decide +kernel
theorem d_L_canStart_4 : decode b_L_canStart 4 = .ok (.bipush 16, 2) := by decide +kernel
theorem d_L_canStart_6 : decode b_L_canStart 6 = .ok (.if_icmp .lt 5, 3) := by decide +kernel
theorem d_L_canStart_9 : decode b_L_canStart 9 = .ok (.iconst 0, 1) := by decide +kernel
theorem d_L_canStart_10 : decode b_L_canStart 10 = .ok (.ireturn, 1) := by decide +kernel
theorem d_L_canStart_11 : decode b_L_canStart 11 = .ok (.iconst 0, 1) := by decide +kernel
theorem d_L_canStart_12 : decode b_L_canStart 12 = .ok (.istore_n 1, 1) := by decide +kernel
theorem d_L_canStart_13 : decode b_L_canStart 13 = .ok (.iload_n 1, 1) := by decide +kernel
theorem d_L_canStart_14 : decode b_L_canStart 14 = .ok (.bipush 16, 2) := by decide +kernel
theorem d_L_canStart_16 : decode b_L_canStart 16 = .ok (.if_icmp .ge 35, 3) := by decide +kernel
theorem d_L_canStart_19 : decode b_L_canStart 19 = .ok (.aload_n 0, 1) := by decide +kernel
theorem d_L_canStart_20 : decode b_L_canStart 20 = .ok (.getfield 18, 3) := by decide +kernel
theorem d_L_canStart_23 : decode b_L_canStart 23 = .ok (.iload_n 1, 1) := by decide +kernel
theorem d_L_canStart_24 : decode b_L_canStart 24 = .ok (.baload, 1) := by decide +kernel
theorem d_L_canStart_25 : decode b_L_canStart 25 = .ok (.ifCond .eq 20, 3) := by decide +kernel
theorem d_L_canStart_28 : decode b_L_canStart 28 = .ok (.aload_n 0, 1) := by decide +kernel
theorem d_L_canStart_29 : decode b_L_canStart 29 = .ok (.getfield 9, 3) := by decide +kernel
theorem d_L_canStart_32 : decode b_L_canStart 32 = .ok (.iload_n 1, 1) := by decide +kernel
theorem d_L_canStart_33 : decode b_L_canStart 33 = .ok (.iaload, 1) := by decide +kernel
theorem d_L_canStart_34 : decode b_L_canStart 34 = .ok (.iconst 0, 1) := by decide +kernel
theorem d_L_canStart_35 : decode b_L_canStart 35 = .ok (.invokestatic 26, 3) := by decide +kernel
theorem d_L_canStart_38 : decode b_L_canStart 38 = .ok (.bipush 60, 2) := by decide +kernel
theorem d_L_canStart_40 : decode b_L_canStart 40 = .ok (.if_icmp .ge 5, 3) := by decide +kernel
theorem d_L_canStart_43 : decode b_L_canStart 43 = .ok (.iconst 0, 1) := by decide +kernel
theorem d_L_canStart_44 : decode b_L_canStart 44 = .ok (.ireturn, 1) := by decide +kernel
theorem d_L_canStart_45 : decode b_L_canStart 45 = .ok (.iinc 1 1, 3) := by decide +kernel
theorem d_L_canStart_48 : decode b_L_canStart 48 = .ok (.goto (-35), 3) := by decide +kernel
theorem d_L_canStart_51 : decode b_L_canStart 51 = .ok (.iconst 1, 1) := by decide +kernel
theorem d_L_canStart_52 : decode b_L_canStart 52 = .ok (.ireturn, 1) := by decide +kernel
theorem d_L_start_0 : decode b_L_start 0 = .ok (.aload_n 0, 1) := by decide +kernel
theorem d_L_start_1 : decode b_L_start 1 = .ok (.getfield 22, 3) := by decide +kernel
theorem d_L_start_4 : decode b_L_start 4 = .ok (.istore_n 2, 1) := by decide +kernel
theorem d_L_start_5 : decode b_L_start 5 = .ok (.iload_n 2, 1) := by decide +kernel
theorem d_L_start_6 : decode b_L_start 6 = .ok (.bipush 16, 2) := by decide +kernel
theorem d_L_start_8 : decode b_L_start 8 = .ok (.if_icmp .ge 34, 3) := by decide +kernel
theorem d_L_start_11 : decode b_L_start 11 = .ok (.aload_n 0, 1) := by decide +kernel
theorem d_L_start_12 : decode b_L_start 12 = .ok (.dup, 1) := by decide +kernel
theorem d_L_start_13 : decode b_L_start 13 = .ok (.getfield 22, 3) := by decide +kernel
theorem d_L_start_16 : decode b_L_start 16 = .ok (.iconst 1, 1) := by decide +kernel
theorem d_L_start_17 : decode b_L_start 17 = .ok (.iadd, 1) := by decide +kernel
theorem d_L_start_18 : decode b_L_start 18 = .ok (.putfield 22, 3) := by decide +kernel
theorem d_L_start_21 : decode b_L_start 21 = .ok (.aload_n 0, 1) := by decide +kernel
theorem d_L_start_22 : decode b_L_start 22 = .ok (.getfield 9, 3) := by decide +kernel
theorem d_L_start_25 : decode b_L_start 25 = .ok (.iload_n 2, 1) := by decide +kernel
theorem d_L_start_26 : decode b_L_start 26 = .ok (.iconst 0, 1) := by decide +kernel
theorem d_L_start_27 : decode b_L_start 27 = .ok (.iastore, 1) := by decide +kernel
theorem d_L_start_28 : decode b_L_start 28 = .ok (.aload_n 0, 1) := by decide +kernel
theorem d_L_start_29 : decode b_L_start 29 = .ok (.getfield 15, 3) := by decide +kernel
theorem d_L_start_32 : decode b_L_start 32 = .ok (.iload_n 2, 1) := by decide +kernel
theorem d_L_start_33 : decode b_L_start 33 = .ok (.iload_n 1, 1) := by decide +kernel
theorem d_L_start_34 : decode b_L_start 34 = .ok (.iastore, 1) := by decide +kernel
theorem d_L_start_35 : decode b_L_start 35 = .ok (.aload_n 0, 1) := by decide +kernel
theorem d_L_start_36 : decode b_L_start 36 = .ok (.getfield 18, 3) := by decide +kernel
theorem d_L_start_39 : decode b_L_start 39 = .ok (.iload_n 2, 1) := by decide +kernel
theorem d_L_start_40 : decode b_L_start 40 = .ok (.iconst 1, 1) := by decide +kernel
theorem d_L_start_41 : decode b_L_start 41 = .ok (.bastore, 1) := by decide +kernel
theorem d_L_start_42 : decode b_L_start 42 = .ok (.iload_n 2, 1) := by decide +kernel
theorem d_L_start_43 : decode b_L_start 43 = .ok (.ireturn, 1) := by decide +kernel
theorem d_L_countOn_0 : decode b_L_countOn 0 = .ok (.iconst 0, 1) := by decide +kernel
theorem d_L_countOn_1 : decode b_L_countOn 1 = .ok (.istore_n 1, 1) := by decide +kernel
theorem d_L_countOn_2 : decode b_L_countOn 2 = .ok (.iconst 0, 1) := by decide +kernel
theorem d_L_countOn_3 : decode b_L_countOn 3 = .ok (.istore_n 2, 1) := by decide +kernel
theorem d_L_countOn_4 : decode b_L_countOn 4 = .ok (.iload_n 2, 1) := by decide +kernel
theorem d_L_countOn_5 : decode b_L_countOn 5 = .ok (.bipush 16, 2) := by decide +kernel
theorem d_L_countOn_7 : decode b_L_countOn 7 = .ok (.if_icmp .ge 21, 3) := by decide +kernel
theorem d_L_countOn_10 : decode b_L_countOn 10 = .ok (.aload_n 0, 1) := by decide +kernel
theorem d_L_countOn_11 : decode b_L_countOn 11 = .ok (.getfield 18, 3) := by decide +kernel
theorem d_L_countOn_14 : decode b_L_countOn 14 = .ok (.iload_n 2, 1) := by decide +kernel
theorem d_L_countOn_15 : decode b_L_countOn 15 = .ok (.baload, 1) := by decide +kernel
theorem d_L_countOn_16 : decode b_L_countOn 16 = .ok (.ifCond .eq 6, 3) := by decide +kernel
theorem d_L_countOn_19 : decode b_L_countOn 19 = .ok (.iinc 1 1, 3) := by decide +kernel
theorem d_L_countOn_22 : decode b_L_countOn 22 = .ok (.iinc 2 1, 3) := by decide +kernel
theorem d_L_countOn_25 : decode b_L_countOn 25 = .ok (.goto (-21), 3) := by decide +kernel
theorem d_L_countOn_28 : decode b_L_countOn 28 = .ok (.iload_n 1, 1) := by decide +kernel
theorem d_L_countOn_29 : decode b_L_countOn 29 = .ok (.ireturn, 1) := by decide +kernel
theorem d_L_leastGapOfPairs_0 : decode b_L_leastGapOfPairs 0 = .ok (.iconst (-1), 1) := by decide +kernel
theorem d_L_leastGapOfPairs_1 : decode b_L_leastGapOfPairs 1 = .ok (.istore_n 1, 1) := by decide +kernel
theorem d_L_leastGapOfPairs_2 : decode b_L_leastGapOfPairs 2 = .ok (.iconst 0, 1) := by decide +kernel
theorem d_L_leastGapOfPairs_3 : decode b_L_leastGapOfPairs 3 = .ok (.istore_n 2, 1) := by decide +kernel
theorem d_L_leastGapOfPairs_4 : decode b_L_leastGapOfPairs 4 = .ok (.iload_n 2, 1) := by decide +kernel
theorem d_L_leastGapOfPairs_5 : decode b_L_leastGapOfPairs 5 = .ok (.bipush 16, 2) := by decide +kernel
theorem d_L_leastGapOfPairs_7 : decode b_L_leastGapOfPairs 7 = .ok (.if_icmp .ge 74, 3) := by decide +kernel
theorem d_L_leastGapOfPairs_10 : decode b_L_leastGapOfPairs 10 = .ok (.iconst 0, 1) := by decide +kernel
theorem d_L_leastGapOfPairs_11 : decode b_L_leastGapOfPairs 11 = .ok (.istore_n 3, 1) := by decide +kernel
theorem d_L_leastGapOfPairs_12 : decode b_L_leastGapOfPairs 12 = .ok (.iload_n 3, 1) := by decide +kernel
theorem d_L_leastGapOfPairs_13 : decode b_L_leastGapOfPairs 13 = .ok (.iload_n 2, 1) := by decide +kernel
theorem d_L_leastGapOfPairs_14 : decode b_L_leastGapOfPairs 14 = .ok (.if_icmp .ge 61, 3) := by decide +kernel
theorem d_L_leastGapOfPairs_17 : decode b_L_leastGapOfPairs 17 = .ok (.aload_n 0, 1) := by decide +kernel
theorem d_L_leastGapOfPairs_18 : decode b_L_leastGapOfPairs 18 = .ok (.getfield 18, 3) := by decide +kernel
theorem d_L_leastGapOfPairs_21 : decode b_L_leastGapOfPairs 21 = .ok (.iload_n 2, 1) := by decide +kernel
theorem d_L_leastGapOfPairs_22 : decode b_L_leastGapOfPairs 22 = .ok (.baload, 1) := by decide +kernel
theorem d_L_leastGapOfPairs_23 : decode b_L_leastGapOfPairs 23 = .ok (.ifCond .eq 46, 3) := by decide +kernel
theorem d_L_leastGapOfPairs_26 : decode b_L_leastGapOfPairs 26 = .ok (.aload_n 0, 1) := by decide +kernel
theorem d_L_leastGapOfPairs_27 : decode b_L_leastGapOfPairs 27 = .ok (.getfield 18, 3) := by decide +kernel
theorem d_L_leastGapOfPairs_30 : decode b_L_leastGapOfPairs 30 = .ok (.iload_n 3, 1) := by decide +kernel
theorem d_L_leastGapOfPairs_31 : decode b_L_leastGapOfPairs 31 = .ok (.baload, 1) := by decide +kernel
theorem d_L_leastGapOfPairs_32 : decode b_L_leastGapOfPairs 32 = .ok (.ifCond .eq 37, 3) := by decide +kernel
theorem d_L_leastGapOfPairs_35 : decode b_L_leastGapOfPairs 35 = .ok (.aload_n 0, 1) := by decide +kernel
theorem d_L_leastGapOfPairs_36 : decode b_L_leastGapOfPairs 36 = .ok (.getfield 9, 3) := by decide +kernel
theorem d_L_leastGapOfPairs_39 : decode b_L_leastGapOfPairs 39 = .ok (.iload_n 2, 1) := by decide +kernel
theorem d_L_leastGapOfPairs_40 : decode b_L_leastGapOfPairs 40 = .ok (.iaload, 1) := by decide +kernel
theorem d_L_leastGapOfPairs_41 : decode b_L_leastGapOfPairs 41 = .ok (.aload_n 0, 1) := by decide +kernel
theorem d_L_leastGapOfPairs_42 : decode b_L_leastGapOfPairs 42 = .ok (.getfield 9, 3) := by decide +kernel
theorem d_L_leastGapOfPairs_45 : decode b_L_leastGapOfPairs 45 = .ok (.iload_n 3, 1) := by decide +kernel
theorem d_L_leastGapOfPairs_46 : decode b_L_leastGapOfPairs 46 = .ok (.iaload, 1) := by decide +kernel
theorem d_L_leastGapOfPairs_47 : decode b_L_leastGapOfPairs 47 = .ok (.invokestatic 26, 3) := by decide +kernel
theorem d_L_leastGapOfPairs_50 : decode b_L_leastGapOfPairs 50 = .ok (.istore 4, 2) := by decide +kernel
theorem d_L_leastGapOfPairs_52 : decode b_L_leastGapOfPairs 52 = .ok (.iload_n 1, 1) := by decide +kernel
theorem d_L_leastGapOfPairs_53 : decode b_L_leastGapOfPairs 53 = .ok (.iconst (-1), 1) := by decide +kernel
theorem d_L_leastGapOfPairs_54 : decode b_L_leastGapOfPairs 54 = .ok (.if_icmp .ne 8, 3) := by decide +kernel
theorem d_L_leastGapOfPairs_57 : decode b_L_leastGapOfPairs 57 = .ok (.iload 4, 2) := by decide +kernel
theorem d_L_leastGapOfPairs_59 : decode b_L_leastGapOfPairs 59 = .ok (.goto 9, 3) := by decide +kernel
theorem d_L_leastGapOfPairs_62 : decode b_L_leastGapOfPairs 62 = .ok (.iload_n 1, 1) := by decide +kernel
theorem d_L_leastGapOfPairs_63 : decode b_L_leastGapOfPairs 63 = .ok (.iload 4, 2) := by decide +kernel
theorem d_L_leastGapOfPairs_65 : decode b_L_leastGapOfPairs 65 = .ok (.invokestatic 30, 3) := by decide +kernel
theorem d_L_leastGapOfPairs_68 : decode b_L_leastGapOfPairs 68 = .ok (.istore_n 1, 1) := by decide +kernel
theorem d_L_leastGapOfPairs_69 : decode b_L_leastGapOfPairs 69 = .ok (.iinc 3 1, 3) := by decide +kernel
theorem d_L_leastGapOfPairs_72 : decode b_L_leastGapOfPairs 72 = .ok (.goto (-60), 3) := by decide +kernel
theorem d_L_leastGapOfPairs_75 : decode b_L_leastGapOfPairs 75 = .ok (.iinc 2 1, 3) := by decide +kernel
theorem d_L_leastGapOfPairs_78 : decode b_L_leastGapOfPairs 78 = .ok (.goto (-74), 3) := by decide +kernel
theorem d_L_leastGapOfPairs_81 : decode b_L_leastGapOfPairs 81 = .ok (.iload_n 1, 1) := by decide +kernel
theorem d_L_leastGapOfPairs_82 : decode b_L_leastGapOfPairs 82 = .ok (.ireturn, 1) := by decide +kernel
theorem d_L_move_0 : decode b_L_move 0 = .ok (.iconst 0, 1) := by decide +kernel
theorem d_L_move_1 : decode b_L_move 1 = .ok (.istore_n 2, 1) := by decide +kernel
theorem d_L_move_2 : decode b_L_move 2 = .ok (.iload_n 2, 1) := by decide +kernel
theorem d_L_move_3 : decode b_L_move 3 = .ok (.bipush 16, 2) := by decide +kernel
theorem d_L_move_5 : decode b_L_move 5 = .ok (.if_icmp .ge 36, 3) := by decide +kernel
theorem d_L_move_8 : decode b_L_move 8 = .ok (.aload_n 0, 1) := by decide +kernel
theorem d_L_move_9 : decode b_L_move 9 = .ok (.getfield 18, 3) := by decide +kernel
theorem d_L_move_12 : decode b_L_move 12 = .ok (.iload_n 2, 1) := by decide +kernel
theorem d_L_move_13 : decode b_L_move 13 = .ok (.baload, 1) := by decide +kernel
theorem d_L_move_14 : decode b_L_move 14 = .ok (.ifCond .eq 21, 3) := by decide +kernel
theorem d_L_move_17 : decode b_L_move 17 = .ok (.aload_n 0, 1) := by decide +kernel
theorem d_L_move_18 : decode b_L_move 18 = .ok (.getfield 9, 3) := by decide +kernel
theorem d_L_move_21 : decode b_L_move 21 = .ok (.iload_n 2, 1) := by decide +kernel
theorem d_L_move_22 : decode b_L_move 22 = .ok (.aload_n 0, 1) := by decide +kernel
theorem d_L_move_23 : decode b_L_move 23 = .ok (.getfield 9, 3) := by decide +kernel
theorem d_L_move_26 : decode b_L_move 26 = .ok (.iload_n 2, 1) := by decide +kernel
theorem d_L_move_27 : decode b_L_move 27 = .ok (.iaload, 1) := by decide +kernel
theorem d_L_move_28 : decode b_L_move 28 = .ok (.iload_n 1, 1) := by decide +kernel
theorem d_L_move_29 : decode b_L_move 29 = .ok (.iadd, 1) := by decide +kernel
theorem d_L_move_30 : decode b_L_move 30 = .ok (.sipush 1200, 3) := by decide +kernel
theorem d_L_move_33 : decode b_L_move 33 = .ok (.irem, 1) := by decide +kernel
theorem d_L_move_34 : decode b_L_move 34 = .ok (.iastore, 1) := by decide +kernel
theorem d_L_move_35 : decode b_L_move 35 = .ok (.iinc 2 1, 3) := by decide +kernel
theorem d_L_move_38 : decode b_L_move 38 = .ok (.goto (-36), 3) := by decide +kernel
theorem d_L_move_41 : decode b_L_move 41 = .ok (.return_, 1) := by decide +kernel
theorem d_L_isOutOfStations_0 : decode b_L_isOutOfStations 0 = .ok (.aload_n 0, 1) := by decide +kernel
theorem d_L_isOutOfStations_1 : decode b_L_isOutOfStations 1 = .ok (.iload_n 1, 1) := by decide +kernel
theorem d_L_isOutOfStations_2 : decode b_L_isOutOfStations 2 = .ok (.invokevirtual 35, 3) := by decide +kernel
theorem d_L_isOutOfStations_5 : decode b_L_isOutOfStations 5 = .ok (.ifCond .eq 19, 3) := by decide +kernel
theorem d_L_isOutOfStations_8 : decode b_L_isOutOfStations 8 = .ok (.aload_n 0, 1) := by decide +kernel
theorem d_L_isOutOfStations_9 : decode b_L_isOutOfStations 9 = .ok (.getfield 9, 3) := by decide +kernel
theorem d_L_isOutOfStations_12 : decode b_L_isOutOfStations 12 = .ok (.iload_n 1, 1) := by decide +kernel
theorem d_L_isOutOfStations_13 : decode b_L_isOutOfStations 13 = .ok (.iaload, 1) := by decide +kernel
theorem d_L_isOutOfStations_14 : decode b_L_isOutOfStations 14 = .ok (.invokestatic 39, 3) := by decide +kernel
theorem d_L_isOutOfStations_17 : decode b_L_isOutOfStations 17 = .ok (.ifCond .ne 7, 3) := by decide +kernel
theorem d_L_isOutOfStations_20 : decode b_L_isOutOfStations 20 = .ok (.iconst 1, 1) := by decide +kernel
theorem d_L_isOutOfStations_21 : decode b_L_isOutOfStations 21 = .ok (.goto 4, 3) := by decide +kernel
theorem d_L_isOutOfStations_24 : decode b_L_isOutOfStations 24 = .ok (.iconst 0, 1) := by decide +kernel
theorem d_L_isOutOfStations_25 : decode b_L_isOutOfStations 25 = .ok (.ireturn, 1) := by decide +kernel
theorem d_P_init_0 : decode b_P_init 0 = .ok (.aload_n 0, 1) := by decide +kernel
theorem d_P_init_1 : decode b_P_init 1 = .ok (.invokespecial 3, 3) := by decide +kernel
theorem d_P_init_4 : decode b_P_init 4 = .ok (.aload_n 0, 1) := by decide +kernel
theorem d_P_init_5 : decode b_P_init 5 = .ok (.bipush 49, 2) := by decide +kernel
theorem d_P_init_7 : decode b_P_init 7 = .ok (.newarray .int, 2) := by decide +kernel
theorem d_P_init_9 : decode b_P_init 9 = .ok (.putfield 9, 3) := by decide +kernel
theorem d_P_init_12 : decode b_P_init 12 = .ok (.aload_n 0, 1) := by decide +kernel
theorem d_P_init_13 : decode b_P_init 13 = .ok (.bipush 49, 2) := by decide +kernel
theorem d_P_init_15 : decode b_P_init 15 = .ok (.newarray .int, 2) := by decide +kernel
theorem d_P_init_17 : decode b_P_init 17 = .ok (.putfield 15, 3) := by decide +kernel
theorem d_P_init_20 : decode b_P_init 20 = .ok (.return_, 1) := by decide +kernel
theorem d_P_send_0 : decode b_P_send 0 = .ok (.iload_n 1, 1) := by decide +kernel
theorem d_P_send_1 : decode b_P_send 1 = .ok (.iload_n 3, 1) := by decide +kernel
theorem d_P_send_2 : decode b_P_send 2 = .ok (.invokestatic 18, 3) := by decide +kernel
theorem d_P_send_5 : decode b_P_send 5 = .ok (.istore 5, 2) := by decide +kernel
theorem d_P_send_7 : decode b_P_send 7 = .ok (.aload_n 0, 1) := by decide +kernel
theorem d_P_send_8 : decode b_P_send 8 = .ok (.getfield 9, 3) := by decide +kernel
theorem d_P_send_11 : decode b_P_send 11 = .ok (.iload 5, 2) := by decide +kernel
theorem d_P_send_13 : decode b_P_send 13 = .ok (.iload_n 2, 1) := by decide +kernel
theorem d_P_send_14 : decode b_P_send 14 = .ok (.iastore, 1) := by decide +kernel
theorem d_P_send_15 : decode b_P_send 15 = .ok (.aload_n 0, 1) := by decide +kernel
theorem d_P_send_16 : decode b_P_send 16 = .ok (.getfield 15, 3) := by decide +kernel
theorem d_P_send_19 : decode b_P_send 19 = .ok (.iload 5, 2) := by decide +kernel
theorem d_P_send_21 : decode b_P_send 21 = .ok (.iload 4, 2) := by decide +kernel
theorem d_P_send_23 : decode b_P_send 23 = .ok (.iconst (-1), 1) := by decide +kernel
theorem d_P_send_24 : decode b_P_send 24 = .ok (.if_icmp .ne 7, 3) := by decide +kernel
theorem d_P_send_27 : decode b_P_send 27 = .ok (.iconst 0, 1) := by decide +kernel
theorem d_P_send_28 : decode b_P_send 28 = .ok (.goto 7, 3) := by decide +kernel
theorem d_P_send_31 : decode b_P_send 31 = .ok (.iload_n 3, 1) := by decide +kernel
theorem d_P_send_32 : decode b_P_send 32 = .ok (.iload 4, 2) := by decide +kernel
theorem d_P_send_34 : decode b_P_send 34 = .ok (.iadd, 1) := by decide +kernel
theorem d_P_send_35 : decode b_P_send 35 = .ok (.iastore, 1) := by decide +kernel
theorem d_P_send_36 : decode b_P_send 36 = .ok (.return_, 1) := by decide +kernel
theorem d_P_deliver_0 : decode b_P_deliver 0 = .ok (.iconst 1, 1) := by decide +kernel
theorem d_P_deliver_1 : decode b_P_deliver 1 = .ok (.iload_n 1, 1) := by decide +kernel
theorem d_P_deliver_2 : decode b_P_deliver 2 = .ok (.bipush 7, 2) := by decide +kernel
theorem d_P_deliver_4 : decode b_P_deliver 4 = .ok (.isub, 1) := by decide +kernel
theorem d_P_deliver_5 : decode b_P_deliver 5 = .ok (.iconst 1, 1) := by decide +kernel
theorem d_P_deliver_6 : decode b_P_deliver 6 = .ok (.iadd, 1) := by decide +kernel
theorem d_P_deliver_7 : decode b_P_deliver 7 = .ok (.invokestatic 22, 3) := by decide +kernel
theorem d_P_deliver_10 : decode b_P_deliver 10 = .ok (.istore_n 3, 1) := by decide +kernel
theorem d_P_deliver_11 : decode b_P_deliver 11 = .ok (.iload_n 3, 1) := by decide +kernel
theorem d_P_deliver_12 : decode b_P_deliver 12 = .ok (.iload_n 1, 1) := by decide +kernel
theorem d_P_deliver_13 : decode b_P_deliver 13 = .ok (.if_icmp .gt 58, 3) := by decide +kernel
theorem d_P_deliver_16 : decode b_P_deliver 16 = .ok (.iconst 0, 1) := by decide +kernel
theorem d_P_deliver_17 : decode b_P_deliver 17 = .ok (.istore 4, 2) := by decide +kernel
theorem d_P_deliver_19 : decode b_P_deliver 19 = .ok (.iload 4, 2) := by decide +kernel
theorem d_P_deliver_21 : decode b_P_deliver 21 = .ok (.bipush 7, 2) := by decide +kernel
theorem d_P_deliver_23 : decode b_P_deliver 23 = .ok (.if_icmp .ge 42, 3) := by decide +kernel
theorem d_P_deliver_26 : decode b_P_deliver 26 = .ok (.iload 4, 2) := by decide +kernel
theorem d_P_deliver_28 : decode b_P_deliver 28 = .ok (.iload_n 3, 1) := by decide +kernel
theorem d_P_deliver_29 : decode b_P_deliver 29 = .ok (.invokestatic 18, 3) := by decide +kernel
theorem d_P_deliver_32 : decode b_P_deliver 32 = .ok (.istore 5, 2) := by decide +kernel
theorem d_P_deliver_34 : decode b_P_deliver 34 = .ok (.aload_n 0, 1) := by decide +kernel
theorem d_P_deliver_35 : decode b_P_deliver 35 = .ok (.getfield 15, 3) := by decide +kernel
theorem d_P_deliver_38 : decode b_P_deliver 38 = .ok (.iload 5, 2) := by decide +kernel
theorem d_P_deliver_40 : decode b_P_deliver 40 = .ok (.iaload, 1) := by decide +kernel
theorem d_P_deliver_41 : decode b_P_deliver 41 = .ok (.iload_n 1, 1) := by decide +kernel
theorem d_P_deliver_42 : decode b_P_deliver 42 = .ok (.if_icmp .ne 17, 3) := by decide +kernel
theorem d_P_deliver_45 : decode b_P_deliver 45 = .ok (.aload_n 2, 1) := by decide +kernel
theorem d_P_deliver_46 : decode b_P_deliver 46 = .ok (.iload 4, 2) := by decide +kernel
theorem d_P_deliver_48 : decode b_P_deliver 48 = .ok (.aload_n 0, 1) := by decide +kernel
theorem d_P_deliver_49 : decode b_P_deliver 49 = .ok (.getfield 9, 3) := by decide +kernel
theorem d_P_deliver_52 : decode b_P_deliver 52 = .ok (.iload 5, 2) := by decide +kernel
theorem d_P_deliver_54 : decode b_P_deliver 54 = .ok (.iaload, 1) := by decide +kernel
theorem d_P_deliver_55 : decode b_P_deliver 55 = .ok (.iload_n 3, 1) := by decide +kernel
theorem d_P_deliver_56 : decode b_P_deliver 56 = .ok (.invokevirtual 27, 3) := by decide +kernel
theorem d_P_deliver_59 : decode b_P_deliver 59 = .ok (.iinc 4 1, 3) := by decide +kernel
theorem d_P_deliver_62 : decode b_P_deliver 62 = .ok (.goto (-43), 3) := by decide +kernel
theorem d_P_deliver_65 : decode b_P_deliver 65 = .ok (.iinc 3 1, 3) := by decide +kernel
theorem d_P_deliver_68 : decode b_P_deliver 68 = .ok (.goto (-57), 3) := by decide +kernel
theorem d_P_deliver_71 : decode b_P_deliver 71 = .ok (.return_, 1) := by decide +kernel
theorem d_P_countLater_0 : decode b_P_countLater 0 = .ok (.iconst 0, 1) := by decide +kernel
theorem d_P_countLater_1 : decode b_P_countLater 1 = .ok (.istore_n 2, 1) := by decide +kernel
theorem d_P_countLater_2 : decode b_P_countLater 2 = .ok (.iconst 0, 1) := by decide +kernel
theorem d_P_countLater_3 : decode b_P_countLater 3 = .ok (.istore_n 3, 1) := by decide +kernel
theorem d_P_countLater_4 : decode b_P_countLater 4 = .ok (.iload_n 3, 1) := by decide +kernel
theorem d_P_countLater_5 : decode b_P_countLater 5 = .ok (.aload_n 0, 1) := by decide +kernel
theorem d_P_countLater_6 : decode b_P_countLater 6 = .ok (.getfield 15, 3) := by decide +kernel
theorem d_P_countLater_9 : decode b_P_countLater 9 = .ok (.arraylength, 1) := by decide +kernel
theorem d_P_countLater_10 : decode b_P_countLater 10 = .ok (.if_icmp .ge 22, 3) := by decide +kernel
theorem d_P_countLater_13 : decode b_P_countLater 13 = .ok (.aload_n 0, 1) := by decide +kernel
theorem d_P_countLater_14 : decode b_P_countLater 14 = .ok (.getfield 15, 3) := by decide +kernel
theorem d_P_countLater_17 : decode b_P_countLater 17 = .ok (.iload_n 3, 1) := by decide +kernel
theorem d_P_countLater_18 : decode b_P_countLater 18 = .ok (.iaload, 1) := by decide +kernel
theorem d_P_countLater_19 : decode b_P_countLater 19 = .ok (.iload_n 1, 1) := by decide +kernel
theorem d_P_countLater_20 : decode b_P_countLater 20 = .ok (.if_icmp .le 6, 3) := by decide +kernel
theorem d_P_countLater_23 : decode b_P_countLater 23 = .ok (.iinc 2 1, 3) := by decide +kernel
theorem d_P_countLater_26 : decode b_P_countLater 26 = .ok (.iinc 3 1, 3) := by decide +kernel
theorem d_P_countLater_29 : decode b_P_countLater 29 = .ok (.goto (-25), 3) := by decide +kernel
theorem d_P_countLater_32 : decode b_P_countLater 32 = .ok (.iload_n 2, 1) := by decide +kernel
theorem d_P_countLater_33 : decode b_P_countLater 33 = .ok (.ireturn, 1) := by decide +kernel
theorem d_P_slotOf_0 : decode b_P_slotOf 0 = .ok (.iload_n 1, 1) := by decide +kernel
theorem d_P_slotOf_1 : decode b_P_slotOf 1 = .ok (.bipush 7, 2) := by decide +kernel
theorem d_P_slotOf_3 : decode b_P_slotOf 3 = .ok (.invokestatic 33, 3) := by decide +kernel
theorem d_P_slotOf_6 : decode b_P_slotOf 6 = .ok (.bipush 7, 2) := by decide +kernel
theorem d_P_slotOf_8 : decode b_P_slotOf 8 = .ok (.imul, 1) := by decide +kernel
theorem d_P_slotOf_9 : decode b_P_slotOf 9 = .ok (.iload_n 0, 1) := by decide +kernel
theorem d_P_slotOf_10 : decode b_P_slotOf 10 = .ok (.iadd, 1) := by decide +kernel
theorem d_P_slotOf_11 : decode b_P_slotOf 11 = .ok (.ireturn, 1) := by decide +kernel
theorem d_K_init_0 : decode b_K_init 0 = .ok (.aload_n 0, 1) := by decide +kernel
theorem d_K_init_1 : decode b_K_init 1 = .ok (.invokespecial 3, 3) := by decide +kernel
theorem d_K_init_4 : decode b_K_init 4 = .ok (.aload_n 0, 1) := by decide +kernel
theorem d_K_init_5 : decode b_K_init 5 = .ok (.bipush 60, 2) := by decide +kernel
theorem d_K_init_7 : decode b_K_init 7 = .ok (.newarray .int, 2) := by decide +kernel
theorem d_K_init_9 : decode b_K_init 9 = .ok (.putfield 9, 3) := by decide +kernel
theorem d_K_init_12 : decode b_K_init 12 = .ok (.aload_n 0, 1) := by decide +kernel
theorem d_K_init_13 : decode b_K_init 13 = .ok (.bipush 60, 2) := by decide +kernel
theorem d_K_init_15 : decode b_K_init 15 = .ok (.newarray .int, 2) := by decide +kernel
theorem d_K_init_17 : decode b_K_init 17 = .ok (.putfield 15, 3) := by decide +kernel
theorem d_K_init_20 : decode b_K_init 20 = .ok (.aload_n 0, 1) := by decide +kernel
theorem d_K_init_21 : decode b_K_init 21 = .ok (.bipush 60, 2) := by decide +kernel
theorem d_K_init_23 : decode b_K_init 23 = .ok (.newarray .int, 2) := by decide +kernel
theorem d_K_init_25 : decode b_K_init 25 = .ok (.putfield 18, 3) := by decide +kernel
theorem d_K_init_28 : decode b_K_init 28 = .ok (.aload_n 0, 1) := by decide +kernel
theorem d_K_init_29 : decode b_K_init 29 = .ok (.bipush 60, 2) := by decide +kernel
theorem d_K_init_31 : decode b_K_init 31 = .ok (.newarray .int, 2) := by decide +kernel
theorem d_K_init_33 : decode b_K_init 33 = .ok (.putfield 21, 3) := by decide +kernel
theorem d_K_init_36 : decode b_K_init 36 = .ok (.aload_n 0, 1) := by decide +kernel
theorem d_K_init_37 : decode b_K_init 37 = .ok (.bipush 60, 2) := by decide +kernel
theorem d_K_init_39 : decode b_K_init 39 = .ok (.newarray .int, 2) := by decide +kernel
theorem d_K_init_41 : decode b_K_init 41 = .ok (.putfield 24, 3) := by decide +kernel
theorem d_K_init_44 : decode b_K_init 44 = .ok (.aload_n 0, 1) := by decide +kernel
theorem d_K_init_45 : decode b_K_init 45 = .ok (.bipush 60, 2) := by decide +kernel
theorem d_K_init_47 : decode b_K_init 47 = .ok (.newarray .int, 2) := by decide +kernel
theorem d_K_init_49 : decode b_K_init 49 = .ok (.putfield 27, 3) := by decide +kernel
theorem d_K_init_52 : decode b_K_init 52 = .ok (.aload_n 0, 1) := by decide +kernel
theorem d_K_init_53 : decode b_K_init 53 = .ok (.iconst 0, 1) := by decide +kernel
theorem d_K_init_54 : decode b_K_init 54 = .ok (.putfield 30, 3) := by decide +kernel
theorem d_K_init_57 : decode b_K_init 57 = .ok (.return_, 1) := by decide +kernel
theorem d_K_has_0 : decode b_K_has 0 = .ok (.iload_n 1, 1) := by decide +kernel
theorem d_K_has_1 : decode b_K_has 1 = .ok (.ifCond .lt 21, 3) := by decide +kernel
theorem d_K_has_4 : decode b_K_has 4 = .ok (.iload_n 1, 1) := by decide +kernel
theorem d_K_has_5 : decode b_K_has 5 = .ok (.aload_n 0, 1) := by decide +kernel
theorem d_K_has_6 : decode b_K_has 6 = .ok (.getfield 30, 3) := by decide +kernel
theorem d_K_has_9 : decode b_K_has 9 = .ok (.if_icmp .ge 13, 3) := by decide +kernel
theorem d_K_has_12 : decode b_K_has 12 = .ok (.iload_n 1, 1) := by decide +kernel
theorem d_K_has_13 : decode b_K_has 13 = .ok (.bipush 60, 2) := by decide +kernel
theorem d_K_has_15 : decode b_K_has 15 = .ok (.if_icmp .ge 7, 3) := by decide +kernel
theorem d_K_has_18 : decode b_K_has 18 = .ok (.iconst 1, 1) := by decide +kernel
theorem d_K_has_19 : decode b_K_has 19 = .ok (.goto 4, 3) := by decide +kernel
theorem d_K_has_22 : decode b_K_has 22 = .ok (.iconst 0, 1) := by decide +kernel
theorem d_K_has_23 : decode b_K_has 23 = .ok (.ireturn, 1) := by decide +kernel
theorem d_K_isLeft_0 : decode b_K_isLeft 0 = .ok (.aload_n 0, 1) := by decide +kernel
theorem d_K_isLeft_1 : decode b_K_isLeft 1 = .ok (.getfield 30, 3) := by decide +kernel
theorem d_K_isLeft_4 : decode b_K_isLeft 4 = .ok (.bipush 60, 2) := by decide +kernel
theorem d_K_isLeft_6 : decode b_K_isLeft 6 = .ok (.if_icmp .ge 7, 3) := by decide +kernel
theorem d_K_isLeft_9 : decode b_K_isLeft 9 = .ok (.iconst 1, 1) := by decide +kernel
theorem d_K_isLeft_10 : decode b_K_isLeft 10 = .ok (.goto 4, 3) := by decide +kernel
theorem d_K_isLeft_13 : decode b_K_isLeft 13 = .ok (.iconst 0, 1) := by decide +kernel
theorem d_K_isLeft_14 : decode b_K_isLeft 14 = .ok (.ireturn, 1) := by decide +kernel
theorem d_K_sell_0 : decode b_K_sell 0 = .ok (.aload_n 0, 1) := by decide +kernel
theorem d_K_sell_1 : decode b_K_sell 1 = .ok (.getfield 30, 3) := by decide +kernel
theorem d_K_sell_4 : decode b_K_sell 4 = .ok (.istore 5, 2) := by decide +kernel
theorem d_K_sell_6 : decode b_K_sell 6 = .ok (.iload 5, 2) := by decide +kernel
theorem d_K_sell_8 : decode b_K_sell 8 = .ok (.bipush 60, 2) := by decide +kernel
theorem d_K_sell_10 : decode b_K_sell 10 = .ok (.if_icmp .ge 54, 3) := by decide +kernel
theorem d_K_sell_13 : decode b_K_sell 13 = .ok (.aload_n 0, 1) := by decide +kernel
theorem d_K_sell_14 : decode b_K_sell 14 = .ok (.dup, 1) := by decide +kernel
theorem d_K_sell_15 : decode b_K_sell 15 = .ok (.getfield 30, 3) := by decide +kernel
theorem d_K_sell_18 : decode b_K_sell 18 = .ok (.iconst 1, 1) := by decide +kernel
theorem d_K_sell_19 : decode b_K_sell 19 = .ok (.iadd, 1) := by decide +kernel
theorem d_K_sell_20 : decode b_K_sell 20 = .ok (.putfield 30, 3) := by decide +kernel
theorem d_K_sell_23 : decode b_K_sell 23 = .ok (.aload_n 0, 1) := by decide +kernel
theorem d_K_sell_24 : decode b_K_sell 24 = .ok (.getfield 9, 3) := by decide +kernel
theorem d_K_sell_27 : decode b_K_sell 27 = .ok (.iload 5, 2) := by decide +kernel
theorem d_K_sell_29 : decode b_K_sell 29 = .ok (.iload_n 1, 1) := by decide +kernel
theorem d_K_sell_30 : decode b_K_sell 30 = .ok (.iastore, 1) := by decide +kernel
theorem d_K_sell_31 : decode b_K_sell 31 = .ok (.aload_n 0, 1) := by decide +kernel
theorem d_K_sell_32 : decode b_K_sell 32 = .ok (.getfield 15, 3) := by decide +kernel
theorem d_K_sell_35 : decode b_K_sell 35 = .ok (.iload 5, 2) := by decide +kernel
theorem d_K_sell_37 : decode b_K_sell 37 = .ok (.iload_n 2, 1) := by decide +kernel
theorem d_K_sell_38 : decode b_K_sell 38 = .ok (.iastore, 1) := by decide +kernel
theorem d_K_sell_39 : decode b_K_sell 39 = .ok (.aload_n 0, 1) := by decide +kernel
theorem d_K_sell_40 : decode b_K_sell 40 = .ok (.getfield 18, 3) := by decide +kernel
theorem d_K_sell_43 : decode b_K_sell 43 = .ok (.iload 5, 2) := by decide +kernel
theorem d_K_sell_45 : decode b_K_sell 45 = .ok (.iload_n 3, 1) := by decide +kernel
theorem d_K_sell_46 : decode b_K_sell 46 = .ok (.iastore, 1) := by decide +kernel
theorem d_K_sell_47 : decode b_K_sell 47 = .ok (.aload_n 0, 1) := by decide +kernel
theorem d_K_sell_48 : decode b_K_sell 48 = .ok (.getfield 21, 3) := by decide +kernel
theorem d_K_sell_51 : decode b_K_sell 51 = .ok (.iload 5, 2) := by decide +kernel
theorem d_K_sell_53 : decode b_K_sell 53 = .ok (.iload 4, 2) := by decide +kernel
theorem d_K_sell_55 : decode b_K_sell 55 = .ok (.iastore, 1) := by decide +kernel
theorem d_K_sell_56 : decode b_K_sell 56 = .ok (.aload_n 0, 1) := by decide +kernel
theorem d_K_sell_57 : decode b_K_sell 57 = .ok (.getfield 24, 3) := by decide +kernel
theorem d_K_sell_60 : decode b_K_sell 60 = .ok (.iload 5, 2) := by decide +kernel
theorem d_K_sell_62 : decode b_K_sell 62 = .ok (.iconst (-1), 1) := by decide +kernel
theorem d_K_sell_63 : decode b_K_sell 63 = .ok (.iastore, 1) := by decide +kernel
theorem d_K_sell_64 : decode b_K_sell 64 = .ok (.iload 5, 2) := by decide +kernel
theorem d_K_sell_66 : decode b_K_sell 66 = .ok (.ireturn, 1) := by decide +kernel
theorem d_K_peopleIn_0 : decode b_K_peopleIn 0 = .ok (.iconst 0, 1) := by decide +kernel
theorem d_K_peopleIn_1 : decode b_K_peopleIn 1 = .ok (.istore_n 2, 1) := by decide +kernel
theorem d_K_peopleIn_2 : decode b_K_peopleIn 2 = .ok (.iconst 0, 1) := by decide +kernel
theorem d_K_peopleIn_3 : decode b_K_peopleIn 3 = .ok (.istore_n 3, 1) := by decide +kernel
theorem d_K_peopleIn_4 : decode b_K_peopleIn 4 = .ok (.iload_n 3, 1) := by decide +kernel
theorem d_K_peopleIn_5 : decode b_K_peopleIn 5 = .ok (.aload_n 0, 1) := by decide +kernel
theorem d_K_peopleIn_6 : decode b_K_peopleIn 6 = .ok (.getfield 30, 3) := by decide +kernel
theorem d_K_peopleIn_9 : decode b_K_peopleIn 9 = .ok (.if_icmp .ge 44, 3) := by decide +kernel
theorem d_K_peopleIn_12 : decode b_K_peopleIn 12 = .ok (.iload_n 3, 1) := by decide +kernel
theorem d_K_peopleIn_13 : decode b_K_peopleIn 13 = .ok (.bipush 60, 2) := by decide +kernel
theorem d_K_peopleIn_15 : decode b_K_peopleIn 15 = .ok (.if_icmp .ge 38, 3) := by decide +kernel
theorem d_K_peopleIn_18 : decode b_K_peopleIn 18 = .ok (.aload_n 0, 1) := by decide +kernel
theorem d_K_peopleIn_19 : decode b_K_peopleIn 19 = .ok (.getfield 9, 3) := by decide +kernel
theorem d_K_peopleIn_22 : decode b_K_peopleIn 22 = .ok (.iload_n 3, 1) := by decide +kernel
theorem d_K_peopleIn_23 : decode b_K_peopleIn 23 = .ok (.iaload, 1) := by decide +kernel
theorem d_K_peopleIn_24 : decode b_K_peopleIn 24 = .ok (.iload_n 1, 1) := by decide +kernel
theorem d_K_peopleIn_25 : decode b_K_peopleIn 25 = .ok (.if_icmp .ne 22, 3) := by decide +kernel
theorem d_K_peopleIn_28 : decode b_K_peopleIn 28 = .ok (.aload_n 0, 1) := by decide +kernel
theorem d_K_peopleIn_29 : decode b_K_peopleIn 29 = .ok (.getfield 24, 3) := by decide +kernel
theorem d_K_peopleIn_32 : decode b_K_peopleIn 32 = .ok (.iload_n 3, 1) := by decide +kernel
theorem d_K_peopleIn_33 : decode b_K_peopleIn 33 = .ok (.iaload, 1) := by decide +kernel
theorem d_K_peopleIn_34 : decode b_K_peopleIn 34 = .ok (.iconst (-1), 1) := by decide +kernel
theorem d_K_peopleIn_35 : decode b_K_peopleIn 35 = .ok (.if_icmp .ne 12, 3) := by decide +kernel
theorem d_K_peopleIn_38 : decode b_K_peopleIn 38 = .ok (.iload_n 2, 1) := by decide +kernel
theorem d_K_peopleIn_39 : decode b_K_peopleIn 39 = .ok (.aload_n 0, 1) := by decide +kernel
theorem d_K_peopleIn_40 : decode b_K_peopleIn 40 = .ok (.getfield 15, 3) := by decide +kernel
theorem d_K_peopleIn_43 : decode b_K_peopleIn 43 = .ok (.iload_n 3, 1) := by decide +kernel
theorem d_K_peopleIn_44 : decode b_K_peopleIn 44 = .ok (.iaload, 1) := by decide +kernel
theorem d_K_peopleIn_45 : decode b_K_peopleIn 45 = .ok (.iadd, 1) := by decide +kernel
theorem d_K_peopleIn_46 : decode b_K_peopleIn 46 = .ok (.istore_n 2, 1) := by decide +kernel
theorem d_K_peopleIn_47 : decode b_K_peopleIn 47 = .ok (.iinc 3 1, 3) := by decide +kernel
theorem d_K_peopleIn_50 : decode b_K_peopleIn 50 = .ok (.goto (-46), 3) := by decide +kernel
theorem d_K_peopleIn_53 : decode b_K_peopleIn 53 = .ok (.iload_n 2, 1) := by decide +kernel
theorem d_K_peopleIn_54 : decode b_K_peopleIn 54 = .ok (.ireturn, 1) := by decide +kernel
theorem d_K_passMinute_0 : decode b_K_passMinute 0 = .ok (.iconst 0, 1) := by decide +kernel
theorem d_K_passMinute_1 : decode b_K_passMinute 1 = .ok (.istore 5, 2) := by decide +kernel
theorem d_K_passMinute_3 : decode b_K_passMinute 3 = .ok (.iload 5, 2) := by decide +kernel
theorem d_K_passMinute_5 : decode b_K_passMinute 5 = .ok (.aload_n 0, 1) := by decide +kernel
theorem d_K_passMinute_6 : decode b_K_passMinute 6 = .ok (.getfield 30, 3) := by decide +kernel
theorem d_K_passMinute_9 : decode b_K_passMinute 9 = .ok (.if_icmp .ge 82, 3) := by decide +kernel
theorem d_K_passMinute_12 : decode b_K_passMinute 12 = .ok (.iload 5, 2) := by decide +kernel
theorem d_K_passMinute_14 : decode b_K_passMinute 14 = .ok (.bipush 60, 2) := by decide +kernel
theorem d_K_passMinute_16 : decode b_K_passMinute 16 = .ok (.if_icmp .ge 75, 3) := by decide +kernel
theorem d_K_passMinute_19 : decode b_K_passMinute 19 = .ok (.aload_n 0, 1) := by decide +kernel
theorem d_K_passMinute_20 : decode b_K_passMinute 20 = .ok (.getfield 24, 3) := by decide +kernel
theorem d_K_passMinute_23 : decode b_K_passMinute 23 = .ok (.iload 5, 2) := by decide +kernel
theorem d_K_passMinute_25 : decode b_K_passMinute 25 = .ok (.iaload, 1) := by decide +kernel
theorem d_K_passMinute_26 : decode b_K_passMinute 26 = .ok (.iconst (-1), 1) := by decide +kernel
theorem d_K_passMinute_27 : decode b_K_passMinute 27 = .ok (.if_icmp .eq 6, 3) := by decide +kernel
theorem d_K_passMinute_30 : decode b_K_passMinute 30 = .ok (.goto 55, 3) := by decide +kernel
theorem d_K_passMinute_33 : decode b_K_passMinute 33 = .ok (.iload_n 2, 1) := by decide +kernel
theorem d_K_passMinute_34 : decode b_K_passMinute 34 = .ok (.aload_n 0, 1) := by decide +kernel
theorem d_K_passMinute_35 : decode b_K_passMinute 35 = .ok (.getfield 21, 3) := by decide +kernel
theorem d_K_passMinute_38 : decode b_K_passMinute 38 = .ok (.iload 5, 2) := by decide +kernel
theorem d_K_passMinute_40 : decode b_K_passMinute 40 = .ok (.iaload, 1) := by decide +kernel
theorem d_K_passMinute_41 : decode b_K_passMinute 41 = .ok (.if_icmp .lt 14, 3) := by decide +kernel
theorem d_K_passMinute_44 : decode b_K_passMinute 44 = .ok (.aload_n 0, 1) := by decide +kernel
theorem d_K_passMinute_45 : decode b_K_passMinute 45 = .ok (.getfield 24, 3) := by decide +kernel
theorem d_K_passMinute_48 : decode b_K_passMinute 48 = .ok (.iload 5, 2) := by decide +kernel
theorem d_K_passMinute_50 : decode b_K_passMinute 50 = .ok (.iload_n 1, 1) := by decide +kernel
theorem d_K_passMinute_51 : decode b_K_passMinute 51 = .ok (.iastore, 1) := by decide +kernel
theorem d_K_passMinute_52 : decode b_K_passMinute 52 = .ok (.goto 33, 3) := by decide +kernel
theorem d_K_passMinute_55 : decode b_K_passMinute 55 = .ok (.iload_n 3, 1) := by decide +kernel
theorem d_K_passMinute_56 : decode b_K_passMinute 56 = .ok (.ifCond .ne 29, 3) := by decide +kernel
theorem d_K_passMinute_59 : decode b_K_passMinute 59 = .ok (.aload 4, 2) := by decide +kernel
theorem d_K_passMinute_61 : decode b_K_passMinute 61 = .ok (.aload_n 0, 1) := by decide +kernel
theorem d_K_passMinute_62 : decode b_K_passMinute 62 = .ok (.getfield 9, 3) := by decide +kernel
theorem d_K_passMinute_65 : decode b_K_passMinute 65 = .ok (.iload 5, 2) := by decide +kernel
theorem d_K_passMinute_67 : decode b_K_passMinute 67 = .ok (.iaload, 1) := by decide +kernel
theorem d_K_passMinute_68 : decode b_K_passMinute 68 = .ok (.invokevirtual 34, 3) := by decide +kernel
theorem d_K_passMinute_71 : decode b_K_passMinute 71 = .ok (.ifCond .eq 14, 3) := by decide +kernel
theorem d_K_passMinute_74 : decode b_K_passMinute 74 = .ok (.aload_n 0, 1) := by decide +kernel
theorem d_K_passMinute_75 : decode b_K_passMinute 75 = .ok (.getfield 27, 3) := by decide +kernel
theorem d_K_passMinute_78 : decode b_K_passMinute 78 = .ok (.iload 5, 2) := by decide +kernel
theorem d_K_passMinute_80 : decode b_K_passMinute 80 = .ok (.dup2, 1) := by decide +kernel
theorem d_K_passMinute_81 : decode b_K_passMinute 81 = .ok (.iaload, 1) := by decide +kernel
theorem d_K_passMinute_82 : decode b_K_passMinute 82 = .ok (.iconst 1, 1) := by decide +kernel
theorem d_K_passMinute_83 : decode b_K_passMinute 83 = .ok (.iadd, 1) := by decide +kernel
theorem d_K_passMinute_84 : decode b_K_passMinute 84 = .ok (.iastore, 1) := by decide +kernel
theorem d_K_passMinute_85 : decode b_K_passMinute 85 = .ok (.iinc 5 1, 3) := by decide +kernel
theorem d_K_passMinute_88 : decode b_K_passMinute 88 = .ok (.goto (-85), 3) := by decide +kernel
theorem d_K_passMinute_91 : decode b_K_passMinute 91 = .ok (.return_, 1) := by decide +kernel
theorem d_K_refundOf_0 : decode b_K_refundOf 0 = .ok (.aload_n 0, 1) := by decide +kernel
theorem d_K_refundOf_1 : decode b_K_refundOf 1 = .ok (.getfield 18, 3) := by decide +kernel
theorem d_K_refundOf_4 : decode b_K_refundOf 4 = .ok (.iload_n 1, 1) := by decide +kernel
theorem d_K_refundOf_5 : decode b_K_refundOf 5 = .ok (.iaload, 1) := by decide +kernel
theorem d_K_refundOf_6 : decode b_K_refundOf 6 = .ok (.aload_n 0, 1) := by decide +kernel
theorem d_K_refundOf_7 : decode b_K_refundOf 7 = .ok (.getfield 15, 3) := by decide +kernel
theorem d_K_refundOf_10 : decode b_K_refundOf 10 = .ok (.iload_n 1, 1) := by decide +kernel
theorem d_K_refundOf_11 : decode b_K_refundOf 11 = .ok (.iaload, 1) := by decide +kernel
theorem d_K_refundOf_12 : decode b_K_refundOf 12 = .ok (.imul, 1) := by decide +kernel
theorem d_K_refundOf_13 : decode b_K_refundOf 13 = .ok (.istore_n 2, 1) := by decide +kernel
theorem d_K_refundOf_14 : decode b_K_refundOf 14 = .ok (.iconst 0, 1) := by decide +kernel
theorem d_K_refundOf_15 : decode b_K_refundOf 15 = .ok (.aload_n 0, 1) := by decide +kernel
theorem d_K_refundOf_16 : decode b_K_refundOf 16 = .ok (.getfield 27, 3) := by decide +kernel
theorem d_K_refundOf_19 : decode b_K_refundOf 19 = .ok (.iload_n 1, 1) := by decide +kernel
theorem d_K_refundOf_20 : decode b_K_refundOf 20 = .ok (.iaload, 1) := by decide +kernel
theorem d_K_refundOf_21 : decode b_K_refundOf 21 = .ok (.iconst 5, 1) := by decide +kernel
theorem d_K_refundOf_22 : decode b_K_refundOf 22 = .ok (.isub, 1) := by decide +kernel
theorem d_K_refundOf_23 : decode b_K_refundOf 23 = .ok (.invokestatic 40, 3) := by decide +kernel
theorem d_K_refundOf_26 : decode b_K_refundOf 26 = .ok (.istore_n 3, 1) := by decide +kernel
theorem d_K_refundOf_27 : decode b_K_refundOf 27 = .ok (.iload_n 2, 1) := by decide +kernel
theorem d_K_refundOf_28 : decode b_K_refundOf 28 = .ok (.iload_n 2, 1) := by decide +kernel
theorem d_K_refundOf_29 : decode b_K_refundOf 29 = .ok (.iload_n 3, 1) := by decide +kernel
theorem d_K_refundOf_30 : decode b_K_refundOf 30 = .ok (.imul, 1) := by decide +kernel
theorem d_K_refundOf_31 : decode b_K_refundOf 31 = .ok (.bipush 10, 2) := by decide +kernel
theorem d_K_refundOf_33 : decode b_K_refundOf 33 = .ok (.idiv, 1) := by decide +kernel
theorem d_K_refundOf_34 : decode b_K_refundOf 34 = .ok (.invokestatic 46, 3) := by decide +kernel
theorem d_K_refundOf_37 : decode b_K_refundOf 37 = .ok (.ireturn, 1) := by decide +kernel
theorem d_K_sumOfRefunds_0 : decode b_K_sumOfRefunds 0 = .ok (.iconst 0, 1) := by decide +kernel
theorem d_K_sumOfRefunds_1 : decode b_K_sumOfRefunds 1 = .ok (.istore_n 1, 1) := by decide +kernel
theorem d_K_sumOfRefunds_2 : decode b_K_sumOfRefunds 2 = .ok (.iconst 0, 1) := by decide +kernel
theorem d_K_sumOfRefunds_3 : decode b_K_sumOfRefunds 3 = .ok (.istore_n 2, 1) := by decide +kernel
theorem d_K_sumOfRefunds_4 : decode b_K_sumOfRefunds 4 = .ok (.iload_n 2, 1) := by decide +kernel
theorem d_K_sumOfRefunds_5 : decode b_K_sumOfRefunds 5 = .ok (.aload_n 0, 1) := by decide +kernel
theorem d_K_sumOfRefunds_6 : decode b_K_sumOfRefunds 6 = .ok (.getfield 30, 3) := by decide +kernel
theorem d_K_sumOfRefunds_9 : decode b_K_sumOfRefunds 9 = .ok (.if_icmp .ge 23, 3) := by decide +kernel
theorem d_K_sumOfRefunds_12 : decode b_K_sumOfRefunds 12 = .ok (.iload_n 2, 1) := by decide +kernel
theorem d_K_sumOfRefunds_13 : decode b_K_sumOfRefunds 13 = .ok (.bipush 60, 2) := by decide +kernel
theorem d_K_sumOfRefunds_15 : decode b_K_sumOfRefunds 15 = .ok (.if_icmp .ge 17, 3) := by decide +kernel
theorem d_K_sumOfRefunds_18 : decode b_K_sumOfRefunds 18 = .ok (.iload_n 1, 1) := by decide +kernel
theorem d_K_sumOfRefunds_19 : decode b_K_sumOfRefunds 19 = .ok (.aload_n 0, 1) := by decide +kernel
theorem d_K_sumOfRefunds_20 : decode b_K_sumOfRefunds 20 = .ok (.iload_n 2, 1) := by decide +kernel
theorem d_K_sumOfRefunds_21 : decode b_K_sumOfRefunds 21 = .ok (.invokevirtual 49, 3) := by decide +kernel
theorem d_K_sumOfRefunds_24 : decode b_K_sumOfRefunds 24 = .ok (.iadd, 1) := by decide +kernel
theorem d_K_sumOfRefunds_25 : decode b_K_sumOfRefunds 25 = .ok (.istore_n 1, 1) := by decide +kernel
theorem d_K_sumOfRefunds_26 : decode b_K_sumOfRefunds 26 = .ok (.iinc 2 1, 3) := by decide +kernel
theorem d_K_sumOfRefunds_29 : decode b_K_sumOfRefunds 29 = .ok (.goto (-25), 3) := by decide +kernel
theorem d_K_sumOfRefunds_32 : decode b_K_sumOfRefunds 32 = .ok (.iload_n 1, 1) := by decide +kernel
theorem d_K_sumOfRefunds_33 : decode b_K_sumOfRefunds 33 = .ok (.ireturn, 1) := by decide +kernel
theorem d_W_init_0 : decode b_W_init 0 = .ok (.aload_n 0, 1) := by decide +kernel
theorem d_W_init_1 : decode b_W_init 1 = .ok (.invokespecial 3, 3) := by decide +kernel
theorem d_W_init_4 : decode b_W_init 4 = .ok (.aload_n 0, 1) := by decide +kernel
theorem d_W_init_5 : decode b_W_init 5 = .ok (.bipush 7, 2) := by decide +kernel
theorem d_W_init_7 : decode b_W_init 7 = .ok (.newarray .int, 2) := by decide +kernel
theorem d_W_init_9 : decode b_W_init 9 = .ok (.putfield 9, 3) := by decide +kernel
theorem d_W_init_12 : decode b_W_init 12 = .ok (.aload_n 0, 1) := by decide +kernel
theorem d_W_init_13 : decode b_W_init 13 = .ok (.bipush 7, 2) := by decide +kernel
theorem d_W_init_15 : decode b_W_init 15 = .ok (.newarray .int, 2) := by decide +kernel
theorem d_W_init_17 : decode b_W_init 17 = .ok (.putfield 15, 3) := by decide +kernel
theorem d_W_init_20 : decode b_W_init 20 = .ok (.aload_n 0, 1) := by decide +kernel
theorem d_W_init_21 : decode b_W_init 21 = .ok (.bipush 7, 2) := by decide +kernel
theorem d_W_init_23 : decode b_W_init 23 = .ok (.newarray .int, 2) := by decide +kernel
theorem d_W_init_25 : decode b_W_init 25 = .ok (.putfield 18, 3) := by decide +kernel
theorem d_W_init_28 : decode b_W_init 28 = .ok (.aload_n 0, 1) := by decide +kernel
theorem d_W_init_29 : decode b_W_init 29 = .ok (.bipush 7, 2) := by decide +kernel
theorem d_W_init_31 : decode b_W_init 31 = .ok (.newarray .boolean, 2) := by decide +kernel
theorem d_W_init_33 : decode b_W_init 33 = .ok (.putfield 21, 3) := by decide +kernel
theorem d_W_init_36 : decode b_W_init 36 = .ok (.iconst 0, 1) := by decide +kernel
theorem d_W_init_37 : decode b_W_init 37 = .ok (.istore_n 1, 1) := by decide +kernel
theorem d_W_init_38 : decode b_W_init 38 = .ok (.iload_n 1, 1) := by decide +kernel
theorem d_W_init_39 : decode b_W_init 39 = .ok (.bipush 7, 2) := by decide +kernel
theorem d_W_init_41 : decode b_W_init 41 = .ok (.if_icmp .ge 25, 3) := by decide +kernel
theorem d_W_init_44 : decode b_W_init 44 = .ok (.aload_n 0, 1) := by decide +kernel
theorem d_W_init_45 : decode b_W_init 45 = .ok (.getfield 15, 3) := by decide +kernel
theorem d_W_init_48 : decode b_W_init 48 = .ok (.iload_n 1, 1) := by decide +kernel
theorem d_W_init_49 : decode b_W_init 49 = .ok (.bipush 40, 2) := by decide +kernel
theorem d_W_init_51 : decode b_W_init 51 = .ok (.iastore, 1) := by decide +kernel
theorem d_W_init_52 : decode b_W_init 52 = .ok (.aload_n 0, 1) := by decide +kernel
theorem d_W_init_53 : decode b_W_init 53 = .ok (.getfield 18, 3) := by decide +kernel
theorem d_W_init_56 : decode b_W_init 56 = .ok (.iload_n 1, 1) := by decide +kernel
theorem d_W_init_57 : decode b_W_init 57 = .ok (.bipush 70, 2) := by decide +kernel
theorem d_W_init_59 : decode b_W_init 59 = .ok (.iastore, 1) := by decide +kernel
theorem d_W_init_60 : decode b_W_init 60 = .ok (.iinc 1 1, 3) := by decide +kernel
theorem d_W_init_63 : decode b_W_init 63 = .ok (.goto (-25), 3) := by decide +kernel
theorem d_W_init_66 : decode b_W_init 66 = .ok (.return_, 1) := by decide +kernel
theorem d_W_ballotOf_0 : decode b_W_ballotOf 0 = .ok (.aload_n 0, 1) := by decide +kernel
theorem d_W_ballotOf_1 : decode b_W_ballotOf 1 = .ok (.getfield 9, 3) := by decide +kernel
theorem d_W_ballotOf_4 : decode b_W_ballotOf 4 = .ok (.iload_n 1, 1) := by decide +kernel
theorem d_W_ballotOf_5 : decode b_W_ballotOf 5 = .ok (.iaload, 1) := by decide +kernel
theorem d_W_ballotOf_6 : decode b_W_ballotOf 6 = .ok (.aload_n 0, 1) := by decide +kernel
theorem d_W_ballotOf_7 : decode b_W_ballotOf 7 = .ok (.getfield 15, 3) := by decide +kernel
theorem d_W_ballotOf_10 : decode b_W_ballotOf 10 = .ok (.iload_n 1, 1) := by decide +kernel
theorem d_W_ballotOf_11 : decode b_W_ballotOf 11 = .ok (.iaload, 1) := by decide +kernel
theorem d_W_ballotOf_12 : decode b_W_ballotOf 12 = .ok (.if_icmp .ge 5, 3) := by decide +kernel
theorem d_W_ballotOf_15 : decode b_W_ballotOf 15 = .ok (.iconst 2, 1) := by decide +kernel
theorem d_W_ballotOf_16 : decode b_W_ballotOf 16 = .ok (.ireturn, 1) := by decide +kernel
theorem d_W_ballotOf_17 : decode b_W_ballotOf 17 = .ok (.aload_n 0, 1) := by decide +kernel
theorem d_W_ballotOf_18 : decode b_W_ballotOf 18 = .ok (.getfield 9, 3) := by decide +kernel
theorem d_W_ballotOf_21 : decode b_W_ballotOf 21 = .ok (.iload_n 1, 1) := by decide +kernel
theorem d_W_ballotOf_22 : decode b_W_ballotOf 22 = .ok (.iaload, 1) := by decide +kernel
theorem d_W_ballotOf_23 : decode b_W_ballotOf 23 = .ok (.aload_n 0, 1) := by decide +kernel
theorem d_W_ballotOf_24 : decode b_W_ballotOf 24 = .ok (.getfield 18, 3) := by decide +kernel
theorem d_W_ballotOf_27 : decode b_W_ballotOf 27 = .ok (.iload_n 1, 1) := by decide +kernel
theorem d_W_ballotOf_28 : decode b_W_ballotOf 28 = .ok (.iaload, 1) := by decide +kernel
theorem d_W_ballotOf_29 : decode b_W_ballotOf 29 = .ok (.if_icmp .ge 7, 3) := by decide +kernel
theorem d_W_ballotOf_32 : decode b_W_ballotOf 32 = .ok (.iconst 1, 1) := by decide +kernel
theorem d_W_ballotOf_33 : decode b_W_ballotOf 33 = .ok (.goto 4, 3) := by decide +kernel
theorem d_W_ballotOf_36 : decode b_W_ballotOf 36 = .ok (.iconst 0, 1) := by decide +kernel
theorem d_W_ballotOf_37 : decode b_W_ballotOf 37 = .ok (.ireturn, 1) := by decide +kernel
theorem d_W_countCutOff_0 : decode b_W_countCutOff 0 = .ok (.iconst 0, 1) := by decide +kernel
theorem d_W_countCutOff_1 : decode b_W_countCutOff 1 = .ok (.istore_n 1, 1) := by decide +kernel
theorem d_W_countCutOff_2 : decode b_W_countCutOff 2 = .ok (.iconst 0, 1) := by decide +kernel
theorem d_W_countCutOff_3 : decode b_W_countCutOff 3 = .ok (.istore_n 2, 1) := by decide +kernel
theorem d_W_countCutOff_4 : decode b_W_countCutOff 4 = .ok (.iload_n 2, 1) := by decide +kernel
theorem d_W_countCutOff_5 : decode b_W_countCutOff 5 = .ok (.bipush 7, 2) := by decide +kernel
theorem d_W_countCutOff_7 : decode b_W_countCutOff 7 = .ok (.if_icmp .ge 21, 3) := by decide +kernel
theorem d_W_countCutOff_10 : decode b_W_countCutOff 10 = .ok (.aload_n 0, 1) := by decide +kernel
theorem d_W_countCutOff_11 : decode b_W_countCutOff 11 = .ok (.getfield 21, 3) := by decide +kernel
theorem d_W_countCutOff_14 : decode b_W_countCutOff 14 = .ok (.iload_n 2, 1) := by decide +kernel
theorem d_W_countCutOff_15 : decode b_W_countCutOff 15 = .ok (.baload, 1) := by decide +kernel
theorem d_W_countCutOff_16 : decode b_W_countCutOff 16 = .ok (.ifCond .eq 6, 3) := by decide +kernel
theorem d_W_countCutOff_19 : decode b_W_countCutOff 19 = .ok (.iinc 1 1, 3) := by decide +kernel
theorem d_W_countCutOff_22 : decode b_W_countCutOff 22 = .ok (.iinc 2 1, 3) := by decide +kernel
theorem d_W_countCutOff_25 : decode b_W_countCutOff 25 = .ok (.goto (-21), 3) := by decide +kernel
theorem d_W_countCutOff_28 : decode b_W_countCutOff 28 = .ok (.iload_n 1, 1) := by decide +kernel
theorem d_W_countCutOff_29 : decode b_W_countCutOff 29 = .ok (.ireturn, 1) := by decide +kernel
theorem d_W_delayOf_0 : decode b_W_delayOf 0 = .ok (.iconst (-1), 1) := by decide +kernel
theorem d_W_delayOf_1 : decode b_W_delayOf 1 = .ok (.istore_n 2, 1) := by decide +kernel
theorem d_W_delayOf_2 : decode b_W_delayOf 2 = .ok (.iconst 0, 1) := by decide +kernel
theorem d_W_delayOf_3 : decode b_W_delayOf 3 = .ok (.istore_n 3, 1) := by decide +kernel
theorem d_W_delayOf_4 : decode b_W_delayOf 4 = .ok (.iload_n 3, 1) := by decide +kernel
theorem d_W_delayOf_5 : decode b_W_delayOf 5 = .ok (.bipush 7, 2) := by decide +kernel
theorem d_W_delayOf_7 : decode b_W_delayOf 7 = .ok (.if_icmp .ge 43, 3) := by decide +kernel
theorem d_W_delayOf_10 : decode b_W_delayOf 10 = .ok (.aload_n 0, 1) := by decide +kernel
theorem d_W_delayOf_11 : decode b_W_delayOf 11 = .ok (.getfield 21, 3) := by decide +kernel
theorem d_W_delayOf_14 : decode b_W_delayOf 14 = .ok (.iload_n 3, 1) := by decide +kernel
theorem d_W_delayOf_15 : decode b_W_delayOf 15 = .ok (.baload, 1) := by decide +kernel
theorem d_W_delayOf_16 : decode b_W_delayOf 16 = .ok (.ifCond .ne 28, 3) := by decide +kernel
theorem d_W_delayOf_19 : decode b_W_delayOf 19 = .ok (.iload_n 1, 1) := by decide +kernel
theorem d_W_delayOf_20 : decode b_W_delayOf 20 = .ok (.iload_n 3, 1) := by decide +kernel
theorem d_W_delayOf_21 : decode b_W_delayOf 21 = .ok (.isub, 1) := by decide +kernel
theorem d_W_delayOf_22 : decode b_W_delayOf 22 = .ok (.invokestatic 25, 3) := by decide +kernel
theorem d_W_delayOf_25 : decode b_W_delayOf 25 = .ok (.istore 4, 2) := by decide +kernel
theorem d_W_delayOf_27 : decode b_W_delayOf 27 = .ok (.iload_n 2, 1) := by decide +kernel
theorem d_W_delayOf_28 : decode b_W_delayOf 28 = .ok (.iconst (-1), 1) := by decide +kernel
theorem d_W_delayOf_29 : decode b_W_delayOf 29 = .ok (.if_icmp .ne 8, 3) := by decide +kernel
theorem d_W_delayOf_32 : decode b_W_delayOf 32 = .ok (.iload 4, 2) := by decide +kernel
theorem d_W_delayOf_34 : decode b_W_delayOf 34 = .ok (.goto 9, 3) := by decide +kernel
theorem d_W_delayOf_37 : decode b_W_delayOf 37 = .ok (.iload_n 2, 1) := by decide +kernel
theorem d_W_delayOf_38 : decode b_W_delayOf 38 = .ok (.iload 4, 2) := by decide +kernel
theorem d_W_delayOf_40 : decode b_W_delayOf 40 = .ok (.invokestatic 31, 3) := by decide +kernel
theorem d_W_delayOf_43 : decode b_W_delayOf 43 = .ok (.istore_n 2, 1) := by decide +kernel
theorem d_W_delayOf_44 : decode b_W_delayOf 44 = .ok (.iinc 3 1, 3) := by decide +kernel
theorem d_W_delayOf_47 : decode b_W_delayOf 47 = .ok (.goto (-43), 3) := by decide +kernel
theorem d_W_delayOf_50 : decode b_W_delayOf 50 = .ok (.iload_n 2, 1) := by decide +kernel
theorem d_W_delayOf_51 : decode b_W_delayOf 51 = .ok (.ireturn, 1) := by decide +kernel
theorem d_V_init_0 : decode b_V_init 0 = .ok (.aload_n 0, 1) := by decide +kernel
theorem d_V_init_1 : decode b_V_init 1 = .ok (.invokespecial 1, 3) := by decide +kernel
theorem d_V_init_4 : decode b_V_init 4 = .ok (.aload_n 0, 1) := by decide +kernel
theorem d_V_init_5 : decode b_V_init 5 = .ok (.new 7, 3) := by decide +kernel
theorem d_V_init_8 : decode b_V_init 8 = .ok (.dup, 1) := by decide +kernel
theorem d_V_init_9 : decode b_V_init 9 = .ok (.invokespecial 9, 3) := by decide +kernel
theorem d_V_init_12 : decode b_V_init 12 = .ok (.putfield 10, 3) := by decide +kernel
theorem d_V_init_15 : decode b_V_init 15 = .ok (.aload_n 0, 1) := by decide +kernel
theorem d_V_init_16 : decode b_V_init 16 = .ok (.new 16, 3) := by decide +kernel
theorem d_V_init_19 : decode b_V_init 19 = .ok (.dup, 1) := by decide +kernel
theorem d_V_init_20 : decode b_V_init 20 = .ok (.invokespecial 18, 3) := by decide +kernel
theorem d_V_init_23 : decode b_V_init 23 = .ok (.putfield 19, 3) := by decide +kernel
theorem d_V_init_26 : decode b_V_init 26 = .ok (.aload_n 0, 1) := by decide +kernel
theorem d_V_init_27 : decode b_V_init 27 = .ok (.new 23, 3) := by decide +kernel
theorem d_V_init_30 : decode b_V_init 30 = .ok (.dup, 1) := by decide +kernel
theorem d_V_init_31 : decode b_V_init 31 = .ok (.invokespecial 25, 3) := by decide +kernel
theorem d_V_init_34 : decode b_V_init 34 = .ok (.putfield 26, 3) := by decide +kernel
theorem d_V_init_37 : decode b_V_init 37 = .ok (.aload_n 0, 1) := by decide +kernel
theorem d_V_init_38 : decode b_V_init 38 = .ok (.new 30, 3) := by decide +kernel
theorem d_V_init_41 : decode b_V_init 41 = .ok (.dup, 1) := by decide +kernel
theorem d_V_init_42 : decode b_V_init 42 = .ok (.invokespecial 32, 3) := by decide +kernel
theorem d_V_init_45 : decode b_V_init 45 = .ok (.putfield 33, 3) := by decide +kernel
theorem d_V_init_48 : decode b_V_init 48 = .ok (.aload_n 0, 1) := by decide +kernel
theorem d_V_init_49 : decode b_V_init 49 = .ok (.new 37, 3) := by decide +kernel
theorem d_V_init_52 : decode b_V_init 52 = .ok (.dup, 1) := by decide +kernel
theorem d_V_init_53 : decode b_V_init 53 = .ok (.invokespecial 39, 3) := by decide +kernel
theorem d_V_init_56 : decode b_V_init 56 = .ok (.putfield 40, 3) := by decide +kernel
theorem d_V_init_59 : decode b_V_init 59 = .ok (.aload_n 0, 1) := by decide +kernel
theorem d_V_init_60 : decode b_V_init 60 = .ok (.sipush 1001, 3) := by decide +kernel
theorem d_V_init_63 : decode b_V_init 63 = .ok (.newarray .int, 2) := by decide +kernel
theorem d_V_init_65 : decode b_V_init 65 = .ok (.putfield 44, 3) := by decide +kernel
theorem d_V_init_68 : decode b_V_init 68 = .ok (.aload_n 0, 1) := by decide +kernel
theorem d_V_init_69 : decode b_V_init 69 = .ok (.iconst 0, 1) := by decide +kernel
theorem d_V_init_70 : decode b_V_init 70 = .ok (.putfield 48, 3) := by decide +kernel
theorem d_V_init_73 : decode b_V_init 73 = .ok (.aload_n 0, 1) := by decide +kernel
theorem d_V_init_74 : decode b_V_init 74 = .ok (.iconst 0, 1) := by decide +kernel
theorem d_V_init_75 : decode b_V_init 75 = .ok (.putfield 52, 3) := by decide +kernel
theorem d_V_init_78 : decode b_V_init 78 = .ok (.aload_n 0, 1) := by decide +kernel
theorem d_V_init_79 : decode b_V_init 79 = .ok (.iconst 0, 1) := by decide +kernel
theorem d_V_init_80 : decode b_V_init 80 = .ok (.putfield 55, 3) := by decide +kernel
theorem d_V_init_83 : decode b_V_init 83 = .ok (.return_, 1) := by decide +kernel
theorem d_V_putOn_0 : decode b_V_putOn 0 = .ok (.aload_n 0, 1) := by decide +kernel
theorem d_V_putOn_1 : decode b_V_putOn 1 = .ok (.getfield 10, 3) := by decide +kernel
theorem d_V_putOn_4 : decode b_V_putOn 4 = .ok (.invokevirtual 59, 3) := by decide +kernel
theorem d_V_putOn_7 : decode b_V_putOn 7 = .ok (.ifCond .ne 13, 3) := by decide +kernel
theorem d_V_putOn_10 : decode b_V_putOn 10 = .ok (.new 63, 3) := by decide +kernel
theorem d_V_putOn_13 : decode b_V_putOn 13 = .ok (.dup, 1) := by decide +kernel
theorem d_V_putOn_14 : decode b_V_putOn 14 = .ok (.ldc 65, 2) := by decide +kernel
theorem d_V_putOn_16 : decode b_V_putOn 16 = .ok (.invokespecial 67, 3) := by decide +kernel
theorem d_V_putOn_19 : decode b_V_putOn 19 = .ok (.athrow, 1) := by decide +kernel
theorem d_V_putOn_20 : decode b_V_putOn 20 = .ok (.aload_n 0, 1) := by decide +kernel
theorem d_V_putOn_21 : decode b_V_putOn 21 = .ok (.getfield 10, 3) := by decide +kernel
theorem d_V_putOn_24 : decode b_V_putOn 24 = .ok (.aload_n 0, 1) := by decide +kernel
theorem d_V_putOn_25 : decode b_V_putOn 25 = .ok (.getfield 52, 3) := by decide +kernel
theorem d_V_putOn_28 : decode b_V_putOn 28 = .ok (.invokevirtual 70, 3) := by decide +kernel
theorem d_V_putOn_31 : decode b_V_putOn 31 = .ok (.ireturn, 1) := by decide +kernel
theorem d_V_takeOff_0 : decode b_V_takeOff 0 = .ok (.aload_n 0, 1) := by decide +kernel
theorem d_V_takeOff_1 : decode b_V_takeOff 1 = .ok (.getfield 10, 3) := by decide +kernel
theorem d_V_takeOff_4 : decode b_V_takeOff 4 = .ok (.iload_n 1, 1) := by decide +kernel
theorem d_V_takeOff_5 : decode b_V_takeOff 5 = .ok (.invokevirtual 74, 3) := by decide +kernel
theorem d_V_takeOff_8 : decode b_V_takeOff 8 = .ok (.ifCond .ne 13, 3) := by decide +kernel
theorem d_V_takeOff_11 : decode b_V_takeOff 11 = .ok (.new 78, 3) := by decide +kernel
theorem d_V_takeOff_14 : decode b_V_takeOff 14 = .ok (.dup, 1) := by decide +kernel
theorem d_V_takeOff_15 : decode b_V_takeOff 15 = .ok (.ldc 80, 2) := by decide +kernel
theorem d_V_takeOff_17 : decode b_V_takeOff 17 = .ok (.invokespecial 82, 3) := by decide +kernel
theorem d_V_takeOff_20 : decode b_V_takeOff 20 = .ok (.athrow, 1) := by decide +kernel
theorem d_V_takeOff_21 : decode b_V_takeOff 21 = .ok (.aload_n 0, 1) := by decide +kernel
theorem d_V_takeOff_22 : decode b_V_takeOff 22 = .ok (.getfield 10, 3) := by decide +kernel
theorem d_V_takeOff_25 : decode b_V_takeOff 25 = .ok (.getfield 83, 3) := by decide +kernel
theorem d_V_takeOff_28 : decode b_V_takeOff 28 = .ok (.iload_n 1, 1) := by decide +kernel
theorem d_V_takeOff_29 : decode b_V_takeOff 29 = .ok (.iaload, 1) := by decide +kernel
theorem d_V_takeOff_30 : decode b_V_takeOff 30 = .ok (.invokestatic 86, 3) := by decide +kernel
theorem d_V_takeOff_33 : decode b_V_takeOff 33 = .ok (.ifCond .eq 14, 3) := by decide +kernel
theorem d_V_takeOff_36 : decode b_V_takeOff 36 = .ok (.aload_n 0, 1) := by decide +kernel
theorem d_V_takeOff_37 : decode b_V_takeOff 37 = .ok (.getfield 40, 3) := by decide +kernel
theorem d_V_takeOff_40 : decode b_V_takeOff 40 = .ok (.iload_n 1, 1) := by decide +kernel
theorem d_V_takeOff_41 : decode b_V_takeOff 41 = .ok (.invokevirtual 89, 3) := by decide +kernel
theorem d_V_takeOff_44 : decode b_V_takeOff 44 = .ok (.ifCond .le 13, 3) := by decide +kernel
theorem d_V_takeOff_47 : decode b_V_takeOff 47 = .ok (.new 63, 3) := by decide +kernel
theorem d_V_takeOff_50 : decode b_V_takeOff 50 = .ok (.dup, 1) := by decide +kernel
theorem d_V_takeOff_51 : decode b_V_takeOff 51 = .ok (.ldc 92, 2) := by decide +kernel
theorem d_V_takeOff_53 : decode b_V_takeOff 53 = .ok (.invokespecial 67, 3) := by decide +kernel
theorem d_V_takeOff_56 : decode b_V_takeOff 56 = .ok (.athrow, 1) := by decide +kernel
theorem d_V_takeOff_57 : decode b_V_takeOff 57 = .ok (.aload_n 0, 1) := by decide +kernel
theorem d_V_takeOff_58 : decode b_V_takeOff 58 = .ok (.getfield 10, 3) := by decide +kernel
theorem d_V_takeOff_61 : decode b_V_takeOff 61 = .ok (.getfield 94, 3) := by decide +kernel
theorem d_V_takeOff_64 : decode b_V_takeOff 64 = .ok (.iload_n 1, 1) := by decide +kernel
theorem d_V_takeOff_65 : decode b_V_takeOff 65 = .ok (.iconst 0, 1) := by decide +kernel
theorem d_V_takeOff_66 : decode b_V_takeOff 66 = .ok (.bastore, 1) := by decide +kernel
theorem d_V_takeOff_67 : decode b_V_takeOff 67 = .ok (.aload_n 0, 1) := by decide +kernel
theorem d_V_takeOff_68 : decode b_V_takeOff 68 = .ok (.getfield 52, 3) := by decide +kernel
theorem d_V_takeOff_71 : decode b_V_takeOff 71 = .ok (.aload_n 0, 1) := by decide +kernel
theorem d_V_takeOff_72 : decode b_V_takeOff 72 = .ok (.getfield 10, 3) := by decide +kernel
theorem d_V_takeOff_75 : decode b_V_takeOff 75 = .ok (.getfield 98, 3) := by decide +kernel
theorem d_V_takeOff_78 : decode b_V_takeOff 78 = .ok (.iload_n 1, 1) := by decide +kernel
theorem d_V_takeOff_79 : decode b_V_takeOff 79 = .ok (.iaload, 1) := by decide +kernel
theorem d_V_takeOff_80 : decode b_V_takeOff 80 = .ok (.isub, 1) := by decide +kernel
theorem d_V_takeOff_81 : decode b_V_takeOff 81 = .ok (.ireturn, 1) := by decide +kernel
theorem d_V_cars_0 : decode b_V_cars 0 = .ok (.aload_n 0, 1) := by decide +kernel
theorem d_V_cars_1 : decode b_V_cars 1 = .ok (.getfield 10, 3) := by decide +kernel
theorem d_V_cars_4 : decode b_V_cars 4 = .ok (.invokevirtual 101, 3) := by decide +kernel
theorem d_V_cars_7 : decode b_V_cars 7 = .ok (.ireturn, 1) := by decide +kernel
theorem d_V_place_0 : decode b_V_place 0 = .ok (.aload_n 0, 1) := by decide +kernel
theorem d_V_place_1 : decode b_V_place 1 = .ok (.getfield 10, 3) := by decide +kernel
theorem d_V_place_4 : decode b_V_place 4 = .ok (.iload_n 1, 1) := by decide +kernel
theorem d_V_place_5 : decode b_V_place 5 = .ok (.invokevirtual 74, 3) := by decide +kernel
theorem d_V_place_8 : decode b_V_place 8 = .ok (.ifCond .ne 13, 3) := by decide +kernel
theorem d_V_place_11 : decode b_V_place 11 = .ok (.new 78, 3) := by decide +kernel
theorem d_V_place_14 : decode b_V_place 14 = .ok (.dup, 1) := by decide +kernel
theorem d_V_place_15 : decode b_V_place 15 = .ok (.ldc 80, 2) := by decide +kernel
theorem d_V_place_17 : decode b_V_place 17 = .ok (.invokespecial 82, 3) := by decide +kernel
theorem d_V_place_20 : decode b_V_place 20 = .ok (.athrow, 1) := by decide +kernel
theorem d_V_place_21 : decode b_V_place 21 = .ok (.aload_n 0, 1) := by decide +kernel
theorem d_V_place_22 : decode b_V_place 22 = .ok (.getfield 10, 3) := by decide +kernel
theorem d_V_place_25 : decode b_V_place 25 = .ok (.getfield 83, 3) := by decide +kernel
theorem d_V_place_28 : decode b_V_place 28 = .ok (.iload_n 1, 1) := by decide +kernel
theorem d_V_place_29 : decode b_V_place 29 = .ok (.iaload, 1) := by decide +kernel
theorem d_V_place_30 : decode b_V_place 30 = .ok (.ireturn, 1) := by decide +kernel
theorem d_V_placeByTurns_0 : decode b_V_placeByTurns 0 = .ok (.aload_n 0, 1) := by decide +kernel
theorem d_V_placeByTurns_1 : decode b_V_placeByTurns 1 = .ok (.getfield 10, 3) := by decide +kernel
theorem d_V_placeByTurns_4 : decode b_V_placeByTurns 4 = .ok (.iload_n 1, 1) := by decide +kernel
theorem d_V_placeByTurns_5 : decode b_V_placeByTurns 5 = .ok (.invokevirtual 74, 3) := by decide +kernel
theorem d_V_placeByTurns_8 : decode b_V_placeByTurns 8 = .ok (.ifCond .ne 13, 3) := by decide +kernel
theorem d_V_placeByTurns_11 : decode b_V_placeByTurns 11 = .ok (.new 78, 3) := by decide +kernel
theorem d_V_placeByTurns_14 : decode b_V_placeByTurns 14 = .ok (.dup, 1) := by decide +kernel
theorem d_V_placeByTurns_15 : decode b_V_placeByTurns 15 = .ok (.ldc 80, 2) := by decide +kernel
theorem d_V_placeByTurns_17 : decode b_V_placeByTurns 17 = .ok (.invokespecial 82, 3) := by decide +kernel
theorem d_V_placeByTurns_20 : decode b_V_placeByTurns 20 = .ok (.athrow, 1) := by decide +kernel
theorem d_V_placeByTurns_21 : decode b_V_placeByTurns 21 = .ok (.aload_n 0, 1) := by decide +kernel
theorem d_V_placeByTurns_22 : decode b_V_placeByTurns 22 = .ok (.getfield 52, 3) := by decide +kernel
theorem d_V_placeByTurns_25 : decode b_V_placeByTurns 25 = .ok (.aload_n 0, 1) := by decide +kernel
theorem d_V_placeByTurns_26 : decode b_V_placeByTurns 26 = .ok (.getfield 10, 3) := by decide +kernel
theorem d_V_placeByTurns_29 : decode b_V_placeByTurns 29 = .ok (.getfield 98, 3) := by decide +kernel
theorem d_V_placeByTurns_32 : decode b_V_placeByTurns 32 = .ok (.iload_n 1, 1) := by decide +kernel
theorem d_V_placeByTurns_33 : decode b_V_placeByTurns 33 = .ok (.iaload, 1) := by decide +kernel
theorem d_V_placeByTurns_34 : decode b_V_placeByTurns 34 = .ok (.isub, 1) := by decide +kernel
theorem d_V_placeByTurns_35 : decode b_V_placeByTurns 35 = .ok (.sipush 1200, 3) := by decide +kernel
theorem d_V_placeByTurns_38 : decode b_V_placeByTurns 38 = .ok (.irem, 1) := by decide +kernel
theorem d_V_placeByTurns_39 : decode b_V_placeByTurns 39 = .ok (.ireturn, 1) := by decide +kernel
theorem d_V_leastGap_0 : decode b_V_leastGap 0 = .ok (.aload_n 0, 1) := by decide +kernel
theorem d_V_leastGap_1 : decode b_V_leastGap 1 = .ok (.getfield 10, 3) := by decide +kernel
theorem d_V_leastGap_4 : decode b_V_leastGap 4 = .ok (.invokevirtual 105, 3) := by decide +kernel
theorem d_V_leastGap_7 : decode b_V_leastGap 7 = .ok (.ireturn, 1) := by decide +kernel
theorem d_V_wind_0 : decode b_V_wind 0 = .ok (.iload_n 1, 1) := by decide +kernel
theorem d_V_wind_1 : decode b_V_wind 1 = .ok (.invokestatic 108, 3) := by decide +kernel
theorem d_V_wind_4 : decode b_V_wind 4 = .ok (.ifCond .ne 13, 3) := by decide +kernel
theorem d_V_wind_7 : decode b_V_wind 7 = .ok (.new 78, 3) := by decide +kernel
theorem d_V_wind_10 : decode b_V_wind 10 = .ok (.dup, 1) := by decide +kernel
theorem d_V_wind_11 : decode b_V_wind 11 = .ok (.ldc 111, 2) := by decide +kernel
theorem d_V_wind_13 : decode b_V_wind 13 = .ok (.invokespecial 82, 3) := by decide +kernel
theorem d_V_wind_16 : decode b_V_wind 16 = .ok (.athrow, 1) := by decide +kernel
theorem d_V_wind_17 : decode b_V_wind 17 = .ok (.iload_n 2, 1) := by decide +kernel
theorem d_V_wind_18 : decode b_V_wind 18 = .ok (.ifCond .lt 10, 3) := by decide +kernel
theorem d_V_wind_21 : decode b_V_wind 21 = .ok (.iload_n 2, 1) := by decide +kernel
theorem d_V_wind_22 : decode b_V_wind 22 = .ok (.sipush 150, 3) := by decide +kernel
theorem d_V_wind_25 : decode b_V_wind 25 = .ok (.if_icmp .le 13, 3) := by decide +kernel
theorem d_V_wind_28 : decode b_V_wind 28 = .ok (.new 113, 3) := by decide +kernel
theorem d_V_wind_31 : decode b_V_wind 31 = .ok (.dup, 1) := by decide +kernel
theorem d_V_wind_32 : decode b_V_wind 32 = .ok (.ldc 115, 2) := by decide +kernel
theorem d_V_wind_34 : decode b_V_wind 34 = .ok (.invokespecial 117, 3) := by decide +kernel
theorem d_V_wind_37 : decode b_V_wind 37 = .ok (.athrow, 1) := by decide +kernel
theorem d_V_wind_38 : decode b_V_wind 38 = .ok (.aload_n 0, 1) := by decide +kernel
theorem d_V_wind_39 : decode b_V_wind 39 = .ok (.getfield 19, 3) := by decide +kernel
theorem d_V_wind_42 : decode b_V_wind 42 = .ok (.getfield 118, 3) := by decide +kernel
theorem d_V_wind_45 : decode b_V_wind 45 = .ok (.iload_n 1, 1) := by decide +kernel
theorem d_V_wind_46 : decode b_V_wind 46 = .ok (.iload_n 2, 1) := by decide +kernel
theorem d_V_wind_47 : decode b_V_wind 47 = .ok (.iastore, 1) := by decide +kernel
theorem d_V_wind_48 : decode b_V_wind 48 = .ok (.aload_n 0, 1) := by decide +kernel
theorem d_V_wind_49 : decode b_V_wind 49 = .ok (.getfield 19, 3) := by decide +kernel
theorem d_V_wind_52 : decode b_V_wind 52 = .ok (.iload_n 1, 1) := by decide +kernel
theorem d_V_wind_53 : decode b_V_wind 53 = .ok (.invokevirtual 121, 3) := by decide +kernel
theorem d_V_wind_56 : decode b_V_wind 56 = .ok (.ireturn, 1) := by decide +kernel
theorem d_V_setLimits_0 : decode b_V_setLimits 0 = .ok (.iload_n 1, 1) := by decide +kernel
theorem d_V_setLimits_1 : decode b_V_setLimits 1 = .ok (.invokestatic 108, 3) := by decide +kernel
theorem d_V_setLimits_4 : decode b_V_setLimits 4 = .ok (.ifCond .ne 13, 3) := by decide +kernel
theorem d_V_setLimits_7 : decode b_V_setLimits 7 = .ok (.new 78, 3) := by decide +kernel
theorem d_V_setLimits_10 : decode b_V_setLimits 10 = .ok (.dup, 1) := by decide +kernel
theorem d_V_setLimits_11 : decode b_V_setLimits 11 = .ok (.ldc 111, 2) := by decide +kernel
theorem d_V_setLimits_13 : decode b_V_setLimits 13 = .ok (.invokespecial 82, 3) := by decide +kernel
theorem d_V_setLimits_16 : decode b_V_setLimits 16 = .ok (.athrow, 1) := by decide +kernel
theorem d_V_setLimits_17 : decode b_V_setLimits 17 = .ok (.iload_n 2, 1) := by decide +kernel
theorem d_V_setLimits_18 : decode b_V_setLimits 18 = .ok (.ifCond .lt 22, 3) := by decide +kernel
theorem d_V_setLimits_21 : decode b_V_setLimits 21 = .ok (.iload_n 2, 1) := by decide +kernel
theorem d_V_setLimits_22 : decode b_V_setLimits 22 = .ok (.sipush 150, 3) := by decide +kernel
theorem d_V_setLimits_25 : decode b_V_setLimits 25 = .ok (.if_icmp .gt 15, 3) := by decide +kernel
theorem d_V_setLimits_28 : decode b_V_setLimits 28 = .ok (.iload_n 3, 1) := by decide +kernel
theorem d_V_setLimits_29 : decode b_V_setLimits 29 = .ok (.iload_n 2, 1) := by decide +kernel
theorem d_V_setLimits_30 : decode b_V_setLimits 30 = .ok (.if_icmp .lt 10, 3) := by decide +kernel
theorem d_V_setLimits_33 : decode b_V_setLimits 33 = .ok (.iload_n 3, 1) := by decide +kernel
theorem d_V_setLimits_34 : decode b_V_setLimits 34 = .ok (.sipush 150, 3) := by decide +kernel
theorem d_V_setLimits_37 : decode b_V_setLimits 37 = .ok (.if_icmp .le 13, 3) := by decide +kernel
theorem d_V_setLimits_40 : decode b_V_setLimits 40 = .ok (.new 113, 3) := by decide +kernel
theorem d_V_setLimits_43 : decode b_V_setLimits 43 = .ok (.dup, 1) := by decide +kernel
theorem d_V_setLimits_44 : decode b_V_setLimits 44 = .ok (.ldc 124, 2) := by decide +kernel
theorem d_V_setLimits_46 : decode b_V_setLimits 46 = .ok (.invokespecial 117, 3) := by decide +kernel
theorem d_V_setLimits_49 : decode b_V_setLimits 49 = .ok (.athrow, 1) := by decide +kernel
theorem d_V_setLimits_50 : decode b_V_setLimits 50 = .ok (.aload_n 0, 1) := by decide +kernel
theorem d_V_setLimits_51 : decode b_V_setLimits 51 = .ok (.getfield 19, 3) := by decide +kernel
theorem d_V_setLimits_54 : decode b_V_setLimits 54 = .ok (.getfield 126, 3) := by decide +kernel
theorem d_V_setLimits_57 : decode b_V_setLimits 57 = .ok (.iload_n 1, 1) := by decide +kernel
theorem d_V_setLimits_58 : decode b_V_setLimits 58 = .ok (.iload_n 2, 1) := by decide +kernel
theorem d_V_setLimits_59 : decode b_V_setLimits 59 = .ok (.iastore, 1) := by decide +kernel
theorem d_V_setLimits_60 : decode b_V_setLimits 60 = .ok (.aload_n 0, 1) := by decide +kernel
theorem d_V_setLimits_61 : decode b_V_setLimits 61 = .ok (.getfield 19, 3) := by decide +kernel
theorem d_V_setLimits_64 : decode b_V_setLimits 64 = .ok (.getfield 129, 3) := by decide +kernel
theorem d_V_setLimits_67 : decode b_V_setLimits 67 = .ok (.iload_n 1, 1) := by decide +kernel
theorem d_V_setLimits_68 : decode b_V_setLimits 68 = .ok (.iload_n 3, 1) := by decide +kernel
theorem d_V_setLimits_69 : decode b_V_setLimits 69 = .ok (.iastore, 1) := by decide +kernel
theorem d_V_setLimits_70 : decode b_V_setLimits 70 = .ok (.aload_n 0, 1) := by decide +kernel
theorem d_V_setLimits_71 : decode b_V_setLimits 71 = .ok (.getfield 19, 3) := by decide +kernel
theorem d_V_setLimits_74 : decode b_V_setLimits 74 = .ok (.iload_n 1, 1) := by decide +kernel
theorem d_V_setLimits_75 : decode b_V_setLimits 75 = .ok (.invokevirtual 121, 3) := by decide +kernel
theorem d_V_setLimits_78 : decode b_V_setLimits 78 = .ok (.ireturn, 1) := by decide +kernel
theorem d_V_cut_0 : decode b_V_cut 0 = .ok (.iload_n 1, 1) := by decide +kernel
theorem d_V_cut_1 : decode b_V_cut 1 = .ok (.invokestatic 108, 3) := by decide +kernel
theorem d_V_cut_4 : decode b_V_cut 4 = .ok (.ifCond .ne 13, 3) := by decide +kernel
theorem d_V_cut_7 : decode b_V_cut 7 = .ok (.new 78, 3) := by decide +kernel
theorem d_V_cut_10 : decode b_V_cut 10 = .ok (.dup, 1) := by decide +kernel
theorem d_V_cut_11 : decode b_V_cut 11 = .ok (.ldc 111, 2) := by decide +kernel
theorem d_V_cut_13 : decode b_V_cut 13 = .ok (.invokespecial 82, 3) := by decide +kernel
theorem d_V_cut_16 : decode b_V_cut 16 = .ok (.athrow, 1) := by decide +kernel
theorem d_V_cut_17 : decode b_V_cut 17 = .ok (.aload_n 0, 1) := by decide +kernel
theorem d_V_cut_18 : decode b_V_cut 18 = .ok (.getfield 19, 3) := by decide +kernel
theorem d_V_cut_21 : decode b_V_cut 21 = .ok (.getfield 132, 3) := by decide +kernel
theorem d_V_cut_24 : decode b_V_cut 24 = .ok (.iload_n 1, 1) := by decide +kernel
theorem d_V_cut_25 : decode b_V_cut 25 = .ok (.iload_n 2, 1) := by decide +kernel
theorem d_V_cut_26 : decode b_V_cut 26 = .ok (.bastore, 1) := by decide +kernel
theorem d_V_cut_27 : decode b_V_cut 27 = .ok (.aload_n 0, 1) := by decide +kernel
theorem d_V_cut_28 : decode b_V_cut 28 = .ok (.getfield 19, 3) := by decide +kernel
theorem d_V_cut_31 : decode b_V_cut 31 = .ok (.invokevirtual 135, 3) := by decide +kernel
theorem d_V_cut_34 : decode b_V_cut 34 = .ok (.ireturn, 1) := by decide +kernel
theorem d_V_vote_0 : decode b_V_vote 0 = .ok (.iload_n 1, 1) := by decide +kernel
theorem d_V_vote_1 : decode b_V_vote 1 = .ok (.invokestatic 108, 3) := by decide +kernel
theorem d_V_vote_4 : decode b_V_vote 4 = .ok (.ifCond .ne 13, 3) := by decide +kernel
theorem d_V_vote_7 : decode b_V_vote 7 = .ok (.new 78, 3) := by decide +kernel
theorem d_V_vote_10 : decode b_V_vote 10 = .ok (.dup, 1) := by decide +kernel
theorem d_V_vote_11 : decode b_V_vote 11 = .ok (.ldc 111, 2) := by decide +kernel
theorem d_V_vote_13 : decode b_V_vote 13 = .ok (.invokespecial 82, 3) := by decide +kernel
theorem d_V_vote_16 : decode b_V_vote 16 = .ok (.athrow, 1) := by decide +kernel
theorem d_V_vote_17 : decode b_V_vote 17 = .ok (.aload_n 0, 1) := by decide +kernel
theorem d_V_vote_18 : decode b_V_vote 18 = .ok (.getfield 33, 3) := by decide +kernel
theorem d_V_vote_21 : decode b_V_vote 21 = .ok (.getfield 138, 3) := by decide +kernel
theorem d_V_vote_24 : decode b_V_vote 24 = .ok (.iload_n 1, 1) := by decide +kernel
theorem d_V_vote_25 : decode b_V_vote 25 = .ok (.iaload, 1) := by decide +kernel
theorem d_V_vote_26 : decode b_V_vote 26 = .ok (.ireturn, 1) := by decide +kernel
theorem d_V_voteTime_0 : decode b_V_voteTime 0 = .ok (.iload_n 1, 1) := by decide +kernel
theorem d_V_voteTime_1 : decode b_V_voteTime 1 = .ok (.invokestatic 108, 3) := by decide +kernel
theorem d_V_voteTime_4 : decode b_V_voteTime 4 = .ok (.ifCond .ne 13, 3) := by decide +kernel
theorem d_V_voteTime_7 : decode b_V_voteTime 7 = .ok (.new 78, 3) := by decide +kernel
theorem d_V_voteTime_10 : decode b_V_voteTime 10 = .ok (.dup, 1) := by decide +kernel
theorem d_V_voteTime_11 : decode b_V_voteTime 11 = .ok (.ldc 111, 2) := by decide +kernel
theorem d_V_voteTime_13 : decode b_V_voteTime 13 = .ok (.invokespecial 82, 3) := by decide +kernel
theorem d_V_voteTime_16 : decode b_V_voteTime 16 = .ok (.athrow, 1) := by decide +kernel
theorem d_V_voteTime_17 : decode b_V_voteTime 17 = .ok (.aload_n 0, 1) := by decide +kernel
theorem d_V_voteTime_18 : decode b_V_voteTime 18 = .ok (.getfield 33, 3) := by decide +kernel
theorem d_V_voteTime_21 : decode b_V_voteTime 21 = .ok (.getfield 141, 3) := by decide +kernel
theorem d_V_voteTime_24 : decode b_V_voteTime 24 = .ok (.iload_n 1, 1) := by decide +kernel
theorem d_V_voteTime_25 : decode b_V_voteTime 25 = .ok (.iaload, 1) := by decide +kernel
theorem d_V_voteTime_26 : decode b_V_voteTime 26 = .ok (.ireturn, 1) := by decide +kernel
theorem d_V_fresh_0 : decode b_V_fresh 0 = .ok (.aload_n 0, 1) := by decide +kernel
theorem d_V_fresh_1 : decode b_V_fresh 1 = .ok (.getfield 33, 3) := by decide +kernel
theorem d_V_fresh_4 : decode b_V_fresh 4 = .ok (.aload_n 0, 1) := by decide +kernel
theorem d_V_fresh_5 : decode b_V_fresh 5 = .ok (.getfield 48, 3) := by decide +kernel
theorem d_V_fresh_8 : decode b_V_fresh 8 = .ok (.invokevirtual 144, 3) := by decide +kernel
theorem d_V_fresh_11 : decode b_V_fresh 11 = .ok (.ireturn, 1) := by decide +kernel
theorem d_V_onTheWay_0 : decode b_V_onTheWay 0 = .ok (.aload_n 0, 1) := by decide +kernel
theorem d_V_onTheWay_1 : decode b_V_onTheWay 1 = .ok (.getfield 26, 3) := by decide +kernel
theorem d_V_onTheWay_4 : decode b_V_onTheWay 4 = .ok (.aload_n 0, 1) := by decide +kernel
theorem d_V_onTheWay_5 : decode b_V_onTheWay 5 = .ok (.getfield 48, 3) := by decide +kernel
theorem d_V_onTheWay_8 : decode b_V_onTheWay 8 = .ok (.invokevirtual 147, 3) := by decide +kernel
theorem d_V_onTheWay_11 : decode b_V_onTheWay 11 = .ok (.ireturn, 1) := by decide +kernel
theorem d_V_wouldDecide_0 : decode b_V_wouldDecide 0 = .ok (.aload_n 0, 1) := by decide +kernel
theorem d_V_wouldDecide_1 : decode b_V_wouldDecide 1 = .ok (.getfield 55, 3) := by decide +kernel
theorem d_V_wouldDecide_4 : decode b_V_wouldDecide 4 = .ok (.ifCond .eq 7, 3) := by decide +kernel
theorem d_V_wouldDecide_7 : decode b_V_wouldDecide 7 = .ok (.iconst 0, 1) := by decide +kernel
theorem d_V_wouldDecide_8 : decode b_V_wouldDecide 8 = .ok (.goto 14, 3) := by decide +kernel
theorem d_V_wouldDecide_11 : decode b_V_wouldDecide 11 = .ok (.aload_n 0, 1) := by decide +kernel
theorem d_V_wouldDecide_12 : decode b_V_wouldDecide 12 = .ok (.getfield 33, 3) := by decide +kernel
theorem d_V_wouldDecide_15 : decode b_V_wouldDecide 15 = .ok (.aload_n 0, 1) := by decide +kernel
theorem d_V_wouldDecide_16 : decode b_V_wouldDecide 16 = .ok (.getfield 48, 3) := by decide +kernel
theorem d_V_wouldDecide_19 : decode b_V_wouldDecide 19 = .ok (.invokevirtual 150, 3) := by decide +kernel
theorem d_V_wouldDecide_22 : decode b_V_wouldDecide 22 = .ok (.ireturn, 1) := by decide +kernel
theorem d_V_hold_0 : decode b_V_hold 0 = .ok (.aload_n 0, 1) := by decide +kernel
theorem d_V_hold_1 : decode b_V_hold 1 = .ok (.getfield 55, 3) := by decide +kernel
theorem d_V_hold_4 : decode b_V_hold 4 = .ok (.istore_n 2, 1) := by decide +kernel
theorem d_V_hold_5 : decode b_V_hold 5 = .ok (.aload_n 0, 1) := by decide +kernel
theorem d_V_hold_6 : decode b_V_hold 6 = .ok (.iload_n 1, 1) := by decide +kernel
theorem d_V_hold_7 : decode b_V_hold 7 = .ok (.putfield 55, 3) := by decide +kernel
theorem d_V_hold_10 : decode b_V_hold 10 = .ok (.iload_n 2, 1) := by decide +kernel
theorem d_V_hold_11 : decode b_V_hold 11 = .ok (.ireturn, 1) := by decide +kernel
theorem d_V_pass_0 : decode b_V_pass 0 = .ok (.iload_n 1, 1) := by decide +kernel
theorem d_V_pass_1 : decode b_V_pass 1 = .ok (.iconst 1, 1) := by decide +kernel
theorem d_V_pass_2 : decode b_V_pass 2 = .ok (.if_icmp .lt 9, 3) := by decide +kernel
theorem d_V_pass_5 : decode b_V_pass 5 = .ok (.iload_n 1, 1) := by decide +kernel
theorem d_V_pass_6 : decode b_V_pass 6 = .ok (.bipush 60, 2) := by decide +kernel
theorem d_V_pass_8 : decode b_V_pass 8 = .ok (.if_icmp .le 13, 3) := by decide +kernel
theorem d_V_pass_11 : decode b_V_pass 11 = .ok (.new 113, 3) := by decide +kernel
theorem d_V_pass_14 : decode b_V_pass 14 = .ok (.dup, 1) := by decide +kernel
theorem d_V_pass_15 : decode b_V_pass 15 = .ok (.ldc 153, 2) := by decide +kernel
theorem d_V_pass_17 : decode b_V_pass 17 = .ok (.invokespecial 117, 3) := by decide +kernel
theorem d_V_pass_20 : decode b_V_pass 20 = .ok (.athrow, 1) := by decide +kernel
theorem d_V_pass_21 : decode b_V_pass 21 = .ok (.aload_n 0, 1) := by decide +kernel
theorem d_V_pass_22 : decode b_V_pass 22 = .ok (.getfield 48, 3) := by decide +kernel
theorem d_V_pass_25 : decode b_V_pass 25 = .ok (.iload_n 1, 1) := by decide +kernel
theorem d_V_pass_26 : decode b_V_pass 26 = .ok (.iadd, 1) := by decide +kernel
theorem d_V_pass_27 : decode b_V_pass 27 = .ok (.sipush 1000, 3) := by decide +kernel
theorem d_V_pass_30 : decode b_V_pass 30 = .ok (.if_icmp .le 13, 3) := by decide +kernel
theorem d_V_pass_33 : decode b_V_pass 33 = .ok (.new 63, 3) := by decide +kernel
theorem d_V_pass_36 : decode b_V_pass 36 = .ok (.dup, 1) := by decide +kernel
theorem d_V_pass_37 : decode b_V_pass 37 = .ok (.ldc 155, 2) := by decide +kernel
theorem d_V_pass_39 : decode b_V_pass 39 = .ok (.invokespecial 67, 3) := by decide +kernel
theorem d_V_pass_42 : decode b_V_pass 42 = .ok (.athrow, 1) := by decide +kernel
theorem d_V_pass_43 : decode b_V_pass 43 = .ok (.aload_n 0, 1) := by decide +kernel
theorem d_V_pass_44 : decode b_V_pass 44 = .ok (.getfield 52, 3) := by decide +kernel
theorem d_V_pass_47 : decode b_V_pass 47 = .ok (.istore_n 2, 1) := by decide +kernel
theorem d_V_pass_48 : decode b_V_pass 48 = .ok (.iconst 0, 1) := by decide +kernel
theorem d_V_pass_49 : decode b_V_pass 49 = .ok (.istore_n 3, 1) := by decide +kernel
theorem d_V_pass_50 : decode b_V_pass 50 = .ok (.iload_n 3, 1) := by decide +kernel
theorem d_V_pass_51 : decode b_V_pass 51 = .ok (.iload_n 1, 1) := by decide +kernel
theorem d_V_pass_52 : decode b_V_pass 52 = .ok (.if_icmp .ge 13, 3) := by decide +kernel
theorem d_V_pass_55 : decode b_V_pass 55 = .ok (.aload_n 0, 1) := by decide +kernel
theorem d_V_pass_56 : decode b_V_pass 56 = .ok (.invokevirtual 157, 3) := by decide +kernel
theorem d_V_pass_59 : decode b_V_pass 59 = .ok (.iinc 3 1, 3) := by decide +kernel
theorem d_V_pass_62 : decode b_V_pass 62 = .ok (.goto (-12), 3) := by decide +kernel
theorem d_V_pass_65 : decode b_V_pass 65 = .ok (.aload_n 0, 1) := by decide +kernel
theorem d_V_pass_66 : decode b_V_pass 66 = .ok (.getfield 52, 3) := by decide +kernel
theorem d_V_pass_69 : decode b_V_pass 69 = .ok (.iload_n 2, 1) := by decide +kernel
theorem d_V_pass_70 : decode b_V_pass 70 = .ok (.isub, 1) := by decide +kernel
theorem d_V_pass_71 : decode b_V_pass 71 = .ok (.ireturn, 1) := by decide +kernel
theorem d_V_time_0 : decode b_V_time 0 = .ok (.aload_n 0, 1) := by decide +kernel
theorem d_V_time_1 : decode b_V_time 1 = .ok (.getfield 48, 3) := by decide +kernel
theorem d_V_time_4 : decode b_V_time 4 = .ok (.ireturn, 1) := by decide +kernel
theorem d_V_moved_0 : decode b_V_moved 0 = .ok (.aload_n 0, 1) := by decide +kernel
theorem d_V_moved_1 : decode b_V_moved 1 = .ok (.getfield 52, 3) := by decide +kernel
theorem d_V_moved_4 : decode b_V_moved 4 = .ok (.ireturn, 1) := by decide +kernel
theorem d_V_decided_0 : decode b_V_decided 0 = .ok (.iload_n 1, 1) := by decide +kernel
theorem d_V_decided_1 : decode b_V_decided 1 = .ok (.iconst 1, 1) := by decide +kernel
theorem d_V_decided_2 : decode b_V_decided 2 = .ok (.if_icmp .lt 20, 3) := by decide +kernel
theorem d_V_decided_5 : decode b_V_decided 5 = .ok (.iload_n 1, 1) := by decide +kernel
theorem d_V_decided_6 : decode b_V_decided 6 = .ok (.aload_n 0, 1) := by decide +kernel
theorem d_V_decided_7 : decode b_V_decided 7 = .ok (.getfield 48, 3) := by decide +kernel
theorem d_V_decided_10 : decode b_V_decided 10 = .ok (.if_icmp .gt 12, 3) := by decide +kernel
theorem d_V_decided_13 : decode b_V_decided 13 = .ok (.iload_n 1, 1) := by decide +kernel
theorem d_V_decided_14 : decode b_V_decided 14 = .ok (.aload_n 0, 1) := by decide +kernel
theorem d_V_decided_15 : decode b_V_decided 15 = .ok (.getfield 44, 3) := by decide +kernel
theorem d_V_decided_18 : decode b_V_decided 18 = .ok (.arraylength, 1) := by decide +kernel
theorem d_V_decided_19 : decode b_V_decided 19 = .ok (.if_icmp .lt 13, 3) := by decide +kernel
theorem d_V_decided_22 : decode b_V_decided 22 = .ok (.new 78, 3) := by decide +kernel
theorem d_V_decided_25 : decode b_V_decided 25 = .ok (.dup, 1) := by decide +kernel
theorem d_V_decided_26 : decode b_V_decided 26 = .ok (.ldc 160, 2) := by decide +kernel
theorem d_V_decided_28 : decode b_V_decided 28 = .ok (.invokespecial 82, 3) := by decide +kernel
theorem d_V_decided_31 : decode b_V_decided 31 = .ok (.athrow, 1) := by decide +kernel
theorem d_V_decided_32 : decode b_V_decided 32 = .ok (.aload_n 0, 1) := by decide +kernel
theorem d_V_decided_33 : decode b_V_decided 33 = .ok (.getfield 44, 3) := by decide +kernel
theorem d_V_decided_36 : decode b_V_decided 36 = .ok (.iload_n 1, 1) := by decide +kernel
theorem d_V_decided_37 : decode b_V_decided 37 = .ok (.iaload, 1) := by decide +kernel
theorem d_V_decided_38 : decode b_V_decided 38 = .ok (.ireturn, 1) := by decide +kernel
theorem d_V_minutes_0 : decode b_V_minutes 0 = .ok (.iload_n 1, 1) := by decide +kernel
theorem d_V_minutes_1 : decode b_V_minutes 1 = .ok (.ifCond .lt 8, 3) := by decide +kernel
theorem d_V_minutes_4 : decode b_V_minutes 4 = .ok (.iload_n 1, 1) := by decide +kernel
theorem d_V_minutes_5 : decode b_V_minutes 5 = .ok (.iconst 2, 1) := by decide +kernel
theorem d_V_minutes_6 : decode b_V_minutes 6 = .ok (.if_icmp .le 13, 3) := by decide +kernel
theorem d_V_minutes_9 : decode b_V_minutes 9 = .ok (.new 113, 3) := by decide +kernel
theorem d_V_minutes_12 : decode b_V_minutes 12 = .ok (.dup, 1) := by decide +kernel
theorem d_V_minutes_13 : decode b_V_minutes 13 = .ok (.ldc 162, 2) := by decide +kernel
theorem d_V_minutes_15 : decode b_V_minutes 15 = .ok (.invokespecial 117, 3) := by decide +kernel
theorem d_V_minutes_18 : decode b_V_minutes 18 = .ok (.athrow, 1) := by decide +kernel
theorem d_V_minutes_19 : decode b_V_minutes 19 = .ok (.iconst 0, 1) := by decide +kernel
theorem d_V_minutes_20 : decode b_V_minutes 20 = .ok (.istore_n 2, 1) := by decide +kernel
theorem d_V_minutes_21 : decode b_V_minutes 21 = .ok (.iconst 1, 1) := by decide +kernel
theorem d_V_minutes_22 : decode b_V_minutes 22 = .ok (.istore_n 3, 1) := by decide +kernel
theorem d_V_minutes_23 : decode b_V_minutes 23 = .ok (.iload_n 3, 1) := by decide +kernel
theorem d_V_minutes_24 : decode b_V_minutes 24 = .ok (.aload_n 0, 1) := by decide +kernel
theorem d_V_minutes_25 : decode b_V_minutes 25 = .ok (.getfield 48, 3) := by decide +kernel
theorem d_V_minutes_28 : decode b_V_minutes 28 = .ok (.if_icmp .gt 34, 3) := by decide +kernel
theorem d_V_minutes_31 : decode b_V_minutes 31 = .ok (.iload_n 3, 1) := by decide +kernel
theorem d_V_minutes_32 : decode b_V_minutes 32 = .ok (.aload_n 0, 1) := by decide +kernel
theorem d_V_minutes_33 : decode b_V_minutes 33 = .ok (.getfield 44, 3) := by decide +kernel
theorem d_V_minutes_36 : decode b_V_minutes 36 = .ok (.arraylength, 1) := by decide +kernel
theorem d_V_minutes_37 : decode b_V_minutes 37 = .ok (.if_icmp .ge 25, 3) := by decide +kernel
theorem d_V_minutes_40 : decode b_V_minutes 40 = .ok (.aload_n 0, 1) := by decide +kernel
theorem d_V_minutes_41 : decode b_V_minutes 41 = .ok (.getfield 44, 3) := by decide +kernel
theorem d_V_minutes_44 : decode b_V_minutes 44 = .ok (.iload_n 3, 1) := by decide +kernel
theorem d_V_minutes_45 : decode b_V_minutes 45 = .ok (.iaload, 1) := by decide +kernel
theorem d_V_minutes_46 : decode b_V_minutes 46 = .ok (.bipush 10, 2) := by decide +kernel
theorem d_V_minutes_48 : decode b_V_minutes 48 = .ok (.irem, 1) := by decide +kernel
theorem d_V_minutes_49 : decode b_V_minutes 49 = .ok (.iload_n 1, 1) := by decide +kernel
theorem d_V_minutes_50 : decode b_V_minutes 50 = .ok (.if_icmp .ne 6, 3) := by decide +kernel
theorem d_V_minutes_53 : decode b_V_minutes 53 = .ok (.iinc 2 1, 3) := by decide +kernel
theorem d_V_minutes_56 : decode b_V_minutes 56 = .ok (.iinc 3 1, 3) := by decide +kernel
theorem d_V_minutes_59 : decode b_V_minutes 59 = .ok (.goto (-36), 3) := by decide +kernel
theorem d_V_minutes_62 : decode b_V_minutes 62 = .ok (.iload_n 2, 1) := by decide +kernel
theorem d_V_minutes_63 : decode b_V_minutes 63 = .ok (.ireturn, 1) := by decide +kernel
theorem d_V_board_0 : decode b_V_board 0 = .ok (.aload_n 0, 1) := by decide +kernel
theorem d_V_board_1 : decode b_V_board 1 = .ok (.getfield 10, 3) := by decide +kernel
theorem d_V_board_4 : decode b_V_board 4 = .ok (.iload_n 1, 1) := by decide +kernel
theorem d_V_board_5 : decode b_V_board 5 = .ok (.invokevirtual 74, 3) := by decide +kernel
theorem d_V_board_8 : decode b_V_board 8 = .ok (.ifCond .ne 13, 3) := by decide +kernel
theorem d_V_board_11 : decode b_V_board 11 = .ok (.new 78, 3) := by decide +kernel
theorem d_V_board_14 : decode b_V_board 14 = .ok (.dup, 1) := by decide +kernel
theorem d_V_board_15 : decode b_V_board 15 = .ok (.ldc 80, 2) := by decide +kernel
theorem d_V_board_17 : decode b_V_board 17 = .ok (.invokespecial 82, 3) := by decide +kernel
theorem d_V_board_20 : decode b_V_board 20 = .ok (.athrow, 1) := by decide +kernel
theorem d_V_board_21 : decode b_V_board 21 = .ok (.iload_n 2, 1) := by decide +kernel
theorem d_V_board_22 : decode b_V_board 22 = .ok (.iconst 1, 1) := by decide +kernel
theorem d_V_board_23 : decode b_V_board 23 = .ok (.if_icmp .lt 20, 3) := by decide +kernel
theorem d_V_board_26 : decode b_V_board 26 = .ok (.iload_n 2, 1) := by decide +kernel
theorem d_V_board_27 : decode b_V_board 27 = .ok (.bipush 8, 2) := by decide +kernel
theorem d_V_board_29 : decode b_V_board 29 = .ok (.if_icmp .gt 14, 3) := by decide +kernel
theorem d_V_board_32 : decode b_V_board 32 = .ok (.iload_n 3, 1) := by decide +kernel
theorem d_V_board_33 : decode b_V_board 33 = .ok (.ifCond .lt 10, 3) := by decide +kernel
theorem d_V_board_36 : decode b_V_board 36 = .ok (.iload_n 3, 1) := by decide +kernel
theorem d_V_board_37 : decode b_V_board 37 = .ok (.sipush 1000, 3) := by decide +kernel
theorem d_V_board_40 : decode b_V_board 40 = .ok (.if_icmp .le 13, 3) := by decide +kernel
theorem d_V_board_43 : decode b_V_board 43 = .ok (.new 113, 3) := by decide +kernel
theorem d_V_board_46 : decode b_V_board 46 = .ok (.dup, 1) := by decide +kernel
theorem d_V_board_47 : decode b_V_board 47 = .ok (.ldc 164, 2) := by decide +kernel
theorem d_V_board_49 : decode b_V_board 49 = .ok (.invokespecial 117, 3) := by decide +kernel
theorem d_V_board_52 : decode b_V_board 52 = .ok (.athrow, 1) := by decide +kernel
theorem d_V_board_53 : decode b_V_board 53 = .ok (.aload_n 0, 1) := by decide +kernel
theorem d_V_board_54 : decode b_V_board 54 = .ok (.getfield 10, 3) := by decide +kernel
theorem d_V_board_57 : decode b_V_board 57 = .ok (.getfield 83, 3) := by decide +kernel
theorem d_V_board_60 : decode b_V_board 60 = .ok (.iload_n 1, 1) := by decide +kernel
theorem d_V_board_61 : decode b_V_board 61 = .ok (.iaload, 1) := by decide +kernel
theorem d_V_board_62 : decode b_V_board 62 = .ok (.istore 4, 2) := by decide +kernel
theorem d_V_board_64 : decode b_V_board 64 = .ok (.iload 4, 2) := by decide +kernel
theorem d_V_board_66 : decode b_V_board 66 = .ok (.invokestatic 166, 3) := by decide +kernel
theorem d_V_board_69 : decode b_V_board 69 = .ok (.ifCond .eq 28, 3) := by decide +kernel
theorem d_V_board_72 : decode b_V_board 72 = .ok (.aload_n 0, 1) := by decide +kernel
theorem d_V_board_73 : decode b_V_board 73 = .ok (.getfield 40, 3) := by decide +kernel
theorem d_V_board_76 : decode b_V_board 76 = .ok (.iload_n 1, 1) := by decide +kernel
theorem d_V_board_77 : decode b_V_board 77 = .ok (.invokevirtual 89, 3) := by decide +kernel
theorem d_V_board_80 : decode b_V_board 80 = .ok (.iload_n 2, 1) := by decide +kernel
theorem d_V_board_81 : decode b_V_board 81 = .ok (.iadd, 1) := by decide +kernel
theorem d_V_board_82 : decode b_V_board 82 = .ok (.bipush 8, 2) := by decide +kernel
theorem d_V_board_84 : decode b_V_board 84 = .ok (.if_icmp .gt 13, 3) := by decide +kernel
theorem d_V_board_87 : decode b_V_board 87 = .ok (.aload_n 0, 1) := by decide +kernel
theorem d_V_board_88 : decode b_V_board 88 = .ok (.getfield 40, 3) := by decide +kernel
theorem d_V_board_91 : decode b_V_board 91 = .ok (.invokevirtual 169, 3) := by decide +kernel
theorem d_V_board_94 : decode b_V_board 94 = .ok (.ifCond .ne 13, 3) := by decide +kernel
theorem d_V_board_97 : decode b_V_board 97 = .ok (.new 63, 3) := by decide +kernel
theorem d_V_board_100 : decode b_V_board 100 = .ok (.dup, 1) := by decide +kernel
theorem d_V_board_101 : decode b_V_board 101 = .ok (.ldc 172, 2) := by decide +kernel
theorem d_V_board_103 : decode b_V_board 103 = .ok (.invokespecial 67, 3) := by decide +kernel
theorem d_V_board_106 : decode b_V_board 106 = .ok (.athrow, 1) := by decide +kernel
theorem d_V_board_107 : decode b_V_board 107 = .ok (.aload_n 0, 1) := by decide +kernel
theorem d_V_board_108 : decode b_V_board 108 = .ok (.getfield 52, 3) := by decide +kernel
theorem d_V_board_111 : decode b_V_board 111 = .ok (.iload 4, 2) := by decide +kernel
theorem d_V_board_113 : decode b_V_board 113 = .ok (.invokestatic 86, 3) := by decide +kernel
theorem d_V_board_116 : decode b_V_board 116 = .ok (.ifCond .eq 9, 3) := by decide +kernel
theorem d_V_board_119 : decode b_V_board 119 = .ok (.sipush 600, 3) := by decide +kernel
theorem d_V_board_122 : decode b_V_board 122 = .ok (.goto 6, 3) := by decide +kernel
theorem d_V_board_125 : decode b_V_board 125 = .ok (.sipush 1200, 3) := by decide +kernel
theorem d_V_board_128 : decode b_V_board 128 = .ok (.iadd, 1) := by decide +kernel
theorem d_V_board_129 : decode b_V_board 129 = .ok (.iload 4, 2) := by decide +kernel
theorem d_V_board_131 : decode b_V_board 131 = .ok (.isub, 1) := by decide +kernel
theorem d_V_board_132 : decode b_V_board 132 = .ok (.istore 5, 2) := by decide +kernel
theorem d_V_board_134 : decode b_V_board 134 = .ok (.aload_n 0, 1) := by decide +kernel
theorem d_V_board_135 : decode b_V_board 135 = .ok (.getfield 40, 3) := by decide +kernel
theorem d_V_board_138 : decode b_V_board 138 = .ok (.iload_n 1, 1) := by decide +kernel
theorem d_V_board_139 : decode b_V_board 139 = .ok (.iload_n 2, 1) := by decide +kernel
theorem d_V_board_140 : decode b_V_board 140 = .ok (.iload_n 3, 1) := by decide +kernel
theorem d_V_board_141 : decode b_V_board 141 = .ok (.iload 5, 2) := by decide +kernel
theorem d_V_board_143 : decode b_V_board 143 = .ok (.invokevirtual 174, 3) := by decide +kernel
theorem d_V_board_146 : decode b_V_board 146 = .ok (.ireturn, 1) := by decide +kernel
theorem d_V_people_0 : decode b_V_people 0 = .ok (.aload_n 0, 1) := by decide +kernel
theorem d_V_people_1 : decode b_V_people 1 = .ok (.getfield 10, 3) := by decide +kernel
theorem d_V_people_4 : decode b_V_people 4 = .ok (.iload_n 1, 1) := by decide +kernel
theorem d_V_people_5 : decode b_V_people 5 = .ok (.invokevirtual 74, 3) := by decide +kernel
theorem d_V_people_8 : decode b_V_people 8 = .ok (.ifCond .ne 13, 3) := by decide +kernel
theorem d_V_people_11 : decode b_V_people 11 = .ok (.new 78, 3) := by decide +kernel
theorem d_V_people_14 : decode b_V_people 14 = .ok (.dup, 1) := by decide +kernel
theorem d_V_people_15 : decode b_V_people 15 = .ok (.ldc 80, 2) := by decide +kernel
theorem d_V_people_17 : decode b_V_people 17 = .ok (.invokespecial 82, 3) := by decide +kernel
theorem d_V_people_20 : decode b_V_people 20 = .ok (.athrow, 1) := by decide +kernel
theorem d_V_people_21 : decode b_V_people 21 = .ok (.aload_n 0, 1) := by decide +kernel
theorem d_V_people_22 : decode b_V_people 22 = .ok (.getfield 40, 3) := by decide +kernel
theorem d_V_people_25 : decode b_V_people 25 = .ok (.iload_n 1, 1) := by decide +kernel
theorem d_V_people_26 : decode b_V_people 26 = .ok (.invokevirtual 89, 3) := by decide +kernel
theorem d_V_people_29 : decode b_V_people 29 = .ok (.ireturn, 1) := by decide +kernel
theorem d_V_arrived_0 : decode b_V_arrived 0 = .ok (.aload_n 0, 1) := by decide +kernel
theorem d_V_arrived_1 : decode b_V_arrived 1 = .ok (.getfield 40, 3) := by decide +kernel
theorem d_V_arrived_4 : decode b_V_arrived 4 = .ok (.iload_n 1, 1) := by decide +kernel
theorem d_V_arrived_5 : decode b_V_arrived 5 = .ok (.invokevirtual 178, 3) := by decide +kernel
theorem d_V_arrived_8 : decode b_V_arrived 8 = .ok (.ifCond .ne 13, 3) := by decide +kernel
theorem d_V_arrived_11 : decode b_V_arrived 11 = .ok (.new 78, 3) := by decide +kernel
theorem d_V_arrived_14 : decode b_V_arrived 14 = .ok (.dup, 1) := by decide +kernel
theorem d_V_arrived_15 : decode b_V_arrived 15 = .ok (.ldc 179, 2) := by decide +kernel
theorem d_V_arrived_17 : decode b_V_arrived 17 = .ok (.invokespecial 82, 3) := by decide +kernel
theorem d_V_arrived_20 : decode b_V_arrived 20 = .ok (.athrow, 1) := by decide +kernel
theorem d_V_arrived_21 : decode b_V_arrived 21 = .ok (.aload_n 0, 1) := by decide +kernel
theorem d_V_arrived_22 : decode b_V_arrived 22 = .ok (.getfield 40, 3) := by decide +kernel
theorem d_V_arrived_25 : decode b_V_arrived 25 = .ok (.getfield 181, 3) := by decide +kernel
theorem d_V_arrived_28 : decode b_V_arrived 28 = .ok (.iload_n 1, 1) := by decide +kernel
theorem d_V_arrived_29 : decode b_V_arrived 29 = .ok (.iaload, 1) := by decide +kernel
theorem d_V_arrived_30 : decode b_V_arrived 30 = .ok (.ireturn, 1) := by decide +kernel
theorem d_V_hung_0 : decode b_V_hung 0 = .ok (.aload_n 0, 1) := by decide +kernel
theorem d_V_hung_1 : decode b_V_hung 1 = .ok (.getfield 40, 3) := by decide +kernel
theorem d_V_hung_4 : decode b_V_hung 4 = .ok (.iload_n 1, 1) := by decide +kernel
theorem d_V_hung_5 : decode b_V_hung 5 = .ok (.invokevirtual 178, 3) := by decide +kernel
theorem d_V_hung_8 : decode b_V_hung 8 = .ok (.ifCond .ne 13, 3) := by decide +kernel
theorem d_V_hung_11 : decode b_V_hung 11 = .ok (.new 78, 3) := by decide +kernel
theorem d_V_hung_14 : decode b_V_hung 14 = .ok (.dup, 1) := by decide +kernel
theorem d_V_hung_15 : decode b_V_hung 15 = .ok (.ldc 179, 2) := by decide +kernel
theorem d_V_hung_17 : decode b_V_hung 17 = .ok (.invokespecial 82, 3) := by decide +kernel
theorem d_V_hung_20 : decode b_V_hung 20 = .ok (.athrow, 1) := by decide +kernel
theorem d_V_hung_21 : decode b_V_hung 21 = .ok (.aload_n 0, 1) := by decide +kernel
theorem d_V_hung_22 : decode b_V_hung 22 = .ok (.getfield 40, 3) := by decide +kernel
theorem d_V_hung_25 : decode b_V_hung 25 = .ok (.getfield 184, 3) := by decide +kernel
theorem d_V_hung_28 : decode b_V_hung 28 = .ok (.iload_n 1, 1) := by decide +kernel
theorem d_V_hung_29 : decode b_V_hung 29 = .ok (.iaload, 1) := by decide +kernel
theorem d_V_hung_30 : decode b_V_hung 30 = .ok (.ireturn, 1) := by decide +kernel
theorem d_V_refund_0 : decode b_V_refund 0 = .ok (.aload_n 0, 1) := by decide +kernel
theorem d_V_refund_1 : decode b_V_refund 1 = .ok (.getfield 40, 3) := by decide +kernel
theorem d_V_refund_4 : decode b_V_refund 4 = .ok (.iload_n 1, 1) := by decide +kernel
theorem d_V_refund_5 : decode b_V_refund 5 = .ok (.invokevirtual 178, 3) := by decide +kernel
theorem d_V_refund_8 : decode b_V_refund 8 = .ok (.ifCond .ne 13, 3) := by decide +kernel
theorem d_V_refund_11 : decode b_V_refund 11 = .ok (.new 78, 3) := by decide +kernel
theorem d_V_refund_14 : decode b_V_refund 14 = .ok (.dup, 1) := by decide +kernel
theorem d_V_refund_15 : decode b_V_refund 15 = .ok (.ldc 179, 2) := by decide +kernel
theorem d_V_refund_17 : decode b_V_refund 17 = .ok (.invokespecial 82, 3) := by decide +kernel
theorem d_V_refund_20 : decode b_V_refund 20 = .ok (.athrow, 1) := by decide +kernel
theorem d_V_refund_21 : decode b_V_refund 21 = .ok (.aload_n 0, 1) := by decide +kernel
theorem d_V_refund_22 : decode b_V_refund 22 = .ok (.getfield 40, 3) := by decide +kernel
theorem d_V_refund_25 : decode b_V_refund 25 = .ok (.iload_n 1, 1) := by decide +kernel
theorem d_V_refund_26 : decode b_V_refund 26 = .ok (.invokevirtual 187, 3) := by decide +kernel
theorem d_V_refund_29 : decode b_V_refund 29 = .ok (.ireturn, 1) := by decide +kernel
theorem d_V_refunds_0 : decode b_V_refunds 0 = .ok (.aload_n 0, 1) := by decide +kernel
theorem d_V_refunds_1 : decode b_V_refunds 1 = .ok (.getfield 40, 3) := by decide +kernel
theorem d_V_refunds_4 : decode b_V_refunds 4 = .ok (.invokevirtual 190, 3) := by decide +kernel
theorem d_V_refunds_7 : decode b_V_refunds 7 = .ok (.ireturn, 1) := by decide +kernel
theorem d_V_passMinute_0 : decode b_V_passMinute 0 = .ok (.aload_n 0, 1) := by decide +kernel
theorem d_V_passMinute_1 : decode b_V_passMinute 1 = .ok (.dup, 1) := by decide +kernel
theorem d_V_passMinute_2 : decode b_V_passMinute 2 = .ok (.getfield 48, 3) := by decide +kernel
theorem d_V_passMinute_5 : decode b_V_passMinute 5 = .ok (.iconst 1, 1) := by decide +kernel
theorem d_V_passMinute_6 : decode b_V_passMinute 6 = .ok (.iadd, 1) := by decide +kernel
theorem d_V_passMinute_7 : decode b_V_passMinute 7 = .ok (.putfield 48, 3) := by decide +kernel
theorem d_V_passMinute_10 : decode b_V_passMinute 10 = .ok (.aload_n 0, 1) := by decide +kernel
theorem d_V_passMinute_11 : decode b_V_passMinute 11 = .ok (.invokevirtual 193, 3) := by decide +kernel
theorem d_V_passMinute_14 : decode b_V_passMinute 14 = .ok (.aload_n 0, 1) := by decide +kernel
theorem d_V_passMinute_15 : decode b_V_passMinute 15 = .ok (.getfield 26, 3) := by decide +kernel
theorem d_V_passMinute_18 : decode b_V_passMinute 18 = .ok (.aload_n 0, 1) := by decide +kernel
theorem d_V_passMinute_19 : decode b_V_passMinute 19 = .ok (.getfield 48, 3) := by decide +kernel
theorem d_V_passMinute_22 : decode b_V_passMinute 22 = .ok (.aload_n 0, 1) := by decide +kernel
theorem d_V_passMinute_23 : decode b_V_passMinute 23 = .ok (.getfield 33, 3) := by decide +kernel
theorem d_V_passMinute_26 : decode b_V_passMinute 26 = .ok (.invokevirtual 196, 3) := by decide +kernel
theorem d_V_passMinute_29 : decode b_V_passMinute 29 = .ok (.aload_n 0, 1) := by decide +kernel
theorem d_V_passMinute_30 : decode b_V_passMinute 30 = .ok (.invokevirtual 200, 3) := by decide +kernel
theorem d_V_passMinute_33 : decode b_V_passMinute 33 = .ok (.istore_n 1, 1) := by decide +kernel
theorem d_V_passMinute_34 : decode b_V_passMinute 34 = .ok (.aload_n 0, 1) := by decide +kernel
theorem d_V_passMinute_35 : decode b_V_passMinute 35 = .ok (.getfield 48, 3) := by decide +kernel
theorem d_V_passMinute_38 : decode b_V_passMinute 38 = .ok (.aload_n 0, 1) := by decide +kernel
theorem d_V_passMinute_39 : decode b_V_passMinute 39 = .ok (.getfield 44, 3) := by decide +kernel
theorem d_V_passMinute_42 : decode b_V_passMinute 42 = .ok (.arraylength, 1) := by decide +kernel
theorem d_V_passMinute_43 : decode b_V_passMinute 43 = .ok (.if_icmp .ge 31, 3) := by decide +kernel
theorem d_V_passMinute_46 : decode b_V_passMinute 46 = .ok (.aload_n 0, 1) := by decide +kernel
theorem d_V_passMinute_47 : decode b_V_passMinute 47 = .ok (.getfield 44, 3) := by decide +kernel
theorem d_V_passMinute_50 : decode b_V_passMinute 50 = .ok (.aload_n 0, 1) := by decide +kernel
theorem d_V_passMinute_51 : decode b_V_passMinute 51 = .ok (.getfield 48, 3) := by decide +kernel
theorem d_V_passMinute_54 : decode b_V_passMinute 54 = .ok (.bipush 10, 2) := by decide +kernel
theorem d_V_passMinute_56 : decode b_V_passMinute 56 = .ok (.aload_n 0, 1) := by decide +kernel
theorem d_V_passMinute_57 : decode b_V_passMinute 57 = .ok (.getfield 33, 3) := by decide +kernel
theorem d_V_passMinute_60 : decode b_V_passMinute 60 = .ok (.aload_n 0, 1) := by decide +kernel
theorem d_V_passMinute_61 : decode b_V_passMinute 61 = .ok (.getfield 48, 3) := by decide +kernel
theorem d_V_passMinute_64 : decode b_V_passMinute 64 = .ok (.invokevirtual 144, 3) := by decide +kernel
theorem d_V_passMinute_67 : decode b_V_passMinute 67 = .ok (.invokestatic 203, 3) := by decide +kernel
theorem d_V_passMinute_70 : decode b_V_passMinute 70 = .ok (.imul, 1) := by decide +kernel
theorem d_V_passMinute_71 : decode b_V_passMinute 71 = .ok (.iload_n 1, 1) := by decide +kernel
theorem d_V_passMinute_72 : decode b_V_passMinute 72 = .ok (.iadd, 1) := by decide +kernel
theorem d_V_passMinute_73 : decode b_V_passMinute 73 = .ok (.iastore, 1) := by decide +kernel
theorem d_V_passMinute_74 : decode b_V_passMinute 74 = .ok (.iload_n 1, 1) := by decide +kernel
theorem d_V_passMinute_75 : decode b_V_passMinute 75 = .ok (.invokestatic 208, 3) := by decide +kernel
theorem d_V_passMinute_78 : decode b_V_passMinute 78 = .ok (.istore_n 2, 1) := by decide +kernel
theorem d_V_passMinute_79 : decode b_V_passMinute 79 = .ok (.aload_n 0, 1) := by decide +kernel
theorem d_V_passMinute_80 : decode b_V_passMinute 80 = .ok (.dup, 1) := by decide +kernel
theorem d_V_passMinute_81 : decode b_V_passMinute 81 = .ok (.getfield 52, 3) := by decide +kernel
theorem d_V_passMinute_84 : decode b_V_passMinute 84 = .ok (.iload_n 2, 1) := by decide +kernel
theorem d_V_passMinute_85 : decode b_V_passMinute 85 = .ok (.iadd, 1) := by decide +kernel
theorem d_V_passMinute_86 : decode b_V_passMinute 86 = .ok (.putfield 52, 3) := by decide +kernel
theorem d_V_passMinute_89 : decode b_V_passMinute 89 = .ok (.aload_n 0, 1) := by decide +kernel
theorem d_V_passMinute_90 : decode b_V_passMinute 90 = .ok (.getfield 10, 3) := by decide +kernel
theorem d_V_passMinute_93 : decode b_V_passMinute 93 = .ok (.iload_n 2, 1) := by decide +kernel
theorem d_V_passMinute_94 : decode b_V_passMinute 94 = .ok (.invokevirtual 211, 3) := by decide +kernel
theorem d_V_passMinute_97 : decode b_V_passMinute 97 = .ok (.aload_n 0, 1) := by decide +kernel
theorem d_V_passMinute_98 : decode b_V_passMinute 98 = .ok (.getfield 40, 3) := by decide +kernel
theorem d_V_passMinute_101 : decode b_V_passMinute 101 = .ok (.aload_n 0, 1) := by decide +kernel
theorem d_V_passMinute_102 : decode b_V_passMinute 102 = .ok (.getfield 48, 3) := by decide +kernel
theorem d_V_passMinute_105 : decode b_V_passMinute 105 = .ok (.aload_n 0, 1) := by decide +kernel
theorem d_V_passMinute_106 : decode b_V_passMinute 106 = .ok (.getfield 52, 3) := by decide +kernel
theorem d_V_passMinute_109 : decode b_V_passMinute 109 = .ok (.iload_n 1, 1) := by decide +kernel
theorem d_V_passMinute_110 : decode b_V_passMinute 110 = .ok (.aload_n 0, 1) := by decide +kernel
theorem d_V_passMinute_111 : decode b_V_passMinute 111 = .ok (.getfield 10, 3) := by decide +kernel
theorem d_V_passMinute_114 : decode b_V_passMinute 114 = .ok (.invokevirtual 215, 3) := by decide +kernel
theorem d_V_passMinute_117 : decode b_V_passMinute 117 = .ok (.return_, 1) := by decide +kernel
theorem d_V_makeVotes_0 : decode b_V_makeVotes 0 = .ok (.iconst 0, 1) := by decide +kernel
theorem d_V_makeVotes_1 : decode b_V_makeVotes 1 = .ok (.istore_n 1, 1) := by decide +kernel
theorem d_V_makeVotes_2 : decode b_V_makeVotes 2 = .ok (.iload_n 1, 1) := by decide +kernel
theorem d_V_makeVotes_3 : decode b_V_makeVotes 3 = .ok (.bipush 7, 2) := by decide +kernel
theorem d_V_makeVotes_5 : decode b_V_makeVotes 5 = .ok (.if_icmp .ge 37, 3) := by decide +kernel
theorem d_V_makeVotes_8 : decode b_V_makeVotes 8 = .ok (.aload_n 0, 1) := by decide +kernel
theorem d_V_makeVotes_9 : decode b_V_makeVotes 9 = .ok (.getfield 26, 3) := by decide +kernel
theorem d_V_makeVotes_12 : decode b_V_makeVotes 12 = .ok (.iload_n 1, 1) := by decide +kernel
theorem d_V_makeVotes_13 : decode b_V_makeVotes 13 = .ok (.aload_n 0, 1) := by decide +kernel
theorem d_V_makeVotes_14 : decode b_V_makeVotes 14 = .ok (.getfield 19, 3) := by decide +kernel
theorem d_V_makeVotes_17 : decode b_V_makeVotes 17 = .ok (.iload_n 1, 1) := by decide +kernel
theorem d_V_makeVotes_18 : decode b_V_makeVotes 18 = .ok (.invokevirtual 121, 3) := by decide +kernel
theorem d_V_makeVotes_21 : decode b_V_makeVotes 21 = .ok (.aload_n 0, 1) := by decide +kernel
theorem d_V_makeVotes_22 : decode b_V_makeVotes 22 = .ok (.getfield 48, 3) := by decide +kernel
theorem d_V_makeVotes_25 : decode b_V_makeVotes 25 = .ok (.aload_n 0, 1) := by decide +kernel
theorem d_V_makeVotes_26 : decode b_V_makeVotes 26 = .ok (.getfield 19, 3) := by decide +kernel
theorem d_V_makeVotes_29 : decode b_V_makeVotes 29 = .ok (.iload_n 1, 1) := by decide +kernel
theorem d_V_makeVotes_30 : decode b_V_makeVotes 30 = .ok (.invokevirtual 218, 3) := by decide +kernel
theorem d_V_makeVotes_33 : decode b_V_makeVotes 33 = .ok (.invokevirtual 221, 3) := by decide +kernel
theorem d_V_makeVotes_36 : decode b_V_makeVotes 36 = .ok (.iinc 1 1, 3) := by decide +kernel
theorem d_V_makeVotes_39 : decode b_V_makeVotes 39 = .ok (.goto (-37), 3) := by decide +kernel
theorem d_V_makeVotes_42 : decode b_V_makeVotes 42 = .ok (.return_, 1) := by decide +kernel
theorem d_V_partsAt_0 : decode b_V_partsAt 0 = .ok (.iload_n 0, 1) := by decide +kernel
theorem d_V_partsAt_1 : decode b_V_partsAt 1 = .ok (.iconst 2, 1) := by decide +kernel
theorem d_V_partsAt_2 : decode b_V_partsAt 2 = .ok (.if_icmp .ne 6, 3) := by decide +kernel
theorem d_V_partsAt_5 : decode b_V_partsAt 5 = .ok (.bipush 30, 2) := by decide +kernel
theorem d_V_partsAt_7 : decode b_V_partsAt 7 = .ok (.ireturn, 1) := by decide +kernel
theorem d_V_partsAt_8 : decode b_V_partsAt 8 = .ok (.iload_n 0, 1) := by decide +kernel
theorem d_V_partsAt_9 : decode b_V_partsAt 9 = .ok (.iconst 1, 1) := by decide +kernel
theorem d_V_partsAt_10 : decode b_V_partsAt 10 = .ok (.if_icmp .ne 8, 3) := by decide +kernel
theorem d_V_partsAt_13 : decode b_V_partsAt 13 = .ok (.bipush 10, 2) := by decide +kernel
theorem d_V_partsAt_15 : decode b_V_partsAt 15 = .ok (.goto 4, 3) := by decide +kernel
theorem d_V_partsAt_18 : decode b_V_partsAt 18 = .ok (.iconst 0, 1) := by decide +kernel
theorem d_V_partsAt_19 : decode b_V_partsAt 19 = .ok (.ireturn, 1) := by decide +kernel
theorem d_V_isTower_0 : decode b_V_isTower 0 = .ok (.iload_n 0, 1) := by decide +kernel
theorem d_V_isTower_1 : decode b_V_isTower 1 = .ok (.ifCond .lt 13, 3) := by decide +kernel
theorem d_V_isTower_4 : decode b_V_isTower 4 = .ok (.iload_n 0, 1) := by decide +kernel
theorem d_V_isTower_5 : decode b_V_isTower 5 = .ok (.bipush 7, 2) := by decide +kernel
theorem d_V_isTower_7 : decode b_V_isTower 7 = .ok (.if_icmp .ge 7, 3) := by decide +kernel
theorem d_V_isTower_10 : decode b_V_isTower 10 = .ok (.iconst 1, 1) := by decide +kernel
theorem d_V_isTower_11 : decode b_V_isTower 11 = .ok (.goto 4, 3) := by decide +kernel
theorem d_V_isTower_14 : decode b_V_isTower 14 = .ok (.iconst 0, 1) := by decide +kernel
theorem d_V_isTower_15 : decode b_V_isTower 15 = .ok (.ireturn, 1) := by decide +kernel
theorem d_V_isInBottom_0 : decode b_V_isInBottom 0 = .ok (.iload_n 0, 1) := by decide +kernel
theorem d_V_isInBottom_1 : decode b_V_isInBottom 1 = .ok (.ifCond .lt 13, 3) := by decide +kernel
theorem d_V_isInBottom_4 : decode b_V_isInBottom 4 = .ok (.iload_n 0, 1) := by decide +kernel
theorem d_V_isInBottom_5 : decode b_V_isInBottom 5 = .ok (.bipush 20, 2) := by decide +kernel
theorem d_V_isInBottom_7 : decode b_V_isInBottom 7 = .ok (.if_icmp .ge 7, 3) := by decide +kernel
theorem d_V_isInBottom_10 : decode b_V_isInBottom 10 = .ok (.iconst 1, 1) := by decide +kernel
theorem d_V_isInBottom_11 : decode b_V_isInBottom 11 = .ok (.goto 4, 3) := by decide +kernel
theorem d_V_isInBottom_14 : decode b_V_isInBottom 14 = .ok (.iconst 0, 1) := by decide +kernel
theorem d_V_isInBottom_15 : decode b_V_isInBottom 15 = .ok (.ireturn, 1) := by decide +kernel
theorem d_V_isInStation_0 : decode b_V_isInStation 0 = .ok (.iload_n 0, 1) := by decide +kernel
theorem d_V_isInStation_1 : decode b_V_isInStation 1 = .ok (.invokestatic 86, 3) := by decide +kernel
theorem d_V_isInStation_4 : decode b_V_isInStation 4 = .ok (.ifCond .ne 17, 3) := by decide +kernel
theorem d_V_isInStation_7 : decode b_V_isInStation 7 = .ok (.iload_n 0, 1) := by decide +kernel
theorem d_V_isInStation_8 : decode b_V_isInStation 8 = .ok (.sipush 600, 3) := by decide +kernel
theorem d_V_isInStation_11 : decode b_V_isInStation 11 = .ok (.if_icmp .lt 14, 3) := by decide +kernel
theorem d_V_isInStation_14 : decode b_V_isInStation 14 = .ok (.iload_n 0, 1) := by decide +kernel
theorem d_V_isInStation_15 : decode b_V_isInStation 15 = .ok (.sipush 620, 3) := by decide +kernel
theorem d_V_isInStation_18 : decode b_V_isInStation 18 = .ok (.if_icmp .ge 7, 3) := by decide +kernel
theorem d_V_isInStation_21 : decode b_V_isInStation 21 = .ok (.iconst 1, 1) := by decide +kernel
theorem d_V_isInStation_22 : decode b_V_isInStation 22 = .ok (.goto 4, 3) := by decide +kernel
theorem d_V_isInStation_25 : decode b_V_isInStation 25 = .ok (.iconst 0, 1) := by decide +kernel
theorem d_V_isInStation_26 : decode b_V_isInStation 26 = .ok (.ireturn, 1) := by decide +kernel
theorem d_V_gapBetween_0 : decode b_V_gapBetween 0 = .ok (.iload_n 0, 1) := by decide +kernel
theorem d_V_gapBetween_1 : decode b_V_gapBetween 1 = .ok (.iload_n 1, 1) := by decide +kernel
theorem d_V_gapBetween_2 : decode b_V_gapBetween 2 = .ok (.isub, 1) := by decide +kernel
theorem d_V_gapBetween_3 : decode b_V_gapBetween 3 = .ok (.invokestatic 225, 3) := by decide +kernel
theorem d_V_gapBetween_6 : decode b_V_gapBetween 6 = .ok (.istore_n 2, 1) := by decide +kernel
theorem d_V_gapBetween_7 : decode b_V_gapBetween 7 = .ok (.iload_n 2, 1) := by decide +kernel
theorem d_V_gapBetween_8 : decode b_V_gapBetween 8 = .ok (.sipush 1200, 3) := by decide +kernel
theorem d_V_gapBetween_11 : decode b_V_gapBetween 11 = .ok (.iload_n 2, 1) := by decide +kernel
theorem d_V_gapBetween_12 : decode b_V_gapBetween 12 = .ok (.isub, 1) := by decide +kernel
theorem d_V_gapBetween_13 : decode b_V_gapBetween 13 = .ok (.invokestatic 230, 3) := by decide +kernel
theorem d_V_gapBetween_16 : decode b_V_gapBetween 16 = .ok (.ireturn, 1) := by decide +kernel
theorem d_A_low_0 : decode b_A_low 0 = .ok (.iload_n 0, 1) := by decide +kernel
theorem d_A_low_1 : decode b_A_low 1 = .ok (.ldc 7, 2) := by decide +kernel
theorem d_A_low_3 : decode b_A_low 3 = .ok (.iand, 1) := by decide +kernel
theorem d_A_low_4 : decode b_A_low 4 = .ok (.iload_n 1, 1) := by decide +kernel
theorem d_A_low_5 : decode b_A_low 5 = .ok (.irem, 1) := by decide +kernel
theorem d_A_low_6 : decode b_A_low 6 = .ok (.ireturn, 1) := by decide +kernel
theorem d_A_cell_0 : decode b_A_cell 0 = .ok (.iload_n 1, 1) := by decide +kernel
theorem d_A_cell_1 : decode b_A_cell 1 = .ok (.aload_n 0, 1) := by decide +kernel
theorem d_A_cell_2 : decode b_A_cell 2 = .ok (.arraylength, 1) := by decide +kernel
theorem d_A_cell_3 : decode b_A_cell 3 = .ok (.if_icmp .ge 9, 3) := by decide +kernel
theorem d_A_cell_6 : decode b_A_cell 6 = .ok (.aload_n 0, 1) := by decide +kernel
theorem d_A_cell_7 : decode b_A_cell 7 = .ok (.iload_n 1, 1) := by decide +kernel
theorem d_A_cell_8 : decode b_A_cell 8 = .ok (.iaload, 1) := by decide +kernel
theorem d_A_cell_9 : decode b_A_cell 9 = .ok (.goto 11, 3) := by decide +kernel
theorem d_A_cell_12 : decode b_A_cell 12 = .ok (.ldc 8, 2) := by decide +kernel
theorem d_A_cell_14 : decode b_A_cell 14 = .ok (.iload_n 1, 1) := by decide +kernel
theorem d_A_cell_15 : decode b_A_cell 15 = .ok (.imul, 1) := by decide +kernel
theorem d_A_cell_16 : decode b_A_cell 16 = .ok (.sipush 977, 3) := by decide +kernel
theorem d_A_cell_19 : decode b_A_cell 19 = .ok (.iadd, 1) := by decide +kernel
theorem d_A_cell_20 : decode b_A_cell 20 = .ok (.ireturn, 1) := by decide +kernel
theorem d_A_putOn_0 : decode b_A_putOn 0 = .ok (.aload_n 0, 1) := by decide +kernel
theorem d_A_putOn_1 : decode b_A_putOn 1 = .ok (.invokevirtual 9, 3) := by decide +kernel
theorem d_A_putOn_4 : decode b_A_putOn 4 = .ok (.ireturn, 1) := by decide +kernel
theorem d_A_putOn_5 : decode b_A_putOn 5 = .ok (.astore_n 1, 1) := by decide +kernel
theorem d_A_putOn_6 : decode b_A_putOn 6 = .ok (.bipush (-3), 2) := by decide +kernel
theorem d_A_putOn_8 : decode b_A_putOn 8 = .ok (.ireturn, 1) := by decide +kernel
theorem d_A_takeOff_0 : decode b_A_takeOff 0 = .ok (.aload_n 0, 1) := by decide +kernel
theorem d_A_takeOff_1 : decode b_A_takeOff 1 = .ok (.iload_n 1, 1) := by decide +kernel
theorem d_A_takeOff_2 : decode b_A_takeOff 2 = .ok (.invokevirtual 17, 3) := by decide +kernel
theorem d_A_takeOff_5 : decode b_A_takeOff 5 = .ok (.ireturn, 1) := by decide +kernel
theorem d_A_takeOff_6 : decode b_A_takeOff 6 = .ok (.astore_n 2, 1) := by decide +kernel
theorem d_A_takeOff_7 : decode b_A_takeOff 7 = .ok (.bipush (-3), 2) := by decide +kernel
theorem d_A_takeOff_9 : decode b_A_takeOff 9 = .ok (.ireturn, 1) := by decide +kernel
theorem d_A_takeOff_10 : decode b_A_takeOff 10 = .ok (.astore_n 2, 1) := by decide +kernel
theorem d_A_takeOff_11 : decode b_A_takeOff 11 = .ok (.bipush (-4), 2) := by decide +kernel
theorem d_A_takeOff_13 : decode b_A_takeOff 13 = .ok (.ireturn, 1) := by decide +kernel
theorem d_A_board_0 : decode b_A_board 0 = .ok (.aload_n 0, 1) := by decide +kernel
theorem d_A_board_1 : decode b_A_board 1 = .ok (.iload_n 1, 1) := by decide +kernel
theorem d_A_board_2 : decode b_A_board 2 = .ok (.iload_n 2, 1) := by decide +kernel
theorem d_A_board_3 : decode b_A_board 3 = .ok (.iload_n 3, 1) := by decide +kernel
theorem d_A_board_4 : decode b_A_board 4 = .ok (.invokevirtual 23, 3) := by decide +kernel
theorem d_A_board_7 : decode b_A_board 7 = .ok (.ireturn, 1) := by decide +kernel
theorem d_A_board_8 : decode b_A_board 8 = .ok (.astore 4, 2) := by decide +kernel
theorem d_A_board_10 : decode b_A_board 10 = .ok (.bipush (-3), 2) := by decide +kernel
theorem d_A_board_12 : decode b_A_board 12 = .ok (.ireturn, 1) := by decide +kernel
theorem d_A_board_13 : decode b_A_board 13 = .ok (.astore 4, 2) := by decide +kernel
theorem d_A_board_15 : decode b_A_board 15 = .ok (.bipush (-4), 2) := by decide +kernel
theorem d_A_board_17 : decode b_A_board 17 = .ok (.ireturn, 1) := by decide +kernel
theorem d_A_place_0 : decode b_A_place 0 = .ok (.aload_n 0, 1) := by decide +kernel
theorem d_A_place_1 : decode b_A_place 1 = .ok (.iload_n 1, 1) := by decide +kernel
theorem d_A_place_2 : decode b_A_place 2 = .ok (.invokevirtual 27, 3) := by decide +kernel
theorem d_A_place_5 : decode b_A_place 5 = .ok (.ireturn, 1) := by decide +kernel
theorem d_A_place_6 : decode b_A_place 6 = .ok (.astore_n 2, 1) := by decide +kernel
theorem d_A_place_7 : decode b_A_place 7 = .ok (.bipush (-4), 2) := by decide +kernel
theorem d_A_place_9 : decode b_A_place 9 = .ok (.ireturn, 1) := by decide +kernel
theorem d_A_bits_0 : decode b_A_bits 0 = .ok (.iconst 0, 1) := by decide +kernel
theorem d_A_bits_1 : decode b_A_bits 1 = .ok (.istore_n 1, 1) := by decide +kernel
theorem d_A_bits_2 : decode b_A_bits 2 = .ok (.iload_n 0, 1) := by decide +kernel
theorem d_A_bits_3 : decode b_A_bits 3 = .ok (.istore_n 2, 1) := by decide +kernel
theorem d_A_bits_4 : decode b_A_bits 4 = .ok (.iload_n 2, 1) := by decide +kernel
theorem d_A_bits_5 : decode b_A_bits 5 = .ok (.ifCond .eq 15, 3) := by decide +kernel
theorem d_A_bits_8 : decode b_A_bits 8 = .ok (.iinc 1 1, 3) := by decide +kernel
theorem d_A_bits_11 : decode b_A_bits 11 = .ok (.iload_n 2, 1) := by decide +kernel
theorem d_A_bits_12 : decode b_A_bits 12 = .ok (.iload_n 2, 1) := by decide +kernel
theorem d_A_bits_13 : decode b_A_bits 13 = .ok (.iconst 1, 1) := by decide +kernel
theorem d_A_bits_14 : decode b_A_bits 14 = .ok (.isub, 1) := by decide +kernel
theorem d_A_bits_15 : decode b_A_bits 15 = .ok (.iand, 1) := by decide +kernel
theorem d_A_bits_16 : decode b_A_bits 16 = .ok (.istore_n 2, 1) := by decide +kernel
theorem d_A_bits_17 : decode b_A_bits 17 = .ok (.goto (-13), 3) := by decide +kernel
theorem d_A_bits_20 : decode b_A_bits 20 = .ok (.iload_n 1, 1) := by decide +kernel
theorem d_A_bits_21 : decode b_A_bits 21 = .ok (.ireturn, 1) := by decide +kernel
theorem d_A_votes_0 : decode b_A_votes 0 = .ok (.aload_n 0, 1) := by decide +kernel
theorem d_A_votes_1 : decode b_A_votes 1 = .ok (.invokevirtual 30, 3) := by decide +kernel
theorem d_A_votes_4 : decode b_A_votes 4 = .ok (.istore_n 1, 1) := by decide +kernel
theorem d_A_votes_5 : decode b_A_votes 5 = .ok (.aload_n 0, 1) := by decide +kernel
theorem d_A_votes_6 : decode b_A_votes 6 = .ok (.invokevirtual 33, 3) := by decide +kernel
theorem d_A_votes_9 : decode b_A_votes 9 = .ok (.istore_n 2, 1) := by decide +kernel
theorem d_A_votes_10 : decode b_A_votes 10 = .ok (.iload_n 2, 1) := by decide +kernel
theorem d_A_votes_11 : decode b_A_votes 11 = .ok (.ifCond .lt 30, 3) := by decide +kernel
theorem d_A_votes_14 : decode b_A_votes 14 = .ok (.iload_n 2, 1) := by decide +kernel
theorem d_A_votes_15 : decode b_A_votes 15 = .ok (.sipush 128, 3) := by decide +kernel
theorem d_A_votes_18 : decode b_A_votes 18 = .ok (.if_icmp .ge 23, 3) := by decide +kernel
theorem d_A_votes_21 : decode b_A_votes 21 = .ok (.aload_n 0, 1) := by decide +kernel
theorem d_A_votes_22 : decode b_A_votes 22 = .ok (.invokevirtual 36, 3) := by decide +kernel
theorem d_A_votes_25 : decode b_A_votes 25 = .ok (.ifCond .lt 16, 3) := by decide +kernel
theorem d_A_votes_28 : decode b_A_votes 28 = .ok (.aload_n 0, 1) := by decide +kernel
theorem d_A_votes_29 : decode b_A_votes 29 = .ok (.invokevirtual 36, 3) := by decide +kernel
theorem d_A_votes_32 : decode b_A_votes 32 = .ok (.bipush 42, 2) := by decide +kernel
theorem d_A_votes_34 : decode b_A_votes 34 = .ok (.if_icmp .gt 7, 3) := by decide +kernel
theorem d_A_votes_37 : decode b_A_votes 37 = .ok (.iconst 1, 1) := by decide +kernel
theorem d_A_votes_38 : decode b_A_votes 38 = .ok (.goto 4, 3) := by decide +kernel
theorem d_A_votes_41 : decode b_A_votes 41 = .ok (.iconst 0, 1) := by decide +kernel
theorem d_A_votes_42 : decode b_A_votes 42 = .ok (.istore_n 3, 1) := by decide +kernel
theorem d_A_votes_43 : decode b_A_votes 43 = .ok (.iconst 0, 1) := by decide +kernel
theorem d_A_votes_44 : decode b_A_votes 44 = .ok (.istore 4, 2) := by decide +kernel
theorem d_A_votes_46 : decode b_A_votes 46 = .ok (.iload 4, 2) := by decide +kernel
theorem d_A_votes_48 : decode b_A_votes 48 = .ok (.bipush 7, 2) := by decide +kernel
theorem d_A_votes_50 : decode b_A_votes 50 = .ok (.if_icmp .ge 99, 3) := by decide +kernel
theorem d_A_votes_53 : decode b_A_votes 53 = .ok (.iload_n 3, 1) := by decide +kernel
theorem d_A_votes_54 : decode b_A_votes 54 = .ok (.ifCond .eq 95, 3) := by decide +kernel
theorem d_A_votes_57 : decode b_A_votes 57 = .ok (.aload_n 0, 1) := by decide +kernel
theorem d_A_votes_58 : decode b_A_votes 58 = .ok (.iload 4, 2) := by decide +kernel
theorem d_A_votes_60 : decode b_A_votes 60 = .ok (.invokevirtual 39, 3) := by decide +kernel
theorem d_A_votes_63 : decode b_A_votes 63 = .ok (.istore 5, 2) := by decide +kernel
theorem d_A_votes_65 : decode b_A_votes 65 = .ok (.aload_n 0, 1) := by decide +kernel
theorem d_A_votes_66 : decode b_A_votes 66 = .ok (.iload 4, 2) := by decide +kernel
theorem d_A_votes_68 : decode b_A_votes 68 = .ok (.invokevirtual 42, 3) := by decide +kernel
theorem d_A_votes_71 : decode b_A_votes 71 = .ok (.istore 6, 2) := by decide +kernel
theorem d_A_votes_73 : decode b_A_votes 73 = .ok (.iload 5, 2) := by decide +kernel
theorem d_A_votes_75 : decode b_A_votes 75 = .ok (.iconst (-1), 1) := by decide +kernel
theorem d_A_votes_76 : decode b_A_votes 76 = .ok (.if_icmp .ne 7, 3) := by decide +kernel
theorem d_A_votes_79 : decode b_A_votes 79 = .ok (.iconst 1, 1) := by decide +kernel
theorem d_A_votes_80 : decode b_A_votes 80 = .ok (.goto 4, 3) := by decide +kernel
theorem d_A_votes_83 : decode b_A_votes 83 = .ok (.iconst 0, 1) := by decide +kernel
theorem d_A_votes_84 : decode b_A_votes 84 = .ok (.iload 6, 2) := by decide +kernel
theorem d_A_votes_86 : decode b_A_votes 86 = .ok (.iconst (-1), 1) := by decide +kernel
theorem d_A_votes_87 : decode b_A_votes 87 = .ok (.if_icmp .ne 7, 3) := by decide +kernel
theorem d_A_votes_90 : decode b_A_votes 90 = .ok (.iconst 1, 1) := by decide +kernel
theorem d_A_votes_91 : decode b_A_votes 91 = .ok (.goto 4, 3) := by decide +kernel
theorem d_A_votes_94 : decode b_A_votes 94 = .ok (.iconst 0, 1) := by decide +kernel
theorem d_A_votes_95 : decode b_A_votes 95 = .ok (.if_icmp .ne 46, 3) := by decide +kernel
theorem d_A_votes_98 : decode b_A_votes 98 = .ok (.iload 5, 2) := by decide +kernel
theorem d_A_votes_100 : decode b_A_votes 100 = .ok (.iload_n 1, 1) := by decide +kernel
theorem d_A_votes_101 : decode b_A_votes 101 = .ok (.if_icmp .gt 40, 3) := by decide +kernel
theorem d_A_votes_104 : decode b_A_votes 104 = .ok (.iload 6, 2) := by decide +kernel
theorem d_A_votes_106 : decode b_A_votes 106 = .ok (.iconst 3, 1) := by decide +kernel
theorem d_A_votes_107 : decode b_A_votes 107 = .ok (.if_icmp .ge 34, 3) := by decide +kernel
theorem d_A_votes_110 : decode b_A_votes 110 = .ok (.iload_n 2, 1) := by decide +kernel
theorem d_A_votes_111 : decode b_A_votes 111 = .ok (.iload 4, 2) := by decide +kernel
theorem d_A_votes_113 : decode b_A_votes 113 = .ok (.ishr, 1) := by decide +kernel
theorem d_A_votes_114 : decode b_A_votes 114 = .ok (.iconst 1, 1) := by decide +kernel
theorem d_A_votes_115 : decode b_A_votes 115 = .ok (.iand, 1) := by decide +kernel
theorem d_A_votes_116 : decode b_A_votes 116 = .ok (.iload 5, 2) := by decide +kernel
theorem d_A_votes_118 : decode b_A_votes 118 = .ok (.ifCond .le 15, 3) := by decide +kernel
theorem d_A_votes_121 : decode b_A_votes 121 = .ok (.iload_n 1, 1) := by decide +kernel
theorem d_A_votes_122 : decode b_A_votes 122 = .ok (.iload 5, 2) := by decide +kernel
theorem d_A_votes_124 : decode b_A_votes 124 = .ok (.isub, 1) := by decide +kernel
theorem d_A_votes_125 : decode b_A_votes 125 = .ok (.iconst 4, 1) := by decide +kernel
theorem d_A_votes_126 : decode b_A_votes 126 = .ok (.if_icmp .ge 7, 3) := by decide +kernel
theorem d_A_votes_129 : decode b_A_votes 129 = .ok (.iconst 1, 1) := by decide +kernel
theorem d_A_votes_130 : decode b_A_votes 130 = .ok (.goto 4, 3) := by decide +kernel
theorem d_A_votes_133 : decode b_A_votes 133 = .ok (.iconst 0, 1) := by decide +kernel
theorem d_A_votes_134 : decode b_A_votes 134 = .ok (.if_icmp .ne 7, 3) := by decide +kernel
theorem d_A_votes_137 : decode b_A_votes 137 = .ok (.iconst 1, 1) := by decide +kernel
theorem d_A_votes_138 : decode b_A_votes 138 = .ok (.goto 4, 3) := by decide +kernel
theorem d_A_votes_141 : decode b_A_votes 141 = .ok (.iconst 0, 1) := by decide +kernel
theorem d_A_votes_142 : decode b_A_votes 142 = .ok (.istore_n 3, 1) := by decide +kernel
theorem d_A_votes_143 : decode b_A_votes 143 = .ok (.iinc 4 1, 3) := by decide +kernel
theorem d_A_votes_146 : decode b_A_votes 146 = .ok (.goto (-100), 3) := by decide +kernel
theorem d_A_votes_149 : decode b_A_votes 149 = .ok (.iload_n 3, 1) := by decide +kernel
theorem d_A_votes_150 : decode b_A_votes 150 = .ok (.ifCond .eq 38, 3) := by decide +kernel
theorem d_A_votes_153 : decode b_A_votes 153 = .ok (.iload_n 1, 1) := by decide +kernel
theorem d_A_votes_154 : decode b_A_votes 154 = .ok (.ifCond .eq 30, 3) := by decide +kernel
theorem d_A_votes_157 : decode b_A_votes 157 = .ok (.aload_n 0, 1) := by decide +kernel
theorem d_A_votes_158 : decode b_A_votes 158 = .ok (.iload_n 1, 1) := by decide +kernel
theorem d_A_votes_159 : decode b_A_votes 159 = .ok (.invokevirtual 45, 3) := by decide +kernel
theorem d_A_votes_162 : decode b_A_votes 162 = .ok (.bipush 10, 2) := by decide +kernel
theorem d_A_votes_164 : decode b_A_votes 164 = .ok (.idiv, 1) := by decide +kernel
theorem d_A_votes_165 : decode b_A_votes 165 = .ok (.iload_n 2, 1) := by decide +kernel
theorem d_A_votes_166 : decode b_A_votes 166 = .ok (.invokestatic 48, 3) := by decide +kernel
theorem d_A_votes_169 : decode b_A_votes 169 = .ok (.if_icmp .ne 19, 3) := by decide +kernel
theorem d_A_votes_172 : decode b_A_votes 172 = .ok (.aload_n 0, 1) := by decide +kernel
theorem d_A_votes_173 : decode b_A_votes 173 = .ok (.iload_n 1, 1) := by decide +kernel
theorem d_A_votes_174 : decode b_A_votes 174 = .ok (.invokevirtual 45, 3) := by decide +kernel
theorem d_A_votes_177 : decode b_A_votes 177 = .ok (.bipush 10, 2) := by decide +kernel
theorem d_A_votes_179 : decode b_A_votes 179 = .ok (.irem, 1) := by decide +kernel
theorem d_A_votes_180 : decode b_A_votes 180 = .ok (.iconst 3, 1) := by decide +kernel
theorem d_A_votes_181 : decode b_A_votes 181 = .ok (.if_icmp .ge 7, 3) := by decide +kernel
theorem d_A_votes_184 : decode b_A_votes 184 = .ok (.iconst 1, 1) := by decide +kernel
theorem d_A_votes_185 : decode b_A_votes 185 = .ok (.goto 4, 3) := by decide +kernel
theorem d_A_votes_188 : decode b_A_votes 188 = .ok (.iconst 0, 1) := by decide +kernel
theorem d_A_votes_189 : decode b_A_votes 189 = .ok (.ireturn, 1) := by decide +kernel
theorem d_A_cars_0 : decode b_A_cars 0 = .ok (.iconst 0, 1) := by decide +kernel
theorem d_A_cars_1 : decode b_A_cars 1 = .ok (.istore_n 2, 1) := by decide +kernel
theorem d_A_cars_2 : decode b_A_cars 2 = .ok (.iconst 1, 1) := by decide +kernel
theorem d_A_cars_3 : decode b_A_cars 3 = .ok (.istore_n 3, 1) := by decide +kernel
theorem d_A_cars_4 : decode b_A_cars 4 = .ok (.iconst 0, 1) := by decide +kernel
theorem d_A_cars_5 : decode b_A_cars 5 = .ok (.istore 4, 2) := by decide +kernel
theorem d_A_cars_7 : decode b_A_cars 7 = .ok (.iload 4, 2) := by decide +kernel
theorem d_A_cars_9 : decode b_A_cars 9 = .ok (.iload_n 1, 1) := by decide +kernel
theorem d_A_cars_10 : decode b_A_cars 10 = .ok (.if_icmp .ge 93, 3) := by decide +kernel
theorem d_A_cars_13 : decode b_A_cars 13 = .ok (.iload_n 3, 1) := by decide +kernel
theorem d_A_cars_14 : decode b_A_cars 14 = .ok (.ifCond .eq 89, 3) := by decide +kernel
theorem d_A_cars_17 : decode b_A_cars 17 = .ok (.aload_n 0, 1) := by decide +kernel
theorem d_A_cars_18 : decode b_A_cars 18 = .ok (.iload 4, 2) := by decide +kernel
theorem d_A_cars_20 : decode b_A_cars 20 = .ok (.invokestatic 53, 3) := by decide +kernel
theorem d_A_cars_23 : decode b_A_cars 23 = .ok (.istore 5, 2) := by decide +kernel
theorem d_A_cars_25 : decode b_A_cars 25 = .ok (.iload_n 2, 1) := by decide +kernel
theorem d_A_cars_26 : decode b_A_cars 26 = .ok (.iload 5, 2) := by decide +kernel
theorem d_A_cars_28 : decode b_A_cars 28 = .ok (.bipush (-4), 2) := by decide +kernel
theorem d_A_cars_30 : decode b_A_cars 30 = .ok (.if_icmp .ne 7, 3) := by decide +kernel
theorem d_A_cars_33 : decode b_A_cars 33 = .ok (.iconst 0, 1) := by decide +kernel
theorem d_A_cars_34 : decode b_A_cars 34 = .ok (.goto 4, 3) := by decide +kernel
theorem d_A_cars_37 : decode b_A_cars 37 = .ok (.iconst 1, 1) := by decide +kernel
theorem d_A_cars_38 : decode b_A_cars 38 = .ok (.iadd, 1) := by decide +kernel
theorem d_A_cars_39 : decode b_A_cars 39 = .ok (.istore_n 2, 1) := by decide +kernel
theorem d_A_cars_40 : decode b_A_cars 40 = .ok (.iload 5, 2) := by decide +kernel
theorem d_A_cars_42 : decode b_A_cars 42 = .ok (.bipush (-4), 2) := by decide +kernel
theorem d_A_cars_44 : decode b_A_cars 44 = .ok (.if_icmp .eq 47, 3) := by decide +kernel
theorem d_A_cars_47 : decode b_A_cars 47 = .ok (.iload 5, 2) := by decide +kernel
theorem d_A_cars_49 : decode b_A_cars 49 = .ok (.aload_n 0, 1) := by decide +kernel
theorem d_A_cars_50 : decode b_A_cars 50 = .ok (.iload 4, 2) := by decide +kernel
theorem d_A_cars_52 : decode b_A_cars 52 = .ok (.invokevirtual 56, 3) := by decide +kernel
theorem d_A_cars_55 : decode b_A_cars 55 = .ok (.if_icmp .ne 40, 3) := by decide +kernel
theorem d_A_cars_58 : decode b_A_cars 58 = .ok (.iload 5, 2) := by decide +kernel
theorem d_A_cars_60 : decode b_A_cars 60 = .ok (.ifCond .lt 35, 3) := by decide +kernel
theorem d_A_cars_63 : decode b_A_cars 63 = .ok (.iload 5, 2) := by decide +kernel
theorem d_A_cars_65 : decode b_A_cars 65 = .ok (.sipush 1200, 3) := by decide +kernel
theorem d_A_cars_68 : decode b_A_cars 68 = .ok (.if_icmp .ge 27, 3) := by decide +kernel
theorem d_A_cars_71 : decode b_A_cars 71 = .ok (.aload_n 0, 1) := by decide +kernel
theorem d_A_cars_72 : decode b_A_cars 72 = .ok (.iload 4, 2) := by decide +kernel
theorem d_A_cars_74 : decode b_A_cars 74 = .ok (.invokevirtual 59, 3) := by decide +kernel
theorem d_A_cars_77 : decode b_A_cars 77 = .ok (.ifCond .lt 18, 3) := by decide +kernel
theorem d_A_cars_80 : decode b_A_cars 80 = .ok (.aload_n 0, 1) := by decide +kernel
theorem d_A_cars_81 : decode b_A_cars 81 = .ok (.iload 4, 2) := by decide +kernel
theorem d_A_cars_83 : decode b_A_cars 83 = .ok (.invokevirtual 59, 3) := by decide +kernel
theorem d_A_cars_86 : decode b_A_cars 86 = .ok (.bipush 9, 2) := by decide +kernel
theorem d_A_cars_88 : decode b_A_cars 88 = .ok (.if_icmp .ge 7, 3) := by decide +kernel
theorem d_A_cars_91 : decode b_A_cars 91 = .ok (.iconst 1, 1) := by decide +kernel
theorem d_A_cars_92 : decode b_A_cars 92 = .ok (.goto 4, 3) := by decide +kernel
theorem d_A_cars_95 : decode b_A_cars 95 = .ok (.iconst 0, 1) := by decide +kernel
theorem d_A_cars_96 : decode b_A_cars 96 = .ok (.istore_n 3, 1) := by decide +kernel
theorem d_A_cars_97 : decode b_A_cars 97 = .ok (.iinc 4 1, 3) := by decide +kernel
theorem d_A_cars_100 : decode b_A_cars 100 = .ok (.goto (-93), 3) := by decide +kernel
theorem d_A_cars_103 : decode b_A_cars 103 = .ok (.iload_n 3, 1) := by decide +kernel
theorem d_A_cars_104 : decode b_A_cars 104 = .ok (.ifCond .eq 40, 3) := by decide +kernel
theorem d_A_cars_107 : decode b_A_cars 107 = .ok (.aload_n 0, 1) := by decide +kernel
theorem d_A_cars_108 : decode b_A_cars 108 = .ok (.invokevirtual 62, 3) := by decide +kernel
theorem d_A_cars_111 : decode b_A_cars 111 = .ok (.iload_n 2, 1) := by decide +kernel
theorem d_A_cars_112 : decode b_A_cars 112 = .ok (.if_icmp .ne 32, 3) := by decide +kernel
theorem d_A_cars_115 : decode b_A_cars 115 = .ok (.iload_n 2, 1) := by decide +kernel
theorem d_A_cars_116 : decode b_A_cars 116 = .ok (.iconst 1, 1) := by decide +kernel
theorem d_A_cars_117 : decode b_A_cars 117 = .ok (.if_icmp .le 15, 3) := by decide +kernel
theorem d_A_cars_120 : decode b_A_cars 120 = .ok (.aload_n 0, 1) := by decide +kernel
theorem d_A_cars_121 : decode b_A_cars 121 = .ok (.invokevirtual 65, 3) := by decide +kernel
theorem d_A_cars_124 : decode b_A_cars 124 = .ok (.bipush 60, 2) := by decide +kernel
theorem d_A_cars_126 : decode b_A_cars 126 = .ok (.if_icmp .lt 18, 3) := by decide +kernel
theorem d_A_cars_129 : decode b_A_cars 129 = .ok (.goto 11, 3) := by decide +kernel
theorem d_A_cars_132 : decode b_A_cars 132 = .ok (.aload_n 0, 1) := by decide +kernel
theorem d_A_cars_133 : decode b_A_cars 133 = .ok (.invokevirtual 65, 3) := by decide +kernel
theorem d_A_cars_136 : decode b_A_cars 136 = .ok (.iconst (-1), 1) := by decide +kernel
theorem d_A_cars_137 : decode b_A_cars 137 = .ok (.if_icmp .ne 7, 3) := by decide +kernel
theorem d_A_cars_140 : decode b_A_cars 140 = .ok (.iconst 1, 1) := by decide +kernel
theorem d_A_cars_141 : decode b_A_cars 141 = .ok (.goto 4, 3) := by decide +kernel
theorem d_A_cars_144 : decode b_A_cars 144 = .ok (.iconst 0, 1) := by decide +kernel
theorem d_A_cars_145 : decode b_A_cars 145 = .ok (.ireturn, 1) := by decide +kernel
theorem d_J_bitCount_0 : decode b_J_bitCount 0 = .ok (.iload_n 0, 1) := by decide +kernel
theorem d_J_bitCount_1 : decode b_J_bitCount 1 = .ok (.iload_n 0, 1) := by decide +kernel
theorem d_J_bitCount_2 : decode b_J_bitCount 2 = .ok (.iconst 1, 1) := by decide +kernel
theorem d_J_bitCount_3 : decode b_J_bitCount 3 = .ok (.iushr, 1) := by decide +kernel
theorem d_J_bitCount_4 : decode b_J_bitCount 4 = .ok (.ldc_w 265, 3) := by decide +kernel
theorem d_J_bitCount_7 : decode b_J_bitCount 7 = .ok (.iand, 1) := by decide +kernel
theorem d_J_bitCount_8 : decode b_J_bitCount 8 = .ok (.isub, 1) := by decide +kernel
theorem d_J_bitCount_9 : decode b_J_bitCount 9 = .ok (.istore_n 0, 1) := by decide +kernel
theorem d_J_bitCount_10 : decode b_J_bitCount 10 = .ok (.iload_n 0, 1) := by decide +kernel
theorem d_J_bitCount_11 : decode b_J_bitCount 11 = .ok (.ldc_w 266, 3) := by decide +kernel
theorem d_J_bitCount_14 : decode b_J_bitCount 14 = .ok (.iand, 1) := by decide +kernel
theorem d_J_bitCount_15 : decode b_J_bitCount 15 = .ok (.iload_n 0, 1) := by decide +kernel
theorem d_J_bitCount_16 : decode b_J_bitCount 16 = .ok (.iconst 2, 1) := by decide +kernel
theorem d_J_bitCount_17 : decode b_J_bitCount 17 = .ok (.iushr, 1) := by decide +kernel
theorem d_J_bitCount_18 : decode b_J_bitCount 18 = .ok (.ldc_w 266, 3) := by decide +kernel
theorem d_J_bitCount_21 : decode b_J_bitCount 21 = .ok (.iand, 1) := by decide +kernel
theorem d_J_bitCount_22 : decode b_J_bitCount 22 = .ok (.iadd, 1) := by decide +kernel
theorem d_J_bitCount_23 : decode b_J_bitCount 23 = .ok (.istore_n 0, 1) := by decide +kernel
theorem d_J_bitCount_24 : decode b_J_bitCount 24 = .ok (.iload_n 0, 1) := by decide +kernel
theorem d_J_bitCount_25 : decode b_J_bitCount 25 = .ok (.iload_n 0, 1) := by decide +kernel
theorem d_J_bitCount_26 : decode b_J_bitCount 26 = .ok (.iconst 4, 1) := by decide +kernel
theorem d_J_bitCount_27 : decode b_J_bitCount 27 = .ok (.iushr, 1) := by decide +kernel
theorem d_J_bitCount_28 : decode b_J_bitCount 28 = .ok (.iadd, 1) := by decide +kernel
theorem d_J_bitCount_29 : decode b_J_bitCount 29 = .ok (.ldc_w 267, 3) := by decide +kernel
theorem d_J_bitCount_32 : decode b_J_bitCount 32 = .ok (.iand, 1) := by decide +kernel
theorem d_J_bitCount_33 : decode b_J_bitCount 33 = .ok (.istore_n 0, 1) := by decide +kernel
theorem d_J_bitCount_34 : decode b_J_bitCount 34 = .ok (.iload_n 0, 1) := by decide +kernel
theorem d_J_bitCount_35 : decode b_J_bitCount 35 = .ok (.iload_n 0, 1) := by decide +kernel
theorem d_J_bitCount_36 : decode b_J_bitCount 36 = .ok (.bipush 8, 2) := by decide +kernel
theorem d_J_bitCount_38 : decode b_J_bitCount 38 = .ok (.iushr, 1) := by decide +kernel
theorem d_J_bitCount_39 : decode b_J_bitCount 39 = .ok (.iadd, 1) := by decide +kernel
theorem d_J_bitCount_40 : decode b_J_bitCount 40 = .ok (.istore_n 0, 1) := by decide +kernel
theorem d_J_bitCount_41 : decode b_J_bitCount 41 = .ok (.iload_n 0, 1) := by decide +kernel
theorem d_J_bitCount_42 : decode b_J_bitCount 42 = .ok (.iload_n 0, 1) := by decide +kernel
theorem d_J_bitCount_43 : decode b_J_bitCount 43 = .ok (.bipush 16, 2) := by decide +kernel
theorem d_J_bitCount_45 : decode b_J_bitCount 45 = .ok (.iushr, 1) := by decide +kernel
theorem d_J_bitCount_46 : decode b_J_bitCount 46 = .ok (.iadd, 1) := by decide +kernel
theorem d_J_bitCount_47 : decode b_J_bitCount 47 = .ok (.istore_n 0, 1) := by decide +kernel
theorem d_J_bitCount_48 : decode b_J_bitCount 48 = .ok (.iload_n 0, 1) := by decide +kernel
theorem d_J_bitCount_49 : decode b_J_bitCount 49 = .ok (.bipush 63, 2) := by decide +kernel
theorem d_J_bitCount_51 : decode b_J_bitCount 51 = .ok (.iand, 1) := by decide +kernel
theorem d_J_bitCount_52 : decode b_J_bitCount 52 = .ok (.ireturn, 1) := by decide +kernel
theorem d_J_floorMod_0 : decode b_J_floorMod 0 = .ok (.iload_n 0, 1) := by decide +kernel
theorem d_J_floorMod_1 : decode b_J_floorMod 1 = .ok (.iload_n 1, 1) := by decide +kernel
theorem d_J_floorMod_2 : decode b_J_floorMod 2 = .ok (.irem, 1) := by decide +kernel
theorem d_J_floorMod_3 : decode b_J_floorMod 3 = .ok (.istore_n 2, 1) := by decide +kernel
theorem d_J_floorMod_4 : decode b_J_floorMod 4 = .ok (.iload_n 0, 1) := by decide +kernel
theorem d_J_floorMod_5 : decode b_J_floorMod 5 = .ok (.iload_n 1, 1) := by decide +kernel
theorem d_J_floorMod_6 : decode b_J_floorMod 6 = .ok (.ixor, 1) := by decide +kernel
theorem d_J_floorMod_7 : decode b_J_floorMod 7 = .ok (.ifCond .ge 11, 3) := by decide +kernel
theorem d_J_floorMod_10 : decode b_J_floorMod 10 = .ok (.iload_n 2, 1) := by decide +kernel
theorem d_J_floorMod_11 : decode b_J_floorMod 11 = .ok (.ifCond .eq 7, 3) := by decide +kernel
theorem d_J_floorMod_14 : decode b_J_floorMod 14 = .ok (.iload_n 2, 1) := by decide +kernel
theorem d_J_floorMod_15 : decode b_J_floorMod 15 = .ok (.iload_n 1, 1) := by decide +kernel
theorem d_J_floorMod_16 : decode b_J_floorMod 16 = .ok (.iadd, 1) := by decide +kernel
theorem d_J_floorMod_17 : decode b_J_floorMod 17 = .ok (.ireturn, 1) := by decide +kernel
theorem d_J_floorMod_18 : decode b_J_floorMod 18 = .ok (.iload_n 2, 1) := by decide +kernel
theorem d_J_floorMod_19 : decode b_J_floorMod 19 = .ok (.ireturn, 1) := by decide +kernel
