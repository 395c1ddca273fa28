def RL : String := "RoomsByThreeLaw"
def m_X0_init : sM := (⟨RX0, "<init>", "(LRoomsByThree$House;)V"⟩, prog_2_method_1_code, 2, none)
def m_X0_hireAll : sM := (⟨RX0, "hireAll", "()V"⟩, prog_2_method_2_code, 2, none)
def m_X0_hireLike : sM := (⟨RX0, "hireLike", "([I)V"⟩, prog_2_method_3_code, 2, none)
def m_X0_sendAway : sM := (⟨RX0, "sendAway", "(I)V"⟩, prog_2_method_4_code, 2, none)
def m_X0_open : sM := (⟨RX0, "open", "(I)V"⟩, prog_2_method_5_code, 3, none)
def m_X0_plan : sM := (⟨RX0, "plan", "(LRoomsByThree$Rule;[II)V"⟩, prog_2_method_6_code, 4, none)
def m_X0_planList : sM := (⟨RX0, "planList", "([I)V"⟩, prog_2_method_7_code, 4, none)
def m_X0_soonestFor : sM := (⟨RX0, "soonestFor", "(I)I"⟩, prog_2_method_8_code, 6, some .int)
def m_X0_readyBy : sM := (⟨RX0, "readyBy", "(II)I"⟩, prog_2_method_9_code, 6, some .int)
def m_X0_assign : sM := (⟨RX0, "assign", "(II)V"⟩, prog_2_method_10_code, 4, none)
def m_X0_takeBack : sM := (⟨RX0, "takeBack", "(IIII)V"⟩, prog_2_method_11_code, 5, none)
def m_X0_planFloors : sM := (⟨RX0, "planFloors", "()V"⟩, prog_2_method_12_code, 5, none)
def m_X0_nearestAtFirst : sM := (⟨RX0, "nearestAtFirst", "(I)I"⟩, prog_2_method_13_code, 6, some .int)
def m_X0_planFree : sM := (⟨RX0, "planFree", "(I)V"⟩, prog_2_method_14_code, 6, none)
def m_X0_freeFirst : sM := (⟨RX0, "freeFirst", "()I"⟩, prog_2_method_15_code, 3, some .int)
def m_X0_chosenBy : sM := (⟨RX0, "chosenBy", "(II)I"⟩, prog_2_method_16_code, 9, some .int)
def m_X0_nextGone : sM := (⟨RX0, "nextGone", "(I)I"⟩, prog_2_method_17_code, 4, some .int)
def m_X0_planTold : sM := (⟨RX0, "planTold", "(LRoomsByThree$Rule;)V"⟩, prog_2_method_18_code, 5, none)
def m_X1_init : sM := (⟨RX1, "<init>", "(LRoomsByThree$House;)V"⟩, prog_3_method_1_code, 2, none)
def m_X1_give : sM := (⟨RX1, "give", "([II)I"⟩, prog_3_method_2_code, 3, some .int)
def m_X1_waitOf : sM := (⟨RX1, "waitOf", "([II)I"⟩, prog_3_method_3_code, 5, some .int)
def m_X1_giveAsTheyCome : sM := (⟨RX1, "giveAsTheyCome", "([I)I"⟩, prog_3_method_4_code, 11, some .int)
def m_X1_giveWisely : sM := (⟨RX1, "giveWisely", "([I)I"⟩, prog_3_method_5_code, 3, some .int)
def m_X2_init : sM := (⟨RX2, "<init>", "()V"⟩, prog_4_method_1_code, 1, none)
def m_X2_clear : sM := (⟨RX2, "clear", "()V"⟩, prog_4_method_2_code, 1, none)
def m_X2_settle : sM := (⟨RX2, "settle", "()V"⟩, prog_4_method_3_code, 3, none)
def m_X2_fits : sM := (⟨RX2, "fits", "(II)Z"⟩, prog_4_method_4_code, 4, some .boolean)
def m_X2_queue : sM := (⟨RX2, "queue", "(I)V"⟩, prog_4_method_5_code, 3, none)
def m_X2_wayCount : sM := (⟨RX2, "wayCount", "()I"⟩, prog_4_method_6_code, 1, some .int)
def m_X2_whole : sM := (⟨RX2, "whole", "()I"⟩, prog_4_method_7_code, 3, some .int)
def m_X2_chanceOf : sM := (⟨RX2, "chanceOf", "(I)I"⟩, prog_4_method_8_code, 6, some .int)
def m_X2_bitOf : sM := (⟨RX2, "bitOf", "(I)I"⟩, prog_4_method_9_code, 3, some .int)
def m_X2_isByChance : sM := (⟨RX2, "isByChance", "(I)Z"⟩, prog_4_method_10_code, 2, some .boolean)
def m_X2_goneBy : sM := (⟨RX2, "goneBy", "(II)I"⟩, prog_4_method_11_code, 5, some .int)
def m_X2_lateCount : sM := (⟨RX2, "lateCount", "()I"⟩, prog_4_method_12_code, 3, some .int)
def m_X3_init : sM := (⟨RX3, "<init>", "(LRoomsByThree$House;)V"⟩, prog_5_method_1_code, 2, none)
def m_X3_begin : sM := (⟨RX3, "begin", "()V"⟩, prog_5_method_2_code, 2, none)
def m_X3_keep : sM := (⟨RX3, "keep", "(I)V"⟩, prog_5_method_3_code, 2, none)
def m_X3_add : sM := (⟨RX3, "add", "(III)V"⟩, prog_5_method_4_code, 5, none)
def m_X3_weigh : sM := (⟨RX3, "weigh", "(II)V"⟩, prog_5_method_5_code, 6, none)
def m_X3_cheapestEnd : sM := (⟨RX3, "cheapestEnd", "(II)I"⟩, prog_5_method_6_code, 12, some .int)
def m_X3_reprice : sM := (⟨RX3, "reprice", "(III)V"⟩, prog_5_method_7_code, 7, none)
def m_X3_moveAlong : sM := (⟨RX3, "moveAlong", "(III)V"⟩, prog_5_method_8_code, 6, none)
def m_X3_roomFor : sM := (⟨RX3, "roomFor", "(II)I"⟩, prog_5_method_9_code, 4, some .int)
def m_X3_savedAt : sM := (⟨RX3, "savedAt", "(I)I"⟩, prog_5_method_10_code, 5, some .int)
def m_X4_init : sM := (⟨RX4, "<init>", "(LRoomsByThree$House;LRoomsByThree$Crew;LRoomsByThree$Desk;)V"⟩, prog_6_method_1_code, 4, none)
def m_X4_forget : sM := (⟨RX4, "forget", "()V"⟩, prog_6_method_2_code, 1, none)
def m_X4_orderFor : sM := (⟨RX4, "orderFor", "(II)[I"⟩, prog_6_method_3_code, 3, some (.array .int))
def m_X4_weighAll : sM := (⟨RX4, "weighAll", "(I)V"⟩, prog_6_method_4_code, 3, none)
def m_X4_walk : sM := (⟨RX4, "walk", "(II[I)V"⟩, prog_6_method_5_code, 8, none)
def m_X4_leastOf : sM := (⟨RX4, "leastOf", "(II)I"⟩, prog_6_method_6_code, 7, some .int)
def m_X4_sumOf : sM := (⟨RX4, "sumOf", "(III)I"⟩, prog_6_method_7_code, 6, some .int)
def m_X4_worthOf : sM := (⟨RX4, "worthOf", "(I)I"⟩, prog_6_method_8_code, 6, some .int)
def m_X4_spellOut : sM := (⟨RX4, "spellOut", "(I[II)V"⟩, prog_6_method_9_code, 9, none)
def m_X5_init : sM := (⟨RX5, "<init>", "()V"⟩, prog_7_method_1_code, 1, none)
def m_X5_lettersIn : sM := (⟨RX5, "lettersIn", "(J)I"⟩, prog_7_method_2_code, 6, some .int)
def m_X5_append : sM := (⟨RX5, "append", "(JI)V"⟩, prog_7_method_3_code, 5, none)
def m_X5_readHouse : sM := (⟨RX5, "readHouse", "(LRoomsByThree$House;)Z"⟩, prog_7_method_4_code, 2, some .boolean)
def m_X5_readRooms : sM := (⟨RX5, "readRooms", "(LRoomsByThree$House;)V"⟩, prog_7_method_5_code, 3, none)
def m_X5_readRoom : sM := (⟨RX5, "readRoom", "(LRoomsByThree$House;I)V"⟩, prog_7_method_6_code, 4, none)
def m_X5_readWomen : sM := (⟨RX5, "readWomen", "(LRoomsByThree$House;)V"⟩, prog_7_method_7_code, 4, none)
def m_X5_readGuests : sM := (⟨RX5, "readGuests", "(LRoomsByThree$House;)V"⟩, prog_7_method_8_code, 4, none)
def m_X5_readTold : sM := (⟨RX5, "readTold", "()Z"⟩, prog_7_method_9_code, 4, some .boolean)
def m_X5_toldRooms : sM := (⟨RX5, "toldRooms", "()[I"⟩, prog_7_method_10_code, 1, some (.array .int))
def m_X5_toldWomen : sM := (⟨RX5, "toldWomen", "()[I"⟩, prog_7_method_11_code, 1, some (.array .int))
def m_X5_cutToTold : sM := (⟨RX5, "cutToTold", "([I)[I"⟩, prog_7_method_12_code, 4, some (.array .int))
def m_X5_takes : sM := (⟨RX5, "takes", "(C)Z"⟩, prog_7_method_13_code, 2, some .boolean)
def m_X5_needs : sM := (⟨RX5, "needs", "(C)V"⟩, prog_7_method_14_code, 2, none)
def m_X5_needsAnother : sM := (⟨RX5, "needsAnother", "(Z)V"⟩, prog_7_method_15_code, 2, none)
def m_X5_digitHere : sM := (⟨RX5, "digitHere", "()I"⟩, prog_7_method_16_code, 2, some .int)
def m_X5_digit : sM := (⟨RX5, "digit", "(II)I"⟩, prog_7_method_17_code, 4, some .int)
def m_X5_sort : sM := (⟨RX5, "sort", "()I"⟩, prog_7_method_18_code, 2, some .int)
def m_X5_number : sM := (⟨RX5, "number", "(II)I"⟩, prog_7_method_19_code, 8, some .int)
def m_X6_init : sM := (⟨RX6, "<init>", "(II[I[I)V"⟩, prog_8_method_1_code, 5, none)
def m_X6_isA : sM := (⟨RX6, "isA", "(I)Z"⟩, prog_8_method_2_code, 3, some .boolean)
def m_X7_init : sM := (⟨RX7, "<init>", "()V"⟩, prog_1_method_1_code, 1, none)
def m_X7_letters : sM := (⟨RX7, "letters", "(J)I"⟩, prog_1_method_2_code, 4, some .int)
def m_X7_blank : sM := (⟨RX7, "blank", "()I"⟩, prog_1_method_3_code, 2, some .int)
def m_X7_fault : sM := (⟨RX7, "fault", "(I)I"⟩, prog_1_method_4_code, 2, some .int)
def m_X7_house : sM := (⟨RX7, "house", "()I"⟩, prog_1_method_5_code, 1, some .int)
def m_X7_tell : sM := (⟨RX7, "tell", "()I"⟩, prog_1_method_6_code, 2, some .int)
def m_X7_rule : sM := (⟨RX7, "rule", "(II)I"⟩, prog_1_method_7_code, 3, some .int)
def m_X7_as : sM := (⟨RX7, "as", "(II)I"⟩, prog_1_method_8_code, 3, some .int)
def m_X7_room : sM := (⟨RX7, "room", "(II)I"⟩, prog_1_method_9_code, 3, some .int)
def m_X7_woman : sM := (⟨RX7, "woman", "(II)I"⟩, prog_1_method_10_code, 3, some .int)
def m_X7_guest : sM := (⟨RX7, "guest", "(II)I"⟩, prog_1_method_11_code, 3, some .int)
def m_X7_late : sM := (⟨RX7, "late", "(II)I"⟩, prog_1_method_12_code, 4, some .int)
def m_X7_lift : sM := (⟨RX7, "lift", "(I)I"⟩, prog_1_method_13_code, 3, some .int)
def m_X7_gone : sM := (⟨RX7, "gone", "(II)I"⟩, prog_1_method_14_code, 3, some .int)
def m_X7_done : sM := (⟨RX7, "done", "(IIII)I"⟩, prog_1_method_15_code, 6, some .int)
def m_X7_given : sM := (⟨RX7, "given", "(IIIII)I"⟩, prog_1_method_16_code, 8, some .int)
def m_X7_cost : sM := (⟨RX7, "cost", "(III)I"⟩, prog_1_method_17_code, 6, some .int)
def m_X7_mean : sM := (⟨RX7, "mean", "(III)I"⟩, prog_1_method_18_code, 5, some .int)
def m_X7_worst : sM := (⟨RX7, "worst", "(III)I"⟩, prog_1_method_19_code, 11, some .int)
def m_X7_sure : sM := (⟨RX7, "sure", "(IIIII)I"⟩, prog_1_method_20_code, 7, some .int)
def m_X7_tells : sM := (⟨RX7, "tells", "(IIII)I"⟩, prog_1_method_21_code, 7, some .int)
def m_X7_run : sM := (⟨RX7, "run", "(IIII)I"⟩, prog_1_method_22_code, 11, some .int)
def m_X7_best : sM := (⟨RX7, "best", "(II)I"⟩, prog_1_method_23_code, 3, some .int)
def m_X7_call : sM := (⟨RX7, "call", "(III)I"⟩, prog_1_method_24_code, 4, some .int)
def m_X7_called : sM := (⟨RX7, "called", "(I)I"⟩, prog_1_method_25_code, 6, some .int)
def m_X7_missed : sM := (⟨RX7, "missed", "(II)I"⟩, prog_1_method_26_code, 8, some .int)
def m_X7_more : sM := (⟨RX7, "more", "(III)I"⟩, prog_1_method_27_code, 6, some .int)
def m_X7_which : sM := (⟨RX7, "which", "(I)I"⟩, prog_1_method_28_code, 6, some .int)
def m_X7_image : sM := (⟨RX7, "image", "()I"⟩, prog_1_method_29_code, 2, some .int)
def m_X7_restore : sM := (⟨RX7, "restore", "()I"⟩, prog_1_method_30_code, 2, some .int)
def m_X7_count : sM := (⟨RX7, "count", "(I)I"⟩, prog_1_method_31_code, 2, some .int)
def m_X7_digest : sM := (⟨RX7, "digest", "()J"⟩, prog_1_method_32_code, 4, some .long)
def m_X7_isBelow : sM := (⟨RX7, "isBelow", "(II)Z"⟩, prog_1_method_33_code, 2, some .boolean)
def m_X7_isGiving : sM := (⟨RX7, "isGiving", "(I)Z"⟩, prog_1_method_34_code, 1, some .boolean)
def m_X7_isPart : sM := (⟨RX7, "isPart", "(I)Z"⟩, prog_1_method_35_code, 1, some .boolean)
def m_X7_isHoused : sM := (⟨RX7, "isHoused", "()Z"⟩, prog_1_method_36_code, 1, some .boolean)
def m_X7_isRule : sM := (⟨RX7, "isRule", "(I)Z"⟩, prog_1_method_37_code, 2, some .boolean)
def m_X7_isRoom : sM := (⟨RX7, "isRoom", "(I)Z"⟩, prog_1_method_38_code, 2, some .boolean)
def m_X7_isGuest : sM := (⟨RX7, "isGuest", "(I)Z"⟩, prog_1_method_39_code, 2, some .boolean)
def m_X7_isWay : sM := (⟨RX7, "isWay", "(I)Z"⟩, prog_1_method_40_code, 2, some .boolean)
def m_X7_refusalOf : sM := (⟨RX7, "refusalOf", "(II)I"⟩, prog_1_method_41_code, 3, some .int)
def m_X7_refusalOf_ : sM := (⟨RX7, "refusalOf", "(III)I"⟩, prog_1_method_42_code, 4, some .int)
def m_X7_addRule : sM := (⟨RX7, "addRule", "(LRoomsByThree$Rule;)I"⟩, prog_1_method_43_code, 2, some .int)
def m_X7_hireAll : sM := (⟨RX7, "hireAll", "()V"⟩, prog_1_method_44_code, 1, none)
def m_X7_dayCost : sM := (⟨RX7, "dayCost", "(LRoomsByThree$Rule;[III)I"⟩, prog_1_method_45_code, 5, some .int)
def m_X7_costOverWays : sM := (⟨RX7, "costOverWays", "(LRoomsByThree$Rule;I)I"⟩, prog_1_method_46_code, 7, some .int)
def m_X7_waitByWays : sM := (⟨RX7, "waitByWays", "(LRoomsByThree$Rule;II)V"⟩, prog_1_method_47_code, 6, none)
def m_X7_chanceWithin : sM := (⟨RX7, "chanceWithin", "(I)I"⟩, prog_1_method_48_code, 4, some .int)
def m_X7_termOf : sM := (⟨RX7, "termOf", "(II)I"⟩, prog_1_method_49_code, 8, some .int)
def m_X7_addAll : sM := (⟨RX7, "addAll", "(J[I)J"⟩, prog_1_method_50_code, 9, some .long)
def m_X8_init : sM := (⟨RX8, "<init>", "()V"⟩, prog_10_method_1_code, 1, none)
def m_X8_within : sM := (⟨RX8, "within", "(III)Z"⟩, prog_10_method_3_code, 3, some .boolean)
def m_X8_size : sM := (⟨RX8, "size", "(I)I"⟩, prog_10_method_4_code, 1, some .int)
def m_X8_greater : sM := (⟨RX8, "greater", "(II)I"⟩, prog_10_method_5_code, 2, some .int)
def m_X8_letters : sM := (⟨RX8, "letters", "(J)I"⟩, prog_10_method_6_code, 7, some .int)
def m_X8_blank : sM := (⟨RX8, "blank", "()I"⟩, prog_10_method_7_code, 2, some .int)
def m_X8_isDigit : sM := (⟨RX8, "isDigit", "(I)Z"⟩, prog_10_method_8_code, 1, some .boolean)
def m_X8_begin : sM := (⟨RX8, "begin", "(II)V"⟩, prog_10_method_9_code, 3, none)
def m_X8_fits : sM := (⟨RX8, "fits", "(I)Z"⟩, prog_10_method_10_code, 3, some .boolean)
def m_X8_grow : sM := (⟨RX8, "grow", "(I)V"⟩, prog_10_method_11_code, 2, none)
def m_X8_isNumber : sM := (⟨RX8, "isNumber", "()Z"⟩, prog_10_method_12_code, 1, some .boolean)
def m_X8_nextRoom : sM := (⟨RX8, "nextRoom", "(II)I"⟩, prog_10_method_13_code, 4, some .int)
def m_X8_behindGone : sM := (⟨RX8, "behindGone", "(II)I"⟩, prog_10_method_14_code, 4, some .int)
def m_X8_nextWoman : sM := (⟨RX8, "nextWoman", "(II)I"⟩, prog_10_method_15_code, 4, some .int)
def m_X8_nextGuest : sM := (⟨RX8, "nextGuest", "(II)I"⟩, prog_10_method_16_code, 3, some .int)
def m_X8_readHouse : sM := (⟨RX8, "readHouse", "()V"⟩, prog_10_method_17_code, 6, none)
def m_X8_readTold : sM := (⟨RX8, "readTold", "()V"⟩, prog_10_method_18_code, 8, none)
def m_X8_fault : sM := (⟨RX8, "fault", "(I)I"⟩, prog_10_method_19_code, 2, some .int)
def m_X8_house : sM := (⟨RX8, "house", "()I"⟩, prog_10_method_20_code, 2, some .int)
def m_X8_tell : sM := (⟨RX8, "tell", "()I"⟩, prog_10_method_21_code, 2, some .int)
def m_X8_rule : sM := (⟨RX8, "rule", "(II)I"⟩, prog_10_method_22_code, 3, some .int)
def m_X8_isRule : sM := (⟨RX8, "isRule", "(I)Z"⟩, prog_10_method_23_code, 2, some .boolean)
def m_X8_as : sM := (⟨RX8, "as", "(II)I"⟩, prog_10_method_24_code, 4, some .int)
def m_X8_isRoom : sM := (⟨RX8, "isRoom", "(I)Z"⟩, prog_10_method_25_code, 2, some .boolean)
def m_X8_isGuest : sM := (⟨RX8, "isGuest", "(I)Z"⟩, prog_10_method_26_code, 2, some .boolean)
def m_X8_roomTold : sM := (⟨RX8, "roomTold", "(II)I"⟩, prog_10_method_27_code, 3, some .int)
def m_X8_room : sM := (⟨RX8, "room", "(II)I"⟩, prog_10_method_28_code, 3, some .int)
def m_X8_womanTold : sM := (⟨RX8, "womanTold", "(II)I"⟩, prog_10_method_29_code, 3, some .int)
def m_X8_woman : sM := (⟨RX8, "woman", "(II)I"⟩, prog_10_method_30_code, 3, some .int)
def m_X8_guestTold : sM := (⟨RX8, "guestTold", "(II)I"⟩, prog_10_method_31_code, 3, some .int)
def m_X8_guest : sM := (⟨RX8, "guest", "(II)I"⟩, prog_10_method_32_code, 3, some .int)
def m_X8_change : sM := (⟨RX8, "change", "()V"⟩, prog_10_method_33_code, 1, none)
def m_X8_late : sM := (⟨RX8, "late", "(II)I"⟩, prog_10_method_34_code, 4, some .int)
def m_X8_lift : sM := (⟨RX8, "lift", "(I)I"⟩, prog_10_method_35_code, 3, some .int)
def m_X8_chanceMany : sM := (⟨RX8, "chanceMany", "()I"⟩, prog_10_method_36_code, 3, some .int)
def m_X8_isWay : sM := (⟨RX8, "isWay", "(I)Z"⟩, prog_10_method_37_code, 2, some .boolean)
def m_X8_layGone : sM := (⟨RX8, "layGone", "(I)V"⟩, prog_10_method_38_code, 4, none)
def m_X8_weight : sM := (⟨RX8, "weight", "(I)I"⟩, prog_10_method_39_code, 5, some .int)
def m_X8_whole : sM := (⟨RX8, "whole", "()I"⟩, prog_10_method_40_code, 3, some .int)
def m_X8_gone : sM := (⟨RX8, "gone", "(II)I"⟩, prog_10_method_41_code, 3, some .int)
def m_X8_clear : sM := (⟨RX8, "clear", "()V"⟩, prog_10_method_42_code, 2, none)
def m_X8_beginsAt : sM := (⟨RX8, "beginsAt", "(II)I"⟩, prog_10_method_43_code, 4, some .int)
def m_X8_may : sM := (⟨RX8, "may", "(II)Z"⟩, prog_10_method_44_code, 3, some .boolean)
def m_X8_doRoom : sM := (⟨RX8, "doRoom", "(II)V"⟩, prog_10_method_45_code, 3, none)
def m_X8_layList : sM := (⟨RX8, "layList", "()V"⟩, prog_10_method_46_code, 5, none)
def m_X8_layNatural : sM := (⟨RX8, "layNatural", "()V"⟩, prog_10_method_47_code, 2, none)
def m_X8_nearestWoman : sM := (⟨RX8, "nearestWoman", "(I)I"⟩, prog_10_method_48_code, 4, some .int)
def m_X8_layFloors : sM := (⟨RX8, "layFloors", "()V"⟩, prog_10_method_49_code, 4, none)
def m_X8_suits : sM := (⟨RX8, "suits", "(II)Z"⟩, prog_10_method_50_code, 3, some .boolean)
def m_X8_firstGuest : sM := (⟨RX8, "firstGuest", "(I)I"⟩, prog_10_method_51_code, 4, some .int)
def m_X8_worthOf : sM := (⟨RX8, "worthOf", "(III)I"⟩, prog_10_method_52_code, 5, some .int)
def m_X8_chosen : sM := (⟨RX8, "chosen", "(II)I"⟩, prog_10_method_53_code, 6, some .int)
def m_X8_nextGone : sM := (⟨RX8, "nextGone", "(I)I"⟩, prog_10_method_54_code, 4, some .int)
def m_X8_layFree : sM := (⟨RX8, "layFree", "(I)V"⟩, prog_10_method_55_code, 5, none)
def m_X8_layTold : sM := (⟨RX8, "layTold", "(I)V"⟩, prog_10_method_56_code, 5, none)
def m_X8_laySchedule : sM := (⟨RX8, "laySchedule", "(II)V"⟩, prog_10_method_57_code, 4, none)
def m_X8_waits : sM := (⟨RX8, "waits", "(II)I"⟩, prog_10_method_58_code, 3, some .int)
def m_X8_costOf : sM := (⟨RX8, "costOf", "(II)I"⟩, prog_10_method_59_code, 3, some .int)
def m_X8_canHave : sM := (⟨RX8, "canHave", "(III)Z"⟩, prog_10_method_60_code, 4, some .boolean)
def m_X8_giveAsTheyCome : sM := (⟨RX8, "giveAsTheyCome", "()V"⟩, prog_10_method_61_code, 6, none)
def m_X8_by : sM := (⟨RX8, "by", "(III)I"⟩, prog_10_method_62_code, 4, some .int)
def m_X8_giveWisely : sM := (⟨RX8, "giveWisely", "()V"⟩, prog_10_method_63_code, 6, none)
def m_X8_giveAll : sM := (⟨RX8, "giveAll", "(I)I"⟩, prog_10_method_64_code, 4, some .int)
def m_X8_nextOrder : sM := (⟨RX8, "nextOrder", "()Z"⟩, prog_10_method_65_code, 5, some .boolean)
def m_X8_swap : sM := (⟨RX8, "swap", "(II)V"⟩, prog_10_method_66_code, 4, none)
def m_X8_layOrderCost : sM := (⟨RX8, "layOrderCost", "(II)V"⟩, prog_10_method_67_code, 5, none)
def m_X8_layOrders : sM := (⟨RX8, "layOrders", "(II)V"⟩, prog_10_method_68_code, 5, none)
def m_X8_layBestOrder : sM := (⟨RX8, "layBestOrder", "(I)V"⟩, prog_10_method_69_code, 3, none)
def m_X8_bars : sM := (⟨RX8, "bars", "(IIZ)I"⟩, prog_10_method_70_code, 4, some .int)
def m_X8_isGiving : sM := (⟨RX8, "isGiving", "(I)Z"⟩, prog_10_method_71_code, 1, some .boolean)
def m_X8_asWay : sM := (⟨RX8, "asWay", "(I)I"⟩, prog_10_method_72_code, 1, some .int)
def m_X8_allWomen : sM := (⟨RX8, "allWomen", "()V"⟩, prog_10_method_73_code, 1, none)
def m_X8_costBy : sM := (⟨RX8, "costBy", "(III)I"⟩, prog_10_method_74_code, 4, some .int)
def m_X8_done : sM := (⟨RX8, "done", "(IIII)I"⟩, prog_10_method_75_code, 6, some .int)
def m_X8_given : sM := (⟨RX8, "given", "(IIIII)I"⟩, prog_10_method_76_code, 7, some .int)
def m_X8_cost : sM := (⟨RX8, "cost", "(III)I"⟩, prog_10_method_77_code, 5, some .int)
def m_X8_sumBy : sM := (⟨RX8, "sumBy", "(II)I"⟩, prog_10_method_78_code, 5, some .int)
def m_X8_divisor : sM := (⟨RX8, "divisor", "(II)I"⟩, prog_10_method_79_code, 5, some .int)
def m_X8_lowest : sM := (⟨RX8, "lowest", "(III)I"⟩, prog_10_method_80_code, 4, some .int)
def m_X8_mean : sM := (⟨RX8, "mean", "(III)I"⟩, prog_10_method_81_code, 5, some .int)
def m_X8_worst : sM := (⟨RX8, "worst", "(III)I"⟩, prog_10_method_82_code, 9, some .int)
def m_X8_sureOf : sM := (⟨RX8, "sureOf", "(IIII)I"⟩, prog_10_method_83_code, 7, some .int)
def m_X8_sure : sM := (⟨RX8, "sure", "(IIIII)I"⟩, prog_10_method_84_code, 7, some .int)
def m_X8_tells : sM := (⟨RX8, "tells", "(IIII)I"⟩, prog_10_method_85_code, 9, some .int)
def m_X8_run : sM := (⟨RX8, "run", "(IIII)I"⟩, prog_10_method_86_code, 11, some .int)
def m_X8_best : sM := (⟨RX8, "best", "(II)I"⟩, prog_10_method_87_code, 3, some .int)
def m_X8_isCalled : sM := (⟨RX8, "isCalled", "(I)Z"⟩, prog_10_method_88_code, 2, some .boolean)
def m_X8_bitOf : sM := (⟨RX8, "bitOf", "(I)I"⟩, prog_10_method_89_code, 4, some .int)
def m_X8_worthOfCall : sM := (⟨RX8, "worthOfCall", "(II)I"⟩, prog_10_method_90_code, 3, some .int)
def m_X8_call : sM := (⟨RX8, "call", "(III)I"⟩, prog_10_method_91_code, 4, some .int)
def m_X8_called : sM := (⟨RX8, "called", "(I)I"⟩, prog_10_method_92_code, 7, some .int)
def m_X8_sumAnew : sM := (⟨RX8, "sumAnew", "(II)I"⟩, prog_10_method_93_code, 4, some .int)
def m_X8_missed : sM := (⟨RX8, "missed", "(II)I"⟩, prog_10_method_94_code, 9, some .int)
def m_X8_more : sM := (⟨RX8, "more", "(III)I"⟩, prog_10_method_95_code, 6, some .int)
def m_X8_which : sM := (⟨RX8, "which", "(I)I"⟩, prog_10_method_96_code, 7, some .int)
def m_X8_lateMany : sM := (⟨RX8, "lateMany", "()I"⟩, prog_10_method_97_code, 3, some .int)
def m_X8_image : sM := (⟨RX8, "image", "()I"⟩, prog_10_method_98_code, 2, some .int)
def m_X8_restore : sM := (⟨RX8, "restore", "()I"⟩, prog_10_method_99_code, 2, some .int)
def m_X8_howMany : sM := (⟨RX8, "howMany", "(I)I"⟩, prog_10_method_100_code, 2, some .int)
def m_X8_count : sM := (⟨RX8, "count", "(I)I"⟩, prog_10_method_101_code, 2, some .int)
def m_X8_mix : sM := (⟨RX8, "mix", "(J)V"⟩, prog_10_method_102_code, 3, none)
def m_X8_digest : sM := (⟨RX8, "digest", "()J"⟩, prog_10_method_103_code, 3, some .long)
def m_L_law : sM := (⟨RL, "law", "([I)Z"⟩, code, 4, some .boolean)
theorem cw_X0_init (M : sM) : sCw M m_X0_init 1 := ⟨sTb_of 244 (by decide +kernel) rfl, sTb_of 111 (by decide +kernel) rfl, ⟨by decide +kernel, by decide +kernel⟩, by decide +kernel, by decide⟩
theorem cw_X0_hireAll (M : sM) : sCw M m_X0_hireAll 0 := ⟨sTb_of 528 (by decide +kernel) rfl, sTb_of 111 (by decide +kernel) rfl, ⟨by decide +kernel, by decide +kernel⟩, by decide +kernel, by decide⟩
theorem cw_X0_hireLike (M : sM) : sCw M m_X0_hireLike 1 := ⟨sTb_of 532 (by decide +kernel) rfl, sTb_of 111 (by decide +kernel) rfl, ⟨by decide +kernel, by decide +kernel⟩, by decide +kernel, by decide⟩
theorem cw_X0_sendAway (M : sM) : sCw M m_X0_sendAway 1 := ⟨sTb_of 924 (by decide +kernel) rfl, sTb_of 111 (by decide +kernel) rfl, ⟨by decide +kernel, by decide +kernel⟩, by decide +kernel, by decide⟩
theorem cw_X0_open (M : sM) : sCw M m_X0_open 1 := ⟨sTb_of 677 (by decide +kernel) rfl, sTb_of 111 (by decide +kernel) rfl, ⟨by decide +kernel, by decide +kernel⟩, by decide +kernel, by decide⟩
theorem cw_X0_plan (M : sM) : sCw M m_X0_plan 3 := ⟨sTb_of 765 (by decide +kernel) rfl, sTb_of 111 (by decide +kernel) rfl, ⟨by decide +kernel, by decide +kernel⟩, by decide +kernel, by decide⟩
theorem cw_X0_planList (M : sM) : sCw M m_X0_planList 1 := ⟨sTb_of 800 (by decide +kernel) rfl, sTb_of 111 (by decide +kernel) rfl, ⟨by decide +kernel, by decide +kernel⟩, by decide +kernel, by decide⟩
theorem cw_X0_soonestFor (M : sM) : sCw M m_X0_soonestFor 1 := ⟨sTb_of 702 (by decide +kernel) rfl, sTb_of 111 (by decide +kernel) rfl, ⟨by decide +kernel, by decide +kernel⟩, by decide +kernel, by decide⟩
theorem cw_X0_readyBy (M : sM) : sCw M m_X0_readyBy 2 := ⟨sTb_of 706 (by decide +kernel) rfl, sTb_of 111 (by decide +kernel) rfl, ⟨by decide +kernel, by decide +kernel⟩, by decide +kernel, by decide⟩
theorem cw_X0_assign (M : sM) : sCw M m_X0_assign 2 := ⟨sTb_of 722 (by decide +kernel) rfl, sTb_of 111 (by decide +kernel) rfl, ⟨by decide +kernel, by decide +kernel⟩, by decide +kernel, by decide⟩
theorem cw_X0_takeBack (M : sM) : sCw M m_X0_takeBack 4 := ⟨sTb_of 750 (by decide +kernel) rfl, sTb_of 111 (by decide +kernel) rfl, ⟨by decide +kernel, by decide +kernel⟩, by decide +kernel, by decide⟩
theorem cw_X0_planFloors (M : sM) : sCw M m_X0_planFloors 0 := ⟨sTb_of 770 (by decide +kernel) rfl, sTb_of 111 (by decide +kernel) rfl, ⟨by decide +kernel, by decide +kernel⟩, by decide +kernel, by decide⟩
theorem cw_X0_nearestAtFirst (M : sM) : sCw M m_X0_nearestAtFirst 1 := ⟨sTb_of 774 (by decide +kernel) rfl, sTb_of 111 (by decide +kernel) rfl, ⟨by decide +kernel, by decide +kernel⟩, by decide +kernel, by decide⟩
theorem cw_X0_planFree (M : sM) : sCw M m_X0_planFree 1 := ⟨sTb_of 779 (by decide +kernel) rfl, sTb_of 111 (by decide +kernel) rfl, ⟨by decide +kernel, by decide +kernel⟩, by decide +kernel, by decide⟩
theorem cw_X0_freeFirst (M : sM) : sCw M m_X0_freeFirst 0 := ⟨sTb_of 783 (by decide +kernel) rfl, sTb_of 111 (by decide +kernel) rfl, ⟨by decide +kernel, by decide +kernel⟩, by decide +kernel, by decide⟩
theorem cw_X0_chosenBy (M : sM) : sCw M m_X0_chosenBy 2 := ⟨sTb_of 787 (by decide +kernel) rfl, sTb_of 111 (by decide +kernel) rfl, ⟨by decide +kernel, by decide +kernel⟩, by decide +kernel, by decide⟩
theorem cw_X0_nextGone (M : sM) : sCw M m_X0_nextGone 1 := ⟨sTb_of 791 (by decide +kernel) rfl, sTb_of 111 (by decide +kernel) rfl, ⟨by decide +kernel, by decide +kernel⟩, by decide +kernel, by decide⟩
theorem cw_X0_planTold (M : sM) : sCw M m_X0_planTold 1 := ⟨sTb_of 795 (by decide +kernel) rfl, sTb_of 111 (by decide +kernel) rfl, ⟨by decide +kernel, by decide +kernel⟩, by decide +kernel, by decide⟩
theorem cw_X1_init (M : sM) : sCw M m_X1_init 1 := ⟨sTb_of 296 (by decide +kernel) rfl, sTb_of 112 (by decide +kernel) rfl, ⟨by decide +kernel, by decide +kernel⟩, by decide +kernel, by decide⟩
theorem cw_X1_give (M : sM) : sCw M m_X1_give 2 := ⟨sTb_of 814 (by decide +kernel) rfl, sTb_of 112 (by decide +kernel) rfl, ⟨by decide +kernel, by decide +kernel⟩, by decide +kernel, by decide⟩
theorem cw_X1_waitOf (M : sM) : sCw M m_X1_waitOf 2 := ⟨sTb_of 831 (by decide +kernel) rfl, sTb_of 112 (by decide +kernel) rfl, ⟨by decide +kernel, by decide +kernel⟩, by decide +kernel, by decide⟩
theorem cw_X1_giveAsTheyCome (M : sM) : sCw M m_X1_giveAsTheyCome 1 := ⟨sTb_of 697 (by decide +kernel) rfl, sTb_of 112 (by decide +kernel) rfl, ⟨by decide +kernel, by decide +kernel⟩, by decide +kernel, by decide⟩
theorem cw_X1_giveWisely (M : sM) : sCw M m_X1_giveWisely 1 := ⟨sTb_of 818 (by decide +kernel) rfl, sTb_of 112 (by decide +kernel) rfl, ⟨by decide +kernel, by decide +kernel⟩, by decide +kernel, by decide⟩
theorem cw_X2_init (M : sM) : sCw M m_X2_init 0 := ⟨sTb_of 164 (by decide +kernel) rfl, sTb_of 110 (by decide +kernel) rfl, ⟨by decide +kernel, by decide +kernel⟩, by decide +kernel, by decide⟩
theorem cw_X2_clear (M : sM) : sCw M m_X2_clear 0 := ⟨sTb_of 450 (by decide +kernel) rfl, sTb_of 110 (by decide +kernel) rfl, ⟨by decide +kernel, by decide +kernel⟩, by decide +kernel, by decide⟩
theorem cw_X2_settle (M : sM) : sCw M m_X2_settle 0 := ⟨sTb_of 501 (by decide +kernel) rfl, sTb_of 110 (by decide +kernel) rfl, ⟨by decide +kernel, by decide +kernel⟩, by decide +kernel, by decide⟩
theorem cw_X2_fits (M : sM) : sCw M m_X2_fits 2 := ⟨sTb_of 505 (by decide +kernel) rfl, sTb_of 110 (by decide +kernel) rfl, ⟨by decide +kernel, by decide +kernel⟩, by decide +kernel, by decide⟩
theorem cw_X2_queue (M : sM) : sCw M m_X2_queue 1 := ⟨sTb_of 512 (by decide +kernel) rfl, sTb_of 110 (by decide +kernel) rfl, ⟨by decide +kernel, by decide +kernel⟩, by decide +kernel, by decide⟩
theorem cw_X2_wayCount (M : sM) : sCw M m_X2_wayCount 0 := ⟨sTb_of 639 (by decide +kernel) rfl, sTb_of 110 (by decide +kernel) rfl, ⟨by decide +kernel, by decide +kernel⟩, by decide +kernel, by decide⟩
theorem cw_X2_whole (M : sM) : sCw M m_X2_whole 0 := ⟨sTb_of 860 (by decide +kernel) rfl, sTb_of 110 (by decide +kernel) rfl, ⟨by decide +kernel, by decide +kernel⟩, by decide +kernel, by decide⟩
theorem cw_X2_chanceOf (M : sM) : sCw M m_X2_chanceOf 1 := ⟨sTb_of 673 (by decide +kernel) rfl, sTb_of 110 (by decide +kernel) rfl, ⟨by decide +kernel, by decide +kernel⟩, by decide +kernel, by decide⟩
theorem cw_X2_bitOf (M : sM) : sCw M m_X2_bitOf 1 := ⟨sTb_of 647 (by decide +kernel) rfl, sTb_of 110 (by decide +kernel) rfl, ⟨by decide +kernel, by decide +kernel⟩, by decide +kernel, by decide⟩
theorem cw_X2_isByChance (M : sM) : sCw M m_X2_isByChance 1 := ⟨sTb_of 906 (by decide +kernel) rfl, sTb_of 110 (by decide +kernel) rfl, ⟨by decide +kernel, by decide +kernel⟩, by decide +kernel, by decide⟩
theorem cw_X2_goneBy (M : sM) : sCw M m_X2_goneBy 2 := ⟨sTb_of 643 (by decide +kernel) rfl, sTb_of 110 (by decide +kernel) rfl, ⟨by decide +kernel, by decide +kernel⟩, by decide +kernel, by decide⟩
theorem cw_X2_lateCount (M : sM) : sCw M m_X2_lateCount 0 := ⟨sTb_of 944 (by decide +kernel) rfl, sTb_of 110 (by decide +kernel) rfl, ⟨by decide +kernel, by decide +kernel⟩, by decide +kernel, by decide⟩
theorem cw_X3_init (M : sM) : sCw M m_X3_init 1 := ⟨sTb_of 302 (by decide +kernel) rfl, sTb_of 113 (by decide +kernel) rfl, ⟨by decide +kernel, by decide +kernel⟩, by decide +kernel, by decide⟩
theorem cw_X3_begin (M : sM) : sCw M m_X3_begin 0 := ⟨sTb_of 682 (by decide +kernel) rfl, sTb_of 113 (by decide +kernel) rfl, ⟨by decide +kernel, by decide +kernel⟩, by decide +kernel, by decide⟩
theorem cw_X3_keep (M : sM) : sCw M m_X3_keep 1 := ⟨sTb_of 714 (by decide +kernel) rfl, sTb_of 113 (by decide +kernel) rfl, ⟨by decide +kernel, by decide +kernel⟩, by decide +kernel, by decide⟩
theorem cw_X3_add (M : sM) : sCw M m_X3_add 3 := ⟨sTb_of 726 (by decide +kernel) rfl, sTb_of 113 (by decide +kernel) rfl, ⟨by decide +kernel, by decide +kernel⟩, by decide +kernel, by decide⟩
theorem cw_X3_weigh (M : sM) : sCw M m_X3_weigh 2 := ⟨sTb_of 731 (by decide +kernel) rfl, sTb_of 113 (by decide +kernel) rfl, ⟨by decide +kernel, by decide +kernel⟩, by decide +kernel, by decide⟩
theorem cw_X3_cheapestEnd (M : sM) : sCw M m_X3_cheapestEnd 2 := ⟨sTb_of 737 (by decide +kernel) rfl, sTb_of 113 (by decide +kernel) rfl, ⟨by decide +kernel, by decide +kernel⟩, by decide +kernel, by decide⟩
theorem cw_X3_reprice (M : sM) : sCw M m_X3_reprice 3 := ⟨sTb_of 742 (by decide +kernel) rfl, sTb_of 113 (by decide +kernel) rfl, ⟨by decide +kernel, by decide +kernel⟩, by decide +kernel, by decide⟩
theorem cw_X3_moveAlong (M : sM) : sCw M m_X3_moveAlong 3 := ⟨sTb_of 746 (by decide +kernel) rfl, sTb_of 113 (by decide +kernel) rfl, ⟨by decide +kernel, by decide +kernel⟩, by decide +kernel, by decide⟩
theorem cw_X3_roomFor (M : sM) : sCw M m_X3_roomFor 2 := ⟨sTb_of 825 (by decide +kernel) rfl, sTb_of 113 (by decide +kernel) rfl, ⟨by decide +kernel, by decide +kernel⟩, by decide +kernel, by decide⟩
theorem cw_X3_savedAt (M : sM) : sCw M m_X3_savedAt 1 := ⟨sTb_of 692 (by decide +kernel) rfl, sTb_of 113 (by decide +kernel) rfl, ⟨by decide +kernel, by decide +kernel⟩, by decide +kernel, by decide⟩
theorem cw_X4_init (M : sM) : sCw M m_X4_init 3 := ⟨sTb_of 352 (by decide +kernel) rfl, sTb_of 114 (by decide +kernel) rfl, ⟨by decide +kernel, by decide +kernel⟩, by decide +kernel, by decide⟩
theorem cw_X4_forget (M : sM) : sCw M m_X4_forget 0 := ⟨sTb_of 536 (by decide +kernel) rfl, sTb_of 114 (by decide +kernel) rfl, ⟨by decide +kernel, by decide +kernel⟩, by decide +kernel, by decide⟩
theorem cw_X4_orderFor (M : sM) : sCw M m_X4_orderFor 2 := ⟨sTb_of 659 (by decide +kernel) rfl, sTb_of 114 (by decide +kernel) rfl, ⟨by decide +kernel, by decide +kernel⟩, by decide +kernel, by decide⟩
theorem cw_X4_weighAll (M : sM) : sCw M m_X4_weighAll 1 := ⟨sTb_of 668 (by decide +kernel) rfl, sTb_of 114 (by decide +kernel) rfl, ⟨by decide +kernel, by decide +kernel⟩, by decide +kernel, by decide⟩
theorem cw_X4_walk (M : sM) : sCw M m_X4_walk 3 := ⟨sTb_of 688 (by decide +kernel) rfl, sTb_of 114 (by decide +kernel) rfl, ⟨by decide +kernel, by decide +kernel⟩, by decide +kernel, by decide⟩
theorem cw_X4_leastOf (M : sM) : sCw M m_X4_leastOf 2 := ⟨sTb_of 754 (by decide +kernel) rfl, sTb_of 114 (by decide +kernel) rfl, ⟨by decide +kernel, by decide +kernel⟩, by decide +kernel, by decide⟩
theorem cw_X4_sumOf (M : sM) : sCw M m_X4_sumOf 3 := ⟨sTb_of 758 (by decide +kernel) rfl, sTb_of 114 (by decide +kernel) rfl, ⟨by decide +kernel, by decide +kernel⟩, by decide +kernel, by decide⟩
theorem cw_X4_worthOf (M : sM) : sCw M m_X4_worthOf 1 := ⟨sTb_of 912 (by decide +kernel) rfl, sTb_of 114 (by decide +kernel) rfl, ⟨by decide +kernel, by decide +kernel⟩, by decide +kernel, by decide⟩
theorem cw_X4_spellOut (M : sM) : sCw M m_X4_spellOut 3 := ⟨sTb_of 761 (by decide +kernel) rfl, sTb_of 114 (by decide +kernel) rfl, ⟨by decide +kernel, by decide +kernel⟩, by decide +kernel, by decide⟩
theorem cw_X5_init (M : sM) : sCw M m_X5_init 0 := ⟨sTb_of 131 (by decide +kernel) rfl, sTb_of 109 (by decide +kernel) rfl, ⟨by decide +kernel, by decide +kernel⟩, by decide +kernel, by decide⟩
theorem cw_X5_lettersIn (M : sM) : sCw M m_X5_lettersIn 1 := ⟨sTb_of 429 (by decide +kernel) rfl, sTb_of 109 (by decide +kernel) rfl, ⟨by decide +kernel, by decide +kernel⟩, by decide +kernel, by decide⟩
theorem cw_X5_append (M : sM) : sCw M m_X5_append 2 := ⟨sTb_of 433 (by decide +kernel) rfl, sTb_of 109 (by decide +kernel) rfl, ⟨by decide +kernel, by decide +kernel⟩, by decide +kernel, by decide⟩
theorem cw_X5_readHouse (M : sM) : sCw M m_X5_readHouse 1 := ⟨sTb_of 446 (by decide +kernel) rfl, sTb_of 109 (by decide +kernel) rfl, ⟨by decide +kernel, by decide +kernel⟩, by decide +kernel, by decide⟩
theorem cw_X5_readRooms (M : sM) : sCw M m_X5_readRooms 1 := ⟨sTb_of 454 (by decide +kernel) rfl, sTb_of 109 (by decide +kernel) rfl, ⟨by decide +kernel, by decide +kernel⟩, by decide +kernel, by decide⟩
theorem cw_X5_readRoom (M : sM) : sCw M m_X5_readRoom 2 := ⟨sTb_of 458 (by decide +kernel) rfl, sTb_of 109 (by decide +kernel) rfl, ⟨by decide +kernel, by decide +kernel⟩, by decide +kernel, by decide⟩
theorem cw_X5_readWomen (M : sM) : sCw M m_X5_readWomen 1 := ⟨sTb_of 493 (by decide +kernel) rfl, sTb_of 109 (by decide +kernel) rfl, ⟨by decide +kernel, by decide +kernel⟩, by decide +kernel, by decide⟩
theorem cw_X5_readGuests (M : sM) : sCw M m_X5_readGuests 1 := ⟨sTb_of 497 (by decide +kernel) rfl, sTb_of 109 (by decide +kernel) rfl, ⟨by decide +kernel, by decide +kernel⟩, by decide +kernel, by decide⟩
theorem cw_X5_readTold (M : sM) : sCw M m_X5_readTold 0 := ⟨sTb_of 516 (by decide +kernel) rfl, sTb_of 109 (by decide +kernel) rfl, ⟨by decide +kernel, by decide +kernel⟩, by decide +kernel, by decide⟩
theorem cw_X5_toldRooms (M : sM) : sCw M m_X5_toldRooms 0 := ⟨sTb_of 545 (by decide +kernel) rfl, sTb_of 109 (by decide +kernel) rfl, ⟨by decide +kernel, by decide +kernel⟩, by decide +kernel, by decide⟩
theorem cw_X5_toldWomen (M : sM) : sCw M m_X5_toldWomen 0 := ⟨sTb_of 556 (by decide +kernel) rfl, sTb_of 109 (by decide +kernel) rfl, ⟨by decide +kernel, by decide +kernel⟩, by decide +kernel, by decide⟩
theorem cw_X5_cutToTold (M : sM) : sCw M m_X5_cutToTold 1 := ⟨sTb_of 549 (by decide +kernel) rfl, sTb_of 109 (by decide +kernel) rfl, ⟨by decide +kernel, by decide +kernel⟩, by decide +kernel, by decide⟩
theorem cw_X5_takes (M : sM) : sCw M m_X5_takes 1 := ⟨sTb_of 481 (by decide +kernel) rfl, sTb_of 109 (by decide +kernel) rfl, ⟨by decide +kernel, by decide +kernel⟩, by decide +kernel, by decide⟩
theorem cw_X5_needs (M : sM) : sCw M m_X5_needs 1 := ⟨sTb_of 477 (by decide +kernel) rfl, sTb_of 109 (by decide +kernel) rfl, ⟨by decide +kernel, by decide +kernel⟩, by decide +kernel, by decide⟩
theorem cw_X5_needsAnother (M : sM) : sCw M m_X5_needsAnother 1 := ⟨sTb_of 489 (by decide +kernel) rfl, sTb_of 109 (by decide +kernel) rfl, ⟨by decide +kernel, by decide +kernel⟩, by decide +kernel, by decide⟩
theorem cw_X5_digitHere (M : sM) : sCw M m_X5_digitHere 0 := ⟨sTb_of 466 (by decide +kernel) rfl, sTb_of 109 (by decide +kernel) rfl, ⟨by decide +kernel, by decide +kernel⟩, by decide +kernel, by decide⟩
theorem cw_X5_digit (M : sM) : sCw M m_X5_digit 2 := ⟨sTb_of 462 (by decide +kernel) rfl, sTb_of 109 (by decide +kernel) rfl, ⟨by decide +kernel, by decide +kernel⟩, by decide +kernel, by decide⟩
theorem cw_X5_sort (M : sM) : sCw M m_X5_sort 0 := ⟨sTb_of 473 (by decide +kernel) rfl, sTb_of 109 (by decide +kernel) rfl, ⟨by decide +kernel, by decide +kernel⟩, by decide +kernel, by decide⟩
theorem cw_X5_number (M : sM) : sCw M m_X5_number 2 := ⟨sTb_of 485 (by decide +kernel) rfl, sTb_of 109 (by decide +kernel) rfl, ⟨by decide +kernel, by decide +kernel⟩, by decide +kernel, by decide⟩
theorem cw_X6_init (M : sM) : sCw M m_X6_init 4 := ⟨sTb_of 559 (by decide +kernel) rfl, sTb_of 117 (by decide +kernel) rfl, ⟨by decide +kernel, by decide +kernel⟩, by decide +kernel, by decide⟩
theorem cw_X6_isA (M : sM) : sCw M m_X6_isA 1 := ⟨sTb_of 599 (by decide +kernel) rfl, sTb_of 117 (by decide +kernel) rfl, ⟨by decide +kernel, by decide +kernel⟩, by decide +kernel, by decide⟩
theorem cw_X7_init (M : sM) : sCw M m_X7_init 0 := ⟨sTb_of 123 (by decide +kernel) rfl, sTb_of 108 (by decide +kernel) rfl, ⟨by decide +kernel, by decide +kernel⟩, by decide +kernel, by decide⟩
theorem cw_X7_letters (M : sM) : sCw M m_X7_letters 1 := ⟨sTb_of 426 (by decide +kernel) rfl, sTb_of 108 (by decide +kernel) rfl, ⟨by decide +kernel, by decide +kernel⟩, by decide +kernel, by decide⟩
theorem cw_X7_blank (M : sM) : sCw M m_X7_blank 0 := ⟨sTb_of 438 (by decide +kernel) rfl, sTb_of 108 (by decide +kernel) rfl, ⟨by decide +kernel, by decide +kernel⟩, by decide +kernel, by decide⟩
theorem cw_X7_fault (M : sM) : sCw M m_X7_fault 1 := ⟨sTb_of 442 (by decide +kernel) rfl, sTb_of 108 (by decide +kernel) rfl, ⟨by decide +kernel, by decide +kernel⟩, by decide +kernel, by decide⟩
theorem cw_X7_house (M : sM) : sCw M m_X7_house 0 := ⟨sTb_of 520 (by decide +kernel) rfl, sTb_of 108 (by decide +kernel) rfl, ⟨by decide +kernel, by decide +kernel⟩, by decide +kernel, by decide⟩
theorem cw_X7_tell (M : sM) : sCw M m_X7_tell 0 := ⟨sTb_of 540 (by decide +kernel) rfl, sTb_of 108 (by decide +kernel) rfl, ⟨by decide +kernel, by decide +kernel⟩, by decide +kernel, by decide⟩
theorem cw_X7_rule (M : sM) : sCw M m_X7_rule 2 := ⟨sTb_of 586 (by decide +kernel) rfl, sTb_of 108 (by decide +kernel) rfl, ⟨by decide +kernel, by decide +kernel⟩, by decide +kernel, by decide⟩
theorem cw_X7_as (M : sM) : sCw M m_X7_as 2 := ⟨sTb_of 590 (by decide +kernel) rfl, sTb_of 108 (by decide +kernel) rfl, ⟨by decide +kernel, by decide +kernel⟩, by decide +kernel, by decide⟩
theorem cw_X7_room (M : sM) : sCw M m_X7_room 2 := ⟨sTb_of 603 (by decide +kernel) rfl, sTb_of 108 (by decide +kernel) rfl, ⟨by decide +kernel, by decide +kernel⟩, by decide +kernel, by decide⟩
theorem cw_X7_woman (M : sM) : sCw M m_X7_woman 2 := ⟨sTb_of 611 (by decide +kernel) rfl, sTb_of 108 (by decide +kernel) rfl, ⟨by decide +kernel, by decide +kernel⟩, by decide +kernel, by decide⟩
theorem cw_X7_guest (M : sM) : sCw M m_X7_guest 2 := ⟨sTb_of 615 (by decide +kernel) rfl, sTb_of 108 (by decide +kernel) rfl, ⟨by decide +kernel, by decide +kernel⟩, by decide +kernel, by decide⟩
theorem cw_X7_late (M : sM) : sCw M m_X7_late 2 := ⟨sTb_of 623 (by decide +kernel) rfl, sTb_of 108 (by decide +kernel) rfl, ⟨by decide +kernel, by decide +kernel⟩, by decide +kernel, by decide⟩
theorem cw_X7_lift (M : sM) : sCw M m_X7_lift 1 := ⟨sTb_of 627 (by decide +kernel) rfl, sTb_of 108 (by decide +kernel) rfl, ⟨by decide +kernel, by decide +kernel⟩, by decide +kernel, by decide⟩
theorem cw_X7_gone (M : sM) : sCw M m_X7_gone 2 := ⟨sTb_of 631 (by decide +kernel) rfl, sTb_of 108 (by decide +kernel) rfl, ⟨by decide +kernel, by decide +kernel⟩, by decide +kernel, by decide⟩
theorem cw_X7_done (M : sM) : sCw M m_X7_done 4 := ⟨sTb_of 651 (by decide +kernel) rfl, sTb_of 108 (by decide +kernel) rfl, ⟨by decide +kernel, by decide +kernel⟩, by decide +kernel, by decide⟩
theorem cw_X7_given (M : sM) : sCw M m_X7_given 5 := ⟨sTb_of 805 (by decide +kernel) rfl, sTb_of 108 (by decide +kernel) rfl, ⟨by decide +kernel, by decide +kernel⟩, by decide +kernel, by decide⟩
theorem cw_X7_cost (M : sM) : sCw M m_X7_cost 3 := ⟨sTb_of 836 (by decide +kernel) rfl, sTb_of 108 (by decide +kernel) rfl, ⟨by decide +kernel, by decide +kernel⟩, by decide +kernel, by decide⟩
theorem cw_X7_mean (M : sM) : sCw M m_X7_mean 3 := ⟨sTb_of 844 (by decide +kernel) rfl, sTb_of 108 (by decide +kernel) rfl, ⟨by decide +kernel, by decide +kernel⟩, by decide +kernel, by decide⟩
theorem cw_X7_worst (M : sM) : sCw M m_X7_worst 3 := ⟨sTb_of 865 (by decide +kernel) rfl, sTb_of 108 (by decide +kernel) rfl, ⟨by decide +kernel, by decide +kernel⟩, by decide +kernel, by decide⟩
theorem cw_X7_sure (M : sM) : sCw M m_X7_sure 5 := ⟨sTb_of 869 (by decide +kernel) rfl, sTb_of 108 (by decide +kernel) rfl, ⟨by decide +kernel, by decide +kernel⟩, by decide +kernel, by decide⟩
theorem cw_X7_tells (M : sM) : sCw M m_X7_tells 4 := ⟨sTb_of 885 (by decide +kernel) rfl, sTb_of 108 (by decide +kernel) rfl, ⟨by decide +kernel, by decide +kernel⟩, by decide +kernel, by decide⟩
theorem cw_X7_run (M : sM) : sCw M m_X7_run 4 := ⟨sTb_of 889 (by decide +kernel) rfl, sTb_of 108 (by decide +kernel) rfl, ⟨by decide +kernel, by decide +kernel⟩, by decide +kernel, by decide⟩
theorem cw_X7_best (M : sM) : sCw M m_X7_best 2 := ⟨sTb_of 898 (by decide +kernel) rfl, sTb_of 108 (by decide +kernel) rfl, ⟨by decide +kernel, by decide +kernel⟩, by decide +kernel, by decide⟩
theorem cw_X7_call (M : sM) : sCw M m_X7_call 3 := ⟨sTb_of 902 (by decide +kernel) rfl, sTb_of 108 (by decide +kernel) rfl, ⟨by decide +kernel, by decide +kernel⟩, by decide +kernel, by decide⟩
theorem cw_X7_called (M : sM) : sCw M m_X7_called 1 := ⟨sTb_of 916 (by decide +kernel) rfl, sTb_of 108 (by decide +kernel) rfl, ⟨by decide +kernel, by decide +kernel⟩, by decide +kernel, by decide⟩
theorem cw_X7_missed (M : sM) : sCw M m_X7_missed 2 := ⟨sTb_of 920 (by decide +kernel) rfl, sTb_of 108 (by decide +kernel) rfl, ⟨by decide +kernel, by decide +kernel⟩, by decide +kernel, by decide⟩
theorem cw_X7_more (M : sM) : sCw M m_X7_more 3 := ⟨sTb_of 928 (by decide +kernel) rfl, sTb_of 108 (by decide +kernel) rfl, ⟨by decide +kernel, by decide +kernel⟩, by decide +kernel, by decide⟩
theorem cw_X7_which (M : sM) : sCw M m_X7_which 1 := ⟨sTb_of 936 (by decide +kernel) rfl, sTb_of 108 (by decide +kernel) rfl, ⟨by decide +kernel, by decide +kernel⟩, by decide +kernel, by decide⟩
theorem cw_X7_image (M : sM) : sCw M m_X7_image 0 := ⟨sTb_of 940 (by decide +kernel) rfl, sTb_of 108 (by decide +kernel) rfl, ⟨by decide +kernel, by decide +kernel⟩, by decide +kernel, by decide⟩
theorem cw_X7_restore (M : sM) : sCw M m_X7_restore 0 := ⟨sTb_of 948 (by decide +kernel) rfl, sTb_of 108 (by decide +kernel) rfl, ⟨by decide +kernel, by decide +kernel⟩, by decide +kernel, by decide⟩
theorem cw_X7_count (M : sM) : sCw M m_X7_count 1 := ⟨sTb_of 952 (by decide +kernel) rfl, sTb_of 108 (by decide +kernel) rfl, ⟨by decide +kernel, by decide +kernel⟩, by decide +kernel, by decide⟩
theorem cw_X7_digest (M : sM) : sCw M m_X7_digest 0 := ⟨sTb_of 956 (by decide +kernel) rfl, sTb_of 108 (by decide +kernel) rfl, ⟨by decide +kernel, by decide +kernel⟩, by decide +kernel, by decide⟩
theorem cw_X7_isBelow (M : sM) : sCw M m_X7_isBelow 2 := ⟨sTb_of 469 (by decide +kernel) rfl, sTb_of 108 (by decide +kernel) rfl, ⟨by decide +kernel, by decide +kernel⟩, by decide +kernel, by decide⟩
theorem cw_X7_isGiving (M : sM) : sCw M m_X7_isGiving 1 := ⟨sTb_of 662 (by decide +kernel) rfl, sTb_of 108 (by decide +kernel) rfl, ⟨by decide +kernel, by decide +kernel⟩, by decide +kernel, by decide⟩
theorem cw_X7_isPart (M : sM) : sCw M m_X7_isPart 1 := ⟨sTb_of 847 (by decide +kernel) rfl, sTb_of 108 (by decide +kernel) rfl, ⟨by decide +kernel, by decide +kernel⟩, by decide +kernel, by decide⟩
theorem cw_X7_isHoused (M : sM) : sCw M m_X7_isHoused 0 := ⟨sTb_of 655 (by decide +kernel) rfl, sTb_of 108 (by decide +kernel) rfl, ⟨by decide +kernel, by decide +kernel⟩, by decide +kernel, by decide⟩
theorem cw_X7_isRule (M : sM) : sCw M m_X7_isRule 1 := ⟨sTb_of 594 (by decide +kernel) rfl, sTb_of 108 (by decide +kernel) rfl, ⟨by decide +kernel, by decide +kernel⟩, by decide +kernel, by decide⟩
theorem cw_X7_isRoom (M : sM) : sCw M m_X7_isRoom 1 := ⟨sTb_of 607 (by decide +kernel) rfl, sTb_of 108 (by decide +kernel) rfl, ⟨by decide +kernel, by decide +kernel⟩, by decide +kernel, by decide⟩
theorem cw_X7_isGuest (M : sM) : sCw M m_X7_isGuest 1 := ⟨sTb_of 619 (by decide +kernel) rfl, sTb_of 108 (by decide +kernel) rfl, ⟨by decide +kernel, by decide +kernel⟩, by decide +kernel, by decide⟩
theorem cw_X7_isWay (M : sM) : sCw M m_X7_isWay 1 := ⟨sTb_of 635 (by decide +kernel) rfl, sTb_of 108 (by decide +kernel) rfl, ⟨by decide +kernel, by decide +kernel⟩, by decide +kernel, by decide⟩
theorem cw_X7_refusalOf (M : sM) : sCw M m_X7_refusalOf 2 := ⟨sTb_of 840 (by decide +kernel) rfl, sTb_of 108 (by decide +kernel) rfl, ⟨by decide +kernel, by decide +kernel⟩, by decide +kernel, by decide⟩
theorem cw_X7_refusalOf_ (M : sM) : sCw M m_X7_refusalOf_ 3 := ⟨sTb_of 873 (by decide +kernel) rfl, sTb_of 108 (by decide +kernel) rfl, ⟨by decide +kernel, by decide +kernel⟩, by decide +kernel, by decide⟩
theorem cw_X7_addRule (M : sM) : sCw M m_X7_addRule 1 := ⟨sTb_of 582 (by decide +kernel) rfl, sTb_of 108 (by decide +kernel) rfl, ⟨by decide +kernel, by decide +kernel⟩, by decide +kernel, by decide⟩
theorem cw_X7_hireAll (M : sM) : sCw M m_X7_hireAll 0 := ⟨sTb_of 524 (by decide +kernel) rfl, sTb_of 108 (by decide +kernel) rfl, ⟨by decide +kernel, by decide +kernel⟩, by decide +kernel, by decide⟩
theorem cw_X7_dayCost (M : sM) : sCw M m_X7_dayCost 4 := ⟨sTb_of 810 (by decide +kernel) rfl, sTb_of 108 (by decide +kernel) rfl, ⟨by decide +kernel, by decide +kernel⟩, by decide +kernel, by decide⟩
theorem cw_X7_costOverWays (M : sM) : sCw M m_X7_costOverWays 2 := ⟨sTb_of 851 (by decide +kernel) rfl, sTb_of 108 (by decide +kernel) rfl, ⟨by decide +kernel, by decide +kernel⟩, by decide +kernel, by decide⟩
theorem cw_X7_waitByWays (M : sM) : sCw M m_X7_waitByWays 3 := ⟨sTb_of 877 (by decide +kernel) rfl, sTb_of 108 (by decide +kernel) rfl, ⟨by decide +kernel, by decide +kernel⟩, by decide +kernel, by decide⟩
theorem cw_X7_chanceWithin (M : sM) : sCw M m_X7_chanceWithin 1 := ⟨sTb_of 881 (by decide +kernel) rfl, sTb_of 108 (by decide +kernel) rfl, ⟨by decide +kernel, by decide +kernel⟩, by decide +kernel, by decide⟩
theorem cw_X7_termOf (M : sM) : sCw M m_X7_termOf 2 := ⟨sTb_of 856 (by decide +kernel) rfl, sTb_of 108 (by decide +kernel) rfl, ⟨by decide +kernel, by decide +kernel⟩, by decide +kernel, by decide⟩
theorem cw_X7_addAll (M : sM) : sCw M m_X7_addAll 2 := ⟨sTb_of 960 (by decide +kernel) rfl, sTb_of 108 (by decide +kernel) rfl, ⟨by decide +kernel, by decide +kernel⟩, by decide +kernel, by decide⟩
theorem cw_X8_init (M : sM) : sCw M m_X8_init 0 := ⟨sTb_of 968 (by decide +kernel) rfl, sTb_of 115 (by decide +kernel) rfl, ⟨by decide +kernel, by decide +kernel⟩, by decide +kernel, by decide⟩
theorem cw_X8_within (M : sM) : sCw M m_X8_within 3 := ⟨sTb_of 1209 (by decide +kernel) rfl, sTb_of 115 (by decide +kernel) rfl, ⟨by decide +kernel, by decide +kernel⟩, by decide +kernel, by decide⟩
theorem cw_X8_size (M : sM) : sCw M m_X8_size 1 := ⟨sTb_of 1366 (by decide +kernel) rfl, sTb_of 115 (by decide +kernel) rfl, ⟨by decide +kernel, by decide +kernel⟩, by decide +kernel, by decide⟩
theorem cw_X8_greater (M : sM) : sCw M m_X8_greater 2 := ⟨sTb_of 1377 (by decide +kernel) rfl, sTb_of 115 (by decide +kernel) rfl, ⟨by decide +kernel, by decide +kernel⟩, by decide +kernel, by decide⟩
theorem cw_X8_letters (M : sM) : sCw M m_X8_letters 1 := ⟨sTb_of 1197 (by decide +kernel) rfl, sTb_of 115 (by decide +kernel) rfl, ⟨by decide +kernel, by decide +kernel⟩, by decide +kernel, by decide⟩
theorem cw_X8_blank (M : sM) : sCw M m_X8_blank 0 := ⟨sTb_of 1202 (by decide +kernel) rfl, sTb_of 115 (by decide +kernel) rfl, ⟨by decide +kernel, by decide +kernel⟩, by decide +kernel, by decide⟩
theorem cw_X8_isDigit (M : sM) : sCw M m_X8_isDigit 1 := ⟨sTb_of 1232 (by decide +kernel) rfl, sTb_of 115 (by decide +kernel) rfl, ⟨by decide +kernel, by decide +kernel⟩, by decide +kernel, by decide⟩
theorem cw_X8_begin (M : sM) : sCw M m_X8_begin 2 := ⟨sTb_of 1221 (by decide +kernel) rfl, sTb_of 115 (by decide +kernel) rfl, ⟨by decide +kernel, by decide +kernel⟩, by decide +kernel, by decide⟩
theorem cw_X8_fits (M : sM) : sCw M m_X8_fits 1 := ⟨sTb_of 1229 (by decide +kernel) rfl, sTb_of 115 (by decide +kernel) rfl, ⟨by decide +kernel, by decide +kernel⟩, by decide +kernel, by decide⟩
theorem cw_X8_grow (M : sM) : sCw M m_X8_grow 1 := ⟨sTb_of 1236 (by decide +kernel) rfl, sTb_of 115 (by decide +kernel) rfl, ⟨by decide +kernel, by decide +kernel⟩, by decide +kernel, by decide⟩
theorem cw_X8_isNumber (M : sM) : sCw M m_X8_isNumber 0 := ⟨sTb_of 1240 (by decide +kernel) rfl, sTb_of 115 (by decide +kernel) rfl, ⟨by decide +kernel, by decide +kernel⟩, by decide +kernel, by decide⟩
theorem cw_X8_nextRoom (M : sM) : sCw M m_X8_nextRoom 2 := ⟨sTb_of 1217 (by decide +kernel) rfl, sTb_of 115 (by decide +kernel) rfl, ⟨by decide +kernel, by decide +kernel⟩, by decide +kernel, by decide⟩
theorem cw_X8_behindGone (M : sM) : sCw M m_X8_behindGone 2 := ⟨sTb_of 1225 (by decide +kernel) rfl, sTb_of 115 (by decide +kernel) rfl, ⟨by decide +kernel, by decide +kernel⟩, by decide +kernel, by decide⟩
theorem cw_X8_nextWoman (M : sM) : sCw M m_X8_nextWoman 2 := ⟨sTb_of 1244 (by decide +kernel) rfl, sTb_of 115 (by decide +kernel) rfl, ⟨by decide +kernel, by decide +kernel⟩, by decide +kernel, by decide⟩
theorem cw_X8_nextGuest (M : sM) : sCw M m_X8_nextGuest 2 := ⟨sTb_of 1248 (by decide +kernel) rfl, sTb_of 115 (by decide +kernel) rfl, ⟨by decide +kernel, by decide +kernel⟩, by decide +kernel, by decide⟩
theorem cw_X8_readHouse (M : sM) : sCw M m_X8_readHouse 0 := ⟨sTb_of 1213 (by decide +kernel) rfl, sTb_of 115 (by decide +kernel) rfl, ⟨by decide +kernel, by decide +kernel⟩, by decide +kernel, by decide⟩
theorem cw_X8_readTold (M : sM) : sCw M m_X8_readTold 0 := ⟨sTb_of 1252 (by decide +kernel) rfl, sTb_of 115 (by decide +kernel) rfl, ⟨by decide +kernel, by decide +kernel⟩, by decide +kernel, by decide⟩
theorem cw_X8_fault (M : sM) : sCw M m_X8_fault 1 := ⟨sTb_of 1206 (by decide +kernel) rfl, sTb_of 115 (by decide +kernel) rfl, ⟨by decide +kernel, by decide +kernel⟩, by decide +kernel, by decide⟩
theorem cw_X8_house (M : sM) : sCw M m_X8_house 0 := ⟨sTb_of 1256 (by decide +kernel) rfl, sTb_of 115 (by decide +kernel) rfl, ⟨by decide +kernel, by decide +kernel⟩, by decide +kernel, by decide⟩
theorem cw_X8_tell (M : sM) : sCw M m_X8_tell 0 := ⟨sTb_of 1264 (by decide +kernel) rfl, sTb_of 115 (by decide +kernel) rfl, ⟨by decide +kernel, by decide +kernel⟩, by decide +kernel, by decide⟩
theorem cw_X8_rule (M : sM) : sCw M m_X8_rule 2 := ⟨sTb_of 1268 (by decide +kernel) rfl, sTb_of 115 (by decide +kernel) rfl, ⟨by decide +kernel, by decide +kernel⟩, by decide +kernel, by decide⟩
theorem cw_X8_isRule (M : sM) : sCw M m_X8_isRule 1 := ⟨sTb_of 1276 (by decide +kernel) rfl, sTb_of 115 (by decide +kernel) rfl, ⟨by decide +kernel, by decide +kernel⟩, by decide +kernel, by decide⟩
theorem cw_X8_as (M : sM) : sCw M m_X8_as 2 := ⟨sTb_of 1272 (by decide +kernel) rfl, sTb_of 115 (by decide +kernel) rfl, ⟨by decide +kernel, by decide +kernel⟩, by decide +kernel, by decide⟩
theorem cw_X8_isRoom (M : sM) : sCw M m_X8_isRoom 1 := ⟨sTb_of 1284 (by decide +kernel) rfl, sTb_of 115 (by decide +kernel) rfl, ⟨by decide +kernel, by decide +kernel⟩, by decide +kernel, by decide⟩
theorem cw_X8_isGuest (M : sM) : sCw M m_X8_isGuest 1 := ⟨sTb_of 1304 (by decide +kernel) rfl, sTb_of 115 (by decide +kernel) rfl, ⟨by decide +kernel, by decide +kernel⟩, by decide +kernel, by decide⟩
theorem cw_X8_roomTold (M : sM) : sCw M m_X8_roomTold 2 := ⟨sTb_of 1288 (by decide +kernel) rfl, sTb_of 115 (by decide +kernel) rfl, ⟨by decide +kernel, by decide +kernel⟩, by decide +kernel, by decide⟩
theorem cw_X8_room (M : sM) : sCw M m_X8_room 2 := ⟨sTb_of 1280 (by decide +kernel) rfl, sTb_of 115 (by decide +kernel) rfl, ⟨by decide +kernel, by decide +kernel⟩, by decide +kernel, by decide⟩
theorem cw_X8_womanTold (M : sM) : sCw M m_X8_womanTold 2 := ⟨sTb_of 1296 (by decide +kernel) rfl, sTb_of 115 (by decide +kernel) rfl, ⟨by decide +kernel, by decide +kernel⟩, by decide +kernel, by decide⟩
theorem cw_X8_woman (M : sM) : sCw M m_X8_woman 2 := ⟨sTb_of 1292 (by decide +kernel) rfl, sTb_of 115 (by decide +kernel) rfl, ⟨by decide +kernel, by decide +kernel⟩, by decide +kernel, by decide⟩
theorem cw_X8_guestTold (M : sM) : sCw M m_X8_guestTold 2 := ⟨sTb_of 1308 (by decide +kernel) rfl, sTb_of 115 (by decide +kernel) rfl, ⟨by decide +kernel, by decide +kernel⟩, by decide +kernel, by decide⟩
theorem cw_X8_guest (M : sM) : sCw M m_X8_guest 2 := ⟨sTb_of 1300 (by decide +kernel) rfl, sTb_of 115 (by decide +kernel) rfl, ⟨by decide +kernel, by decide +kernel⟩, by decide +kernel, by decide⟩
theorem cw_X8_change (M : sM) : sCw M m_X8_change 0 := ⟨sTb_of 1260 (by decide +kernel) rfl, sTb_of 115 (by decide +kernel) rfl, ⟨by decide +kernel, by decide +kernel⟩, by decide +kernel, by decide⟩
theorem cw_X8_late (M : sM) : sCw M m_X8_late 2 := ⟨sTb_of 1312 (by decide +kernel) rfl, sTb_of 115 (by decide +kernel) rfl, ⟨by decide +kernel, by decide +kernel⟩, by decide +kernel, by decide⟩
theorem cw_X8_lift (M : sM) : sCw M m_X8_lift 1 := ⟨sTb_of 1316 (by decide +kernel) rfl, sTb_of 115 (by decide +kernel) rfl, ⟨by decide +kernel, by decide +kernel⟩, by decide +kernel, by decide⟩
theorem cw_X8_chanceMany (M : sM) : sCw M m_X8_chanceMany 0 := ⟨sTb_of 1328 (by decide +kernel) rfl, sTb_of 115 (by decide +kernel) rfl, ⟨by decide +kernel, by decide +kernel⟩, by decide +kernel, by decide⟩
theorem cw_X8_isWay (M : sM) : sCw M m_X8_isWay 1 := ⟨sTb_of 1324 (by decide +kernel) rfl, sTb_of 115 (by decide +kernel) rfl, ⟨by decide +kernel, by decide +kernel⟩, by decide +kernel, by decide⟩
theorem cw_X8_layGone (M : sM) : sCw M m_X8_layGone 1 := ⟨sTb_of 1332 (by decide +kernel) rfl, sTb_of 115 (by decide +kernel) rfl, ⟨by decide +kernel, by decide +kernel⟩, by decide +kernel, by decide⟩
theorem cw_X8_weight (M : sM) : sCw M m_X8_weight 1 := ⟨sTb_of 1402 (by decide +kernel) rfl, sTb_of 115 (by decide +kernel) rfl, ⟨by decide +kernel, by decide +kernel⟩, by decide +kernel, by decide⟩
theorem cw_X8_whole (M : sM) : sCw M m_X8_whole 0 := ⟨sTb_of 1497 (by decide +kernel) rfl, sTb_of 115 (by decide +kernel) rfl, ⟨by decide +kernel, by decide +kernel⟩, by decide +kernel, by decide⟩
theorem cw_X8_gone (M : sM) : sCw M m_X8_gone 2 := ⟨sTb_of 1320 (by decide +kernel) rfl, sTb_of 115 (by decide +kernel) rfl, ⟨by decide +kernel, by decide +kernel⟩, by decide +kernel, by decide⟩
theorem cw_X8_clear (M : sM) : sCw M m_X8_clear 0 := ⟨sTb_of 1355 (by decide +kernel) rfl, sTb_of 115 (by decide +kernel) rfl, ⟨by decide +kernel, by decide +kernel⟩, by decide +kernel, by decide⟩
theorem cw_X8_beginsAt (M : sM) : sCw M m_X8_beginsAt 2 := ⟨sTb_of 1374 (by decide +kernel) rfl, sTb_of 115 (by decide +kernel) rfl, ⟨by decide +kernel, by decide +kernel⟩, by decide +kernel, by decide⟩
theorem cw_X8_may (M : sM) : sCw M m_X8_may 2 := ⟨sTb_of 1370 (by decide +kernel) rfl, sTb_of 115 (by decide +kernel) rfl, ⟨by decide +kernel, by decide +kernel⟩, by decide +kernel, by decide⟩
theorem cw_X8_doRoom (M : sM) : sCw M m_X8_doRoom 2 := ⟨sTb_of 1381 (by decide +kernel) rfl, sTb_of 115 (by decide +kernel) rfl, ⟨by decide +kernel, by decide +kernel⟩, by decide +kernel, by decide⟩
theorem cw_X8_layList (M : sM) : sCw M m_X8_layList 0 := ⟨sTb_of 1398 (by decide +kernel) rfl, sTb_of 115 (by decide +kernel) rfl, ⟨by decide +kernel, by decide +kernel⟩, by decide +kernel, by decide⟩
theorem cw_X8_layNatural (M : sM) : sCw M m_X8_layNatural 0 := ⟨sTb_of 1450 (by decide +kernel) rfl, sTb_of 115 (by decide +kernel) rfl, ⟨by decide +kernel, by decide +kernel⟩, by decide +kernel, by decide⟩
theorem cw_X8_nearestWoman (M : sM) : sCw M m_X8_nearestWoman 1 := ⟨sTb_of 1363 (by decide +kernel) rfl, sTb_of 115 (by decide +kernel) rfl, ⟨by decide +kernel, by decide +kernel⟩, by decide +kernel, by decide⟩
theorem cw_X8_layFloors (M : sM) : sCw M m_X8_layFloors 0 := ⟨sTb_of 1359 (by decide +kernel) rfl, sTb_of 115 (by decide +kernel) rfl, ⟨by decide +kernel, by decide +kernel⟩, by decide +kernel, by decide⟩
theorem cw_X8_suits (M : sM) : sCw M m_X8_suits 2 := ⟨sTb_of 1418 (by decide +kernel) rfl, sTb_of 115 (by decide +kernel) rfl, ⟨by decide +kernel, by decide +kernel⟩, by decide +kernel, by decide⟩
theorem cw_X8_firstGuest (M : sM) : sCw M m_X8_firstGuest 1 := ⟨sTb_of 1466 (by decide +kernel) rfl, sTb_of 115 (by decide +kernel) rfl, ⟨by decide +kernel, by decide +kernel⟩, by decide +kernel, by decide⟩
theorem cw_X8_worthOf (M : sM) : sCw M m_X8_worthOf 3 := ⟨sTb_of 1462 (by decide +kernel) rfl, sTb_of 115 (by decide +kernel) rfl, ⟨by decide +kernel, by decide +kernel⟩, by decide +kernel, by decide⟩
theorem cw_X8_chosen (M : sM) : sCw M m_X8_chosen 2 := ⟨sTb_of 1458 (by decide +kernel) rfl, sTb_of 115 (by decide +kernel) rfl, ⟨by decide +kernel, by decide +kernel⟩, by decide +kernel, by decide⟩
theorem cw_X8_nextGone (M : sM) : sCw M m_X8_nextGone 1 := ⟨sTb_of 1470 (by decide +kernel) rfl, sTb_of 115 (by decide +kernel) rfl, ⟨by decide +kernel, by decide +kernel⟩, by decide +kernel, by decide⟩
theorem cw_X8_layFree (M : sM) : sCw M m_X8_layFree 1 := ⟨sTb_of 1454 (by decide +kernel) rfl, sTb_of 115 (by decide +kernel) rfl, ⟨by decide +kernel, by decide +kernel⟩, by decide +kernel, by decide⟩
theorem cw_X8_layTold (M : sM) : sCw M m_X8_layTold 1 := ⟨sTb_of 1446 (by decide +kernel) rfl, sTb_of 115 (by decide +kernel) rfl, ⟨by decide +kernel, by decide +kernel⟩, by decide +kernel, by decide⟩
theorem cw_X8_laySchedule (M : sM) : sCw M m_X8_laySchedule 2 := ⟨sTb_of 1351 (by decide +kernel) rfl, sTb_of 115 (by decide +kernel) rfl, ⟨by decide +kernel, by decide +kernel⟩, by decide +kernel, by decide⟩
theorem cw_X8_waits (M : sM) : sCw M m_X8_waits 2 := ⟨sTb_of 1422 (by decide +kernel) rfl, sTb_of 115 (by decide +kernel) rfl, ⟨by decide +kernel, by decide +kernel⟩, by decide +kernel, by decide⟩
theorem cw_X8_costOf (M : sM) : sCw M m_X8_costOf 2 := ⟨sTb_of 1434 (by decide +kernel) rfl, sTb_of 115 (by decide +kernel) rfl, ⟨by decide +kernel, by decide +kernel⟩, by decide +kernel, by decide⟩
theorem cw_X8_canHave (M : sM) : sCw M m_X8_canHave 3 := ⟨sTb_of 1414 (by decide +kernel) rfl, sTb_of 115 (by decide +kernel) rfl, ⟨by decide +kernel, by decide +kernel⟩, by decide +kernel, by decide⟩
theorem cw_X8_giveAsTheyCome (M : sM) : sCw M m_X8_giveAsTheyCome 0 := ⟨sTb_of 1410 (by decide +kernel) rfl, sTb_of 115 (by decide +kernel) rfl, ⟨by decide +kernel, by decide +kernel⟩, by decide +kernel, by decide⟩
theorem cw_X8_by (M : sM) : sCw M m_X8_by 3 := ⟨sTb_of 1430 (by decide +kernel) rfl, sTb_of 115 (by decide +kernel) rfl, ⟨by decide +kernel, by decide +kernel⟩, by decide +kernel, by decide⟩
theorem cw_X8_giveWisely (M : sM) : sCw M m_X8_giveWisely 0 := ⟨sTb_of 1426 (by decide +kernel) rfl, sTb_of 115 (by decide +kernel) rfl, ⟨by decide +kernel, by decide +kernel⟩, by decide +kernel, by decide⟩
theorem cw_X8_giveAll (M : sM) : sCw M m_X8_giveAll 1 := ⟨sTb_of 1406 (by decide +kernel) rfl, sTb_of 115 (by decide +kernel) rfl, ⟨by decide +kernel, by decide +kernel⟩, by decide +kernel, by decide⟩
theorem cw_X8_nextOrder (M : sM) : sCw M m_X8_nextOrder 0 := ⟨sTb_of 1438 (by decide +kernel) rfl, sTb_of 115 (by decide +kernel) rfl, ⟨by decide +kernel, by decide +kernel⟩, by decide +kernel, by decide⟩
theorem cw_X8_swap (M : sM) : sCw M m_X8_swap 2 := ⟨sTb_of 1442 (by decide +kernel) rfl, sTb_of 115 (by decide +kernel) rfl, ⟨by decide +kernel, by decide +kernel⟩, by decide +kernel, by decide⟩
theorem cw_X8_layOrderCost (M : sM) : sCw M m_X8_layOrderCost 2 := ⟨sTb_of 1394 (by decide +kernel) rfl, sTb_of 115 (by decide +kernel) rfl, ⟨by decide +kernel, by decide +kernel⟩, by decide +kernel, by decide⟩
theorem cw_X8_layOrders (M : sM) : sCw M m_X8_layOrders 2 := ⟨sTb_of 1389 (by decide +kernel) rfl, sTb_of 115 (by decide +kernel) rfl, ⟨by decide +kernel, by decide +kernel⟩, by decide +kernel, by decide⟩
theorem cw_X8_layBestOrder (M : sM) : sCw M m_X8_layBestOrder 1 := ⟨sTb_of 1385 (by decide +kernel) rfl, sTb_of 115 (by decide +kernel) rfl, ⟨by decide +kernel, by decide +kernel⟩, by decide +kernel, by decide⟩
theorem cw_X8_bars (M : sM) : sCw M m_X8_bars 3 := ⟨sTb_of 1343 (by decide +kernel) rfl, sTb_of 115 (by decide +kernel) rfl, ⟨by decide +kernel, by decide +kernel⟩, by decide +kernel, by decide⟩
theorem cw_X8_isGiving (M : sM) : sCw M m_X8_isGiving 1 := ⟨sTb_of 1477 (by decide +kernel) rfl, sTb_of 115 (by decide +kernel) rfl, ⟨by decide +kernel, by decide +kernel⟩, by decide +kernel, by decide⟩
theorem cw_X8_asWay (M : sM) : sCw M m_X8_asWay 1 := ⟨sTb_of 1339 (by decide +kernel) rfl, sTb_of 115 (by decide +kernel) rfl, ⟨by decide +kernel, by decide +kernel⟩, by decide +kernel, by decide⟩
theorem cw_X8_allWomen (M : sM) : sCw M m_X8_allWomen 0 := ⟨sTb_of 1347 (by decide +kernel) rfl, sTb_of 115 (by decide +kernel) rfl, ⟨by decide +kernel, by decide +kernel⟩, by decide +kernel, by decide⟩
theorem cw_X8_costBy (M : sM) : sCw M m_X8_costBy 3 := ⟨sTb_of 1481 (by decide +kernel) rfl, sTb_of 115 (by decide +kernel) rfl, ⟨by decide +kernel, by decide +kernel⟩, by decide +kernel, by decide⟩
theorem cw_X8_done (M : sM) : sCw M m_X8_done 4 := ⟨sTb_of 1336 (by decide +kernel) rfl, sTb_of 115 (by decide +kernel) rfl, ⟨by decide +kernel, by decide +kernel⟩, by decide +kernel, by decide⟩
theorem cw_X8_given (M : sM) : sCw M m_X8_given 5 := ⟨sTb_of 1474 (by decide +kernel) rfl, sTb_of 115 (by decide +kernel) rfl, ⟨by decide +kernel, by decide +kernel⟩, by decide +kernel, by decide⟩
theorem cw_X8_cost (M : sM) : sCw M m_X8_cost 3 := ⟨sTb_of 1485 (by decide +kernel) rfl, sTb_of 115 (by decide +kernel) rfl, ⟨by decide +kernel, by decide +kernel⟩, by decide +kernel, by decide⟩
theorem cw_X8_sumBy (M : sM) : sCw M m_X8_sumBy 2 := ⟨sTb_of 1493 (by decide +kernel) rfl, sTb_of 115 (by decide +kernel) rfl, ⟨by decide +kernel, by decide +kernel⟩, by decide +kernel, by decide⟩
theorem cw_X8_divisor (M : sM) : sCw M m_X8_divisor 2 := ⟨sTb_of 1503 (by decide +kernel) rfl, sTb_of 115 (by decide +kernel) rfl, ⟨by decide +kernel, by decide +kernel⟩, by decide +kernel, by decide⟩
theorem cw_X8_lowest (M : sM) : sCw M m_X8_lowest 3 := ⟨sTb_of 1500 (by decide +kernel) rfl, sTb_of 115 (by decide +kernel) rfl, ⟨by decide +kernel, by decide +kernel⟩, by decide +kernel, by decide⟩
theorem cw_X8_mean (M : sM) : sCw M m_X8_mean 3 := ⟨sTb_of 1489 (by decide +kernel) rfl, sTb_of 115 (by decide +kernel) rfl, ⟨by decide +kernel, by decide +kernel⟩, by decide +kernel, by decide⟩
theorem cw_X8_worst (M : sM) : sCw M m_X8_worst 3 := ⟨sTb_of 1507 (by decide +kernel) rfl, sTb_of 115 (by decide +kernel) rfl, ⟨by decide +kernel, by decide +kernel⟩, by decide +kernel, by decide⟩
theorem cw_X8_sureOf (M : sM) : sCw M m_X8_sureOf 4 := ⟨sTb_of 1515 (by decide +kernel) rfl, sTb_of 115 (by decide +kernel) rfl, ⟨by decide +kernel, by decide +kernel⟩, by decide +kernel, by decide⟩
theorem cw_X8_sure (M : sM) : sCw M m_X8_sure 5 := ⟨sTb_of 1511 (by decide +kernel) rfl, sTb_of 115 (by decide +kernel) rfl, ⟨by decide +kernel, by decide +kernel⟩, by decide +kernel, by decide⟩
theorem cw_X8_tells (M : sM) : sCw M m_X8_tells 4 := ⟨sTb_of 1519 (by decide +kernel) rfl, sTb_of 115 (by decide +kernel) rfl, ⟨by decide +kernel, by decide +kernel⟩, by decide +kernel, by decide⟩
theorem cw_X8_run (M : sM) : sCw M m_X8_run 4 := ⟨sTb_of 1523 (by decide +kernel) rfl, sTb_of 115 (by decide +kernel) rfl, ⟨by decide +kernel, by decide +kernel⟩, by decide +kernel, by decide⟩
theorem cw_X8_best (M : sM) : sCw M m_X8_best 2 := ⟨sTb_of 1532 (by decide +kernel) rfl, sTb_of 115 (by decide +kernel) rfl, ⟨by decide +kernel, by decide +kernel⟩, by decide +kernel, by decide⟩
theorem cw_X8_isCalled (M : sM) : sCw M m_X8_isCalled 1 := ⟨sTb_of 1540 (by decide +kernel) rfl, sTb_of 115 (by decide +kernel) rfl, ⟨by decide +kernel, by decide +kernel⟩, by decide +kernel, by decide⟩
theorem cw_X8_bitOf (M : sM) : sCw M m_X8_bitOf 1 := ⟨sTb_of 1548 (by decide +kernel) rfl, sTb_of 115 (by decide +kernel) rfl, ⟨by decide +kernel, by decide +kernel⟩, by decide +kernel, by decide⟩
theorem cw_X8_worthOfCall (M : sM) : sCw M m_X8_worthOfCall 2 := ⟨sTb_of 1544 (by decide +kernel) rfl, sTb_of 115 (by decide +kernel) rfl, ⟨by decide +kernel, by decide +kernel⟩, by decide +kernel, by decide⟩
theorem cw_X8_call (M : sM) : sCw M m_X8_call 3 := ⟨sTb_of 1536 (by decide +kernel) rfl, sTb_of 115 (by decide +kernel) rfl, ⟨by decide +kernel, by decide +kernel⟩, by decide +kernel, by decide⟩
theorem cw_X8_called (M : sM) : sCw M m_X8_called 1 := ⟨sTb_of 1552 (by decide +kernel) rfl, sTb_of 115 (by decide +kernel) rfl, ⟨by decide +kernel, by decide +kernel⟩, by decide +kernel, by decide⟩
theorem cw_X8_sumAnew (M : sM) : sCw M m_X8_sumAnew 2 := ⟨sTb_of 1560 (by decide +kernel) rfl, sTb_of 115 (by decide +kernel) rfl, ⟨by decide +kernel, by decide +kernel⟩, by decide +kernel, by decide⟩
theorem cw_X8_missed (M : sM) : sCw M m_X8_missed 2 := ⟨sTb_of 1556 (by decide +kernel) rfl, sTb_of 115 (by decide +kernel) rfl, ⟨by decide +kernel, by decide +kernel⟩, by decide +kernel, by decide⟩
theorem cw_X8_more (M : sM) : sCw M m_X8_more 3 := ⟨sTb_of 1564 (by decide +kernel) rfl, sTb_of 115 (by decide +kernel) rfl, ⟨by decide +kernel, by decide +kernel⟩, by decide +kernel, by decide⟩
theorem cw_X8_which (M : sM) : sCw M m_X8_which 1 := ⟨sTb_of 1571 (by decide +kernel) rfl, sTb_of 115 (by decide +kernel) rfl, ⟨by decide +kernel, by decide +kernel⟩, by decide +kernel, by decide⟩
theorem cw_X8_lateMany (M : sM) : sCw M m_X8_lateMany 0 := ⟨sTb_of 1579 (by decide +kernel) rfl, sTb_of 115 (by decide +kernel) rfl, ⟨by decide +kernel, by decide +kernel⟩, by decide +kernel, by decide⟩
theorem cw_X8_image (M : sM) : sCw M m_X8_image 0 := ⟨sTb_of 1575 (by decide +kernel) rfl, sTb_of 115 (by decide +kernel) rfl, ⟨by decide +kernel, by decide +kernel⟩, by decide +kernel, by decide⟩
theorem cw_X8_restore (M : sM) : sCw M m_X8_restore 0 := ⟨sTb_of 1583 (by decide +kernel) rfl, sTb_of 115 (by decide +kernel) rfl, ⟨by decide +kernel, by decide +kernel⟩, by decide +kernel, by decide⟩
theorem cw_X8_howMany (M : sM) : sCw M m_X8_howMany 1 := ⟨sTb_of 1591 (by decide +kernel) rfl, sTb_of 115 (by decide +kernel) rfl, ⟨by decide +kernel, by decide +kernel⟩, by decide +kernel, by decide⟩
theorem cw_X8_count (M : sM) : sCw M m_X8_count 1 := ⟨sTb_of 1587 (by decide +kernel) rfl, sTb_of 115 (by decide +kernel) rfl, ⟨by decide +kernel, by decide +kernel⟩, by decide +kernel, by decide⟩
theorem cw_X8_mix (M : sM) : sCw M m_X8_mix 1 := ⟨sTb_of 1600 (by decide +kernel) rfl, sTb_of 115 (by decide +kernel) rfl, ⟨by decide +kernel, by decide +kernel⟩, by decide +kernel, by decide⟩
theorem cw_X8_digest (M : sM) : sCw M m_X8_digest 0 := ⟨sTb_of 1595 (by decide +kernel) rfl, sTb_of 115 (by decide +kernel) rfl, ⟨by decide +kernel, by decide +kernel⟩, by decide +kernel, by decide⟩
theorem f_X7_10 : sFL RX7 10 7 0 true := ⟨_, rfl, by decide, rfl, sTb_of 383 (by decide +kernel) rfl⟩
theorem f_X7_19 : sFL RX7 19 7 1 true := ⟨_, rfl, by decide, rfl, sTb_of 384 (by decide +kernel) rfl⟩
theorem f_X7_23 : sFL RX7 23 7 2 true := ⟨_, rfl, by decide, rfl, sTb_of 385 (by decide +kernel) rfl⟩
theorem f_X7_28 : sFL RX7 28 7 3 true := ⟨_, rfl, by decide, rfl, sTb_of 386 (by decide +kernel) rfl⟩
theorem f_X7_37 : sFL RX7 37 7 5 true := ⟨_, rfl, by decide, rfl, sTb_of 388 (by decide +kernel) rfl⟩
theorem f_X7_44 : sFL RX7 44 7 6 true := ⟨_, rfl, by decide, rfl, sTb_of 389 (by decide +kernel) rfl⟩
theorem f_X7_53 : sFL RX7 53 7 7 true := ⟨_, rfl, by decide, rfl, sTb_of 390 (by decide +kernel) rfl⟩
theorem f_X7_57 : sFL RX7 57 7 8 true := ⟨_, rfl, by decide, rfl, sTb_of 391 (by decide +kernel) rfl⟩
theorem f_X7_61 : sFL RX7 61 7 9 true := ⟨_, rfl, by decide, rfl, sTb_of 392 (by decide +kernel) rfl⟩
theorem f_X7_68 : sFL RX7 68 5 1 false := ⟨_, rfl, by decide, rfl, sTb_of 135 (by decide +kernel) rfl⟩
theorem f_X7_84 : sFL RX7 84 5 2 false := ⟨_, rfl, by decide, rfl, sTb_of 138 (by decide +kernel) rfl⟩
theorem f_X7_87 : sFL RX7 87 7 11 false := ⟨_, rfl, by decide, rfl, sTb_of 394 (by decide +kernel) rfl⟩
theorem f_X7_94 : sFL RX7 94 2 3 false := ⟨_, rfl, by decide, rfl, sTb_of 187 (by decide +kernel) rfl⟩
theorem f_X7_97 : sFL RX7 97 7 4 false := ⟨_, rfl, by decide, rfl, sTb_of 387 (by decide +kernel) rfl⟩
theorem f_X7_128 : sFL RX7 128 2 0 true := ⟨_, rfl, by decide, rfl, sTb_of 171 (by decide +kernel) rfl⟩
theorem f_X7_132 : sFL RX7 132 2 4 false := ⟨_, rfl, by decide, rfl, sTb_of 191 (by decide +kernel) rfl⟩
theorem f_X7_135 : sFL RX7 135 2 1 true := ⟨_, rfl, by decide, rfl, sTb_of 175 (by decide +kernel) rfl⟩
theorem f_X7_141 : sFL RX7 141 2 2 true := ⟨_, rfl, by decide, rfl, sTb_of 180 (by decide +kernel) rfl⟩
theorem f_X7_147 : sFL RX7 147 0 0 false := ⟨_, rfl, by decide, rfl, sTb_of 248 (by decide +kernel) rfl⟩
theorem f_X7_160 : sFL RX7 160 6 0 true := ⟨_, rfl, by decide, rfl, sTb_of 563 (by decide +kernel) rfl⟩
theorem f_X7_163 : sFL RX7 163 6 1 true := ⟨_, rfl, by decide, rfl, sTb_of 565 (by decide +kernel) rfl⟩
theorem f_X7_174 : sFL RX7 174 0 9 true := ⟨_, rfl, by decide, rfl, sTb_of 260 (by decide +kernel) rfl⟩
theorem f_X7_177 : sFL RX7 177 0 10 true := ⟨_, rfl, by decide, rfl, sTb_of 262 (by decide +kernel) rfl⟩
theorem f_X7_180 : sFL RX7 180 0 11 true := ⟨_, rfl, by decide, rfl, sTb_of 265 (by decide +kernel) rfl⟩
theorem f_X7_190 : sFL RX7 190 1 2 true := ⟨_, rfl, by decide, rfl, sTb_of 340 (by decide +kernel) rfl⟩
theorem f_X7_228 : sFL RX7 228 2 6 false := ⟨_, rfl, by decide, rfl, sTb_of 199 (by decide +kernel) rfl⟩
theorem f_X7_231 : sFL RX7 231 2 7 true := ⟨_, rfl, by decide, rfl, sTb_of 202 (by decide +kernel) rfl⟩
theorem f_X7_244 : sFL RX7 244 7 12 false := ⟨_, rfl, by decide, rfl, sTb_of 395 (by decide +kernel) rfl⟩
theorem f_X7_270 : sFL RX7 270 7 10 false := ⟨_, rfl, by decide, rfl, sTb_of 393 (by decide +kernel) rfl⟩
theorem f_X7_276 : sFL RX7 276 2 5 false := ⟨_, rfl, by decide, rfl, sTb_of 196 (by decide +kernel) rfl⟩
theorem f_X7_290 : sFL RX7 290 5 0 true := ⟨_, rfl, by decide, rfl, sTb_of 134 (by decide +kernel) rfl⟩
theorem f_X0_9 : sFL RX0 9 0 0 false := ⟨_, rfl, by decide, rfl, sTb_of 247 (by decide +kernel) rfl⟩
theorem f_X0_17 : sFL RX0 17 0 1 true := ⟨_, rfl, by decide, rfl, sTb_of 249 (by decide +kernel) rfl⟩
theorem f_X0_20 : sFL RX0 20 0 2 true := ⟨_, rfl, by decide, rfl, sTb_of 250 (by decide +kernel) rfl⟩
theorem f_X0_24 : sFL RX0 24 0 4 true := ⟨_, rfl, by decide, rfl, sTb_of 252 (by decide +kernel) rfl⟩
theorem f_X0_28 : sFL RX0 28 0 5 true := ⟨_, rfl, by decide, rfl, sTb_of 254 (by decide +kernel) rfl⟩
theorem f_X0_31 : sFL RX0 31 0 6 true := ⟨_, rfl, by decide, rfl, sTb_of 256 (by decide +kernel) rfl⟩
theorem f_X0_34 : sFL RX0 34 0 8 true := ⟨_, rfl, by decide, rfl, sTb_of 258 (by decide +kernel) rfl⟩
theorem f_X0_37 : sFL RX0 37 0 9 true := ⟨_, rfl, by decide, rfl, sTb_of 259 (by decide +kernel) rfl⟩
theorem f_X0_40 : sFL RX0 40 0 10 true := ⟨_, rfl, by decide, rfl, sTb_of 261 (by decide +kernel) rfl⟩
theorem f_X0_43 : sFL RX0 43 0 11 true := ⟨_, rfl, by decide, rfl, sTb_of 263 (by decide +kernel) rfl⟩
theorem f_X0_46 : sFL RX0 46 0 7 true := ⟨_, rfl, by decide, rfl, sTb_of 257 (by decide +kernel) rfl⟩
theorem f_X0_50 : sFL RX0 50 0 3 false := ⟨_, rfl, by decide, rfl, sTb_of 251 (by decide +kernel) rfl⟩
theorem f_X0_53 : sFL RX0 53 2 4 false := ⟨_, rfl, by decide, rfl, sTb_of 189 (by decide +kernel) rfl⟩
theorem f_X0_58 : sFL RX0 58 2 1 true := ⟨_, rfl, by decide, rfl, sTb_of 173 (by decide +kernel) rfl⟩
theorem f_X0_67 : sFL RX0 67 2 3 false := ⟨_, rfl, by decide, rfl, sTb_of 185 (by decide +kernel) rfl⟩
theorem f_X0_78 : sFL RX0 78 6 0 true := ⟨_, rfl, by decide, rfl, sTb_of 562 (by decide +kernel) rfl⟩
theorem f_X0_107 : sFL RX0 107 2 0 true := ⟨_, rfl, by decide, rfl, sTb_of 170 (by decide +kernel) rfl⟩
theorem f_X0_131 : sFL RX0 131 2 10 true := ⟨_, rfl, by decide, rfl, sTb_of 209 (by decide +kernel) rfl⟩
theorem f_X0_134 : sFL RX0 134 6 2 true := ⟨_, rfl, by decide, rfl, sTb_of 567 (by decide +kernel) rfl⟩
theorem f_X0_137 : sFL RX0 137 6 3 true := ⟨_, rfl, by decide, rfl, sTb_of 569 (by decide +kernel) rfl⟩
theorem f_X1_9 : sFL RX1 9 1 2 true := ⟨_, rfl, by decide, rfl, sTb_of 339 (by decide +kernel) rfl⟩
theorem f_X1_15 : sFL RX1 15 1 0 true := ⟨_, rfl, by decide, rfl, sTb_of 336 (by decide +kernel) rfl⟩
theorem f_X1_24 : sFL RX1 24 1 1 true := ⟨_, rfl, by decide, rfl, sTb_of 337 (by decide +kernel) rfl⟩
theorem f_X1_35 : sFL RX1 35 2 3 false := ⟨_, rfl, by decide, rfl, sTb_of 184 (by decide +kernel) rfl⟩
theorem f_X1_45 : sFL RX1 45 2 2 true := ⟨_, rfl, by decide, rfl, sTb_of 177 (by decide +kernel) rfl⟩
theorem f_X1_55 : sFL RX1 55 2 5 false := ⟨_, rfl, by decide, rfl, sTb_of 194 (by decide +kernel) rfl⟩
theorem f_X1_58 : sFL RX1 58 2 9 true := ⟨_, rfl, by decide, rfl, sTb_of 207 (by decide +kernel) rfl⟩
theorem f_X1_61 : sFL RX1 61 2 8 true := ⟨_, rfl, by decide, rfl, sTb_of 204 (by decide +kernel) rfl⟩
theorem f_X1_78 : sFL RX1 78 2 11 false := ⟨_, rfl, by decide, rfl, sTb_of 212 (by decide +kernel) rfl⟩
theorem f_X2_11 : sFL RX2 11 2 0 true := ⟨_, rfl, by decide, rfl, sTb_of 168 (by decide +kernel) rfl⟩
theorem f_X2_16 : sFL RX2 16 2 1 true := ⟨_, rfl, by decide, rfl, sTb_of 172 (by decide +kernel) rfl⟩
theorem f_X2_19 : sFL RX2 19 2 2 true := ⟨_, rfl, by decide, rfl, sTb_of 176 (by decide +kernel) rfl⟩
theorem f_X2_22 : sFL RX2 22 2 7 true := ⟨_, rfl, by decide, rfl, sTb_of 200 (by decide +kernel) rfl⟩
theorem f_X2_26 : sFL RX2 26 2 8 true := ⟨_, rfl, by decide, rfl, sTb_of 203 (by decide +kernel) rfl⟩
theorem f_X2_29 : sFL RX2 29 2 9 true := ⟨_, rfl, by decide, rfl, sTb_of 206 (by decide +kernel) rfl⟩
theorem f_X2_32 : sFL RX2 32 2 10 true := ⟨_, rfl, by decide, rfl, sTb_of 208 (by decide +kernel) rfl⟩
theorem f_X2_35 : sFL RX2 35 2 3 false := ⟨_, rfl, by decide, rfl, sTb_of 181 (by decide +kernel) rfl⟩
theorem f_X2_39 : sFL RX2 39 2 4 false := ⟨_, rfl, by decide, rfl, sTb_of 188 (by decide +kernel) rfl⟩
theorem f_X2_42 : sFL RX2 42 2 5 false := ⟨_, rfl, by decide, rfl, sTb_of 193 (by decide +kernel) rfl⟩
theorem f_X2_45 : sFL RX2 45 2 6 false := ⟨_, rfl, by decide, rfl, sTb_of 197 (by decide +kernel) rfl⟩
theorem f_X2_48 : sFL RX2 48 2 11 false := ⟨_, rfl, by decide, rfl, sTb_of 210 (by decide +kernel) rfl⟩
theorem f_X3_11 : sFL RX3 11 3 2 true := ⟨_, rfl, by decide, rfl, sTb_of 309 (by decide +kernel) rfl⟩
theorem f_X3_16 : sFL RX3 16 3 3 true := ⟨_, rfl, by decide, rfl, sTb_of 310 (by decide +kernel) rfl⟩
theorem f_X3_19 : sFL RX3 19 3 4 true := ⟨_, rfl, by decide, rfl, sTb_of 311 (by decide +kernel) rfl⟩
theorem f_X3_24 : sFL RX3 24 3 5 true := ⟨_, rfl, by decide, rfl, sTb_of 312 (by decide +kernel) rfl⟩
theorem f_X3_27 : sFL RX3 27 3 6 true := ⟨_, rfl, by decide, rfl, sTb_of 313 (by decide +kernel) rfl⟩
theorem f_X3_31 : sFL RX3 31 3 7 true := ⟨_, rfl, by decide, rfl, sTb_of 314 (by decide +kernel) rfl⟩
theorem f_X3_35 : sFL RX3 35 3 8 true := ⟨_, rfl, by decide, rfl, sTb_of 315 (by decide +kernel) rfl⟩
theorem f_X3_39 : sFL RX3 39 3 0 true := ⟨_, rfl, by decide, rfl, sTb_of 307 (by decide +kernel) rfl⟩
theorem f_X3_43 : sFL RX3 43 2 5 false := ⟨_, rfl, by decide, rfl, sTb_of 192 (by decide +kernel) rfl⟩
theorem f_X3_49 : sFL RX3 49 2 3 false := ⟨_, rfl, by decide, rfl, sTb_of 182 (by decide +kernel) rfl⟩
theorem f_X3_61 : sFL RX3 61 3 1 false := ⟨_, rfl, by decide, rfl, sTb_of 308 (by decide +kernel) rfl⟩
theorem f_X3_92 : sFL RX3 92 2 8 true := ⟨_, rfl, by decide, rfl, sTb_of 205 (by decide +kernel) rfl⟩
theorem f_X3_95 : sFL RX3 95 2 2 true := ⟨_, rfl, by decide, rfl, sTb_of 178 (by decide +kernel) rfl⟩
theorem f_X4_11 : sFL RX4 11 4 3 true := ⟨_, rfl, by decide, rfl, sTb_of 358 (by decide +kernel) rfl⟩
theorem f_X4_16 : sFL RX4 16 4 4 true := ⟨_, rfl, by decide, rfl, sTb_of 359 (by decide +kernel) rfl⟩
theorem f_X4_20 : sFL RX4 20 4 7 true := ⟨_, rfl, by decide, rfl, sTb_of 362 (by decide +kernel) rfl⟩
theorem f_X4_23 : sFL RX4 23 4 8 true := ⟨_, rfl, by decide, rfl, sTb_of 363 (by decide +kernel) rfl⟩
theorem f_X4_27 : sFL RX4 27 4 0 true := ⟨_, rfl, by decide, rfl, sTb_of 355 (by decide +kernel) rfl⟩
theorem f_X4_31 : sFL RX4 31 4 1 true := ⟨_, rfl, by decide, rfl, sTb_of 356 (by decide +kernel) rfl⟩
theorem f_X4_35 : sFL RX4 35 4 2 true := ⟨_, rfl, by decide, rfl, sTb_of 357 (by decide +kernel) rfl⟩
theorem f_X4_39 : sFL RX4 39 2 3 false := ⟨_, rfl, by decide, rfl, sTb_of 183 (by decide +kernel) rfl⟩
theorem f_X4_64 : sFL RX4 64 4 6 false := ⟨_, rfl, by decide, rfl, sTb_of 361 (by decide +kernel) rfl⟩
theorem f_X4_75 : sFL RX4 75 4 5 false := ⟨_, rfl, by decide, rfl, sTb_of 360 (by decide +kernel) rfl⟩
theorem f_X4_83 : sFL RX4 83 1 1 true := ⟨_, rfl, by decide, rfl, sTb_of 338 (by decide +kernel) rfl⟩
theorem f_X4_98 : sFL RX4 98 2 11 false := ⟨_, rfl, by decide, rfl, sTb_of 211 (by decide +kernel) rfl⟩
theorem f_X4_104 : sFL RX4 104 0 11 true := ⟨_, rfl, by decide, rfl, sTb_of 264 (by decide +kernel) rfl⟩
theorem f_X4_117 : sFL RX4 117 0 4 true := ⟨_, rfl, by decide, rfl, sTb_of 253 (by decide +kernel) rfl⟩
theorem f_X4_120 : sFL RX4 120 0 5 true := ⟨_, rfl, by decide, rfl, sTb_of 255 (by decide +kernel) rfl⟩
theorem f_X5_9 : sFL RX5 9 5 0 true := ⟨_, rfl, by decide, rfl, sTb_of 133 (by decide +kernel) rfl⟩
theorem f_X5_15 : sFL RX5 15 5 4 true := ⟨_, rfl, by decide, rfl, sTb_of 140 (by decide +kernel) rfl⟩
theorem f_X5_19 : sFL RX5 19 5 5 true := ⟨_, rfl, by decide, rfl, sTb_of 141 (by decide +kernel) rfl⟩
theorem f_X5_22 : sFL RX5 22 5 1 false := ⟨_, rfl, by decide, rfl, sTb_of 136 (by decide +kernel) rfl⟩
theorem f_X5_28 : sFL RX5 28 5 2 false := ⟨_, rfl, by decide, rfl, sTb_of 137 (by decide +kernel) rfl⟩
theorem f_X5_31 : sFL RX5 31 5 3 false := ⟨_, rfl, by decide, rfl, sTb_of 139 (by decide +kernel) rfl⟩
theorem f_X5_57 : sFL RX5 57 2 3 false := ⟨_, rfl, by decide, rfl, sTb_of 186 (by decide +kernel) rfl⟩
theorem f_X5_68 : sFL RX5 68 2 0 true := ⟨_, rfl, by decide, rfl, sTb_of 169 (by decide +kernel) rfl⟩
theorem f_X5_87 : sFL RX5 87 2 6 false := ⟨_, rfl, by decide, rfl, sTb_of 198 (by decide +kernel) rfl⟩
theorem f_X5_90 : sFL RX5 90 2 7 true := ⟨_, rfl, by decide, rfl, sTb_of 201 (by decide +kernel) rfl⟩
theorem f_X5_93 : sFL RX5 93 2 1 true := ⟨_, rfl, by decide, rfl, sTb_of 174 (by decide +kernel) rfl⟩
theorem f_X5_96 : sFL RX5 96 2 4 false := ⟨_, rfl, by decide, rfl, sTb_of 190 (by decide +kernel) rfl⟩
theorem f_X5_99 : sFL RX5 99 2 2 true := ⟨_, rfl, by decide, rfl, sTb_of 179 (by decide +kernel) rfl⟩
theorem f_X5_102 : sFL RX5 102 2 5 false := ⟨_, rfl, by decide, rfl, sTb_of 195 (by decide +kernel) rfl⟩
theorem f_X5_105 : sFL RX5 105 5 6 false := ⟨_, rfl, by decide, rfl, sTb_of 142 (by decide +kernel) rfl⟩
theorem f_X6_9 : sFL RX6 9 6 0 true := ⟨_, rfl, by decide, rfl, sTb_of 561 (by decide +kernel) rfl⟩
theorem f_X6_15 : sFL RX6 15 6 1 true := ⟨_, rfl, by decide, rfl, sTb_of 564 (by decide +kernel) rfl⟩
theorem f_X6_18 : sFL RX6 18 6 2 true := ⟨_, rfl, by decide, rfl, sTb_of 566 (by decide +kernel) rfl⟩
theorem f_X6_22 : sFL RX6 22 6 3 true := ⟨_, rfl, by decide, rfl, sTb_of 568 (by decide +kernel) rfl⟩
theorem f_X8_7 : sFL RX8 7 8 1 true := ⟨_, rfl, by decide, rfl, sTb_of 971 (by decide +kernel) rfl⟩
theorem f_X8_13 : sFL RX8 13 8 2 true := ⟨_, rfl, by decide, rfl, sTb_of 972 (by decide +kernel) rfl⟩
theorem f_X8_16 : sFL RX8 16 8 3 true := ⟨_, rfl, by decide, rfl, sTb_of 973 (by decide +kernel) rfl⟩
theorem f_X8_19 : sFL RX8 19 8 4 true := ⟨_, rfl, by decide, rfl, sTb_of 974 (by decide +kernel) rfl⟩
theorem f_X8_22 : sFL RX8 22 8 5 true := ⟨_, rfl, by decide, rfl, sTb_of 975 (by decide +kernel) rfl⟩
theorem f_X8_25 : sFL RX8 25 8 6 true := ⟨_, rfl, by decide, rfl, sTb_of 976 (by decide +kernel) rfl⟩
theorem f_X8_28 : sFL RX8 28 8 7 true := ⟨_, rfl, by decide, rfl, sTb_of 977 (by decide +kernel) rfl⟩
theorem f_X8_31 : sFL RX8 31 8 9 true := ⟨_, rfl, by decide, rfl, sTb_of 979 (by decide +kernel) rfl⟩
theorem f_X8_34 : sFL RX8 34 8 10 true := ⟨_, rfl, by decide, rfl, sTb_of 980 (by decide +kernel) rfl⟩
theorem f_X8_37 : sFL RX8 37 8 11 true := ⟨_, rfl, by decide, rfl, sTb_of 981 (by decide +kernel) rfl⟩
theorem f_X8_40 : sFL RX8 40 8 13 true := ⟨_, rfl, by decide, rfl, sTb_of 983 (by decide +kernel) rfl⟩
theorem f_X8_43 : sFL RX8 43 8 14 true := ⟨_, rfl, by decide, rfl, sTb_of 984 (by decide +kernel) rfl⟩
theorem f_X8_46 : sFL RX8 46 8 15 true := ⟨_, rfl, by decide, rfl, sTb_of 985 (by decide +kernel) rfl⟩
theorem f_X8_50 : sFL RX8 50 8 16 true := ⟨_, rfl, by decide, rfl, sTb_of 986 (by decide +kernel) rfl⟩
theorem f_X8_53 : sFL RX8 53 8 17 false := ⟨_, rfl, by decide, rfl, sTb_of 987 (by decide +kernel) rfl⟩
theorem f_X8_57 : sFL RX8 57 8 20 true := ⟨_, rfl, by decide, rfl, sTb_of 990 (by decide +kernel) rfl⟩
theorem f_X8_60 : sFL RX8 60 8 21 true := ⟨_, rfl, by decide, rfl, sTb_of 991 (by decide +kernel) rfl⟩
theorem f_X8_63 : sFL RX8 63 8 22 true := ⟨_, rfl, by decide, rfl, sTb_of 992 (by decide +kernel) rfl⟩
theorem f_X8_66 : sFL RX8 66 8 24 true := ⟨_, rfl, by decide, rfl, sTb_of 994 (by decide +kernel) rfl⟩
theorem f_X8_70 : sFL RX8 70 8 29 true := ⟨_, rfl, by decide, rfl, sTb_of 999 (by decide +kernel) rfl⟩
theorem f_X8_73 : sFL RX8 73 8 36 true := ⟨_, rfl, by decide, rfl, sTb_of 1006 (by decide +kernel) rfl⟩
theorem f_X8_76 : sFL RX8 76 8 37 true := ⟨_, rfl, by decide, rfl, sTb_of 1007 (by decide +kernel) rfl⟩
theorem f_X8_79 : sFL RX8 79 8 38 true := ⟨_, rfl, by decide, rfl, sTb_of 1008 (by decide +kernel) rfl⟩
theorem f_X8_82 : sFL RX8 82 8 39 true := ⟨_, rfl, by decide, rfl, sTb_of 1009 (by decide +kernel) rfl⟩
theorem f_X8_85 : sFL RX8 85 8 40 true := ⟨_, rfl, by decide, rfl, sTb_of 1010 (by decide +kernel) rfl⟩
theorem f_X8_88 : sFL RX8 88 8 41 true := ⟨_, rfl, by decide, rfl, sTb_of 1011 (by decide +kernel) rfl⟩
theorem f_X8_91 : sFL RX8 91 8 42 true := ⟨_, rfl, by decide, rfl, sTb_of 1012 (by decide +kernel) rfl⟩
theorem f_X8_94 : sFL RX8 94 8 43 true := ⟨_, rfl, by decide, rfl, sTb_of 1013 (by decide +kernel) rfl⟩
theorem f_X8_97 : sFL RX8 97 8 44 true := ⟨_, rfl, by decide, rfl, sTb_of 1014 (by decide +kernel) rfl⟩
theorem f_X8_100 : sFL RX8 100 8 45 true := ⟨_, rfl, by decide, rfl, sTb_of 1015 (by decide +kernel) rfl⟩
theorem f_X8_103 : sFL RX8 103 8 46 true := ⟨_, rfl, by decide, rfl, sTb_of 1016 (by decide +kernel) rfl⟩
theorem f_X8_106 : sFL RX8 106 8 47 true := ⟨_, rfl, by decide, rfl, sTb_of 1017 (by decide +kernel) rfl⟩
theorem f_X8_109 : sFL RX8 109 8 48 true := ⟨_, rfl, by decide, rfl, sTb_of 1018 (by decide +kernel) rfl⟩
theorem f_X8_112 : sFL RX8 112 8 52 true := ⟨_, rfl, by decide, rfl, sTb_of 1022 (by decide +kernel) rfl⟩
theorem f_X8_115 : sFL RX8 115 8 53 true := ⟨_, rfl, by decide, rfl, sTb_of 1023 (by decide +kernel) rfl⟩
theorem f_X8_118 : sFL RX8 118 8 54 true := ⟨_, rfl, by decide, rfl, sTb_of 1024 (by decide +kernel) rfl⟩
theorem f_X8_121 : sFL RX8 121 8 55 false := ⟨_, rfl, by decide, rfl, sTb_of 1025 (by decide +kernel) rfl⟩
theorem f_X8_124 : sFL RX8 124 8 57 true := ⟨_, rfl, by decide, rfl, sTb_of 1027 (by decide +kernel) rfl⟩
theorem f_X8_127 : sFL RX8 127 8 58 true := ⟨_, rfl, by decide, rfl, sTb_of 1028 (by decide +kernel) rfl⟩
theorem f_X8_130 : sFL RX8 130 8 59 true := ⟨_, rfl, by decide, rfl, sTb_of 1029 (by decide +kernel) rfl⟩
theorem f_X8_133 : sFL RX8 133 8 60 true := ⟨_, rfl, by decide, rfl, sTb_of 1030 (by decide +kernel) rfl⟩
theorem f_X8_136 : sFL RX8 136 8 61 true := ⟨_, rfl, by decide, rfl, sTb_of 1031 (by decide +kernel) rfl⟩
theorem f_X8_139 : sFL RX8 139 8 62 true := ⟨_, rfl, by decide, rfl, sTb_of 1032 (by decide +kernel) rfl⟩
theorem f_X8_142 : sFL RX8 142 8 63 true := ⟨_, rfl, by decide, rfl, sTb_of 1033 (by decide +kernel) rfl⟩
theorem f_X8_145 : sFL RX8 145 8 64 true := ⟨_, rfl, by decide, rfl, sTb_of 1034 (by decide +kernel) rfl⟩
theorem f_X8_148 : sFL RX8 148 8 65 true := ⟨_, rfl, by decide, rfl, sTb_of 1035 (by decide +kernel) rfl⟩
theorem f_X8_151 : sFL RX8 151 8 71 true := ⟨_, rfl, by decide, rfl, sTb_of 1041 (by decide +kernel) rfl⟩
theorem f_X8_154 : sFL RX8 154 8 72 true := ⟨_, rfl, by decide, rfl, sTb_of 1042 (by decide +kernel) rfl⟩
theorem f_X8_159 : sFL RX8 159 8 23 false := ⟨_, rfl, by decide, rfl, sTb_of 993 (by decide +kernel) rfl⟩
theorem f_X8_166 : sFL RX8 166 8 49 false := ⟨_, rfl, by decide, rfl, sTb_of 1019 (by decide +kernel) rfl⟩
theorem f_X8_169 : sFL RX8 169 8 50 false := ⟨_, rfl, by decide, rfl, sTb_of 1020 (by decide +kernel) rfl⟩
theorem f_X8_172 : sFL RX8 172 8 51 false := ⟨_, rfl, by decide, rfl, sTb_of 1021 (by decide +kernel) rfl⟩
theorem f_X8_179 : sFL RX8 179 8 32 false := ⟨_, rfl, by decide, rfl, sTb_of 1002 (by decide +kernel) rfl⟩
theorem f_X8_201 : sFL RX8 201 8 35 false := ⟨_, rfl, by decide, rfl, sTb_of 1005 (by decide +kernel) rfl⟩
theorem f_X8_204 : sFL RX8 204 8 33 false := ⟨_, rfl, by decide, rfl, sTb_of 1003 (by decide +kernel) rfl⟩
theorem f_X8_207 : sFL RX8 207 8 34 false := ⟨_, rfl, by decide, rfl, sTb_of 1004 (by decide +kernel) rfl⟩
theorem f_X8_219 : sFL RX8 219 8 30 false := ⟨_, rfl, by decide, rfl, sTb_of 1000 (by decide +kernel) rfl⟩
theorem f_X8_222 : sFL RX8 222 8 31 false := ⟨_, rfl, by decide, rfl, sTb_of 1001 (by decide +kernel) rfl⟩
theorem f_X8_232 : sFL RX8 232 8 0 false := ⟨_, rfl, by decide, rfl, sTb_of 970 (by decide +kernel) rfl⟩
theorem f_X8_235 : sFL RX8 235 8 8 false := ⟨_, rfl, by decide, rfl, sTb_of 978 (by decide +kernel) rfl⟩
theorem f_X8_238 : sFL RX8 238 8 12 false := ⟨_, rfl, by decide, rfl, sTb_of 982 (by decide +kernel) rfl⟩
theorem f_X8_241 : sFL RX8 241 8 18 false := ⟨_, rfl, by decide, rfl, sTb_of 988 (by decide +kernel) rfl⟩
theorem f_X8_247 : sFL RX8 247 8 19 false := ⟨_, rfl, by decide, rfl, sTb_of 989 (by decide +kernel) rfl⟩
theorem f_X8_278 : sFL RX8 278 8 56 false := ⟨_, rfl, by decide, rfl, sTb_of 1026 (by decide +kernel) rfl⟩
theorem f_X8_360 : sFL RX8 360 8 66 false := ⟨_, rfl, by decide, rfl, sTb_of 1036 (by decide +kernel) rfl⟩
theorem f_X8_363 : sFL RX8 363 8 67 false := ⟨_, rfl, by decide, rfl, sTb_of 1037 (by decide +kernel) rfl⟩
theorem f_X8_372 : sFL RX8 372 8 68 false := ⟨_, rfl, by decide, rfl, sTb_of 1038 (by decide +kernel) rfl⟩
theorem f_X8_375 : sFL RX8 375 8 69 false := ⟨_, rfl, by decide, rfl, sTb_of 1039 (by decide +kernel) rfl⟩
theorem f_X8_378 : sFL RX8 378 8 70 false := ⟨_, rfl, by decide, rfl, sTb_of 1040 (by decide +kernel) rfl⟩
theorem f_X8_435 : sFL RX8 435 8 25 false := ⟨_, rfl, by decide, rfl, sTb_of 995 (by decide +kernel) rfl⟩
theorem f_X8_453 : sFL RX8 453 8 26 false := ⟨_, rfl, by decide, rfl, sTb_of 996 (by decide +kernel) rfl⟩
theorem f_X8_456 : sFL RX8 456 8 27 false := ⟨_, rfl, by decide, rfl, sTb_of 997 (by decide +kernel) rfl⟩
theorem f_X8_459 : sFL RX8 459 8 28 false := ⟨_, rfl, by decide, rfl, sTb_of 998 (by decide +kernel) rfl⟩
theorem f_X8_470 : sFL RX8 470 8 73 false := ⟨_, rfl, by decide, rfl, sTb_of 1043 (by decide +kernel) rfl⟩
theorem s_X7_287 (M : sM) (h : M.1.cls = RX7) : Cond.fieldLink M.1.cls 287 "RoomsByThree" "AS_NUMBERED" "[I" ∈ sTb ∨ ∃ host, Cond.fieldLinkNest M.1.cls 287 "RoomsByThree" "AS_NUMBERED" "[I" host ∈ sEx := by rw [h]; exact Or.inl (sTb_of 962 (by decide +kernel) rfl)
theorem s_X3_100 (M : sM) (h : M.1.cls = RX3) : Cond.fieldLink M.1.cls 100 "RoomsByThree$Keys" "RANK_OF_GUEST" "[J" ∈ sTb := by rw [h]; exact sTb_of 732 (by decide +kernel) rfl
theorem s_X4_49 (M : sM) (h : M.1.cls = RX4) : Cond.fieldLink M.1.cls 49 "RoomsByThree" "AS_NUMBERED" "[I" ∈ sTb ∨ ∃ host, Cond.fieldLinkNest M.1.cls 49 "RoomsByThree" "AS_NUMBERED" "[I" host ∈ sEx := by rw [h]; exact Or.inr ⟨"RoomsByThree", List.mem_filter.mpr ⟨List.mem_of_getElem? (i := 663) (by decide +kernel), rfl⟩⟩
theorem w_X7_1 (M : sM) (h : M.1.cls = RX7) : Cond.methodLink M.1.cls 1 Lib.objectInit ∈ sTb ∧ Cond.instanceMethod Lib.objectInit ∈ sTb ∧ Cond.code Lib.objectInit ⟨#[0xb1]⟩ 1 none ∈ sTb := by rw [h]; exact ⟨sTb_of 124 (by decide +kernel) rfl, sTb_of 125 (by decide +kernel) rfl, sTb_of 126 (by decide +kernel) rfl⟩
theorem w_X7_34 (M : sM) (h : M.1.cls = RX7) : sI_ M 34 m_X0_init 1 := ⟨cw_X0_init M, rfl, by rw [h]; exact sTb_of 242 (by decide +kernel) rfl, sTb_of 243 (by decide +kernel) rfl, rfl⟩
theorem w_X7_43 (M : sM) (h : M.1.cls = RX7) : sI_ M 43 m_X1_init 1 := ⟨cw_X1_init M, rfl, by rw [h]; exact sTb_of 294 (by decide +kernel) rfl, sTb_of 295 (by decide +kernel) rfl, rfl⟩
theorem w_X7_50 (M : sM) (h : M.1.cls = RX7) : sI_ M 50 m_X4_init 3 := ⟨cw_X4_init M, rfl, by rw [h]; exact sTb_of 350 (by decide +kernel) rfl, sTb_of 351 (by decide +kernel) rfl, rfl⟩
theorem w_X7_64 (M : sM) (h : M.1.cls = RX7) : sS_ M 64 m_X5_lettersIn 1 := ⟨cw_X5_lettersIn M, by rw [h]; exact sTb_of 427 (by decide +kernel) rfl, sTb_of 428 (by decide +kernel) rfl⟩
theorem w_X7_72 (M : sM) (h : M.1.cls = RX7) : sV_ M 72 m_X5_append 2 := ⟨cw_X5_append M, by rw [h]; exact sTb_of 430 (by decide +kernel) rfl, sTb_of 431 (by decide +kernel) rfl, sTb_of 432 (by decide +kernel) rfl, 5, _, rfl, rfl⟩
theorem w_X7_76 (M : sM) (h : M.1.cls = RX7) : sV_ M 76 m_X5_readHouse 1 := ⟨cw_X5_readHouse M, by rw [h]; exact sTb_of 443 (by decide +kernel) rfl, sTb_of 444 (by decide +kernel) rfl, sTb_of 445 (by decide +kernel) rfl, 5, _, rfl, rfl⟩
theorem w_X7_80 (M : sM) (h : M.1.cls = RX7) : sV_ M 80 m_X5_readTold 0 := ⟨cw_X5_readTold M, by rw [h]; exact sTb_of 513 (by decide +kernel) rfl, sTb_of 514 (by decide +kernel) rfl, sTb_of 515 (by decide +kernel) rfl, 5, _, rfl, rfl⟩
theorem w_X7_91 (M : sM) (h : M.1.cls = RX7) : sV_ M 91 m_X7_hireAll 0 := ⟨cw_X7_hireAll M, by rw [h]; exact sTb_of 521 (by decide +kernel) rfl, sTb_of 523 (by decide +kernel) rfl, sTb_of 13 (by decide +kernel) rfl, 7, _, rfl, rfl⟩
theorem w_X7_100 (M : sM) (h : M.1.cls = RX7) : sV_ M 100 m_X5_toldRooms 0 := ⟨cw_X5_toldRooms M, by rw [h]; exact sTb_of 542 (by decide +kernel) rfl, sTb_of 543 (by decide +kernel) rfl, sTb_of 544 (by decide +kernel) rfl, 5, _, rfl, rfl⟩
theorem w_X7_104 (M : sM) (h : M.1.cls = RX7) : sV_ M 104 m_X5_toldWomen 0 := ⟨cw_X5_toldWomen M, by rw [h]; exact sTb_of 553 (by decide +kernel) rfl, sTb_of 554 (by decide +kernel) rfl, sTb_of 555 (by decide +kernel) rfl, 5, _, rfl, rfl⟩
theorem w_X7_107 (M : sM) (h : M.1.cls = RX7) : sI_ M 107 m_X6_init 4 := ⟨cw_X6_init M, rfl, by rw [h]; exact sTb_of 557 (by decide +kernel) rfl, sTb_of 558 (by decide +kernel) rfl, rfl⟩
theorem w_X7_110 (M : sM) (h : M.1.cls = RX7) : sV_ M 110 m_X7_addRule 1 := ⟨cw_X7_addRule M, by rw [h]; exact sTb_of 579 (by decide +kernel) rfl, sTb_of 581 (by decide +kernel) rfl, sTb_of 15 (by decide +kernel) rfl, 7, _, rfl, rfl⟩
theorem w_X7_114 (M : sM) (h : M.1.cls = RX7) : sV_ M 114 m_X7_isRule 1 := ⟨cw_X7_isRule M, by rw [h]; exact sTb_of 591 (by decide +kernel) rfl, sTb_of 593 (by decide +kernel) rfl, sTb_of 16 (by decide +kernel) rfl, 7, _, rfl, rfl⟩
theorem w_X7_118 (M : sM) (h : M.1.cls = RX7) : sV_ M 118 m_X6_isA 1 := ⟨cw_X6_isA M, by rw [h]; exact sTb_of 596 (by decide +kernel) rfl, sTb_of 597 (by decide +kernel) rfl, sTb_of 598 (by decide +kernel) rfl, 6, _, rfl, rfl⟩
theorem w_X7_121 (M : sM) (h : M.1.cls = RX7) : sV_ M 121 m_X7_isRoom 1 := ⟨cw_X7_isRoom M, by rw [h]; exact sTb_of 604 (by decide +kernel) rfl, sTb_of 606 (by decide +kernel) rfl, sTb_of 17 (by decide +kernel) rfl, 7, _, rfl, rfl⟩
theorem w_X7_124 (M : sM) (h : M.1.cls = RX7) : sS_ M 124 m_X7_isBelow 2 := ⟨cw_X7_isBelow M, by rw [h]; exact sTb_of 595 (by decide +kernel) rfl, sTb_of 468 (by decide +kernel) rfl⟩
theorem w_X7_138 (M : sM) (h : M.1.cls = RX7) : sV_ M 138 m_X7_isGuest 1 := ⟨cw_X7_isGuest M, by rw [h]; exact sTb_of 616 (by decide +kernel) rfl, sTb_of 618 (by decide +kernel) rfl, sTb_of 18 (by decide +kernel) rfl, 7, _, rfl, rfl⟩
theorem w_X7_144 (M : sM) (h : M.1.cls = RX7) : sV_ M 144 m_X4_forget 0 := ⟨cw_X4_forget M, by rw [h]; exact sTb_of 533 (by decide +kernel) rfl, sTb_of 534 (by decide +kernel) rfl, sTb_of 535 (by decide +kernel) rfl, 4, _, rfl, rfl⟩
theorem w_X7_150 (M : sM) (h : M.1.cls = RX7) : sV_ M 150 m_X7_isWay 1 := ⟨cw_X7_isWay M, by rw [h]; exact sTb_of 632 (by decide +kernel) rfl, sTb_of 634 (by decide +kernel) rfl, sTb_of 19 (by decide +kernel) rfl, 7, _, rfl, rfl⟩
theorem w_X7_153 (M : sM) (h : M.1.cls = RX7) : sV_ M 153 m_X2_goneBy 2 := ⟨cw_X2_goneBy M, by rw [h]; exact sTb_of 640 (by decide +kernel) rfl, sTb_of 641 (by decide +kernel) rfl, sTb_of 642 (by decide +kernel) rfl, 2, _, rfl, rfl⟩
theorem w_X7_157 (M : sM) (h : M.1.cls = RX7) : sV_ M 157 m_X7_isHoused 0 := ⟨cw_X7_isHoused M, by rw [h]; exact sTb_of 652 (by decide +kernel) rfl, sTb_of 654 (by decide +kernel) rfl, sTb_of 20 (by decide +kernel) rfl, 7, _, rfl, rfl⟩
theorem w_X7_166 (M : sM) (h : M.1.cls = RX7) : sV_ M 166 m_X4_orderFor 2 := ⟨cw_X4_orderFor M, by rw [h]; exact sTb_of 656 (by decide +kernel) rfl, sTb_of 657 (by decide +kernel) rfl, sTb_of 658 (by decide +kernel) rfl, 4, _, rfl, rfl⟩
theorem w_X7_170 (M : sM) (h : M.1.cls = RX7) : sV_ M 170 m_X0_plan 3 := ⟨cw_X0_plan M, by rw [h]; exact sTb_of 762 (by decide +kernel) rfl, sTb_of 763 (by decide +kernel) rfl, sTb_of 764 (by decide +kernel) rfl, 0, _, rfl, rfl⟩
theorem w_X7_183 (M : sM) (h : M.1.cls = RX7) : sS_ M 183 m_X7_isGiving 1 := ⟨cw_X7_isGiving M, by rw [h]; exact sTb_of 806 (by decide +kernel) rfl, sTb_of 661 (by decide +kernel) rfl⟩
theorem w_X7_186 (M : sM) (h : M.1.cls = RX7) : sV_ M 186 m_X7_dayCost 4 := ⟨cw_X7_dayCost M, by rw [h]; exact sTb_of 807 (by decide +kernel) rfl, sTb_of 809 (by decide +kernel) rfl, sTb_of 37 (by decide +kernel) rfl, 7, _, rfl, rfl⟩
theorem w_X7_193 (M : sM) (h : M.1.cls = RX7) : sV_ M 193 m_X1_waitOf 2 := ⟨cw_X1_waitOf M, by rw [h]; exact sTb_of 828 (by decide +kernel) rfl, sTb_of 829 (by decide +kernel) rfl, sTb_of 830 (by decide +kernel) rfl, 1, _, rfl, rfl⟩
theorem w_X7_197 (M : sM) (h : M.1.cls = RX7) : sV_ M 197 m_X7_refusalOf 2 := ⟨cw_X7_refusalOf M, by rw [h]; exact sTb_of 837 (by decide +kernel) rfl, sTb_of 839 (by decide +kernel) rfl, sTb_of 39 (by decide +kernel) rfl, 7, _, rfl, rfl⟩
theorem w_X7_200 (M : sM) (h : M.1.cls = RX7) : sS_ M 200 m_X7_isPart 1 := ⟨cw_X7_isPart M, by rw [h]; exact sTb_of 845 (by decide +kernel) rfl, sTb_of 846 (by decide +kernel) rfl⟩
theorem w_X7_203 (M : sM) (h : M.1.cls = RX7) : sV_ M 203 m_X7_costOverWays 2 := ⟨cw_X7_costOverWays M, by rw [h]; exact sTb_of 848 (by decide +kernel) rfl, sTb_of 850 (by decide +kernel) rfl, sTb_of 40 (by decide +kernel) rfl, 7, _, rfl, rfl⟩
theorem w_X7_207 (M : sM) (h : M.1.cls = RX7) : sV_ M 207 m_X7_termOf 2 := ⟨cw_X7_termOf M, by rw [h]; exact sTb_of 853 (by decide +kernel) rfl, sTb_of 855 (by decide +kernel) rfl, sTb_of 41 (by decide +kernel) rfl, 7, _, rfl, rfl⟩
theorem w_X7_210 (M : sM) (h : M.1.cls = RX7) : sV_ M 210 m_X2_wayCount 0 := ⟨cw_X2_wayCount M, by rw [h]; exact sTb_of 636 (by decide +kernel) rfl, sTb_of 637 (by decide +kernel) rfl, sTb_of 638 (by decide +kernel) rfl, 2, _, rfl, rfl⟩
theorem w_X7_214 (M : sM) (h : M.1.cls = RX7) : sV_ M 214 m_X7_refusalOf_ 3 := ⟨cw_X7_refusalOf_ M, by rw [h]; exact sTb_of 870 (by decide +kernel) rfl, sTb_of 872 (by decide +kernel) rfl, sTb_of 42 (by decide +kernel) rfl, 7, _, rfl, rfl⟩
theorem w_X7_217 (M : sM) (h : M.1.cls = RX7) : sV_ M 217 m_X7_waitByWays 3 := ⟨cw_X7_waitByWays M, by rw [h]; exact sTb_of 874 (by decide +kernel) rfl, sTb_of 876 (by decide +kernel) rfl, sTb_of 43 (by decide +kernel) rfl, 7, _, rfl, rfl⟩
theorem w_X7_221 (M : sM) (h : M.1.cls = RX7) : sV_ M 221 m_X7_chanceWithin 1 := ⟨cw_X7_chanceWithin M, by rw [h]; exact sTb_of 878 (by decide +kernel) rfl, sTb_of 880 (by decide +kernel) rfl, sTb_of 44 (by decide +kernel) rfl, 7, _, rfl, rfl⟩
theorem w_X7_225 (M : sM) (h : M.1.cls = RX7) : sV_ M 225 m_X2_whole 0 := ⟨cw_X2_whole M, by rw [h]; exact sTb_of 857 (by decide +kernel) rfl, sTb_of 858 (by decide +kernel) rfl, sTb_of 859 (by decide +kernel) rfl, 2, _, rfl, rfl⟩
theorem w_X7_247 (M : sM) (h : M.1.cls = RX7) : sV_ M 247 m_X2_isByChance 1 := ⟨cw_X2_isByChance M, by rw [h]; exact sTb_of 903 (by decide +kernel) rfl, sTb_of 904 (by decide +kernel) rfl, sTb_of 905 (by decide +kernel) rfl, 2, _, rfl, rfl⟩
theorem w_X7_250 (M : sM) (h : M.1.cls = RX7) : sV_ M 250 m_X4_weighAll 1 := ⟨cw_X4_weighAll M, by rw [h]; exact sTb_of 907 (by decide +kernel) rfl, sTb_of 666 (by decide +kernel) rfl, sTb_of 667 (by decide +kernel) rfl, 4, _, rfl, rfl⟩
theorem w_X7_254 (M : sM) (h : M.1.cls = RX7) : sV_ M 254 m_X2_bitOf 1 := ⟨cw_X2_bitOf M, by rw [h]; exact sTb_of 908 (by decide +kernel) rfl, sTb_of 645 (by decide +kernel) rfl, sTb_of 646 (by decide +kernel) rfl, 2, _, rfl, rfl⟩
theorem w_X7_257 (M : sM) (h : M.1.cls = RX7) : sV_ M 257 m_X4_worthOf 1 := ⟨cw_X4_worthOf M, by rw [h]; exact sTb_of 909 (by decide +kernel) rfl, sTb_of 910 (by decide +kernel) rfl, sTb_of 911 (by decide +kernel) rfl, 4, _, rfl, rfl⟩
theorem w_X7_260 (M : sM) (h : M.1.cls = RX7) : sV_ M 260 m_X0_sendAway 1 := ⟨cw_X0_sendAway M, by rw [h]; exact sTb_of 921 (by decide +kernel) rfl, sTb_of 922 (by decide +kernel) rfl, sTb_of 923 (by decide +kernel) rfl, 0, _, rfl, rfl⟩
theorem w_X7_266 (M : sM) (h : M.1.cls = RX7) : sV_ M 266 m_X0_hireLike 1 := ⟨cw_X0_hireLike M, by rw [h]; exact sTb_of 932 (by decide +kernel) rfl, sTb_of 530 (by decide +kernel) rfl, sTb_of 531 (by decide +kernel) rfl, 0, _, rfl, rfl⟩
theorem w_X7_273 (M : sM) (h : M.1.cls = RX7) : sV_ M 273 m_X2_lateCount 0 := ⟨cw_X2_lateCount M, by rw [h]; exact sTb_of 941 (by decide +kernel) rfl, sTb_of 942 (by decide +kernel) rfl, sTb_of 943 (by decide +kernel) rfl, 2, _, rfl, rfl⟩
theorem w_X7_281 (M : sM) (h : M.1.cls = RX7) : sS_ M 281 m_X7_addAll 2 := ⟨cw_X7_addAll M, by rw [h]; exact sTb_of 958 (by decide +kernel) rfl, sTb_of 959 (by decide +kernel) rfl⟩
theorem w_X7_294 (M : sM) (h : M.1.cls = RX7) : sV_ M 294 m_X7_count 1 := ⟨cw_X7_count M, by rw [h]; exact sTb_of 963 (by decide +kernel) rfl, sTb_of 950 (by decide +kernel) rfl, sTb_of 951 (by decide +kernel) rfl, 7, _, rfl, rfl⟩
theorem w_X7_297 (M : sM) (h : M.1.cls = RX7) : sV_ M 297 m_X0_hireAll 0 := ⟨cw_X0_hireAll M, by rw [h]; exact sTb_of 525 (by decide +kernel) rfl, sTb_of 526 (by decide +kernel) rfl, sTb_of 527 (by decide +kernel) rfl, 0, _, rfl, rfl⟩
theorem w_X7_298 (M : sM) (h : M.1.cls = RX7) : sV_ M 298 m_X1_give 2 := ⟨cw_X1_give M, by rw [h]; exact sTb_of 811 (by decide +kernel) rfl, sTb_of 812 (by decide +kernel) rfl, sTb_of 813 (by decide +kernel) rfl, 1, _, rfl, rfl⟩
theorem w_X7_301 (M : sM) (h : M.1.cls = RX7) : sV_ M 301 m_X2_chanceOf 1 := ⟨cw_X2_chanceOf M, by rw [h]; exact sTb_of 852 (by decide +kernel) rfl, sTb_of 671 (by decide +kernel) rfl, sTb_of 672 (by decide +kernel) rfl, 2, _, rfl, rfl⟩
theorem w_X7_304 (M : sM) (h : M.1.cls = RX7) : Cond.methodLink M.1.cls 304 Lib.Math.abs.name ∈ sTb ∧ Cond.static Lib.Math.abs.name ∈ sTb ∧ Cond.initialized "java/lang/Math" ∈ sTb ∧ Cond.code Lib.Math.abs.name Lib.Math.abs.code 1 (some .int) ∈ sTb := by rw [h]; exact ⟨sTb_of 861 (by decide +kernel) rfl, sTb_of 708 (by decide +kernel) rfl, sTb_of 116 (by decide +kernel) rfl, sTb_of 709 (by decide +kernel) rfl⟩
theorem w_X0_3 (M : sM) (h : M.1.cls = RX0) : Cond.methodLink M.1.cls 3 Lib.objectInit ∈ sTb ∧ Cond.instanceMethod Lib.objectInit ∈ sTb ∧ Cond.code Lib.objectInit ⟨#[0xb1]⟩ 1 none ∈ sTb := by rw [h]; exact ⟨sTb_of 245 (by decide +kernel) rfl, sTb_of 125 (by decide +kernel) rfl, sTb_of 126 (by decide +kernel) rfl⟩
theorem w_X0_59 (M : sM) (h : M.1.cls = RX0) : sV_ M 59 m_X0_hireLike 1 := ⟨cw_X0_hireLike M, by rw [h]; exact sTb_of 529 (by decide +kernel) rfl, sTb_of 530 (by decide +kernel) rfl, sTb_of 531 (by decide +kernel) rfl, 0, _, rfl, rfl⟩
theorem w_X0_70 (M : sM) (h : M.1.cls = RX0) : sV_ M 70 m_X2_goneBy 2 := ⟨cw_X2_goneBy M, by rw [h]; exact sTb_of 678 (by decide +kernel) rfl, sTb_of 641 (by decide +kernel) rfl, sTb_of 642 (by decide +kernel) rfl, 2, _, rfl, rfl⟩
theorem w_X0_74 (M : sM) (h : M.1.cls = RX0) : sV_ M 74 m_X0_open 1 := ⟨cw_X0_open M, by rw [h]; exact sTb_of 766 (by decide +kernel) rfl, sTb_of 675 (by decide +kernel) rfl, sTb_of 676 (by decide +kernel) rfl, 0, _, rfl, rfl⟩
theorem w_X0_83 (M : sM) (h : M.1.cls = RX0) : sV_ M 83 m_X0_planFloors 0 := ⟨cw_X0_planFloors M, by rw [h]; exact sTb_of 767 (by decide +kernel) rfl, sTb_of 769 (by decide +kernel) rfl, sTb_of 29 (by decide +kernel) rfl, 0, _, rfl, rfl⟩
theorem w_X0_86 (M : sM) (h : M.1.cls = RX0) : sV_ M 86 m_X0_planFree 1 := ⟨cw_X0_planFree M, by rw [h]; exact sTb_of 776 (by decide +kernel) rfl, sTb_of 778 (by decide +kernel) rfl, sTb_of 31 (by decide +kernel) rfl, 0, _, rfl, rfl⟩
theorem w_X0_89 (M : sM) (h : M.1.cls = RX0) : sV_ M 89 m_X0_planTold 1 := ⟨cw_X0_planTold M, by rw [h]; exact sTb_of 792 (by decide +kernel) rfl, sTb_of 794 (by decide +kernel) rfl, sTb_of 35 (by decide +kernel) rfl, 0, _, rfl, rfl⟩
theorem w_X0_93 (M : sM) (h : M.1.cls = RX0) : sV_ M 93 m_X0_planList 1 := ⟨cw_X0_planList M, by rw [h]; exact sTb_of 797 (by decide +kernel) rfl, sTb_of 799 (by decide +kernel) rfl, sTb_of 36 (by decide +kernel) rfl, 0, _, rfl, rfl⟩
theorem w_X0_96 (M : sM) (h : M.1.cls = RX0) : sV_ M 96 m_X0_soonestFor 1 := ⟨cw_X0_soonestFor M, by rw [h]; exact sTb_of 801 (by decide +kernel) rfl, sTb_of 700 (by decide +kernel) rfl, sTb_of 701 (by decide +kernel) rfl, 0, _, rfl, rfl⟩
theorem w_X0_100 (M : sM) (h : M.1.cls = RX0) : sV_ M 100 m_X0_assign 2 := ⟨cw_X0_assign M, by rw [h]; exact sTb_of 775 (by decide +kernel) rfl, sTb_of 720 (by decide +kernel) rfl, sTb_of 721 (by decide +kernel) rfl, 0, _, rfl, rfl⟩
theorem w_X0_104 (M : sM) (h : M.1.cls = RX0) : sV_ M 104 m_X0_readyBy 2 := ⟨cw_X0_readyBy M, by rw [h]; exact sTb_of 703 (by decide +kernel) rfl, sTb_of 705 (by decide +kernel) rfl, sTb_of 22 (by decide +kernel) rfl, 0, _, rfl, rfl⟩
theorem w_X0_110 (M : sM) (h : M.1.cls = RX0) : Cond.methodLink M.1.cls 110 Lib.Math.abs.name ∈ sTb ∧ Cond.static Lib.Math.abs.name ∈ sTb ∧ Cond.initialized "java/lang/Math" ∈ sTb ∧ Cond.code Lib.Math.abs.name Lib.Math.abs.code 1 (some .int) ∈ sTb := by rw [h]; exact ⟨sTb_of 707 (by decide +kernel) rfl, sTb_of 708 (by decide +kernel) rfl, sTb_of 116 (by decide +kernel) rfl, sTb_of 709 (by decide +kernel) rfl⟩
theorem w_X0_115 (M : sM) (h : M.1.cls = RX0) : Cond.methodLink M.1.cls 115 Lib.Math.max.name ∈ sTb ∧ Cond.static Lib.Math.max.name ∈ sTb ∧ Cond.initialized "java/lang/Math" ∈ sTb ∧ Cond.code Lib.Math.max.name Lib.Math.max.code 2 (some .int) ∈ sTb := by rw [h]; exact ⟨sTb_of 710 (by decide +kernel) rfl, sTb_of 551 (by decide +kernel) rfl, sTb_of 116 (by decide +kernel) rfl, sTb_of 552 (by decide +kernel) rfl⟩
theorem w_X0_118 (M : sM) (h : M.1.cls = RX0) : sV_ M 118 m_X0_nearestAtFirst 1 := ⟨cw_X0_nearestAtFirst M, by rw [h]; exact sTb_of 771 (by decide +kernel) rfl, sTb_of 773 (by decide +kernel) rfl, sTb_of 30 (by decide +kernel) rfl, 0, _, rfl, rfl⟩
theorem w_X0_121 (M : sM) (h : M.1.cls = RX0) : sV_ M 121 m_X0_freeFirst 0 := ⟨cw_X0_freeFirst M, by rw [h]; exact sTb_of 780 (by decide +kernel) rfl, sTb_of 782 (by decide +kernel) rfl, sTb_of 32 (by decide +kernel) rfl, 0, _, rfl, rfl⟩
theorem w_X0_125 (M : sM) (h : M.1.cls = RX0) : sV_ M 125 m_X0_chosenBy 2 := ⟨cw_X0_chosenBy M, by rw [h]; exact sTb_of 784 (by decide +kernel) rfl, sTb_of 786 (by decide +kernel) rfl, sTb_of 33 (by decide +kernel) rfl, 0, _, rfl, rfl⟩
theorem w_X0_128 (M : sM) (h : M.1.cls = RX0) : sV_ M 128 m_X0_nextGone 1 := ⟨cw_X0_nextGone M, by rw [h]; exact sTb_of 788 (by decide +kernel) rfl, sTb_of 790 (by decide +kernel) rfl, sTb_of 34 (by decide +kernel) rfl, 0, _, rfl, rfl⟩
theorem w_X1_3 (M : sM) (h : M.1.cls = RX1) : Cond.methodLink M.1.cls 3 Lib.objectInit ∈ sTb ∧ Cond.instanceMethod Lib.objectInit ∈ sTb ∧ Cond.code Lib.objectInit ⟨#[0xb1]⟩ 1 none ∈ sTb := by rw [h]; exact ⟨sTb_of 297 (by decide +kernel) rfl, sTb_of 125 (by decide +kernel) rfl, sTb_of 126 (by decide +kernel) rfl⟩
theorem w_X1_21 (M : sM) (h : M.1.cls = RX1) : sI_ M 21 m_X3_init 1 := ⟨cw_X3_init M, rfl, by rw [h]; exact sTb_of 300 (by decide +kernel) rfl, sTb_of 301 (by decide +kernel) rfl, rfl⟩
theorem w_X1_28 (M : sM) (h : M.1.cls = RX1) : sV_ M 28 m_X1_giveWisely 1 := ⟨cw_X1_giveWisely M, by rw [h]; exact sTb_of 815 (by decide +kernel) rfl, sTb_of 817 (by decide +kernel) rfl, sTb_of 38 (by decide +kernel) rfl, 1, _, rfl, rfl⟩
theorem w_X1_32 (M : sM) (h : M.1.cls = RX1) : sV_ M 32 m_X1_giveAsTheyCome 1 := ⟨cw_X1_giveAsTheyCome M, by rw [h]; exact sTb_of 827 (by decide +kernel) rfl, sTb_of 695 (by decide +kernel) rfl, sTb_of 696 (by decide +kernel) rfl, 1, _, rfl, rfl⟩
theorem w_X1_49 (M : sM) (h : M.1.cls = RX1) : Cond.methodLink M.1.cls 49 Lib.Math.max.name ∈ sTb ∧ Cond.static Lib.Math.max.name ∈ sTb ∧ Cond.initialized "java/lang/Math" ∈ sTb ∧ Cond.code Lib.Math.max.name Lib.Math.max.code 2 (some .int) ∈ sTb := by rw [h]; exact ⟨sTb_of 698 (by decide +kernel) rfl, sTb_of 551 (by decide +kernel) rfl, sTb_of 116 (by decide +kernel) rfl, sTb_of 552 (by decide +kernel) rfl⟩
theorem w_X1_64 (M : sM) (h : M.1.cls = RX1) : sV_ M 64 m_X3_begin 0 := ⟨cw_X3_begin M, by rw [h]; exact sTb_of 819 (by decide +kernel) rfl, sTb_of 680 (by decide +kernel) rfl, sTb_of 681 (by decide +kernel) rfl, 3, _, rfl, rfl⟩
theorem w_X1_67 (M : sM) (h : M.1.cls = RX1) : sV_ M 67 m_X3_keep 1 := ⟨cw_X3_keep M, by rw [h]; exact sTb_of 820 (by decide +kernel) rfl, sTb_of 712 (by decide +kernel) rfl, sTb_of 713 (by decide +kernel) rfl, 3, _, rfl, rfl⟩
theorem w_X1_71 (M : sM) (h : M.1.cls = RX1) : sV_ M 71 m_X3_add 3 := ⟨cw_X3_add M, by rw [h]; exact sTb_of 821 (by decide +kernel) rfl, sTb_of 724 (by decide +kernel) rfl, sTb_of 725 (by decide +kernel) rfl, 3, _, rfl, rfl⟩
theorem w_X1_75 (M : sM) (h : M.1.cls = RX1) : sV_ M 75 m_X3_roomFor 2 := ⟨cw_X3_roomFor M, by rw [h]; exact sTb_of 822 (by decide +kernel) rfl, sTb_of 823 (by decide +kernel) rfl, sTb_of 824 (by decide +kernel) rfl, 3, _, rfl, rfl⟩
theorem w_X1_81 (M : sM) (h : M.1.cls = RX1) : sV_ M 81 m_X3_savedAt 1 := ⟨cw_X3_savedAt M, by rw [h]; exact sTb_of 826 (by decide +kernel) rfl, sTb_of 690 (by decide +kernel) rfl, sTb_of 691 (by decide +kernel) rfl, 3, _, rfl, rfl⟩
theorem w_X2_3 (M : sM) (h : M.1.cls = RX2) : Cond.methodLink M.1.cls 3 Lib.objectInit ∈ sTb ∧ Cond.instanceMethod Lib.objectInit ∈ sTb ∧ Cond.code Lib.objectInit ⟨#[0xb1]⟩ 1 none ∈ sTb := by rw [h]; exact ⟨sTb_of 165 (by decide +kernel) rfl, sTb_of 125 (by decide +kernel) rfl, sTb_of 126 (by decide +kernel) rfl⟩
theorem w_X2_51 (M : sM) (h : M.1.cls = RX2) : sV_ M 51 m_X2_fits 2 := ⟨cw_X2_fits M, by rw [h]; exact sTb_of 502 (by decide +kernel) rfl, sTb_of 504 (by decide +kernel) rfl, sTb_of 11 (by decide +kernel) rfl, 2, _, rfl, rfl⟩
theorem w_X2_55 (M : sM) (h : M.1.cls = RX2) : Cond.methodLink M.1.cls 55 Lib.Math.min.name ∈ sTb ∧ Cond.static Lib.Math.min.name ∈ sTb ∧ Cond.initialized "java/lang/Math" ∈ sTb ∧ Cond.code Lib.Math.min.name Lib.Math.min.code 2 (some .int) ∈ sTb := by rw [h]; exact ⟨sTb_of 506 (by decide +kernel) rfl, sTb_of 507 (by decide +kernel) rfl, sTb_of 116 (by decide +kernel) rfl, sTb_of 508 (by decide +kernel) rfl⟩
theorem w_X2_61 (M : sM) (h : M.1.cls = RX2) : sV_ M 61 m_X2_queue 1 := ⟨cw_X2_queue M, by rw [h]; exact sTb_of 509 (by decide +kernel) rfl, sTb_of 511 (by decide +kernel) rfl, sTb_of 12 (by decide +kernel) rfl, 2, _, rfl, rfl⟩
theorem w_X2_65 (M : sM) (h : M.1.cls = RX2) : sV_ M 65 m_X2_bitOf 1 := ⟨cw_X2_bitOf M, by rw [h]; exact sTb_of 644 (by decide +kernel) rfl, sTb_of 645 (by decide +kernel) rfl, sTb_of 646 (by decide +kernel) rfl, 2, _, rfl, rfl⟩
theorem w_X3_3 (M : sM) (h : M.1.cls = RX3) : Cond.methodLink M.1.cls 3 Lib.objectInit ∈ sTb ∧ Cond.instanceMethod Lib.objectInit ∈ sTb ∧ Cond.code Lib.objectInit ⟨#[0xb1]⟩ 1 none ∈ sTb := by rw [h]; exact ⟨sTb_of 303 (by decide +kernel) rfl, sTb_of 125 (by decide +kernel) rfl, sTb_of 126 (by decide +kernel) rfl⟩
theorem w_X3_52 (M : sM) (h : M.1.cls = RX3) : Cond.methodLink M.1.cls 52 Lib.Math.max.name ∈ sTb ∧ Cond.static Lib.Math.max.name ∈ sTb ∧ Cond.initialized "java/lang/Math" ∈ sTb ∧ Cond.code Lib.Math.max.name Lib.Math.max.code 2 (some .int) ∈ sTb := by rw [h]; exact ⟨sTb_of 683 (by decide +kernel) rfl, sTb_of 551 (by decide +kernel) rfl, sTb_of 116 (by decide +kernel) rfl, sTb_of 552 (by decide +kernel) rfl⟩
theorem w_X3_58 (M : sM) (h : M.1.cls = RX3) : Cond.methodLink M.1.cls 58 Lib.Math.min.name ∈ sTb ∧ Cond.static Lib.Math.min.name ∈ sTb ∧ Cond.initialized "java/lang/Math" ∈ sTb ∧ Cond.code Lib.Math.min.name Lib.Math.min.code 2 (some .int) ∈ sTb := by rw [h]; exact ⟨sTb_of 684 (by decide +kernel) rfl, sTb_of 507 (by decide +kernel) rfl, sTb_of 116 (by decide +kernel) rfl, sTb_of 508 (by decide +kernel) rfl⟩
theorem w_X3_68 (M : sM) (h : M.1.cls = RX3) : Cond.methodLink M.1.cls 68 arraycopyName ∈ sTb ∧ Cond.native arraycopyName ∈ sTb ∧ Cond.static arraycopyName ∈ sTb ∧ Cond.initialized "java/lang/System" ∈ sTb := by rw [h]; exact ⟨sTb_of 716 (by decide +kernel) rfl, sTb_of 718 (by decide +kernel) rfl, sTb_of 717 (by decide +kernel) rfl, sTb_of 118 (by decide +kernel) rfl⟩
theorem w_X3_74 (M : sM) (h : M.1.cls = RX3) : sV_ M 74 m_X3_keep 1 := ⟨cw_X3_keep M, by rw [h]; exact sTb_of 727 (by decide +kernel) rfl, sTb_of 712 (by decide +kernel) rfl, sTb_of 713 (by decide +kernel) rfl, 3, _, rfl, rfl⟩
theorem w_X3_78 (M : sM) (h : M.1.cls = RX3) : sV_ M 78 m_X3_weigh 2 := ⟨cw_X3_weigh M, by rw [h]; exact sTb_of 728 (by decide +kernel) rfl, sTb_of 730 (by decide +kernel) rfl, sTb_of 23 (by decide +kernel) rfl, 3, _, rfl, rfl⟩
theorem w_X3_82 (M : sM) (h : M.1.cls = RX3) : sV_ M 82 m_X3_cheapestEnd 2 := ⟨cw_X3_cheapestEnd M, by rw [h]; exact sTb_of 734 (by decide +kernel) rfl, sTb_of 736 (by decide +kernel) rfl, sTb_of 24 (by decide +kernel) rfl, 3, _, rfl, rfl⟩
theorem w_X3_85 (M : sM) (h : M.1.cls = RX3) : sV_ M 85 m_X3_reprice 3 := ⟨cw_X3_reprice M, by rw [h]; exact sTb_of 739 (by decide +kernel) rfl, sTb_of 741 (by decide +kernel) rfl, sTb_of 25 (by decide +kernel) rfl, 3, _, rfl, rfl⟩
theorem w_X3_89 (M : sM) (h : M.1.cls = RX3) : sV_ M 89 m_X3_moveAlong 3 := ⟨cw_X3_moveAlong M, by rw [h]; exact sTb_of 743 (by decide +kernel) rfl, sTb_of 745 (by decide +kernel) rfl, sTb_of 26 (by decide +kernel) rfl, 3, _, rfl, rfl⟩
theorem w_X4_3 (M : sM) (h : M.1.cls = RX4) : Cond.methodLink M.1.cls 3 Lib.objectInit ∈ sTb ∧ Cond.instanceMethod Lib.objectInit ∈ sTb ∧ Cond.code Lib.objectInit ⟨#[0xb1]⟩ 1 none ∈ sTb := by rw [h]; exact ⟨sTb_of 353 (by decide +kernel) rfl, sTb_of 125 (by decide +kernel) rfl, sTb_of 126 (by decide +kernel) rfl⟩
theorem w_X4_52 (M : sM) (h : M.1.cls = RX4) : sV_ M 52 m_X4_weighAll 1 := ⟨cw_X4_weighAll M, by rw [h]; exact sTb_of 665 (by decide +kernel) rfl, sTb_of 666 (by decide +kernel) rfl, sTb_of 667 (by decide +kernel) rfl, 4, _, rfl, rfl⟩
theorem w_X4_56 (M : sM) (h : M.1.cls = RX4) : sV_ M 56 m_X4_leastOf 2 := ⟨cw_X4_leastOf M, by rw [h]; exact sTb_of 751 (by decide +kernel) rfl, sTb_of 753 (by decide +kernel) rfl, sTb_of 27 (by decide +kernel) rfl, 4, _, rfl, rfl⟩
theorem w_X4_60 (M : sM) (h : M.1.cls = RX4) : sS_ M 60 m_X4_spellOut 3 := ⟨cw_X4_spellOut M, by rw [h]; exact sTb_of 759 (by decide +kernel) rfl, sTb_of 760 (by decide +kernel) rfl⟩
theorem w_X4_67 (M : sM) (h : M.1.cls = RX4) : sV_ M 67 m_X2_wayCount 0 := ⟨cw_X2_wayCount M, by rw [h]; exact sTb_of 669 (by decide +kernel) rfl, sTb_of 637 (by decide +kernel) rfl, sTb_of 638 (by decide +kernel) rfl, 2, _, rfl, rfl⟩
theorem w_X4_71 (M : sM) (h : M.1.cls = RX4) : sV_ M 71 m_X2_chanceOf 1 := ⟨cw_X2_chanceOf M, by rw [h]; exact sTb_of 670 (by decide +kernel) rfl, sTb_of 671 (by decide +kernel) rfl, sTb_of 672 (by decide +kernel) rfl, 2, _, rfl, rfl⟩
theorem w_X4_78 (M : sM) (h : M.1.cls = RX4) : sV_ M 78 m_X0_open 1 := ⟨cw_X0_open M, by rw [h]; exact sTb_of 674 (by decide +kernel) rfl, sTb_of 675 (by decide +kernel) rfl, sTb_of 676 (by decide +kernel) rfl, 0, _, rfl, rfl⟩
theorem w_X4_89 (M : sM) (h : M.1.cls = RX4) : sV_ M 89 m_X3_begin 0 := ⟨cw_X3_begin M, by rw [h]; exact sTb_of 679 (by decide +kernel) rfl, sTb_of 680 (by decide +kernel) rfl, sTb_of 681 (by decide +kernel) rfl, 3, _, rfl, rfl⟩
theorem w_X4_94 (M : sM) (h : M.1.cls = RX4) : sV_ M 94 m_X4_walk 3 := ⟨cw_X4_walk M, by rw [h]; exact sTb_of 685 (by decide +kernel) rfl, sTb_of 687 (by decide +kernel) rfl, sTb_of 21 (by decide +kernel) rfl, 4, _, rfl, rfl⟩
theorem w_X4_101 (M : sM) (h : M.1.cls = RX4) : sV_ M 101 m_X3_savedAt 1 := ⟨cw_X3_savedAt M, by rw [h]; exact sTb_of 689 (by decide +kernel) rfl, sTb_of 690 (by decide +kernel) rfl, sTb_of 691 (by decide +kernel) rfl, 3, _, rfl, rfl⟩
theorem w_X4_107 (M : sM) (h : M.1.cls = RX4) : sV_ M 107 m_X1_giveAsTheyCome 1 := ⟨cw_X1_giveAsTheyCome M, by rw [h]; exact sTb_of 694 (by decide +kernel) rfl, sTb_of 695 (by decide +kernel) rfl, sTb_of 696 (by decide +kernel) rfl, 1, _, rfl, rfl⟩
theorem w_X4_111 (M : sM) (h : M.1.cls = RX4) : sV_ M 111 m_X0_soonestFor 1 := ⟨cw_X0_soonestFor M, by rw [h]; exact sTb_of 699 (by decide +kernel) rfl, sTb_of 700 (by decide +kernel) rfl, sTb_of 701 (by decide +kernel) rfl, 0, _, rfl, rfl⟩
theorem w_X4_114 (M : sM) (h : M.1.cls = RX4) : sV_ M 114 m_X3_keep 1 := ⟨cw_X3_keep M, by rw [h]; exact sTb_of 711 (by decide +kernel) rfl, sTb_of 712 (by decide +kernel) rfl, sTb_of 713 (by decide +kernel) rfl, 3, _, rfl, rfl⟩
theorem w_X4_123 (M : sM) (h : M.1.cls = RX4) : sV_ M 123 m_X0_assign 2 := ⟨cw_X0_assign M, by rw [h]; exact sTb_of 719 (by decide +kernel) rfl, sTb_of 720 (by decide +kernel) rfl, sTb_of 721 (by decide +kernel) rfl, 0, _, rfl, rfl⟩
theorem w_X4_127 (M : sM) (h : M.1.cls = RX4) : sV_ M 127 m_X3_add 3 := ⟨cw_X3_add M, by rw [h]; exact sTb_of 723 (by decide +kernel) rfl, sTb_of 724 (by decide +kernel) rfl, sTb_of 725 (by decide +kernel) rfl, 3, _, rfl, rfl⟩
theorem w_X4_131 (M : sM) (h : M.1.cls = RX4) : sV_ M 131 m_X0_takeBack 4 := ⟨cw_X0_takeBack M, by rw [h]; exact sTb_of 747 (by decide +kernel) rfl, sTb_of 748 (by decide +kernel) rfl, sTb_of 749 (by decide +kernel) rfl, 0, _, rfl, rfl⟩
theorem w_X4_135 (M : sM) (h : M.1.cls = RX4) : sV_ M 135 m_X4_sumOf 3 := ⟨cw_X4_sumOf M, by rw [h]; exact sTb_of 755 (by decide +kernel) rfl, sTb_of 757 (by decide +kernel) rfl, sTb_of 28 (by decide +kernel) rfl, 4, _, rfl, rfl⟩
theorem w_X5_3 (M : sM) (h : M.1.cls = RX5) : Cond.methodLink M.1.cls 3 Lib.objectInit ∈ sTb ∧ Cond.instanceMethod Lib.objectInit ∈ sTb ∧ Cond.code Lib.objectInit ⟨#[0xb1]⟩ 1 none ∈ sTb := by rw [h]; exact ⟨sTb_of 132 (by decide +kernel) rfl, sTb_of 125 (by decide +kernel) rfl, sTb_of 126 (by decide +kernel) rfl⟩
theorem w_X5_35 (M : sM) (h : M.1.cls = RX5) : sV_ M 35 m_X2_clear 0 := ⟨cw_X2_clear M, by rw [h]; exact sTb_of 447 (by decide +kernel) rfl, sTb_of 448 (by decide +kernel) rfl, sTb_of 449 (by decide +kernel) rfl, 2, _, rfl, rfl⟩
theorem w_X5_40 (M : sM) (h : M.1.cls = RX5) : sV_ M 40 m_X5_readRooms 1 := ⟨cw_X5_readRooms M, by rw [h]; exact sTb_of 451 (by decide +kernel) rfl, sTb_of 453 (by decide +kernel) rfl, sTb_of 0 (by decide +kernel) rfl, 5, _, rfl, rfl⟩
theorem w_X5_44 (M : sM) (h : M.1.cls = RX5) : sV_ M 44 m_X5_readWomen 1 := ⟨cw_X5_readWomen M, by rw [h]; exact sTb_of 490 (by decide +kernel) rfl, sTb_of 492 (by decide +kernel) rfl, sTb_of 9 (by decide +kernel) rfl, 5, _, rfl, rfl⟩
theorem w_X5_47 (M : sM) (h : M.1.cls = RX5) : sV_ M 47 m_X5_readGuests 1 := ⟨cw_X5_readGuests M, by rw [h]; exact sTb_of 494 (by decide +kernel) rfl, sTb_of 496 (by decide +kernel) rfl, sTb_of 10 (by decide +kernel) rfl, 5, _, rfl, rfl⟩
theorem w_X5_50 (M : sM) (h : M.1.cls = RX5) : sV_ M 50 m_X2_settle 0 := ⟨cw_X2_settle M, by rw [h]; exact sTb_of 498 (by decide +kernel) rfl, sTb_of 499 (by decide +kernel) rfl, sTb_of 500 (by decide +kernel) rfl, 2, _, rfl, rfl⟩
theorem w_X5_53 (M : sM) (h : M.1.cls = RX5) : sV_ M 53 m_X5_readRoom 2 := ⟨cw_X5_readRoom M, by rw [h]; exact sTb_of 455 (by decide +kernel) rfl, sTb_of 457 (by decide +kernel) rfl, sTb_of 1 (by decide +kernel) rfl, 5, _, rfl, rfl⟩
theorem w_X5_60 (M : sM) (h : M.1.cls = RX5) : sV_ M 60 m_X5_takes 1 := ⟨cw_X5_takes M, by rw [h]; exact sTb_of 478 (by decide +kernel) rfl, sTb_of 480 (by decide +kernel) rfl, sTb_of 6 (by decide +kernel) rfl, 5, _, rfl, rfl⟩
theorem w_X5_64 (M : sM) (h : M.1.cls = RX5) : sV_ M 64 m_X5_needsAnother 1 := ⟨cw_X5_needsAnother M, by rw [h]; exact sTb_of 486 (by decide +kernel) rfl, sTb_of 488 (by decide +kernel) rfl, sTb_of 8 (by decide +kernel) rfl, 5, _, rfl, rfl⟩
theorem w_X5_72 (M : sM) (h : M.1.cls = RX5) : sV_ M 72 m_X5_digit 2 := ⟨cw_X5_digit M, by rw [h]; exact sTb_of 459 (by decide +kernel) rfl, sTb_of 461 (by decide +kernel) rfl, sTb_of 2 (by decide +kernel) rfl, 5, _, rfl, rfl⟩
theorem w_X5_76 (M : sM) (h : M.1.cls = RX5) : sV_ M 76 m_X5_sort 0 := ⟨cw_X5_sort M, by rw [h]; exact sTb_of 470 (by decide +kernel) rfl, sTb_of 472 (by decide +kernel) rfl, sTb_of 4 (by decide +kernel) rfl, 5, _, rfl, rfl⟩
theorem w_X5_80 (M : sM) (h : M.1.cls = RX5) : sV_ M 80 m_X5_needs 1 := ⟨cw_X5_needs M, by rw [h]; exact sTb_of 474 (by decide +kernel) rfl, sTb_of 476 (by decide +kernel) rfl, sTb_of 5 (by decide +kernel) rfl, 5, _, rfl, rfl⟩
theorem w_X5_84 (M : sM) (h : M.1.cls = RX5) : sV_ M 84 m_X5_number 2 := ⟨cw_X5_number M, by rw [h]; exact sTb_of 482 (by decide +kernel) rfl, sTb_of 484 (by decide +kernel) rfl, sTb_of 7 (by decide +kernel) rfl, 5, _, rfl, rfl⟩
theorem w_X5_112 (M : sM) (h : M.1.cls = RX5) : sV_ M 112 m_X5_cutToTold 1 := ⟨cw_X5_cutToTold M, by rw [h]; exact sTb_of 546 (by decide +kernel) rfl, sTb_of 548 (by decide +kernel) rfl, sTb_of 14 (by decide +kernel) rfl, 5, _, rfl, rfl⟩
theorem w_X5_116 (M : sM) (h : M.1.cls = RX5) : Cond.methodLink M.1.cls 116 Lib.Math.max.name ∈ sTb ∧ Cond.static Lib.Math.max.name ∈ sTb ∧ Cond.initialized "java/lang/Math" ∈ sTb ∧ Cond.code Lib.Math.max.name Lib.Math.max.code 2 (some .int) ∈ sTb := by rw [h]; exact ⟨sTb_of 550 (by decide +kernel) rfl, sTb_of 551 (by decide +kernel) rfl, sTb_of 116 (by decide +kernel) rfl, sTb_of 552 (by decide +kernel) rfl⟩
theorem w_X5_121 (M : sM) (h : M.1.cls = RX5) : sV_ M 121 m_X5_digitHere 0 := ⟨cw_X5_digitHere M, by rw [h]; exact sTb_of 463 (by decide +kernel) rfl, sTb_of 465 (by decide +kernel) rfl, sTb_of 3 (by decide +kernel) rfl, 5, _, rfl, rfl⟩
theorem w_X6_3 (M : sM) (h : M.1.cls = RX6) : Cond.methodLink M.1.cls 3 Lib.objectInit ∈ sTb ∧ Cond.instanceMethod Lib.objectInit ∈ sTb ∧ Cond.code Lib.objectInit ⟨#[0xb1]⟩ 1 none ∈ sTb := by rw [h]; exact ⟨sTb_of 560 (by decide +kernel) rfl, sTb_of 125 (by decide +kernel) rfl, sTb_of 126 (by decide +kernel) rfl⟩
theorem w_L_9 (M : sM) (h : M.1.cls = RL) : sI_ M 9 m_X7_init 0 := ⟨cw_X7_init M, rfl, by rw [h]; exact sTb_of 121 (by decide +kernel) rfl, sTb_of 122 (by decide +kernel) rfl, rfl⟩
theorem w_L_12 (M : sM) (h : M.1.cls = RL) : sI_ M 12 m_X8_init 0 := ⟨cw_X8_init M, rfl, by rw [h]; exact sTb_of 966 (by decide +kernel) rfl, sTb_of 967 (by decide +kernel) rfl, rfl⟩
theorem w_L_15 (M : sM) (h : M.1.cls = RL) : sV_ M 15 m_X7_letters 1 := ⟨cw_X7_letters M, by rw [h]; exact sTb_of 423 (by decide +kernel) rfl, sTb_of 424 (by decide +kernel) rfl, sTb_of 425 (by decide +kernel) rfl, 7, _, rfl, rfl⟩
theorem w_L_19 (M : sM) (h : M.1.cls = RL) : sV_ M 19 m_X8_letters 1 := ⟨cw_X8_letters M, by rw [h]; exact sTb_of 1194 (by decide +kernel) rfl, sTb_of 1195 (by decide +kernel) rfl, sTb_of 1196 (by decide +kernel) rfl, 8, _, rfl, rfl⟩
theorem w_L_20 (M : sM) (h : M.1.cls = RL) : sV_ M 20 m_X7_blank 0 := ⟨cw_X7_blank M, by rw [h]; exact sTb_of 435 (by decide +kernel) rfl, sTb_of 436 (by decide +kernel) rfl, sTb_of 437 (by decide +kernel) rfl, 7, _, rfl, rfl⟩
theorem w_L_24 (M : sM) (h : M.1.cls = RL) : sV_ M 24 m_X8_blank 0 := ⟨cw_X8_blank M, by rw [h]; exact sTb_of 1199 (by decide +kernel) rfl, sTb_of 1200 (by decide +kernel) rfl, sTb_of 1201 (by decide +kernel) rfl, 8, _, rfl, rfl⟩
theorem w_L_25 (M : sM) (h : M.1.cls = RL) : sV_ M 25 m_X7_fault 1 := ⟨cw_X7_fault M, by rw [h]; exact sTb_of 439 (by decide +kernel) rfl, sTb_of 440 (by decide +kernel) rfl, sTb_of 441 (by decide +kernel) rfl, 7, _, rfl, rfl⟩
theorem w_L_29 (M : sM) (h : M.1.cls = RL) : sV_ M 29 m_X8_fault 1 := ⟨cw_X8_fault M, by rw [h]; exact sTb_of 1203 (by decide +kernel) rfl, sTb_of 1204 (by decide +kernel) rfl, sTb_of 1205 (by decide +kernel) rfl, 8, _, rfl, rfl⟩
theorem w_L_30 (M : sM) (h : M.1.cls = RL) : sV_ M 30 m_X7_house 0 := ⟨cw_X7_house M, by rw [h]; exact sTb_of 517 (by decide +kernel) rfl, sTb_of 518 (by decide +kernel) rfl, sTb_of 519 (by decide +kernel) rfl, 7, _, rfl, rfl⟩
theorem w_L_33 (M : sM) (h : M.1.cls = RL) : sV_ M 33 m_X8_house 0 := ⟨cw_X8_house M, by rw [h]; exact sTb_of 1253 (by decide +kernel) rfl, sTb_of 1254 (by decide +kernel) rfl, sTb_of 1255 (by decide +kernel) rfl, 8, _, rfl, rfl⟩
theorem w_L_34 (M : sM) (h : M.1.cls = RL) : sV_ M 34 m_X7_tell 0 := ⟨cw_X7_tell M, by rw [h]; exact sTb_of 537 (by decide +kernel) rfl, sTb_of 538 (by decide +kernel) rfl, sTb_of 539 (by decide +kernel) rfl, 7, _, rfl, rfl⟩
theorem w_L_37 (M : sM) (h : M.1.cls = RL) : sV_ M 37 m_X8_tell 0 := ⟨cw_X8_tell M, by rw [h]; exact sTb_of 1261 (by decide +kernel) rfl, sTb_of 1262 (by decide +kernel) rfl, sTb_of 1263 (by decide +kernel) rfl, 8, _, rfl, rfl⟩
theorem w_L_38 (M : sM) (h : M.1.cls = RL) : sV_ M 38 m_X7_rule 2 := ⟨cw_X7_rule M, by rw [h]; exact sTb_of 583 (by decide +kernel) rfl, sTb_of 584 (by decide +kernel) rfl, sTb_of 585 (by decide +kernel) rfl, 7, _, rfl, rfl⟩
theorem w_L_42 (M : sM) (h : M.1.cls = RL) : sV_ M 42 m_X8_rule 2 := ⟨cw_X8_rule M, by rw [h]; exact sTb_of 1265 (by decide +kernel) rfl, sTb_of 1266 (by decide +kernel) rfl, sTb_of 1267 (by decide +kernel) rfl, 8, _, rfl, rfl⟩
theorem w_L_43 (M : sM) (h : M.1.cls = RL) : sV_ M 43 m_X7_as 2 := ⟨cw_X7_as M, by rw [h]; exact sTb_of 587 (by decide +kernel) rfl, sTb_of 588 (by decide +kernel) rfl, sTb_of 589 (by decide +kernel) rfl, 7, _, rfl, rfl⟩
theorem w_L_46 (M : sM) (h : M.1.cls = RL) : sV_ M 46 m_X8_as 2 := ⟨cw_X8_as M, by rw [h]; exact sTb_of 1269 (by decide +kernel) rfl, sTb_of 1270 (by decide +kernel) rfl, sTb_of 1271 (by decide +kernel) rfl, 8, _, rfl, rfl⟩
theorem w_L_47 (M : sM) (h : M.1.cls = RL) : sV_ M 47 m_X7_room 2 := ⟨cw_X7_room M, by rw [h]; exact sTb_of 600 (by decide +kernel) rfl, sTb_of 601 (by decide +kernel) rfl, sTb_of 602 (by decide +kernel) rfl, 7, _, rfl, rfl⟩
theorem w_L_50 (M : sM) (h : M.1.cls = RL) : sV_ M 50 m_X8_room 2 := ⟨cw_X8_room M, by rw [h]; exact sTb_of 1277 (by decide +kernel) rfl, sTb_of 1278 (by decide +kernel) rfl, sTb_of 1279 (by decide +kernel) rfl, 8, _, rfl, rfl⟩
theorem w_L_51 (M : sM) (h : M.1.cls = RL) : sV_ M 51 m_X7_woman 2 := ⟨cw_X7_woman M, by rw [h]; exact sTb_of 608 (by decide +kernel) rfl, sTb_of 609 (by decide +kernel) rfl, sTb_of 610 (by decide +kernel) rfl, 7, _, rfl, rfl⟩
theorem w_L_54 (M : sM) (h : M.1.cls = RL) : sV_ M 54 m_X8_woman 2 := ⟨cw_X8_woman M, by rw [h]; exact sTb_of 1289 (by decide +kernel) rfl, sTb_of 1290 (by decide +kernel) rfl, sTb_of 1291 (by decide +kernel) rfl, 8, _, rfl, rfl⟩
theorem w_L_55 (M : sM) (h : M.1.cls = RL) : sV_ M 55 m_X7_guest 2 := ⟨cw_X7_guest M, by rw [h]; exact sTb_of 612 (by decide +kernel) rfl, sTb_of 613 (by decide +kernel) rfl, sTb_of 614 (by decide +kernel) rfl, 7, _, rfl, rfl⟩
theorem w_L_58 (M : sM) (h : M.1.cls = RL) : sV_ M 58 m_X8_guest 2 := ⟨cw_X8_guest M, by rw [h]; exact sTb_of 1297 (by decide +kernel) rfl, sTb_of 1298 (by decide +kernel) rfl, sTb_of 1299 (by decide +kernel) rfl, 8, _, rfl, rfl⟩
theorem w_L_59 (M : sM) (h : M.1.cls = RL) : sV_ M 59 m_X7_late 2 := ⟨cw_X7_late M, by rw [h]; exact sTb_of 620 (by decide +kernel) rfl, sTb_of 621 (by decide +kernel) rfl, sTb_of 622 (by decide +kernel) rfl, 7, _, rfl, rfl⟩
theorem w_L_62 (M : sM) (h : M.1.cls = RL) : sV_ M 62 m_X8_late 2 := ⟨cw_X8_late M, by rw [h]; exact sTb_of 1309 (by decide +kernel) rfl, sTb_of 1310 (by decide +kernel) rfl, sTb_of 1311 (by decide +kernel) rfl, 8, _, rfl, rfl⟩
theorem w_L_63 (M : sM) (h : M.1.cls = RL) : sV_ M 63 m_X7_lift 1 := ⟨cw_X7_lift M, by rw [h]; exact sTb_of 624 (by decide +kernel) rfl, sTb_of 625 (by decide +kernel) rfl, sTb_of 626 (by decide +kernel) rfl, 7, _, rfl, rfl⟩
theorem w_L_66 (M : sM) (h : M.1.cls = RL) : sV_ M 66 m_X8_lift 1 := ⟨cw_X8_lift M, by rw [h]; exact sTb_of 1313 (by decide +kernel) rfl, sTb_of 1314 (by decide +kernel) rfl, sTb_of 1315 (by decide +kernel) rfl, 8, _, rfl, rfl⟩
theorem w_L_67 (M : sM) (h : M.1.cls = RL) : sV_ M 67 m_X7_gone 2 := ⟨cw_X7_gone M, by rw [h]; exact sTb_of 628 (by decide +kernel) rfl, sTb_of 629 (by decide +kernel) rfl, sTb_of 630 (by decide +kernel) rfl, 7, _, rfl, rfl⟩
theorem w_L_70 (M : sM) (h : M.1.cls = RL) : sV_ M 70 m_X8_gone 2 := ⟨cw_X8_gone M, by rw [h]; exact sTb_of 1317 (by decide +kernel) rfl, sTb_of 1318 (by decide +kernel) rfl, sTb_of 1319 (by decide +kernel) rfl, 8, _, rfl, rfl⟩
theorem w_L_71 (M : sM) (h : M.1.cls = RL) : sV_ M 71 m_X7_done 4 := ⟨cw_X7_done M, by rw [h]; exact sTb_of 648 (by decide +kernel) rfl, sTb_of 649 (by decide +kernel) rfl, sTb_of 650 (by decide +kernel) rfl, 7, _, rfl, rfl⟩
theorem w_L_75 (M : sM) (h : M.1.cls = RL) : sV_ M 75 m_X8_done 4 := ⟨cw_X8_done M, by rw [h]; exact sTb_of 1333 (by decide +kernel) rfl, sTb_of 1334 (by decide +kernel) rfl, sTb_of 1335 (by decide +kernel) rfl, 8, _, rfl, rfl⟩
theorem w_L_76 (M : sM) (h : M.1.cls = RL) : sV_ M 76 m_X7_given 5 := ⟨cw_X7_given M, by rw [h]; exact sTb_of 802 (by decide +kernel) rfl, sTb_of 803 (by decide +kernel) rfl, sTb_of 804 (by decide +kernel) rfl, 7, _, rfl, rfl⟩
theorem w_L_80 (M : sM) (h : M.1.cls = RL) : sV_ M 80 m_X8_given 5 := ⟨cw_X8_given M, by rw [h]; exact sTb_of 1471 (by decide +kernel) rfl, sTb_of 1472 (by decide +kernel) rfl, sTb_of 1473 (by decide +kernel) rfl, 8, _, rfl, rfl⟩
theorem w_L_81 (M : sM) (h : M.1.cls = RL) : sV_ M 81 m_X7_cost 3 := ⟨cw_X7_cost M, by rw [h]; exact sTb_of 833 (by decide +kernel) rfl, sTb_of 834 (by decide +kernel) rfl, sTb_of 835 (by decide +kernel) rfl, 7, _, rfl, rfl⟩
theorem w_L_85 (M : sM) (h : M.1.cls = RL) : sV_ M 85 m_X8_cost 3 := ⟨cw_X8_cost M, by rw [h]; exact sTb_of 1482 (by decide +kernel) rfl, sTb_of 1483 (by decide +kernel) rfl, sTb_of 1484 (by decide +kernel) rfl, 8, _, rfl, rfl⟩
theorem w_L_86 (M : sM) (h : M.1.cls = RL) : sV_ M 86 m_X7_mean 3 := ⟨cw_X7_mean M, by rw [h]; exact sTb_of 841 (by decide +kernel) rfl, sTb_of 842 (by decide +kernel) rfl, sTb_of 843 (by decide +kernel) rfl, 7, _, rfl, rfl⟩
theorem w_L_89 (M : sM) (h : M.1.cls = RL) : sV_ M 89 m_X8_mean 3 := ⟨cw_X8_mean M, by rw [h]; exact sTb_of 1486 (by decide +kernel) rfl, sTb_of 1487 (by decide +kernel) rfl, sTb_of 1488 (by decide +kernel) rfl, 8, _, rfl, rfl⟩
theorem w_L_90 (M : sM) (h : M.1.cls = RL) : sV_ M 90 m_X7_worst 3 := ⟨cw_X7_worst M, by rw [h]; exact sTb_of 862 (by decide +kernel) rfl, sTb_of 863 (by decide +kernel) rfl, sTb_of 864 (by decide +kernel) rfl, 7, _, rfl, rfl⟩
theorem w_L_93 (M : sM) (h : M.1.cls = RL) : sV_ M 93 m_X8_worst 3 := ⟨cw_X8_worst M, by rw [h]; exact sTb_of 1504 (by decide +kernel) rfl, sTb_of 1505 (by decide +kernel) rfl, sTb_of 1506 (by decide +kernel) rfl, 8, _, rfl, rfl⟩
theorem w_L_94 (M : sM) (h : M.1.cls = RL) : sV_ M 94 m_X7_sure 5 := ⟨cw_X7_sure M, by rw [h]; exact sTb_of 866 (by decide +kernel) rfl, sTb_of 867 (by decide +kernel) rfl, sTb_of 868 (by decide +kernel) rfl, 7, _, rfl, rfl⟩
theorem w_L_97 (M : sM) (h : M.1.cls = RL) : sV_ M 97 m_X8_sure 5 := ⟨cw_X8_sure M, by rw [h]; exact sTb_of 1508 (by decide +kernel) rfl, sTb_of 1509 (by decide +kernel) rfl, sTb_of 1510 (by decide +kernel) rfl, 8, _, rfl, rfl⟩
theorem w_L_98 (M : sM) (h : M.1.cls = RL) : sV_ M 98 m_X7_tells 4 := ⟨cw_X7_tells M, by rw [h]; exact sTb_of 882 (by decide +kernel) rfl, sTb_of 883 (by decide +kernel) rfl, sTb_of 884 (by decide +kernel) rfl, 7, _, rfl, rfl⟩
theorem w_L_101 (M : sM) (h : M.1.cls = RL) : sV_ M 101 m_X8_tells 4 := ⟨cw_X8_tells M, by rw [h]; exact sTb_of 1516 (by decide +kernel) rfl, sTb_of 1517 (by decide +kernel) rfl, sTb_of 1518 (by decide +kernel) rfl, 8, _, rfl, rfl⟩
theorem w_L_102 (M : sM) (h : M.1.cls = RL) : sV_ M 102 m_X7_run 4 := ⟨cw_X7_run M, by rw [h]; exact sTb_of 886 (by decide +kernel) rfl, sTb_of 887 (by decide +kernel) rfl, sTb_of 888 (by decide +kernel) rfl, 7, _, rfl, rfl⟩
theorem w_L_105 (M : sM) (h : M.1.cls = RL) : sV_ M 105 m_X8_run 4 := ⟨cw_X8_run M, by rw [h]; exact sTb_of 1520 (by decide +kernel) rfl, sTb_of 1521 (by decide +kernel) rfl, sTb_of 1522 (by decide +kernel) rfl, 8, _, rfl, rfl⟩
theorem w_L_106 (M : sM) (h : M.1.cls = RL) : sV_ M 106 m_X7_best 2 := ⟨cw_X7_best M, by rw [h]; exact sTb_of 895 (by decide +kernel) rfl, sTb_of 896 (by decide +kernel) rfl, sTb_of 897 (by decide +kernel) rfl, 7, _, rfl, rfl⟩
theorem w_L_109 (M : sM) (h : M.1.cls = RL) : sV_ M 109 m_X8_best 2 := ⟨cw_X8_best M, by rw [h]; exact sTb_of 1529 (by decide +kernel) rfl, sTb_of 1530 (by decide +kernel) rfl, sTb_of 1531 (by decide +kernel) rfl, 8, _, rfl, rfl⟩
theorem w_L_110 (M : sM) (h : M.1.cls = RL) : sV_ M 110 m_X7_call 3 := ⟨cw_X7_call M, by rw [h]; exact sTb_of 899 (by decide +kernel) rfl, sTb_of 900 (by decide +kernel) rfl, sTb_of 901 (by decide +kernel) rfl, 7, _, rfl, rfl⟩
theorem w_L_113 (M : sM) (h : M.1.cls = RL) : sV_ M 113 m_X8_call 3 := ⟨cw_X8_call M, by rw [h]; exact sTb_of 1533 (by decide +kernel) rfl, sTb_of 1534 (by decide +kernel) rfl, sTb_of 1535 (by decide +kernel) rfl, 8, _, rfl, rfl⟩
theorem w_L_114 (M : sM) (h : M.1.cls = RL) : sV_ M 114 m_X7_called 1 := ⟨cw_X7_called M, by rw [h]; exact sTb_of 913 (by decide +kernel) rfl, sTb_of 914 (by decide +kernel) rfl, sTb_of 915 (by decide +kernel) rfl, 7, _, rfl, rfl⟩
theorem w_L_117 (M : sM) (h : M.1.cls = RL) : sV_ M 117 m_X8_called 1 := ⟨cw_X8_called M, by rw [h]; exact sTb_of 1549 (by decide +kernel) rfl, sTb_of 1550 (by decide +kernel) rfl, sTb_of 1551 (by decide +kernel) rfl, 8, _, rfl, rfl⟩
theorem w_L_118 (M : sM) (h : M.1.cls = RL) : sV_ M 118 m_X7_missed 2 := ⟨cw_X7_missed M, by rw [h]; exact sTb_of 917 (by decide +kernel) rfl, sTb_of 918 (by decide +kernel) rfl, sTb_of 919 (by decide +kernel) rfl, 7, _, rfl, rfl⟩
theorem w_L_121 (M : sM) (h : M.1.cls = RL) : sV_ M 121 m_X8_missed 2 := ⟨cw_X8_missed M, by rw [h]; exact sTb_of 1553 (by decide +kernel) rfl, sTb_of 1554 (by decide +kernel) rfl, sTb_of 1555 (by decide +kernel) rfl, 8, _, rfl, rfl⟩
theorem w_L_122 (M : sM) (h : M.1.cls = RL) : sV_ M 122 m_X7_more 3 := ⟨cw_X7_more M, by rw [h]; exact sTb_of 925 (by decide +kernel) rfl, sTb_of 926 (by decide +kernel) rfl, sTb_of 927 (by decide +kernel) rfl, 7, _, rfl, rfl⟩
theorem w_L_125 (M : sM) (h : M.1.cls = RL) : sV_ M 125 m_X8_more 3 := ⟨cw_X8_more M, by rw [h]; exact sTb_of 1561 (by decide +kernel) rfl, sTb_of 1562 (by decide +kernel) rfl, sTb_of 1563 (by decide +kernel) rfl, 8, _, rfl, rfl⟩
theorem w_L_126 (M : sM) (h : M.1.cls = RL) : sV_ M 126 m_X7_which 1 := ⟨cw_X7_which M, by rw [h]; exact sTb_of 933 (by decide +kernel) rfl, sTb_of 934 (by decide +kernel) rfl, sTb_of 935 (by decide +kernel) rfl, 7, _, rfl, rfl⟩
theorem w_L_129 (M : sM) (h : M.1.cls = RL) : sV_ M 129 m_X8_which 1 := ⟨cw_X8_which M, by rw [h]; exact sTb_of 1568 (by decide +kernel) rfl, sTb_of 1569 (by decide +kernel) rfl, sTb_of 1570 (by decide +kernel) rfl, 8, _, rfl, rfl⟩
theorem w_L_130 (M : sM) (h : M.1.cls = RL) : sV_ M 130 m_X7_image 0 := ⟨cw_X7_image M, by rw [h]; exact sTb_of 937 (by decide +kernel) rfl, sTb_of 938 (by decide +kernel) rfl, sTb_of 939 (by decide +kernel) rfl, 7, _, rfl, rfl⟩
theorem w_L_133 (M : sM) (h : M.1.cls = RL) : sV_ M 133 m_X8_image 0 := ⟨cw_X8_image M, by rw [h]; exact sTb_of 1572 (by decide +kernel) rfl, sTb_of 1573 (by decide +kernel) rfl, sTb_of 1574 (by decide +kernel) rfl, 8, _, rfl, rfl⟩
theorem w_L_134 (M : sM) (h : M.1.cls = RL) : sV_ M 134 m_X7_restore 0 := ⟨cw_X7_restore M, by rw [h]; exact sTb_of 945 (by decide +kernel) rfl, sTb_of 946 (by decide +kernel) rfl, sTb_of 947 (by decide +kernel) rfl, 7, _, rfl, rfl⟩
theorem w_L_137 (M : sM) (h : M.1.cls = RL) : sV_ M 137 m_X8_restore 0 := ⟨cw_X8_restore M, by rw [h]; exact sTb_of 1580 (by decide +kernel) rfl, sTb_of 1581 (by decide +kernel) rfl, sTb_of 1582 (by decide +kernel) rfl, 8, _, rfl, rfl⟩
theorem w_L_138 (M : sM) (h : M.1.cls = RL) : sV_ M 138 m_X7_count 1 := ⟨cw_X7_count M, by rw [h]; exact sTb_of 949 (by decide +kernel) rfl, sTb_of 950 (by decide +kernel) rfl, sTb_of 951 (by decide +kernel) rfl, 7, _, rfl, rfl⟩
theorem w_L_141 (M : sM) (h : M.1.cls = RL) : sV_ M 141 m_X8_count 1 := ⟨cw_X8_count M, by rw [h]; exact sTb_of 1584 (by decide +kernel) rfl, sTb_of 1585 (by decide +kernel) rfl, sTb_of 1586 (by decide +kernel) rfl, 8, _, rfl, rfl⟩
theorem w_L_142 (M : sM) (h : M.1.cls = RL) : sV_ M 142 m_X7_digest 0 := ⟨cw_X7_digest M, by rw [h]; exact sTb_of 953 (by decide +kernel) rfl, sTb_of 954 (by decide +kernel) rfl, sTb_of 955 (by decide +kernel) rfl, 7, _, rfl, rfl⟩
theorem w_L_146 (M : sM) (h : M.1.cls = RL) : sV_ M 146 m_X8_digest 0 := ⟨cw_X8_digest M, by rw [h]; exact sTb_of 1592 (by decide +kernel) rfl, sTb_of 1593 (by decide +kernel) rfl, sTb_of 1594 (by decide +kernel) rfl, 8, _, rfl, rfl⟩
theorem w_X8_1 (M : sM) (h : M.1.cls = RX8) : Cond.methodLink M.1.cls 1 Lib.objectInit ∈ sTb ∧ Cond.instanceMethod Lib.objectInit ∈ sTb ∧ Cond.code Lib.objectInit ⟨#[0xb1]⟩ 1 none ∈ sTb := by rw [h]; exact ⟨sTb_of 969 (by decide +kernel) rfl, sTb_of 125 (by decide +kernel) rfl, sTb_of 126 (by decide +kernel) rfl⟩
theorem w_X8_162 (M : sM) (h : M.1.cls = RX8) : sS_ M 162 m_X8_within 3 := ⟨cw_X8_within M, by rw [h]; exact sTb_of 1207 (by decide +kernel) rfl, sTb_of 1208 (by decide +kernel) rfl⟩
theorem w_X8_175 (M : sM) (h : M.1.cls = RX8) : sS_ M 175 m_X8_isDigit 1 := ⟨cw_X8_isDigit M, by rw [h]; exact sTb_of 1230 (by decide +kernel) rfl, sTb_of 1231 (by decide +kernel) rfl⟩
theorem w_X8_182 (M : sM) (h : M.1.cls = RX8) : sV_ M 182 m_X8_begin 2 := ⟨cw_X8_begin M, by rw [h]; exact sTb_of 1218 (by decide +kernel) rfl, sTb_of 1220 (by decide +kernel) rfl, sTb_of 47 (by decide +kernel) rfl, 8, _, rfl, rfl⟩
theorem w_X8_186 (M : sM) (h : M.1.cls = RX8) : sV_ M 186 m_X8_behindGone 2 := ⟨cw_X8_behindGone M, by rw [h]; exact sTb_of 1222 (by decide +kernel) rfl, sTb_of 1224 (by decide +kernel) rfl, sTb_of 48 (by decide +kernel) rfl, 8, _, rfl, rfl⟩
theorem w_X8_190 (M : sM) (h : M.1.cls = RX8) : sV_ M 190 m_X8_fits 1 := ⟨cw_X8_fits M, by rw [h]; exact sTb_of 1226 (by decide +kernel) rfl, sTb_of 1228 (by decide +kernel) rfl, sTb_of 49 (by decide +kernel) rfl, 8, _, rfl, rfl⟩
theorem w_X8_193 (M : sM) (h : M.1.cls = RX8) : sV_ M 193 m_X8_grow 1 := ⟨cw_X8_grow M, by rw [h]; exact sTb_of 1233 (by decide +kernel) rfl, sTb_of 1235 (by decide +kernel) rfl, sTb_of 50 (by decide +kernel) rfl, 8, _, rfl, rfl⟩
theorem w_X8_197 (M : sM) (h : M.1.cls = RX8) : sV_ M 197 m_X8_isNumber 0 := ⟨cw_X8_isNumber M, by rw [h]; exact sTb_of 1237 (by decide +kernel) rfl, sTb_of 1239 (by decide +kernel) rfl, sTb_of 51 (by decide +kernel) rfl, 8, _, rfl, rfl⟩
theorem w_X8_210 (M : sM) (h : M.1.cls = RX8) : sV_ M 210 m_X8_nextRoom 2 := ⟨cw_X8_nextRoom M, by rw [h]; exact sTb_of 1214 (by decide +kernel) rfl, sTb_of 1216 (by decide +kernel) rfl, sTb_of 46 (by decide +kernel) rfl, 8, _, rfl, rfl⟩
theorem w_X8_213 (M : sM) (h : M.1.cls = RX8) : sV_ M 213 m_X8_nextWoman 2 := ⟨cw_X8_nextWoman M, by rw [h]; exact sTb_of 1241 (by decide +kernel) rfl, sTb_of 1243 (by decide +kernel) rfl, sTb_of 52 (by decide +kernel) rfl, 8, _, rfl, rfl⟩
theorem w_X8_216 (M : sM) (h : M.1.cls = RX8) : sV_ M 216 m_X8_nextGuest 2 := ⟨cw_X8_nextGuest M, by rw [h]; exact sTb_of 1245 (by decide +kernel) rfl, sTb_of 1247 (by decide +kernel) rfl, sTb_of 53 (by decide +kernel) rfl, 8, _, rfl, rfl⟩
theorem w_X8_226 (M : sM) (h : M.1.cls = RX8) : sV_ M 226 m_X8_readHouse 0 := ⟨cw_X8_readHouse M, by rw [h]; exact sTb_of 1210 (by decide +kernel) rfl, sTb_of 1212 (by decide +kernel) rfl, sTb_of 45 (by decide +kernel) rfl, 8, _, rfl, rfl⟩
theorem w_X8_229 (M : sM) (h : M.1.cls = RX8) : sV_ M 229 m_X8_readTold 0 := ⟨cw_X8_readTold M, by rw [h]; exact sTb_of 1249 (by decide +kernel) rfl, sTb_of 1251 (by decide +kernel) rfl, sTb_of 54 (by decide +kernel) rfl, 8, _, rfl, rfl⟩
theorem w_X8_244 (M : sM) (h : M.1.cls = RX8) : sV_ M 244 m_X8_change 0 := ⟨cw_X8_change M, by rw [h]; exact sTb_of 1257 (by decide +kernel) rfl, sTb_of 1259 (by decide +kernel) rfl, sTb_of 55 (by decide +kernel) rfl, 8, _, rfl, rfl⟩
theorem w_X8_250 (M : sM) (h : M.1.cls = RX8) : sV_ M 250 m_X8_isRule 1 := ⟨cw_X8_isRule M, by rw [h]; exact sTb_of 1273 (by decide +kernel) rfl, sTb_of 1275 (by decide +kernel) rfl, sTb_of 56 (by decide +kernel) rfl, 8, _, rfl, rfl⟩
theorem w_X8_253 (M : sM) (h : M.1.cls = RX8) : sV_ M 253 m_X8_isRoom 1 := ⟨cw_X8_isRoom M, by rw [h]; exact sTb_of 1281 (by decide +kernel) rfl, sTb_of 1283 (by decide +kernel) rfl, sTb_of 57 (by decide +kernel) rfl, 8, _, rfl, rfl⟩
theorem w_X8_256 (M : sM) (h : M.1.cls = RX8) : sV_ M 256 m_X8_roomTold 2 := ⟨cw_X8_roomTold M, by rw [h]; exact sTb_of 1285 (by decide +kernel) rfl, sTb_of 1287 (by decide +kernel) rfl, sTb_of 58 (by decide +kernel) rfl, 8, _, rfl, rfl⟩
theorem w_X8_259 (M : sM) (h : M.1.cls = RX8) : sV_ M 259 m_X8_womanTold 2 := ⟨cw_X8_womanTold M, by rw [h]; exact sTb_of 1293 (by decide +kernel) rfl, sTb_of 1295 (by decide +kernel) rfl, sTb_of 59 (by decide +kernel) rfl, 8, _, rfl, rfl⟩
theorem w_X8_262 (M : sM) (h : M.1.cls = RX8) : sV_ M 262 m_X8_isGuest 1 := ⟨cw_X8_isGuest M, by rw [h]; exact sTb_of 1301 (by decide +kernel) rfl, sTb_of 1303 (by decide +kernel) rfl, sTb_of 60 (by decide +kernel) rfl, 8, _, rfl, rfl⟩
theorem w_X8_265 (M : sM) (h : M.1.cls = RX8) : sV_ M 265 m_X8_guestTold 2 := ⟨cw_X8_guestTold M, by rw [h]; exact sTb_of 1305 (by decide +kernel) rfl, sTb_of 1307 (by decide +kernel) rfl, sTb_of 61 (by decide +kernel) rfl, 8, _, rfl, rfl⟩
theorem w_X8_268 (M : sM) (h : M.1.cls = RX8) : sV_ M 268 m_X8_chanceMany 0 := ⟨cw_X8_chanceMany M, by rw [h]; exact sTb_of 1325 (by decide +kernel) rfl, sTb_of 1327 (by decide +kernel) rfl, sTb_of 63 (by decide +kernel) rfl, 8, _, rfl, rfl⟩
theorem w_X8_272 (M : sM) (h : M.1.cls = RX8) : sV_ M 272 m_X8_isWay 1 := ⟨cw_X8_isWay M, by rw [h]; exact sTb_of 1321 (by decide +kernel) rfl, sTb_of 1323 (by decide +kernel) rfl, sTb_of 62 (by decide +kernel) rfl, 8, _, rfl, rfl⟩
theorem w_X8_275 (M : sM) (h : M.1.cls = RX8) : sV_ M 275 m_X8_layGone 1 := ⟨cw_X8_layGone M, by rw [h]; exact sTb_of 1329 (by decide +kernel) rfl, sTb_of 1331 (by decide +kernel) rfl, sTb_of 64 (by decide +kernel) rfl, 8, _, rfl, rfl⟩
theorem w_X8_281 (M : sM) (h : M.1.cls = RX8) : sS_ M 281 m_X8_size 1 := ⟨cw_X8_size M, by rw [h]; exact sTb_of 1364 (by decide +kernel) rfl, sTb_of 1365 (by decide +kernel) rfl⟩
theorem w_X8_285 (M : sM) (h : M.1.cls = RX8) : sS_ M 285 m_X8_greater 2 := ⟨cw_X8_greater M, by rw [h]; exact sTb_of 1375 (by decide +kernel) rfl, sTb_of 1376 (by decide +kernel) rfl⟩
theorem w_X8_288 (M : sM) (h : M.1.cls = RX8) : sV_ M 288 m_X8_beginsAt 2 := ⟨cw_X8_beginsAt M, by rw [h]; exact sTb_of 1371 (by decide +kernel) rfl, sTb_of 1373 (by decide +kernel) rfl, sTb_of 72 (by decide +kernel) rfl, 8, _, rfl, rfl⟩
theorem w_X8_291 (M : sM) (h : M.1.cls = RX8) : sV_ M 291 m_X8_may 2 := ⟨cw_X8_may M, by rw [h]; exact sTb_of 1367 (by decide +kernel) rfl, sTb_of 1369 (by decide +kernel) rfl, sTb_of 71 (by decide +kernel) rfl, 8, _, rfl, rfl⟩
theorem w_X8_295 (M : sM) (h : M.1.cls = RX8) : sV_ M 295 m_X8_doRoom 2 := ⟨cw_X8_doRoom M, by rw [h]; exact sTb_of 1378 (by decide +kernel) rfl, sTb_of 1380 (by decide +kernel) rfl, sTb_of 73 (by decide +kernel) rfl, 8, _, rfl, rfl⟩
theorem w_X8_298 (M : sM) (h : M.1.cls = RX8) : sV_ M 298 m_X8_layList 0 := ⟨cw_X8_layList M, by rw [h]; exact sTb_of 1395 (by decide +kernel) rfl, sTb_of 1397 (by decide +kernel) rfl, sTb_of 77 (by decide +kernel) rfl, 8, _, rfl, rfl⟩
theorem w_X8_301 (M : sM) (h : M.1.cls = RX8) : sV_ M 301 m_X8_nearestWoman 1 := ⟨cw_X8_nearestWoman M, by rw [h]; exact sTb_of 1360 (by decide +kernel) rfl, sTb_of 1362 (by decide +kernel) rfl, sTb_of 70 (by decide +kernel) rfl, 8, _, rfl, rfl⟩
theorem w_X8_304 (M : sM) (h : M.1.cls = RX8) : sV_ M 304 m_X8_suits 2 := ⟨cw_X8_suits M, by rw [h]; exact sTb_of 1415 (by decide +kernel) rfl, sTb_of 1417 (by decide +kernel) rfl, sTb_of 82 (by decide +kernel) rfl, 8, _, rfl, rfl⟩
theorem w_X8_307 (M : sM) (h : M.1.cls = RX8) : sV_ M 307 m_X8_firstGuest 1 := ⟨cw_X8_firstGuest M, by rw [h]; exact sTb_of 1463 (by decide +kernel) rfl, sTb_of 1465 (by decide +kernel) rfl, sTb_of 94 (by decide +kernel) rfl, 8, _, rfl, rfl⟩
theorem w_X8_310 (M : sM) (h : M.1.cls = RX8) : sV_ M 310 m_X8_worthOf 3 := ⟨cw_X8_worthOf M, by rw [h]; exact sTb_of 1459 (by decide +kernel) rfl, sTb_of 1461 (by decide +kernel) rfl, sTb_of 93 (by decide +kernel) rfl, 8, _, rfl, rfl⟩
theorem w_X8_315 (M : sM) (h : M.1.cls = RX8) : sV_ M 315 m_X8_chosen 2 := ⟨cw_X8_chosen M, by rw [h]; exact sTb_of 1455 (by decide +kernel) rfl, sTb_of 1457 (by decide +kernel) rfl, sTb_of 92 (by decide +kernel) rfl, 8, _, rfl, rfl⟩
theorem w_X8_318 (M : sM) (h : M.1.cls = RX8) : sV_ M 318 m_X8_nextGone 1 := ⟨cw_X8_nextGone M, by rw [h]; exact sTb_of 1467 (by decide +kernel) rfl, sTb_of 1469 (by decide +kernel) rfl, sTb_of 95 (by decide +kernel) rfl, 8, _, rfl, rfl⟩
theorem w_X8_321 (M : sM) (h : M.1.cls = RX8) : sV_ M 321 m_X8_clear 0 := ⟨cw_X8_clear M, by rw [h]; exact sTb_of 1352 (by decide +kernel) rfl, sTb_of 1354 (by decide +kernel) rfl, sTb_of 68 (by decide +kernel) rfl, 8, _, rfl, rfl⟩
theorem w_X8_324 (M : sM) (h : M.1.cls = RX8) : sV_ M 324 m_X8_layFloors 0 := ⟨cw_X8_layFloors M, by rw [h]; exact sTb_of 1356 (by decide +kernel) rfl, sTb_of 1358 (by decide +kernel) rfl, sTb_of 69 (by decide +kernel) rfl, 8, _, rfl, rfl⟩
theorem w_X8_327 (M : sM) (h : M.1.cls = RX8) : sV_ M 327 m_X8_layBestOrder 1 := ⟨cw_X8_layBestOrder M, by rw [h]; exact sTb_of 1382 (by decide +kernel) rfl, sTb_of 1384 (by decide +kernel) rfl, sTb_of 74 (by decide +kernel) rfl, 8, _, rfl, rfl⟩
theorem w_X8_330 (M : sM) (h : M.1.cls = RX8) : sV_ M 330 m_X8_layTold 1 := ⟨cw_X8_layTold M, by rw [h]; exact sTb_of 1443 (by decide +kernel) rfl, sTb_of 1445 (by decide +kernel) rfl, sTb_of 89 (by decide +kernel) rfl, 8, _, rfl, rfl⟩
theorem w_X8_333 (M : sM) (h : M.1.cls = RX8) : sV_ M 333 m_X8_layNatural 0 := ⟨cw_X8_layNatural M, by rw [h]; exact sTb_of 1447 (by decide +kernel) rfl, sTb_of 1449 (by decide +kernel) rfl, sTb_of 90 (by decide +kernel) rfl, 8, _, rfl, rfl⟩
theorem w_X8_336 (M : sM) (h : M.1.cls = RX8) : sV_ M 336 m_X8_layFree 1 := ⟨cw_X8_layFree M, by rw [h]; exact sTb_of 1451 (by decide +kernel) rfl, sTb_of 1453 (by decide +kernel) rfl, sTb_of 91 (by decide +kernel) rfl, 8, _, rfl, rfl⟩
theorem w_X8_339 (M : sM) (h : M.1.cls = RX8) : sV_ M 339 m_X8_waits 2 := ⟨cw_X8_waits M, by rw [h]; exact sTb_of 1419 (by decide +kernel) rfl, sTb_of 1421 (by decide +kernel) rfl, sTb_of 83 (by decide +kernel) rfl, 8, _, rfl, rfl⟩
theorem w_X8_342 (M : sM) (h : M.1.cls = RX8) : sV_ M 342 m_X8_canHave 3 := ⟨cw_X8_canHave M, by rw [h]; exact sTb_of 1411 (by decide +kernel) rfl, sTb_of 1413 (by decide +kernel) rfl, sTb_of 81 (by decide +kernel) rfl, 8, _, rfl, rfl⟩
theorem w_X8_345 (M : sM) (h : M.1.cls = RX8) : sV_ M 345 m_X8_costOf 2 := ⟨cw_X8_costOf M, by rw [h]; exact sTb_of 1431 (by decide +kernel) rfl, sTb_of 1433 (by decide +kernel) rfl, sTb_of 86 (by decide +kernel) rfl, 8, _, rfl, rfl⟩
theorem w_X8_348 (M : sM) (h : M.1.cls = RX8) : sV_ M 348 m_X8_by 3 := ⟨cw_X8_by M, by rw [h]; exact sTb_of 1427 (by decide +kernel) rfl, sTb_of 1429 (by decide +kernel) rfl, sTb_of 85 (by decide +kernel) rfl, 8, _, rfl, rfl⟩
theorem w_X8_351 (M : sM) (h : M.1.cls = RX8) : sV_ M 351 m_X8_giveAsTheyCome 0 := ⟨cw_X8_giveAsTheyCome M, by rw [h]; exact sTb_of 1407 (by decide +kernel) rfl, sTb_of 1409 (by decide +kernel) rfl, sTb_of 80 (by decide +kernel) rfl, 8, _, rfl, rfl⟩
theorem w_X8_354 (M : sM) (h : M.1.cls = RX8) : sV_ M 354 m_X8_giveWisely 0 := ⟨cw_X8_giveWisely M, by rw [h]; exact sTb_of 1423 (by decide +kernel) rfl, sTb_of 1425 (by decide +kernel) rfl, sTb_of 84 (by decide +kernel) rfl, 8, _, rfl, rfl⟩
theorem w_X8_357 (M : sM) (h : M.1.cls = RX8) : sV_ M 357 m_X8_swap 2 := ⟨cw_X8_swap M, by rw [h]; exact sTb_of 1439 (by decide +kernel) rfl, sTb_of 1441 (by decide +kernel) rfl, sTb_of 88 (by decide +kernel) rfl, 8, _, rfl, rfl⟩
theorem w_X8_366 (M : sM) (h : M.1.cls = RX8) : sV_ M 366 m_X8_weight 1 := ⟨cw_X8_weight M, by rw [h]; exact sTb_of 1399 (by decide +kernel) rfl, sTb_of 1401 (by decide +kernel) rfl, sTb_of 78 (by decide +kernel) rfl, 8, _, rfl, rfl⟩
theorem w_X8_369 (M : sM) (h : M.1.cls = RX8) : sV_ M 369 m_X8_giveAll 1 := ⟨cw_X8_giveAll M, by rw [h]; exact sTb_of 1403 (by decide +kernel) rfl, sTb_of 1405 (by decide +kernel) rfl, sTb_of 79 (by decide +kernel) rfl, 8, _, rfl, rfl⟩
theorem w_X8_381 (M : sM) (h : M.1.cls = RX8) : sV_ M 381 m_X8_layOrderCost 2 := ⟨cw_X8_layOrderCost M, by rw [h]; exact sTb_of 1391 (by decide +kernel) rfl, sTb_of 1393 (by decide +kernel) rfl, sTb_of 76 (by decide +kernel) rfl, 8, _, rfl, rfl⟩
theorem w_X8_384 (M : sM) (h : M.1.cls = RX8) : sV_ M 384 m_X8_nextOrder 0 := ⟨cw_X8_nextOrder M, by rw [h]; exact sTb_of 1435 (by decide +kernel) rfl, sTb_of 1437 (by decide +kernel) rfl, sTb_of 87 (by decide +kernel) rfl, 8, _, rfl, rfl⟩
theorem w_X8_387 (M : sM) (h : M.1.cls = RX8) : sV_ M 387 m_X8_layOrders 2 := ⟨cw_X8_layOrders M, by rw [h]; exact sTb_of 1386 (by decide +kernel) rfl, sTb_of 1388 (by decide +kernel) rfl, sTb_of 75 (by decide +kernel) rfl, 8, _, rfl, rfl⟩
theorem w_X8_390 (M : sM) (h : M.1.cls = RX8) : sV_ M 390 m_X8_laySchedule 2 := ⟨cw_X8_laySchedule M, by rw [h]; exact sTb_of 1348 (by decide +kernel) rfl, sTb_of 1350 (by decide +kernel) rfl, sTb_of 67 (by decide +kernel) rfl, 8, _, rfl, rfl⟩
theorem w_X8_393 (M : sM) (h : M.1.cls = RX8) : sS_ M 393 m_X8_asWay 1 := ⟨cw_X8_asWay M, by rw [h]; exact sTb_of 1337 (by decide +kernel) rfl, sTb_of 1338 (by decide +kernel) rfl⟩
theorem w_X8_396 (M : sM) (h : M.1.cls = RX8) : sV_ M 396 m_X8_bars 3 := ⟨cw_X8_bars M, by rw [h]; exact sTb_of 1340 (by decide +kernel) rfl, sTb_of 1342 (by decide +kernel) rfl, sTb_of 65 (by decide +kernel) rfl, 8, _, rfl, rfl⟩
theorem w_X8_400 (M : sM) (h : M.1.cls = RX8) : sV_ M 400 m_X8_allWomen 0 := ⟨cw_X8_allWomen M, by rw [h]; exact sTb_of 1344 (by decide +kernel) rfl, sTb_of 1346 (by decide +kernel) rfl, sTb_of 66 (by decide +kernel) rfl, 8, _, rfl, rfl⟩
theorem w_X8_403 (M : sM) (h : M.1.cls = RX8) : sS_ M 403 m_X8_isGiving 1 := ⟨cw_X8_isGiving M, by rw [h]; exact sTb_of 1475 (by decide +kernel) rfl, sTb_of 1476 (by decide +kernel) rfl⟩
theorem w_X8_406 (M : sM) (h : M.1.cls = RX8) : sV_ M 406 m_X8_costBy 3 := ⟨cw_X8_costBy M, by rw [h]; exact sTb_of 1478 (by decide +kernel) rfl, sTb_of 1480 (by decide +kernel) rfl, sTb_of 96 (by decide +kernel) rfl, 8, _, rfl, rfl⟩
theorem w_X8_409 (M : sM) (h : M.1.cls = RX8) : sS_ M 409 m_X8_divisor 2 := ⟨cw_X8_divisor M, by rw [h]; exact sTb_of 1501 (by decide +kernel) rfl, sTb_of 1502 (by decide +kernel) rfl⟩
theorem w_X8_412 (M : sM) (h : M.1.cls = RX8) : sV_ M 412 m_X8_sumBy 2 := ⟨cw_X8_sumBy M, by rw [h]; exact sTb_of 1490 (by decide +kernel) rfl, sTb_of 1492 (by decide +kernel) rfl, sTb_of 97 (by decide +kernel) rfl, 8, _, rfl, rfl⟩
theorem w_X8_415 (M : sM) (h : M.1.cls = RX8) : sV_ M 415 m_X8_whole 0 := ⟨cw_X8_whole M, by rw [h]; exact sTb_of 1494 (by decide +kernel) rfl, sTb_of 1496 (by decide +kernel) rfl, sTb_of 98 (by decide +kernel) rfl, 8, _, rfl, rfl⟩
theorem w_X8_418 (M : sM) (h : M.1.cls = RX8) : sS_ M 418 m_X8_lowest 3 := ⟨cw_X8_lowest M, by rw [h]; exact sTb_of 1498 (by decide +kernel) rfl, sTb_of 1499 (by decide +kernel) rfl⟩
theorem w_X8_421 (M : sM) (h : M.1.cls = RX8) : sV_ M 421 m_X8_sureOf 4 := ⟨cw_X8_sureOf M, by rw [h]; exact sTb_of 1512 (by decide +kernel) rfl, sTb_of 1514 (by decide +kernel) rfl, sTb_of 99 (by decide +kernel) rfl, 8, _, rfl, rfl⟩
theorem w_X8_438 (M : sM) (h : M.1.cls = RX8) : sV_ M 438 m_X8_bitOf 1 := ⟨cw_X8_bitOf M, by rw [h]; exact sTb_of 1545 (by decide +kernel) rfl, sTb_of 1547 (by decide +kernel) rfl, sTb_of 102 (by decide +kernel) rfl, 8, _, rfl, rfl⟩
theorem w_X8_441 (M : sM) (h : M.1.cls = RX8) : sV_ M 441 m_X8_isCalled 1 := ⟨cw_X8_isCalled M, by rw [h]; exact sTb_of 1537 (by decide +kernel) rfl, sTb_of 1539 (by decide +kernel) rfl, sTb_of 100 (by decide +kernel) rfl, 8, _, rfl, rfl⟩
theorem w_X8_444 (M : sM) (h : M.1.cls = RX8) : sV_ M 444 m_X8_worthOfCall 2 := ⟨cw_X8_worthOfCall M, by rw [h]; exact sTb_of 1541 (by decide +kernel) rfl, sTb_of 1543 (by decide +kernel) rfl, sTb_of 101 (by decide +kernel) rfl, 8, _, rfl, rfl⟩
theorem w_X8_447 (M : sM) (h : M.1.cls = RX8) : sV_ M 447 m_X8_sumAnew 2 := ⟨cw_X8_sumAnew M, by rw [h]; exact sTb_of 1557 (by decide +kernel) rfl, sTb_of 1559 (by decide +kernel) rfl, sTb_of 103 (by decide +kernel) rfl, 8, _, rfl, rfl⟩
theorem w_X8_462 (M : sM) (h : M.1.cls = RX8) : sV_ M 462 m_X8_lateMany 0 := ⟨cw_X8_lateMany M, by rw [h]; exact sTb_of 1576 (by decide +kernel) rfl, sTb_of 1578 (by decide +kernel) rfl, sTb_of 104 (by decide +kernel) rfl, 8, _, rfl, rfl⟩
theorem w_X8_465 (M : sM) (h : M.1.cls = RX8) : sV_ M 465 m_X8_howMany 1 := ⟨cw_X8_howMany M, by rw [h]; exact sTb_of 1588 (by decide +kernel) rfl, sTb_of 1590 (by decide +kernel) rfl, sTb_of 105 (by decide +kernel) rfl, 8, _, rfl, rfl⟩
theorem w_X8_476 (M : sM) (h : M.1.cls = RX8) : sV_ M 476 m_X8_mix 1 := ⟨cw_X8_mix M, by rw [h]; exact sTb_of 1597 (by decide +kernel) rfl, sTb_of 1599 (by decide +kernel) rfl, sTb_of 106 (by decide +kernel) rfl, 8, _, rfl, rfl⟩
theorem w_X7_9 (M : sM) (h : M.1.cls = RX7) : sIN_ M 9 m_X5_init 0 := ⟨cw_X5_init M, rfl, ⟨"RoomsByThree", by rw [h]; exact List.mem_filter.mpr ⟨List.mem_of_getElem? (i := 129) (by decide +kernel), rfl⟩⟩, sTb_of 130 (by decide +kernel) rfl, rfl⟩
theorem w_X7_18 (M : sM) (h : M.1.cls = RX7) : sIN_ M 18 m_X2_init 0 := ⟨cw_X2_init M, rfl, ⟨"RoomsByThree", by rw [h]; exact List.mem_filter.mpr ⟨List.mem_of_getElem? (i := 162) (by decide +kernel), rfl⟩⟩, sTb_of 163 (by decide +kernel) rfl, rfl⟩
theorem w_X5_108 (M : sM) (h : M.1.cls = RX5) : sSN_ M 108 m_X7_isBelow 2 := ⟨cw_X7_isBelow M, ⟨"RoomsByThree", by rw [h]; exact List.mem_filter.mpr ⟨List.mem_of_getElem? (i := 467) (by decide +kernel), rfl⟩⟩, sTb_of 468 (by decide +kernel) rfl⟩
theorem w_X4_45 (M : sM) (h : M.1.cls = RX4) : sSN_ M 45 m_X7_isGiving 1 := ⟨cw_X7_isGiving M, ⟨"RoomsByThree", by rw [h]; exact List.mem_filter.mpr ⟨List.mem_of_getElem? (i := 660) (by decide +kernel), rfl⟩⟩, sTb_of 661 (by decide +kernel) rfl⟩
theorem w_X3_64 (M : sM) (h : M.1.cls = RX3) : sSN_ M 64 m_X7_isBelow 2 := ⟨cw_X7_isBelow M, ⟨"RoomsByThree", by rw [h]; exact List.mem_filter.mpr ⟨List.mem_of_getElem? (i := 715) (by decide +kernel), rfl⟩⟩, sTb_of 468 (by decide +kernel) rfl⟩
theorem w_X0_63 (M : sM) (h : M.1.cls = RX0) : sSN_ M 63 m_X7_isBelow 2 := ⟨cw_X7_isBelow M, ⟨"RoomsByThree", by rw [h]; exact List.mem_filter.mpr ⟨List.mem_of_getElem? (i := 796) (by decide +kernel), rfl⟩⟩, sTb_of 468 (by decide +kernel) rfl⟩
theorem w_X1_41 (M : sM) (h : M.1.cls = RX1) : sSN_ M 41 m_X7_isBelow 2 := ⟨cw_X7_isBelow M, ⟨"RoomsByThree", by rw [h]; exact List.mem_filter.mpr ⟨List.mem_of_getElem? (i := 832) (by decide +kernel), rfl⟩⟩, sTb_of 468 (by decide +kernel) rfl⟩
theorem n_X7_7 (M : sM) (h : M.1.cls = RX7) : Cond.classLink M.1.cls 7 RX5 ∈ sTb ∧ Cond.instantiable RX5 7 ∈ sTb ∧ Cond.initialized RX5 ∈ sTb := by rw [h]; exact ⟨sTb_of 127 (by decide +kernel) rfl, sTb_of 128 (by decide +kernel) rfl, sTb_of 109 (by decide +kernel) rfl⟩
theorem n_X7_16 (M : sM) (h : M.1.cls = RX7) : Cond.classLink M.1.cls 16 RX2 ∈ sTb ∧ Cond.instantiable RX2 12 ∈ sTb ∧ Cond.initialized RX2 ∈ sTb := by rw [h]; exact ⟨sTb_of 160 (by decide +kernel) rfl, sTb_of 161 (by decide +kernel) rfl, sTb_of 110 (by decide +kernel) rfl⟩
theorem n_X7_26 (M : sM) (h : M.1.cls = RX7) : Cond.classLink M.1.cls 26 RX6 ∈ sTb ∧ Cond.instantiable RX6 4 ∈ sTb ∧ Cond.initialized RX6 ∈ sTb := by rw [h]; exact ⟨sTb_of 238 (by decide +kernel) rfl, sTb_of 541 (by decide +kernel) rfl, sTb_of 117 (by decide +kernel) rfl⟩
theorem n_X7_32 (M : sM) (h : M.1.cls = RX7) : Cond.classLink M.1.cls 32 RX0 ∈ sTb ∧ Cond.instantiable RX0 12 ∈ sTb ∧ Cond.initialized RX0 ∈ sTb := by rw [h]; exact ⟨sTb_of 240 (by decide +kernel) rfl, sTb_of 241 (by decide +kernel) rfl, sTb_of 111 (by decide +kernel) rfl⟩
theorem n_X7_41 (M : sM) (h : M.1.cls = RX7) : Cond.classLink M.1.cls 41 RX1 ∈ sTb ∧ Cond.instantiable RX1 3 ∈ sTb ∧ Cond.initialized RX1 ∈ sTb := by rw [h]; exact ⟨sTb_of 292 (by decide +kernel) rfl, sTb_of 293 (by decide +kernel) rfl, sTb_of 112 (by decide +kernel) rfl⟩
theorem n_X7_48 (M : sM) (h : M.1.cls = RX7) : Cond.classLink M.1.cls 48 RX4 ∈ sTb ∧ Cond.instantiable RX4 9 ∈ sTb ∧ Cond.initialized RX4 ∈ sTb := by rw [h]; exact ⟨sTb_of 348 (by decide +kernel) rfl, sTb_of 349 (by decide +kernel) rfl, sTb_of 114 (by decide +kernel) rfl⟩
theorem n_X0_15 (M : sM) (h : M.1.cls = RX0) : Cond.classLink M.1.cls 15 ("[" ++ (FieldType.array .int).toString) ∈ sTb := by rw [h]; exact sTb_of 246 (by decide +kernel) rfl
theorem n_X1_19 (M : sM) (h : M.1.cls = RX1) : Cond.classLink M.1.cls 19 RX3 ∈ sTb ∧ Cond.instantiable RX3 9 ∈ sTb ∧ Cond.initialized RX3 ∈ sTb := by rw [h]; exact ⟨sTb_of 298 (by decide +kernel) rfl, sTb_of 299 (by decide +kernel) rfl, sTb_of 113 (by decide +kernel) rfl⟩
theorem n_X2_9 (M : sM) (h : M.1.cls = RX2) : Cond.classLink M.1.cls 9 ("[" ++ (FieldType.array .int).toString) ∈ sTb := by rw [h]; exact sTb_of 166 (by decide +kernel) rfl
theorem n_X3_9 (M : sM) (h : M.1.cls = RX3) : Cond.classLink M.1.cls 9 ("[" ++ (FieldType.array .long).toString) ∈ sTb := by rw [h]; exact sTb_of 304 (by decide +kernel) rfl
theorem n_X3_22 (M : sM) (h : M.1.cls = RX3) : Cond.classLink M.1.cls 22 ("[" ++ (FieldType.array .int).toString) ∈ sTb := by rw [h]; exact sTb_of 306 (by decide +kernel) rfl
theorem n_X4_9 (M : sM) (h : M.1.cls = RX4) : Cond.classLink M.1.cls 9 ("[" ++ (FieldType.array .int).toString) ∈ sTb := by rw [h]; exact sTb_of 354 (by decide +kernel) rfl
theorem n_L_7 (M : sM) (h : M.1.cls = RL) : Cond.classLink M.1.cls 7 RX7 ∈ sTb ∧ Cond.instantiable RX7 13 ∈ sTb ∧ Cond.initialized RX7 ∈ sTb := by rw [h]; exact ⟨sTb_of 119 (by decide +kernel) rfl, sTb_of 120 (by decide +kernel) rfl, sTb_of 108 (by decide +kernel) rfl⟩
theorem n_L_10 (M : sM) (h : M.1.cls = RL) : Cond.classLink M.1.cls 10 RX8 ∈ sTb ∧ Cond.instantiable RX8 74 ∈ sTb ∧ Cond.initialized RX8 ∈ sTb := by rw [h]; exact ⟨sTb_of 964 (by decide +kernel) rfl, sTb_of 965 (by decide +kernel) rfl, sTb_of 115 (by decide +kernel) rfl⟩
theorem ov_i : Cond.arrayOver (.array .int) ∈ sEx := List.mem_filter.mpr ⟨List.mem_of_getElem? (i := 167) (by decide +kernel), rfl⟩
theorem ov_r : Cond.arrayOver (.object "RoomsByThree$Rule") ∈ sEx := List.mem_filter.mpr ⟨List.mem_of_getElem? (i := 239) (by decide +kernel), rfl⟩
theorem ov_l : Cond.arrayOver (.array .long) ∈ sEx := List.mem_filter.mpr ⟨List.mem_of_getElem? (i := 305) (by decide +kernel), rfl⟩
theorem ac_char : Cond.arrayClass .char ∈ sTb := sTb_of 158 (by decide +kernel) rfl
theorem ac_int : Cond.arrayClass .int ∈ sTb := sTb_of 159 (by decide +kernel) rfl
theorem ac_boolean : Cond.arrayClass .boolean ∈ sTb := sTb_of 291 (by decide +kernel) rfl
theorem ac_long : Cond.arrayClass .long ∈ sTb := sTb_of 335 (by decide +kernel) rfl
theorem ac_byte : Cond.arrayClass .byte ∈ sTb := sTb_of 1193 (by decide +kernel) rfl
theorem k_X7_263 (M : sM) (h : M.1.cls = RX7) : Cond.constant M.1.cls 263 (Int32.ofInt (-10000001)) ∈ sTb := by rw [h]; exact sTb_of 929 (by decide +kernel) rfl
theorem k_X7_264 (M : sM) (h : M.1.cls = RX7) : Cond.constant M.1.cls 264 (Int32.ofInt (-10000003)) ∈ sTb := by rw [h]; exact sTb_of 930 (by decide +kernel) rfl
theorem k_X7_265 (M : sM) (h : M.1.cls = RX7) : Cond.constant M.1.cls 265 (Int32.ofInt (-10000002)) ∈ sTb := by rw [h]; exact sTb_of 931 (by decide +kernel) rfl
theorem k_X8_314 (M : sM) (h : M.1.cls = RX8) : Cond.constant M.1.cls 314 (Int32.ofInt (268435456)) ∈ sTb := by rw [h]; exact sTb_of 1390 (by decide +kernel) rfl
theorem k_X8_450 (M : sM) (h : M.1.cls = RX8) : Cond.constant M.1.cls 450 (Int32.ofInt (-10000001)) ∈ sTb := by rw [h]; exact sTb_of 1565 (by decide +kernel) rfl
theorem k_X8_451 (M : sM) (h : M.1.cls = RX8) : Cond.constant M.1.cls 451 (Int32.ofInt (-10000003)) ∈ sTb := by rw [h]; exact sTb_of 1566 (by decide +kernel) rfl
theorem k_X8_452 (M : sM) (h : M.1.cls = RX8) : Cond.constant M.1.cls 452 (Int32.ofInt (-10000002)) ∈ sTb := by rw [h]; exact sTb_of 1567 (by decide +kernel) rfl
theorem k_X7_234 (M : sM) (h : M.1.cls = RX7) : Cond.constantLong M.1.cls 234 (Int64.ofInt (1103515245)) ∈ sTb := by rw [h]; exact sTb_of 890 (by decide +kernel) rfl
theorem k_X7_236 (M : sM) (h : M.1.cls = RX7) : Cond.constantLong M.1.cls 236 (Int64.ofInt (12345)) ∈ sTb := by rw [h]; exact sTb_of 891 (by decide +kernel) rfl
theorem k_X7_238 (M : sM) (h : M.1.cls = RX7) : Cond.constantLong M.1.cls 238 (Int64.ofInt (2147483648)) ∈ sTb := by rw [h]; exact sTb_of 892 (by decide +kernel) rfl
theorem k_X7_240 (M : sM) (h : M.1.cls = RX7) : Cond.constantLong M.1.cls 240 (Int64.ofInt (65536)) ∈ sTb := by rw [h]; exact sTb_of 893 (by decide +kernel) rfl
theorem k_X7_242 (M : sM) (h : M.1.cls = RX7) : Cond.constantLong M.1.cls 242 (Int64.ofInt (10)) ∈ sTb := by rw [h]; exact sTb_of 894 (by decide +kernel) rfl
theorem k_X7_279 (M : sM) (h : M.1.cls = RX7) : Cond.constantLong M.1.cls 279 (Int64.ofInt (419)) ∈ sTb := by rw [h]; exact sTb_of 957 (by decide +kernel) rfl
theorem k_X7_285 (M : sM) (h : M.1.cls = RX7) : Cond.constantLong M.1.cls 285 (Int64.ofInt (31)) ∈ sTb := by rw [h]; exact sTb_of 961 (by decide +kernel) rfl
theorem k_X3_98 (M : sM) (h : M.1.cls = RX3) : Cond.constantLong M.1.cls 98 (Int64.ofInt (43046721)) ∈ sTb := by rw [h]; exact sTb_of 693 (by decide +kernel) rfl
theorem k_X3_103 (M : sM) (h : M.1.cls = RX3) : Cond.constantLong M.1.cls 103 (Int64.ofInt (1000000000000000)) ∈ sTb := by rw [h]; exact sTb_of 738 (by decide +kernel) rfl
theorem k_X5_26 (M : sM) (h : M.1.cls = RX5) : Cond.constantLong M.1.cls 26 (Int64.ofInt (255)) ∈ sTb := by rw [h]; exact sTb_of 434 (by decide +kernel) rfl
theorem k_L_13 (M : sM) (h : M.1.cls = RL) : Cond.constantLong M.1.cls 13 (Int64.ofInt (4294967295)) ∈ sTb := by rw [h]; exact sTb_of 1602 (by decide +kernel) rfl
theorem k_X8_157 (M : sM) (h : M.1.cls = RX8) : Cond.constantLong M.1.cls 157 (Int64.ofInt (255)) ∈ sTb := by rw [h]; exact sTb_of 1198 (by decide +kernel) rfl
theorem k_X8_425 (M : sM) (h : M.1.cls = RX8) : Cond.constantLong M.1.cls 425 (Int64.ofInt (1103515245)) ∈ sTb := by rw [h]; exact sTb_of 1524 (by decide +kernel) rfl
theorem k_X8_427 (M : sM) (h : M.1.cls = RX8) : Cond.constantLong M.1.cls 427 (Int64.ofInt (12345)) ∈ sTb := by rw [h]; exact sTb_of 1525 (by decide +kernel) rfl
theorem k_X8_429 (M : sM) (h : M.1.cls = RX8) : Cond.constantLong M.1.cls 429 (Int64.ofInt (2147483647)) ∈ sTb := by rw [h]; exact sTb_of 1526 (by decide +kernel) rfl
theorem k_X8_431 (M : sM) (h : M.1.cls = RX8) : Cond.constantLong M.1.cls 431 (Int64.ofInt (65536)) ∈ sTb := by rw [h]; exact sTb_of 1527 (by decide +kernel) rfl
theorem k_X8_433 (M : sM) (h : M.1.cls = RX8) : Cond.constantLong M.1.cls 433 (Int64.ofInt (10)) ∈ sTb := by rw [h]; exact sTb_of 1528 (by decide +kernel) rfl
theorem k_X8_468 (M : sM) (h : M.1.cls = RX8) : Cond.constantLong M.1.cls 468 (Int64.ofInt (31)) ∈ sTb := by rw [h]; exact sTb_of 1601 (by decide +kernel) rfl
theorem k_X8_474 (M : sM) (h : M.1.cls = RX8) : Cond.constantLong M.1.cls 474 (Int64.ofInt (419)) ∈ sTb := by rw [h]; exact sTb_of 1596 (by decide +kernel) rfl
