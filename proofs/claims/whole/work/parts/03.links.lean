/-! links, by program wip/whole/mklinks.py -/
def RJ6 : String := "java/lang/Integer"
abbrev cJ6_bitCount_0f7a4 : ByteArray := prog_10_method_49_code
def yJ6_bitCount_0f7a4 : MethodName := ⟨RJ6, "bitCount", "(I)I"⟩
def RJ9 : String := "java/lang/Math"
abbrev cJ9_max_7cf53 : ByteArray := prog_11_method_65_code
def yJ9_max_7cf53 : MethodName := ⟨RJ9, "max", "(II)I"⟩
def RJ10 : String := "java/lang/System"
def RJ7 : String := "java/util/Arrays"
abbrev cJ7_fill_53178 : ByteArray := prog_13_method_103_code
def yJ7_fill_53178 : MethodName := ⟨RJ7, "fill", "([II)V"⟩
theorem dJ6_bitCount_0f7a4_0 : decode cJ6_bitCount_0f7a4 0 = .ok (.iload_n 0, 1) := by decide +kernel
theorem dJ6_bitCount_0f7a4_1 : decode cJ6_bitCount_0f7a4 1 = .ok (.iload_n 0, 1) := by decide +kernel
theorem dJ6_bitCount_0f7a4_2 : decode cJ6_bitCount_0f7a4 2 = .ok (.iconst 1, 1) := by decide +kernel
theorem dJ6_bitCount_0f7a4_3 : decode cJ6_bitCount_0f7a4 3 = .ok (.iushr, 1) := by decide +kernel
theorem dJ6_bitCount_0f7a4_4 : decode cJ6_bitCount_0f7a4 4 = .ok (.ldc_w 265, 3) := by decide +kernel
theorem dJ6_bitCount_0f7a4_7 : decode cJ6_bitCount_0f7a4 7 = .ok (.iand, 1) := by decide +kernel
theorem dJ6_bitCount_0f7a4_8 : decode cJ6_bitCount_0f7a4 8 = .ok (.isub, 1) := by decide +kernel
theorem dJ6_bitCount_0f7a4_9 : decode cJ6_bitCount_0f7a4 9 = .ok (.istore_n 0, 1) := by decide +kernel
theorem dJ6_bitCount_0f7a4_10 : decode cJ6_bitCount_0f7a4 10 = .ok (.iload_n 0, 1) := by decide +kernel
theorem dJ6_bitCount_0f7a4_11 : decode cJ6_bitCount_0f7a4 11 = .ok (.ldc_w 266, 3) := by decide +kernel
theorem dJ6_bitCount_0f7a4_14 : decode cJ6_bitCount_0f7a4 14 = .ok (.iand, 1) := by decide +kernel
theorem dJ6_bitCount_0f7a4_15 : decode cJ6_bitCount_0f7a4 15 = .ok (.iload_n 0, 1) := by decide +kernel
theorem dJ6_bitCount_0f7a4_16 : decode cJ6_bitCount_0f7a4 16 = .ok (.iconst 2, 1) := by decide +kernel
theorem dJ6_bitCount_0f7a4_17 : decode cJ6_bitCount_0f7a4 17 = .ok (.iushr, 1) := by decide +kernel
theorem dJ6_bitCount_0f7a4_18 : decode cJ6_bitCount_0f7a4 18 = .ok (.ldc_w 266, 3) := by decide +kernel
theorem dJ6_bitCount_0f7a4_21 : decode cJ6_bitCount_0f7a4 21 = .ok (.iand, 1) := by decide +kernel
theorem dJ6_bitCount_0f7a4_22 : decode cJ6_bitCount_0f7a4 22 = .ok (.iadd, 1) := by decide +kernel
theorem dJ6_bitCount_0f7a4_23 : decode cJ6_bitCount_0f7a4 23 = .ok (.istore_n 0, 1) := by decide +kernel
theorem dJ6_bitCount_0f7a4_24 : decode cJ6_bitCount_0f7a4 24 = .ok (.iload_n 0, 1) := by decide +kernel
theorem dJ6_bitCount_0f7a4_25 : decode cJ6_bitCount_0f7a4 25 = .ok (.iload_n 0, 1) := by decide +kernel
theorem dJ6_bitCount_0f7a4_26 : decode cJ6_bitCount_0f7a4 26 = .ok (.iconst 4, 1) := by decide +kernel
theorem dJ6_bitCount_0f7a4_27 : decode cJ6_bitCount_0f7a4 27 = .ok (.iushr, 1) := by decide +kernel
theorem dJ6_bitCount_0f7a4_28 : decode cJ6_bitCount_0f7a4 28 = .ok (.iadd, 1) := by decide +kernel
theorem dJ6_bitCount_0f7a4_29 : decode cJ6_bitCount_0f7a4 29 = .ok (.ldc_w 267, 3) := by decide +kernel
theorem dJ6_bitCount_0f7a4_32 : decode cJ6_bitCount_0f7a4 32 = .ok (.iand, 1) := by decide +kernel
theorem dJ6_bitCount_0f7a4_33 : decode cJ6_bitCount_0f7a4 33 = .ok (.istore_n 0, 1) := by decide +kernel
theorem dJ6_bitCount_0f7a4_34 : decode cJ6_bitCount_0f7a4 34 = .ok (.iload_n 0, 1) := by decide +kernel
theorem dJ6_bitCount_0f7a4_35 : decode cJ6_bitCount_0f7a4 35 = .ok (.iload_n 0, 1) := by decide +kernel
theorem dJ6_bitCount_0f7a4_36 : decode cJ6_bitCount_0f7a4 36 = .ok (.bipush 8, 2) := by decide +kernel
theorem dJ6_bitCount_0f7a4_38 : decode cJ6_bitCount_0f7a4 38 = .ok (.iushr, 1) := by decide +kernel
theorem dJ6_bitCount_0f7a4_39 : decode cJ6_bitCount_0f7a4 39 = .ok (.iadd, 1) := by decide +kernel
theorem dJ6_bitCount_0f7a4_40 : decode cJ6_bitCount_0f7a4 40 = .ok (.istore_n 0, 1) := by decide +kernel
theorem dJ6_bitCount_0f7a4_41 : decode cJ6_bitCount_0f7a4 41 = .ok (.iload_n 0, 1) := by decide +kernel
theorem dJ6_bitCount_0f7a4_42 : decode cJ6_bitCount_0f7a4 42 = .ok (.iload_n 0, 1) := by decide +kernel
theorem dJ6_bitCount_0f7a4_43 : decode cJ6_bitCount_0f7a4 43 = .ok (.bipush 16, 2) := by decide +kernel
theorem dJ6_bitCount_0f7a4_45 : decode cJ6_bitCount_0f7a4 45 = .ok (.iushr, 1) := by decide +kernel
theorem dJ6_bitCount_0f7a4_46 : decode cJ6_bitCount_0f7a4 46 = .ok (.iadd, 1) := by decide +kernel
theorem dJ6_bitCount_0f7a4_47 : decode cJ6_bitCount_0f7a4 47 = .ok (.istore_n 0, 1) := by decide +kernel
theorem dJ6_bitCount_0f7a4_48 : decode cJ6_bitCount_0f7a4 48 = .ok (.iload_n 0, 1) := by decide +kernel
theorem dJ6_bitCount_0f7a4_49 : decode cJ6_bitCount_0f7a4 49 = .ok (.bipush 63, 2) := by decide +kernel
theorem dJ6_bitCount_0f7a4_51 : decode cJ6_bitCount_0f7a4 51 = .ok (.iand, 1) := by decide +kernel
theorem dJ6_bitCount_0f7a4_52 : decode cJ6_bitCount_0f7a4 52 = .ok (.ireturn, 1) := by decide +kernel
theorem dJ9_max_7cf53_0 : decode cJ9_max_7cf53 0 = .ok (.iload_n 0, 1) := by decide +kernel
theorem dJ9_max_7cf53_1 : decode cJ9_max_7cf53 1 = .ok (.iload_n 1, 1) := by decide +kernel
theorem dJ9_max_7cf53_2 : decode cJ9_max_7cf53 2 = .ok (.if_icmp .lt 7, 3) := by decide +kernel
theorem dJ9_max_7cf53_5 : decode cJ9_max_7cf53 5 = .ok (.iload_n 0, 1) := by decide +kernel
theorem dJ9_max_7cf53_6 : decode cJ9_max_7cf53 6 = .ok (.goto 4, 3) := by decide +kernel
theorem dJ9_max_7cf53_9 : decode cJ9_max_7cf53 9 = .ok (.iload_n 1, 1) := by decide +kernel
theorem dJ9_max_7cf53_10 : decode cJ9_max_7cf53 10 = .ok (.ireturn, 1) := by decide +kernel
theorem dJ7_fill_53178_0 : decode cJ7_fill_53178 0 = .ok (.iconst 0, 1) := by decide +kernel
theorem dJ7_fill_53178_1 : decode cJ7_fill_53178 1 = .ok (.istore_n 2, 1) := by decide +kernel
theorem dJ7_fill_53178_2 : decode cJ7_fill_53178 2 = .ok (.aload_n 0, 1) := by decide +kernel
theorem dJ7_fill_53178_3 : decode cJ7_fill_53178 3 = .ok (.arraylength, 1) := by decide +kernel
theorem dJ7_fill_53178_4 : decode cJ7_fill_53178 4 = .ok (.istore_n 3, 1) := by decide +kernel
theorem dJ7_fill_53178_5 : decode cJ7_fill_53178 5 = .ok (.iload_n 2, 1) := by decide +kernel
theorem dJ7_fill_53178_6 : decode cJ7_fill_53178 6 = .ok (.iload_n 3, 1) := by decide +kernel
theorem dJ7_fill_53178_7 : decode cJ7_fill_53178 7 = .ok (.if_icmp .ge 13, 3) := by decide +kernel
theorem dJ7_fill_53178_10 : decode cJ7_fill_53178 10 = .ok (.aload_n 0, 1) := by decide +kernel
theorem dJ7_fill_53178_11 : decode cJ7_fill_53178 11 = .ok (.iload_n 2, 1) := by decide +kernel
theorem dJ7_fill_53178_12 : decode cJ7_fill_53178 12 = .ok (.iload_n 1, 1) := by decide +kernel
theorem dJ7_fill_53178_13 : decode cJ7_fill_53178 13 = .ok (.iastore, 1) := by decide +kernel
theorem dJ7_fill_53178_14 : decode cJ7_fill_53178 14 = .ok (.iinc 2 1, 3) := by decide +kernel
theorem dJ7_fill_53178_17 : decode cJ7_fill_53178 17 = .ok (.goto (-12), 3) := by decide +kernel
theorem dJ7_fill_53178_20 : decode cJ7_fill_53178 20 = .ok (.return_, 1) := by decide +kernel
theorem tw_dec {w : Cond} (h : (decide (w ∈ lw_tbl) && goodWord w) = true) : w ∈ TWg := cl_dec [w] (by simpa using h) w List.mem_cons_self
theorem fX0_11 : FL RX0 11 0 0 := ⟨by decide, by decide, tw_dec (by decide +kernel)⟩ -- PileMaps$Pile.entries
theorem fX0_16 : FL RX0 16 0 1 := ⟨by decide, by decide, tw_dec (by decide +kernel)⟩ -- PileMaps$Pile.on
theorem fX0_20 : FL RX0 20 0 2 := ⟨by decide, by decide, tw_dec (by decide +kernel)⟩ -- PileMaps$Pile.values
theorem fX0_24 : FL RX0 24 0 3 := ⟨by decide, by decide, tw_dec (by decide +kernel)⟩ -- PileMaps$Pile.height
theorem fX1_12 : FL RX1 12 1 0 := ⟨by decide, by decide, tw_dec (by decide +kernel)⟩ -- PileMaps$Reader.text
theorem fX1_20 : FL RX1 20 1 1 := ⟨by decide, by decide, tw_dec (by decide +kernel)⟩ -- PileMaps$Reader.rows
theorem fX1_23 : FL RX1 23 1 2 := ⟨by decide, by decide, tw_dec (by decide +kernel)⟩ -- PileMaps$Reader.work
theorem fX1_27 : FL RX1 27 1 3 := ⟨by decide, by decide, tw_dec (by decide +kernel)⟩ -- PileMaps$Reader.result
theorem fX1_30 : FL RX1 30 1 4 := ⟨by decide, by decide, tw_dec (by decide +kernel)⟩ -- PileMaps$Reader.target
theorem fX1_34 : FL RX1 34 4 2 := ⟨by decide, by decide, tw_dec (by decide +kernel)⟩ -- PileMaps$Text.at
theorem fX1_84 : FL RX1 84 3 0 := ⟨by decide, by decide, tw_dec (by decide +kernel)⟩ -- PileMaps$State.piles
theorem fX1_90 : FL RX1 90 0 2 := ⟨by decide, by decide, tw_dec (by decide +kernel)⟩ -- PileMaps$Pile.values
theorem fX1_98 : FL RX1 98 3 2 := ⟨by decide, by decide, tw_dec (by decide +kernel)⟩ -- PileMaps$State.rule
theorem fX3_11 : FL RX3 11 2 0 := ⟨by decide, by decide, tw_dec (by decide +kernel)⟩ -- PileMaps$Secret.known
theorem fX3_16 : FL RX3 16 2 1 := ⟨by decide, by decide, tw_dec (by decide +kernel)⟩ -- PileMaps$Secret.place
theorem fX3_20 : FL RX3 20 2 2 := ⟨by decide, by decide, tw_dec (by decide +kernel)⟩ -- PileMaps$Secret.suspects
theorem fX3_23 : FL RX3 23 2 3 := ⟨by decide, by decide, tw_dec (by decide +kernel)⟩ -- PileMaps$Secret.asked
theorem fX3_32 : FL RX3 32 0 2 := ⟨by decide, by decide, tw_dec (by decide +kernel)⟩ -- PileMaps$Pile.values
theorem fX4_11 : FL RX4 11 3 0 := ⟨by decide, by decide, tw_dec (by decide +kernel)⟩ -- PileMaps$State.piles
theorem fX4_21 : FL RX4 21 3 1 := ⟨by decide, by decide, tw_dec (by decide +kernel)⟩ -- PileMaps$State.secret
theorem fX4_25 : FL RX4 25 3 2 := ⟨by decide, by decide, tw_dec (by decide +kernel)⟩ -- PileMaps$State.rule
theorem fX4_36 : FL RX4 36 0 3 := ⟨by decide, by decide, tw_dec (by decide +kernel)⟩ -- PileMaps$Pile.height
theorem fX4_50 : FL RX4 50 0 2 := ⟨by decide, by decide, tw_dec (by decide +kernel)⟩ -- PileMaps$Pile.values
theorem fX5_9 : FL RX5 9 4 0 := ⟨by decide, by decide, tw_dec (by decide +kernel)⟩ -- PileMaps$Text.signs
theorem fX5_15 : FL RX5 15 4 1 := ⟨by decide, by decide, tw_dec (by decide +kernel)⟩ -- PileMaps$Text.length
theorem fX5_19 : FL RX5 19 4 2 := ⟨by decide, by decide, tw_dec (by decide +kernel)⟩ -- PileMaps$Text.at
theorem fX6_10 : FL RX6 10 5 0 := ⟨by decide, by decide, tw_dec (by decide +kernel)⟩ -- PileMaps.now
theorem fX6_16 : FL RX6 16 5 1 := ⟨by decide, by decide, tw_dec (by decide +kernel)⟩ -- PileMaps.past
theorem fX6_20 : FL RX6 20 5 2 := ⟨by decide, by decide, tw_dec (by decide +kernel)⟩ -- PileMaps.kept
theorem fX6_26 : FL RX6 26 5 3 := ⟨by decide, by decide, tw_dec (by decide +kernel)⟩ -- PileMaps.reader
theorem fX6_30 : FL RX6 30 5 4 := ⟨by decide, by decide, tw_dec (by decide +kernel)⟩ -- PileMaps.differences
theorem fX6_34 : FL RX6 34 5 5 := ⟨by decide, by decide, tw_dec (by decide +kernel)⟩ -- PileMaps.pastCount
theorem fX6_38 : FL RX6 38 5 6 := ⟨by decide, by decide, tw_dec (by decide +kernel)⟩ -- PileMaps.hasKept
theorem fX6_50 : FL RX6 50 3 0 := ⟨by decide, by decide, tw_dec (by decide +kernel)⟩ -- PileMaps$State.piles
theorem fX6_54 : FL RX6 54 0 3 := ⟨by decide, by decide, tw_dec (by decide +kernel)⟩ -- PileMaps$Pile.height
theorem fX6_62 : FL RX6 62 1 3 := ⟨by decide, by decide, tw_dec (by decide +kernel)⟩ -- PileMaps$Reader.result
theorem fX6_76 : FL RX6 76 0 1 := ⟨by decide, by decide, tw_dec (by decide +kernel)⟩ -- PileMaps$Pile.on
theorem fX6_90 : FL RX6 90 0 0 := ⟨by decide, by decide, tw_dec (by decide +kernel)⟩ -- PileMaps$Pile.entries
theorem fX6_98 : FL RX6 98 0 2 := ⟨by decide, by decide, tw_dec (by decide +kernel)⟩ -- PileMaps$Pile.values
theorem fX6_109 : FL RX6 109 1 4 := ⟨by decide, by decide, tw_dec (by decide +kernel)⟩ -- PileMaps$Reader.target
theorem fX6_112 : FL RX6 112 3 2 := ⟨by decide, by decide, tw_dec (by decide +kernel)⟩ -- PileMaps$State.rule
theorem fX6_115 : FL RX6 115 3 1 := ⟨by decide, by decide, tw_dec (by decide +kernel)⟩ -- PileMaps$State.secret
theorem fX6_137 : FL RX6 137 1 0 := ⟨by decide, by decide, tw_dec (by decide +kernel)⟩ -- PileMaps$Reader.text
theorem fX6_147 : FL RX6 147 4 1 := ⟨by decide, by decide, tw_dec (by decide +kernel)⟩ -- PileMaps$Text.length
theorem fX6_226 : FL RX6 226 2 2 := ⟨by decide, by decide, tw_dec (by decide +kernel)⟩ -- PileMaps$Secret.suspects
theorem fX6_229 : FL RX6 229 2 3 := ⟨by decide, by decide, tw_dec (by decide +kernel)⟩ -- PileMaps$Secret.asked
theorem fX7_7 : FL RX7 7 6 0 := ⟨by decide, by decide, tw_dec (by decide +kernel)⟩ -- PileMapsModel.now
theorem fX7_13 : FL RX7 13 6 1 := ⟨by decide, by decide, tw_dec (by decide +kernel)⟩ -- PileMapsModel.history
theorem fX7_16 : FL RX7 16 6 3 := ⟨by decide, by decide, tw_dec (by decide +kernel)⟩ -- PileMapsModel.slot
theorem fX7_19 : FL RX7 19 6 5 := ⟨by decide, by decide, tw_dec (by decide +kernel)⟩ -- PileMapsModel.before
theorem fX7_22 : FL RX7 22 6 6 := ⟨by decide, by decide, tw_dec (by decide +kernel)⟩ -- PileMapsModel.read
theorem fX7_25 : FL RX7 25 6 8 := ⟨by decide, by decide, tw_dec (by decide +kernel)⟩ -- PileMapsModel.text
theorem fX7_29 : FL RX7 29 6 12 := ⟨by decide, by decide, tw_dec (by decide +kernel)⟩ -- PileMapsModel.current
theorem fX7_32 : FL RX7 32 6 13 := ⟨by decide, by decide, tw_dec (by decide +kernel)⟩ -- PileMapsModel.over
theorem fX7_35 : FL RX7 35 6 14 := ⟨by decide, by decide, tw_dec (by decide +kernel)⟩ -- PileMapsModel.hasOver
theorem fX7_39 : FL RX7 39 6 15 := ⟨by decide, by decide, tw_dec (by decide +kernel)⟩ -- PileMapsModel.term
theorem fX7_42 : FL RX7 42 6 16 := ⟨by decide, by decide, tw_dec (by decide +kernel)⟩ -- PileMapsModel.hasTerm
theorem fX7_45 : FL RX7 45 6 18 := ⟨by decide, by decide, tw_dec (by decide +kernel)⟩ -- PileMapsModel.spare
theorem fX7_48 : FL RX7 48 6 19 := ⟨by decide, by decide, tw_dec (by decide +kernel)⟩ -- PileMapsModel.pairs
theorem fX7_59 : FL RX7 59 6 2 := ⟨by decide, by decide, tw_dec (by decide +kernel)⟩ -- PileMapsModel.kept
theorem fX7_85 : FL RX7 85 6 9 := ⟨by decide, by decide, tw_dec (by decide +kernel)⟩ -- PileMapsModel.at
theorem fX7_116 : FL RX7 116 6 11 := ⟨by decide, by decide, tw_dec (by decide +kernel)⟩ -- PileMapsModel.target
theorem fX7_131 : FL RX7 131 6 7 := ⟨by decide, by decide, tw_dec (by decide +kernel)⟩ -- PileMapsModel.typed
theorem fX7_140 : FL RX7 140 6 10 := ⟨by decide, by decide, tw_dec (by decide +kernel)⟩ -- PileMapsModel.key
theorem fX7_152 : FL RX7 152 6 17 := ⟨by decide, by decide, tw_dec (by decide +kernel)⟩ -- PileMapsModel.depth
theorem fX7_176 : FL RX7 176 6 4 := ⟨by decide, by decide, tw_dec (by decide +kernel)⟩ -- PileMapsModel.isFilled
theorem bJ6_bitCount_0f7a4 : LB yJ6_bitCount_0f7a4 cJ6_bitCount_0f7a4 1 (some FieldType.int) 1 := ⟨tw_dec (by decide +kernel), tw_dec (by decide +kernel), by decide +kernel⟩
theorem bJ7_fill_53178 : LB yJ7_fill_53178 cJ7_fill_53178 4 none 2 := ⟨tw_dec (by decide +kernel), tw_dec (by decide +kernel), by decide +kernel⟩
theorem bJ9_max_7cf53 : LB yJ9_max_7cf53 cJ9_max_7cf53 2 (some FieldType.int) 2 := ⟨tw_dec (by decide +kernel), tw_dec (by decide +kernel), by decide +kernel⟩
theorem bX0_addLayer : LB yX0_addLayer cX0_addLayer 2 none 1 := ⟨tw_dec (by decide +kernel), tw_dec (by decide +kernel), by decide +kernel⟩
theorem bX0_allEntries : LB yX0_allEntries cX0_allEntries 3 (some FieldType.int) 0 := ⟨tw_dec (by decide +kernel), tw_dec (by decide +kernel), by decide +kernel⟩
theorem bX0_becomeOneLayer : LB yX0_becomeOneLayer cX0_becomeOneLayer 3 (some FieldType.int) 1 := ⟨tw_dec (by decide +kernel), tw_dec (by decide +kernel), by decide +kernel⟩
theorem bX0_copyFrom : LB yX0_copyFrom cX0_copyFrom 3 none 1 := ⟨tw_dec (by decide +kernel), tw_dec (by decide +kernel), by decide +kernel⟩
theorem bX0_entriesIn : LB yX0_entriesIn cX0_entriesIn 4 (some FieldType.int) 1 := ⟨tw_dec (by decide +kernel), tw_dec (by decide +kernel), by decide +kernel⟩
theorem bX0_init : LB yX0_init cX0_init 1 none 0 := ⟨tw_dec (by decide +kernel), tw_dec (by decide +kernel), by decide +kernel⟩
theorem bX0_isFlat : LB yX0_isFlat cX0_isFlat 1 (some FieldType.boolean) 0 := ⟨tw_dec (by decide +kernel), tw_dec (by decide +kernel), by decide +kernel⟩
theorem bX0_layersOn : LB yX0_layersOn cX0_layersOn 3 (some FieldType.int) 0 := ⟨tw_dec (by decide +kernel), tw_dec (by decide +kernel), by decide +kernel⟩
theorem bX0_moveLayer : LB yX0_moveLayer cX0_moveLayer 4 none 2 := ⟨tw_dec (by decide +kernel), tw_dec (by decide +kernel), by decide +kernel⟩
theorem bX0_nowhereIn : LB yX0_nowhereIn cX0_nowhereIn 4 (some FieldType.int) 1 := ⟨tw_dec (by decide +kernel), tw_dec (by decide +kernel), by decide +kernel⟩
theorem bX0_removeTop : LB yX0_removeTop cX0_removeTop 1 (some FieldType.int) 0 := ⟨tw_dec (by decide +kernel), tw_dec (by decide +kernel), by decide +kernel⟩
theorem bX0_settle : LB yX0_settle cX0_settle 5 (some FieldType.int) 0 := ⟨tw_dec (by decide +kernel), tw_dec (by decide +kernel), by decide +kernel⟩
theorem bX0_shadowed : LB yX0_shadowed cX0_shadowed 3 (some FieldType.int) 0 := ⟨tw_dec (by decide +kernel), tw_dec (by decide +kernel), by decide +kernel⟩
theorem bX0_shadowedIn : LB yX0_shadowedIn cX0_shadowedIn 4 (some FieldType.int) 1 := ⟨tw_dec (by decide +kernel), tw_dec (by decide +kernel), by decide +kernel⟩
theorem bX0_swapWithNext : LB yX0_swapWithNext cX0_swapWithNext 4 none 1 := ⟨tw_dec (by decide +kernel), tw_dec (by decide +kernel), by decide +kernel⟩
theorem bX0_tellingLayer : LB yX0_tellingLayer cX0_tellingLayer 3 (some FieldType.int) 1 := ⟨tw_dec (by decide +kernel), tw_dec (by decide +kernel), by decide +kernel⟩
theorem bX1_init : LB yX1_init cX1_init 1 none 0 := ⟨tw_dec (by decide +kernel), tw_dec (by decide +kernel), by decide +kernel⟩
theorem bX1_readAssignment : LB yX1_readAssignment cX1_readAssignment 2 (some FieldType.int) 1 := ⟨tw_dec (by decide +kernel), tw_dec (by decide +kernel), by decide +kernel⟩
theorem bX1_readEntry : LB yX1_readEntry cX1_readEntry 3 (some FieldType.boolean) 0 := ⟨tw_dec (by decide +kernel), tw_dec (by decide +kernel), by decide +kernel⟩
theorem bX1_readExpression : LB yX1_readExpression cX1_readExpression 8 (some FieldType.boolean) 3 := ⟨tw_dec (by decide +kernel), tw_dec (by decide +kernel), by decide +kernel⟩
theorem bX1_readFactor : LB yX1_readFactor cX1_readFactor 5 (some FieldType.boolean) 3 := ⟨tw_dec (by decide +kernel), tw_dec (by decide +kernel), by decide +kernel⟩
theorem bX1_readLayer : LB yX1_readLayer cX1_readLayer 2 (some FieldType.int) 0 := ⟨tw_dec (by decide +kernel), tw_dec (by decide +kernel), by decide +kernel⟩
theorem bX1_readSigns : LB yX1_readSigns cX1_readSigns 5 (some FieldType.boolean) 2 := ⟨tw_dec (by decide +kernel), tw_dec (by decide +kernel), by decide +kernel⟩
theorem bX2_compose : LB yX2_compose cX2_compose 3 none 2 := ⟨tw_dec (by decide +kernel), tw_dec (by decide +kernel), by decide +kernel⟩
theorem bX2_copy : LB yX2_copy cX2_copy 2 none 2 := ⟨tw_dec (by decide +kernel), tw_dec (by decide +kernel), by decide +kernel⟩
theorem bX2_cycleMet : LB yX2_cycleMet cX2_cycleMet 3 (some FieldType.int) 2 := ⟨tw_dec (by decide +kernel), tw_dec (by decide +kernel), by decide +kernel⟩
theorem bX2_cycleOf : LB yX2_cycleOf cX2_cycleOf 4 (some FieldType.int) 2 := ⟨tw_dec (by decide +kernel), tw_dec (by decide +kernel), by decide +kernel⟩
theorem bX2_cyclic : LB yX2_cyclic cX2_cyclic 3 (some FieldType.int) 1 := ⟨tw_dec (by decide +kernel), tw_dec (by decide +kernel), by decide +kernel⟩
theorem bX2_difference : LB yX2_difference cX2_difference 4 (some FieldType.int) 2 := ⟨tw_dec (by decide +kernel), tw_dec (by decide +kernel), by decide +kernel⟩
theorem bX2_fixed : LB yX2_fixed cX2_fixed 3 (some FieldType.int) 1 := ⟨tw_dec (by decide +kernel), tw_dec (by decide +kernel), by decide +kernel⟩
theorem bX2_holes : LB yX2_holes cX2_holes 3 (some FieldType.int) 1 := ⟨tw_dec (by decide +kernel), tw_dec (by decide +kernel), by decide +kernel⟩
theorem bX2_image : LB yX2_image cX2_image 3 (some FieldType.int) 1 := ⟨tw_dec (by decide +kernel), tw_dec (by decide +kernel), by decide +kernel⟩
theorem bX2_inverse : LB yX2_inverse cX2_inverse 7 none 3 := ⟨tw_dec (by decide +kernel), tw_dec (by decide +kernel), by decide +kernel⟩
theorem bX2_isOneToOne : LB yX2_isOneToOne cX2_isOneToOne 2 (some FieldType.boolean) 1 := ⟨tw_dec (by decide +kernel), tw_dec (by decide +kernel), by decide +kernel⟩
theorem bX2_longestCycle : LB yX2_longestCycle cX2_longestCycle 3 (some FieldType.int) 1 := ⟨tw_dec (by decide +kernel), tw_dec (by decide +kernel), by decide +kernel⟩
theorem bX2_overlay : LB yX2_overlay cX2_overlay 3 none 2 := ⟨tw_dec (by decide +kernel), tw_dec (by decide +kernel), by decide +kernel⟩
theorem bX2_power : LB yX2_power cX2_power 4 none 3 := ⟨tw_dec (by decide +kernel), tw_dec (by decide +kernel), by decide +kernel⟩
theorem bX2_restrict : LB yX2_restrict cX2_restrict 3 none 2 := ⟨tw_dec (by decide +kernel), tw_dec (by decide +kernel), by decide +kernel⟩
theorem bX2_step : LB yX2_step cX2_step 2 (some FieldType.int) 2 := ⟨tw_dec (by decide +kernel), tw_dec (by decide +kernel), by decide +kernel⟩
theorem bX2_stepsToHole : LB yX2_stepsToHole cX2_stepsToHole 4 (some FieldType.int) 2 := ⟨tw_dec (by decide +kernel), tw_dec (by decide +kernel), by decide +kernel⟩
theorem bX2_stepsToSecondMeeting : LB yX2_stepsToSecondMeeting cX2_stepsToSecondMeeting 5 (some FieldType.int) 2 := ⟨tw_dec (by decide +kernel), tw_dec (by decide +kernel), by decide +kernel⟩
theorem bX2_walk : LB yX2_walk cX2_walk 5 (some FieldType.int) 3 := ⟨tw_dec (by decide +kernel), tw_dec (by decide +kernel), by decide +kernel⟩
theorem bX2_walkFar : LB yX2_walkFar cX2_walkFar 5 (some FieldType.int) 3 := ⟨tw_dec (by decide +kernel), tw_dec (by decide +kernel), by decide +kernel⟩
theorem bX3_alikeUpTo : LB yX3_alikeUpTo cX3_alikeUpTo 6 (some FieldType.int) 3 := ⟨tw_dec (by decide +kernel), tw_dec (by decide +kernel), by decide +kernel⟩
theorem bX3_answer : LB yX3_answer cX3_answer 4 (some FieldType.int) 1 := ⟨tw_dec (by decide +kernel), tw_dec (by decide +kernel), by decide +kernel⟩
theorem bX3_bestKey : LB yX3_bestKey cX3_bestKey 3 (some FieldType.int) 0 := ⟨tw_dec (by decide +kernel), tw_dec (by decide +kernel), by decide +kernel⟩
theorem bX3_copyFrom : LB yX3_copyFrom cX3_copyFrom 3 none 1 := ⟨tw_dec (by decide +kernel), tw_dec (by decide +kernel), by decide +kernel⟩
theorem bX3_greatestGroup : LB yX3_greatestGroup cX3_greatestGroup 4 (some FieldType.int) 1 := ⟨tw_dec (by decide +kernel), tw_dec (by decide +kernel), by decide +kernel⟩
theorem bX3_groups : LB yX3_groups cX3_groups 4 (some FieldType.int) 1 := ⟨tw_dec (by decide +kernel), tw_dec (by decide +kernel), by decide +kernel⟩
theorem bX3_init : LB yX3_init cX3_init 1 none 0 := ⟨tw_dec (by decide +kernel), tw_dec (by decide +kernel), by decide +kernel⟩
theorem bX3_isBetter : LB yX3_isBetter cX3_isBetter 5 (some FieldType.boolean) 2 := ⟨tw_dec (by decide +kernel), tw_dec (by decide +kernel), by decide +kernel⟩
theorem bX3_isFound : LB yX3_isFound cX3_isFound 2 (some FieldType.boolean) 0 := ⟨tw_dec (by decide +kernel), tw_dec (by decide +kernel), by decide +kernel⟩
theorem bX3_isRunning : LB yX3_isRunning cX3_isRunning 1 (some FieldType.boolean) 0 := ⟨tw_dec (by decide +kernel), tw_dec (by decide +kernel), by decide +kernel⟩
theorem bX3_isSuspect : LB yX3_isSuspect cX3_isSuspect 2 (some FieldType.boolean) 1 := ⟨tw_dec (by decide +kernel), tw_dec (by decide +kernel), by decide +kernel⟩
theorem bX3_start : LB yX3_start cX3_start 5 none 3 := ⟨tw_dec (by decide +kernel), tw_dec (by decide +kernel), by decide +kernel⟩
theorem bX4_copyFrom : LB yX4_copyFrom cX4_copyFrom 3 none 1 := ⟨tw_dec (by decide +kernel), tw_dec (by decide +kernel), by decide +kernel⟩
theorem bX4_entriesOfAll : LB yX4_entriesOfAll cX4_entriesOfAll 3 (some FieldType.int) 0 := ⟨tw_dec (by decide +kernel), tw_dec (by decide +kernel), by decide +kernel⟩
theorem bX4_init : LB yX4_init cX4_init 2 none 0 := ⟨tw_dec (by decide +kernel), tw_dec (by decide +kernel), by decide +kernel⟩
theorem bX4_layers : LB yX4_layers cX4_layers 3 (some FieldType.int) 0 := ⟨tw_dec (by decide +kernel), tw_dec (by decide +kernel), by decide +kernel⟩
theorem bX4_repeatedMaps : LB yX4_repeatedMaps cX4_repeatedMaps 3 (some FieldType.int) 0 := ⟨tw_dec (by decide +kernel), tw_dec (by decide +kernel), by decide +kernel⟩
theorem bX4_repeatsLowerMap : LB yX4_repeatsLowerMap cX4_repeatsLowerMap 3 (some FieldType.boolean) 1 := ⟨tw_dec (by decide +kernel), tw_dec (by decide +kernel), by decide +kernel⟩
theorem bX4_shadowedOfAll : LB yX4_shadowedOfAll cX4_shadowedOfAll 3 (some FieldType.int) 0 := ⟨tw_dec (by decide +kernel), tw_dec (by decide +kernel), by decide +kernel⟩
theorem bX5_add : LB yX5_add cX5_add 2 (some FieldType.boolean) 1 := ⟨tw_dec (by decide +kernel), tw_dec (by decide +kernel), by decide +kernel⟩
theorem bX5_init : LB yX5_init cX5_init 1 none 0 := ⟨tw_dec (by decide +kernel), tw_dec (by decide +kernel), by decide +kernel⟩
theorem bX5_isAtEnd : LB yX5_isAtEnd cX5_isAtEnd 1 (some FieldType.boolean) 0 := ⟨tw_dec (by decide +kernel), tw_dec (by decide +kernel), by decide +kernel⟩
theorem bX5_take : LB yX5_take cX5_take 2 (some FieldType.boolean) 1 := ⟨tw_dec (by decide +kernel), tw_dec (by decide +kernel), by decide +kernel⟩
theorem bX5_takeBetween : LB yX5_takeBetween cX5_takeBetween 4 (some FieldType.int) 2 := ⟨tw_dec (by decide +kernel), tw_dec (by decide +kernel), by decide +kernel⟩
theorem bX5_takeDigit : LB yX5_takeDigit cX5_takeDigit 1 (some FieldType.int) 0 := ⟨tw_dec (by decide +kernel), tw_dec (by decide +kernel), by decide +kernel⟩
theorem bX5_takeKey : LB yX5_takeKey cX5_takeKey 3 (some FieldType.int) 0 := ⟨tw_dec (by decide +kernel), tw_dec (by decide +kernel), by decide +kernel⟩
theorem bX5_takeKeySet : LB yX5_takeKeySet cX5_takeKeySet 4 (some FieldType.int) 0 := ⟨tw_dec (by decide +kernel), tw_dec (by decide +kernel), by decide +kernel⟩
theorem bX5_takeMap : LB yX5_takeMap cX5_takeMap 1 (some FieldType.int) 0 := ⟨tw_dec (by decide +kernel), tw_dec (by decide +kernel), by decide +kernel⟩
theorem bX6_aboutBestKey : LB yX6_aboutBestKey cX6_aboutBestKey 3 (some FieldType.int) 2 := ⟨tw_dec (by decide +kernel), tw_dec (by decide +kernel), by decide +kernel⟩
theorem bX6_after : LB yX6_after cX6_after 4 (some FieldType.int) 3 := ⟨tw_dec (by decide +kernel), tw_dec (by decide +kernel), by decide +kernel⟩
theorem bX6_ask : LB yX6_ask cX6_ask 2 (some FieldType.int) 1 := ⟨tw_dec (by decide +kernel), tw_dec (by decide +kernel), by decide +kernel⟩
theorem bX6_assign : LB yX6_assign cX6_assign 3 (some FieldType.int) 0 := ⟨tw_dec (by decide +kernel), tw_dec (by decide +kernel), by decide +kernel⟩
theorem bX6_clearText : LB yX6_clearText cX6_clearText 2 (some FieldType.int) 0 := ⟨tw_dec (by decide +kernel), tw_dec (by decide +kernel), by decide +kernel⟩
theorem bX6_collectDifferences : LB yX6_collectDifferences cX6_collectDifferences 7 (some FieldType.int) 1 := ⟨tw_dec (by decide +kernel), tw_dec (by decide +kernel), by decide +kernel⟩
theorem bX6_count : LB yX6_count cX6_count 2 (some FieldType.int) 1 := ⟨tw_dec (by decide +kernel), tw_dec (by decide +kernel), by decide +kernel⟩
theorem bX6_differ : LB yX6_differ cX6_differ 3 (some FieldType.int) 2 := ⟨tw_dec (by decide +kernel), tw_dec (by decide +kernel), by decide +kernel⟩
theorem bX6_dropOldest : LB yX6_dropOldest cX6_dropOldest 3 none 0 := ⟨tw_dec (by decide +kernel), tw_dec (by decide +kernel), by decide +kernel⟩
theorem bX6_entry : LB yX6_entry cX6_entry 4 (some FieldType.int) 3 := ⟨tw_dec (by decide +kernel), tw_dec (by decide +kernel), by decide +kernel⟩
theorem bX6_flatten : LB yX6_flatten cX6_flatten 3 (some FieldType.int) 1 := ⟨tw_dec (by decide +kernel), tw_dec (by decide +kernel), by decide +kernel⟩
theorem bX6_follow : LB yX6_follow cX6_follow 5 (some FieldType.int) 3 := ⟨tw_dec (by decide +kernel), tw_dec (by decide +kernel), by decide +kernel⟩
theorem bX6_get : LB yX6_get cX6_get 3 (some FieldType.int) 2 := ⟨tw_dec (by decide +kernel), tw_dec (by decide +kernel), by decide +kernel⟩
theorem bX6_gives : LB yX6_gives cX6_gives 3 (some FieldType.int) 1 := ⟨tw_dec (by decide +kernel), tw_dec (by decide +kernel), by decide +kernel⟩
theorem bX6_hidden : LB yX6_hidden cX6_hidden 3 (some FieldType.int) 1 := ⟨tw_dec (by decide +kernel), tw_dec (by decide +kernel), by decide +kernel⟩
theorem bX6_hide : LB yX6_hide cX6_hide 3 (some FieldType.int) 2 := ⟨tw_dec (by decide +kernel), tw_dec (by decide +kernel), by decide +kernel⟩
theorem bX6_init : LB yX6_init cX6_init 2 none 0 := ⟨tw_dec (by decide +kernel), tw_dec (by decide +kernel), by decide +kernel⟩
theorem bX6_isKey : LB yX6_isKey cX6_isKey 1 (some FieldType.boolean) 1 := ⟨tw_dec (by decide +kernel), tw_dec (by decide +kernel), by decide +kernel⟩
theorem bX6_isLayer : LB yX6_isLayer cX6_isLayer 3 (some FieldType.boolean) 2 := ⟨tw_dec (by decide +kernel), tw_dec (by decide +kernel), by decide +kernel⟩
theorem bX6_isMap : LB yX6_isMap cX6_isMap 1 (some FieldType.boolean) 1 := ⟨tw_dec (by decide +kernel), tw_dec (by decide +kernel), by decide +kernel⟩
theorem bX6_keep : LB yX6_keep cX6_keep 1 (some FieldType.int) 0 := ⟨tw_dec (by decide +kernel), tw_dec (by decide +kernel), by decide +kernel⟩
theorem bX6_layer : LB yX6_layer cX6_layer 5 (some FieldType.int) 3 := ⟨tw_dec (by decide +kernel), tw_dec (by decide +kernel), by decide +kernel⟩
theorem bX6_leastSetOfSize : LB yX6_leastSetOfSize cX6_leastSetOfSize 5 (some FieldType.int) 2 := ⟨tw_dec (by decide +kernel), tw_dec (by decide +kernel), by decide +kernel⟩
theorem bX6_lift : LB yX6_lift cX6_lift 5 (some FieldType.int) 3 := ⟨tw_dec (by decide +kernel), tw_dec (by decide +kernel), by decide +kernel⟩
theorem bX6_map : LB yX6_map cX6_map 4 (some FieldType.int) 2 := ⟨tw_dec (by decide +kernel), tw_dec (by decide +kernel), by decide +kernel⟩
theorem bX6_nextSetOfSameSize : LB yX6_nextSetOfSameSize cX6_nextSetOfSameSize 3 (some FieldType.int) 1 := ⟨tw_dec (by decide +kernel), tw_dec (by decide +kernel), by decide +kernel⟩
theorem bX6_orNone : LB yX6_orNone cX6_orNone 1 (some FieldType.int) 1 := ⟨tw_dec (by decide +kernel), tw_dec (by decide +kernel), by decide +kernel⟩
theorem bX6_pop : LB yX6_pop cX6_pop 3 (some FieldType.int) 1 := ⟨tw_dec (by decide +kernel), tw_dec (by decide +kernel), by decide +kernel⟩
theorem bX6_probes : LB yX6_probes cX6_probes 5 (some FieldType.int) 1 := ⟨tw_dec (by decide +kernel), tw_dec (by decide +kernel), by decide +kernel⟩
theorem bX6_push : LB yX6_push cX6_push 4 (some FieldType.int) 1 := ⟨tw_dec (by decide +kernel), tw_dec (by decide +kernel), by decide +kernel⟩
theorem bX6_record : LB yX6_record cX6_record 1 none 0 := ⟨tw_dec (by decide +kernel), tw_dec (by decide +kernel), by decide +kernel⟩
theorem bX6_restore : LB yX6_restore cX6_restore 1 (some FieldType.int) 0 := ⟨tw_dec (by decide +kernel), tw_dec (by decide +kernel), by decide +kernel⟩
theorem bX6_setEntry : LB yX6_setEntry cX6_setEntry 7 (some FieldType.int) 4 := ⟨tw_dec (by decide +kernel), tw_dec (by decide +kernel), by decide +kernel⟩
theorem bX6_setRule : LB yX6_setRule cX6_setRule 3 (some FieldType.int) 1 := ⟨tw_dec (by decide +kernel), tw_dec (by decide +kernel), by decide +kernel⟩
theorem bX6_split : LB yX6_split cX6_split 3 (some FieldType.int) 2 := ⟨tw_dec (by decide +kernel), tw_dec (by decide +kernel), by decide +kernel⟩
theorem bX6_tells : LB yX6_tells cX6_tells 4 (some FieldType.int) 2 := ⟨tw_dec (by decide +kernel), tw_dec (by decide +kernel), by decide +kernel⟩
theorem bX6_tellsApart : LB yX6_tellsApart cX6_tellsApart 4 (some FieldType.boolean) 2 := ⟨tw_dec (by decide +kernel), tw_dec (by decide +kernel), by decide +kernel⟩
theorem bX6_turn : LB yX6_turn cX6_turn 5 (some FieldType.int) 3 := ⟨tw_dec (by decide +kernel), tw_dec (by decide +kernel), by decide +kernel⟩
theorem bX6_type : LB yX6_type cX6_type 2 (some FieldType.int) 1 := ⟨tw_dec (by decide +kernel), tw_dec (by decide +kernel), by decide +kernel⟩
theorem bX6_undo : LB yX6_undo cX6_undo 1 (some FieldType.int) 0 := ⟨tw_dec (by decide +kernel), tw_dec (by decide +kernel), by decide +kernel⟩
theorem bX7_after : LB yX7_after cX7_after 5 (some FieldType.int) 3 := ⟨tw_dec (by decide +kernel), tw_dec (by decide +kernel), by decide +kernel⟩
theorem bX7_allEntries : LB yX7_allEntries cX7_allEntries 5 (some FieldType.int) 1 := ⟨tw_dec (by decide +kernel), tw_dec (by decide +kernel), by decide +kernel⟩
theorem bX7_apart : LB yX7_apart cX7_apart 5 (some FieldType.int) 2 := ⟨tw_dec (by decide +kernel), tw_dec (by decide +kernel), by decide +kernel⟩
theorem bX7_ask : LB yX7_ask cX7_ask 4 (some FieldType.int) 1 := ⟨tw_dec (by decide +kernel), tw_dec (by decide +kernel), by decide +kernel⟩
theorem bX7_assign : LB yX7_assign cX7_assign 1 (some FieldType.int) 0 := ⟨tw_dec (by decide +kernel), tw_dec (by decide +kernel), by decide +kernel⟩
theorem bX7_becomes : LB yX7_becomes cX7_becomes 5 (some FieldType.int) 2 := ⟨tw_dec (by decide +kernel), tw_dec (by decide +kernel), by decide +kernel⟩
theorem bX7_bestKey : LB yX7_bestKey cX7_bestKey 4 (some FieldType.int) 0 := ⟨tw_dec (by decide +kernel), tw_dec (by decide +kernel), by decide +kernel⟩
theorem bX7_bits : LB yX7_bits cX7_bits 3 (some FieldType.int) 1 := ⟨tw_dec (by decide +kernel), tw_dec (by decide +kernel), by decide +kernel⟩
theorem bX7_cell : LB yX7_cell cX7_cell 3 (some FieldType.int) 3 := ⟨tw_dec (by decide +kernel), tw_dec (by decide +kernel), by decide +kernel⟩
theorem bX7_changed : LB yX7_changed cX7_changed 4 (some FieldType.int) 1 := ⟨tw_dec (by decide +kernel), tw_dec (by decide +kernel), by decide +kernel⟩
theorem bX7_clearText : LB yX7_clearText cX7_clearText 2 (some FieldType.int) 0 := ⟨tw_dec (by decide +kernel), tw_dec (by decide +kernel), by decide +kernel⟩
theorem bX7_count : LB yX7_count cX7_count 2 (some FieldType.int) 1 := ⟨tw_dec (by decide +kernel), tw_dec (by decide +kernel), by decide +kernel⟩
theorem bX7_cycle : LB yX7_cycle cX7_cycle 4 (some FieldType.int) 2 := ⟨tw_dec (by decide +kernel), tw_dec (by decide +kernel), by decide +kernel⟩
theorem bX7_differ : LB yX7_differ cX7_differ 3 (some FieldType.int) 2 := ⟨tw_dec (by decide +kernel), tw_dec (by decide +kernel), by decide +kernel⟩
theorem bX7_entries : LB yX7_entries cX7_entries 8 (some FieldType.int) 3 := ⟨tw_dec (by decide +kernel), tw_dec (by decide +kernel), by decide +kernel⟩
theorem bX7_entry : LB yX7_entry cX7_entry 4 (some FieldType.int) 3 := ⟨tw_dec (by decide +kernel), tw_dec (by decide +kernel), by decide +kernel⟩
theorem bX7_flatten : LB yX7_flatten cX7_flatten 3 (some FieldType.int) 1 := ⟨tw_dec (by decide +kernel), tw_dec (by decide +kernel), by decide +kernel⟩
theorem bX7_follow : LB yX7_follow cX7_follow 6 (some FieldType.int) 3 := ⟨tw_dec (by decide +kernel), tw_dec (by decide +kernel), by decide +kernel⟩
theorem bX7_get : LB yX7_get cX7_get 4 (some FieldType.int) 2 := ⟨tw_dec (by decide +kernel), tw_dec (by decide +kernel), by decide +kernel⟩
theorem bX7_gives : LB yX7_gives cX7_gives 2 (some FieldType.int) 1 := ⟨tw_dec (by decide +kernel), tw_dec (by decide +kernel), by decide +kernel⟩
theorem bX7_groups : LB yX7_groups cX7_groups 8 (some FieldType.int) 2 := ⟨tw_dec (by decide +kernel), tw_dec (by decide +kernel), by decide +kernel⟩
theorem bX7_hidden : LB yX7_hidden cX7_hidden 4 (some FieldType.int) 1 := ⟨tw_dec (by decide +kernel), tw_dec (by decide +kernel), by decide +kernel⟩
theorem bX7_hide : LB yX7_hide cX7_hide 5 (some FieldType.int) 2 := ⟨tw_dec (by decide +kernel), tw_dec (by decide +kernel), by decide +kernel⟩
theorem bX7_in : LB yX7_in cX7_in 3 (some FieldType.boolean) 3 := ⟨tw_dec (by decide +kernel), tw_dec (by decide +kernel), by decide +kernel⟩
theorem bX7_init : LB yX7_init cX7_init 1 none 0 := ⟨tw_dec (by decide +kernel), tw_dec (by decide +kernel), by decide +kernel⟩
theorem bX7_inverts : LB yX7_inverts cX7_inverts 6 none 0 := ⟨tw_dec (by decide +kernel), tw_dec (by decide +kernel), by decide +kernel⟩
theorem bX7_isBetween : LB yX7_isBetween cX7_isBetween 3 (some FieldType.boolean) 2 := ⟨tw_dec (by decide +kernel), tw_dec (by decide +kernel), by decide +kernel⟩
theorem bX7_isExpressionText : LB yX7_isExpressionText cX7_isExpressionText 1 (some FieldType.boolean) 0 := ⟨tw_dec (by decide +kernel), tw_dec (by decide +kernel), by decide +kernel⟩
theorem bX7_isFound : LB yX7_isFound cX7_isFound 4 (some FieldType.boolean) 0 := ⟨tw_dec (by decide +kernel), tw_dec (by decide +kernel), by decide +kernel⟩
theorem bX7_isLayerText : LB yX7_isLayerText cX7_isLayerText 3 (some FieldType.boolean) 0 := ⟨tw_dec (by decide +kernel), tw_dec (by decide +kernel), by decide +kernel⟩
theorem bX7_isOn : LB yX7_isOn cX7_isOn 3 (some FieldType.boolean) 2 := ⟨tw_dec (by decide +kernel), tw_dec (by decide +kernel), by decide +kernel⟩
theorem bX7_isSign : LB yX7_isSign cX7_isSign 2 (some FieldType.boolean) 1 := ⟨tw_dec (by decide +kernel), tw_dec (by decide +kernel), by decide +kernel⟩
theorem bX7_isSuspect : LB yX7_isSuspect cX7_isSuspect 2 (some FieldType.boolean) 1 := ⟨tw_dec (by decide +kernel), tw_dec (by decide +kernel), by decide +kernel⟩
theorem bX7_joins : LB yX7_joins cX7_joins 4 none 0 := ⟨tw_dec (by decide +kernel), tw_dec (by decide +kernel), by decide +kernel⟩
theorem bX7_keep : LB yX7_keep cX7_keep 2 (some FieldType.int) 0 := ⟨tw_dec (by decide +kernel), tw_dec (by decide +kernel), by decide +kernel⟩
theorem bX7_known : LB yX7_known cX7_known 3 (some FieldType.int) 2 := ⟨tw_dec (by decide +kernel), tw_dec (by decide +kernel), by decide +kernel⟩
theorem bX7_layer : LB yX7_layer cX7_layer 4 (some FieldType.int) 3 := ⟨tw_dec (by decide +kernel), tw_dec (by decide +kernel), by decide +kernel⟩
theorem bX7_layers : LB yX7_layers cX7_layers 3 (some FieldType.int) 0 := ⟨tw_dec (by decide +kernel), tw_dec (by decide +kernel), by decide +kernel⟩
theorem bX7_lift : LB yX7_lift cX7_lift 6 (some FieldType.int) 3 := ⟨tw_dec (by decide +kernel), tw_dec (by decide +kernel), by decide +kernel⟩
theorem bX7_longest : LB yX7_longest cX7_longest 5 (some FieldType.int) 1 := ⟨tw_dec (by decide +kernel), tw_dec (by decide +kernel), by decide +kernel⟩
theorem bX7_map : LB yX7_map cX7_map 3 (some FieldType.int) 2 := ⟨tw_dec (by decide +kernel), tw_dec (by decide +kernel), by decide +kernel⟩
theorem bX7_noKey : LB yX7_noKey cX7_noKey 1 (some FieldType.boolean) 1 := ⟨tw_dec (by decide +kernel), tw_dec (by decide +kernel), by decide +kernel⟩
theorem bX7_noLayer : LB yX7_noLayer cX7_noLayer 3 (some FieldType.boolean) 2 := ⟨tw_dec (by decide +kernel), tw_dec (by decide +kernel), by decide +kernel⟩
theorem bX7_noMap : LB yX7_noMap cX7_noMap 1 (some FieldType.boolean) 1 := ⟨tw_dec (by decide +kernel), tw_dec (by decide +kernel), by decide +kernel⟩
theorem bX7_onLayers : LB yX7_onLayers cX7_onLayers 4 (some FieldType.int) 1 := ⟨tw_dec (by decide +kernel), tw_dec (by decide +kernel), by decide +kernel⟩
theorem bX7_pop : LB yX7_pop cX7_pop 2 (some FieldType.int) 1 := ⟨tw_dec (by decide +kernel), tw_dec (by decide +kernel), by decide +kernel⟩
theorem bX7_probes : LB yX7_probes cX7_probes 7 (some FieldType.int) 1 := ⟨tw_dec (by decide +kernel), tw_dec (by decide +kernel), by decide +kernel⟩
theorem bX7_push : LB yX7_push cX7_push 4 (some FieldType.int) 1 := ⟨tw_dec (by decide +kernel), tw_dec (by decide +kernel), by decide +kernel⟩
theorem bX7_record : LB yX7_record cX7_record 2 none 0 := ⟨tw_dec (by decide +kernel), tw_dec (by decide +kernel), by decide +kernel⟩
theorem bX7_remembers : LB yX7_remembers cX7_remembers 3 none 1 := ⟨tw_dec (by decide +kernel), tw_dec (by decide +kernel), by decide +kernel⟩
theorem bX7_repeats : LB yX7_repeats cX7_repeats 5 none 1 := ⟨tw_dec (by decide +kernel), tw_dec (by decide +kernel), by decide +kernel⟩
theorem bX7_restore : LB yX7_restore cX7_restore 2 (some FieldType.int) 0 := ⟨tw_dec (by decide +kernel), tw_dec (by decide +kernel), by decide +kernel⟩
theorem bX7_returns : LB yX7_returns cX7_returns 6 (some FieldType.int) 2 := ⟨tw_dec (by decide +kernel), tw_dec (by decide +kernel), by decide +kernel⟩
theorem bX7_set : LB yX7_set cX7_set 6 (some FieldType.int) 2 := ⟨tw_dec (by decide +kernel), tw_dec (by decide +kernel), by decide +kernel⟩
theorem bX7_setEntry : LB yX7_setEntry cX7_setEntry 6 (some FieldType.int) 4 := ⟨tw_dec (by decide +kernel), tw_dec (by decide +kernel), by decide +kernel⟩
theorem bX7_setRule : LB yX7_setRule cX7_setRule 3 (some FieldType.int) 1 := ⟨tw_dec (by decide +kernel), tw_dec (by decide +kernel), by decide +kernel⟩
theorem bX7_settles : LB yX7_settles cX7_settles 2 none 0 := ⟨tw_dec (by decide +kernel), tw_dec (by decide +kernel), by decide +kernel⟩
theorem bX7_shadowed : LB yX7_shadowed cX7_shadowed 4 (some FieldType.int) 1 := ⟨tw_dec (by decide +kernel), tw_dec (by decide +kernel), by decide +kernel⟩
theorem bX7_split : LB yX7_split cX7_split 3 (some FieldType.int) 2 := ⟨tw_dec (by decide +kernel), tw_dec (by decide +kernel), by decide +kernel⟩
theorem bX7_swaps : LB yX7_swaps cX7_swaps 6 none 3 := ⟨tw_dec (by decide +kernel), tw_dec (by decide +kernel), by decide +kernel⟩
theorem bX7_takes : LB yX7_takes cX7_takes 2 (some FieldType.boolean) 1 := ⟨tw_dec (by decide +kernel), tw_dec (by decide +kernel), by decide +kernel⟩
theorem bX7_takesKey : LB yX7_takesKey cX7_takesKey 1 (some FieldType.boolean) 0 := ⟨tw_dec (by decide +kernel), tw_dec (by decide +kernel), by decide +kernel⟩
theorem bX7_takesLetter : LB yX7_takesLetter cX7_takesLetter 2 (some FieldType.boolean) 0 := ⟨tw_dec (by decide +kernel), tw_dec (by decide +kernel), by decide +kernel⟩
theorem bX7_takesSet : LB yX7_takesSet cX7_takesSet 4 (some FieldType.boolean) 0 := ⟨tw_dec (by decide +kernel), tw_dec (by decide +kernel), by decide +kernel⟩
theorem bX7_takesSigns : LB yX7_takesSigns cX7_takesSigns 2 (some FieldType.boolean) 0 := ⟨tw_dec (by decide +kernel), tw_dec (by decide +kernel), by decide +kernel⟩
theorem bX7_teller : LB yX7_teller cX7_teller 4 (some FieldType.int) 2 := ⟨tw_dec (by decide +kernel), tw_dec (by decide +kernel), by decide +kernel⟩
theorem bX7_tells : LB yX7_tells cX7_tells 3 (some FieldType.int) 2 := ⟨tw_dec (by decide +kernel), tw_dec (by decide +kernel), by decide +kernel⟩
theorem bX7_turn : LB yX7_turn cX7_turn 4 (some FieldType.int) 3 := ⟨tw_dec (by decide +kernel), tw_dec (by decide +kernel), by decide +kernel⟩
theorem bX7_twins : LB yX7_twins cX7_twins 5 (some FieldType.int) 0 := ⟨tw_dec (by decide +kernel), tw_dec (by decide +kernel), by decide +kernel⟩
theorem bX7_type : LB yX7_type cX7_type 2 (some FieldType.int) 1 := ⟨tw_dec (by decide +kernel), tw_dec (by decide +kernel), by decide +kernel⟩
theorem bX7_underlies : LB yX7_underlies cX7_underlies 3 none 0 := ⟨tw_dec (by decide +kernel), tw_dec (by decide +kernel), by decide +kernel⟩
theorem bX7_undo : LB yX7_undo cX7_undo 2 (some FieldType.int) 0 := ⟨tw_dec (by decide +kernel), tw_dec (by decide +kernel), by decide +kernel⟩
theorem bX7_value : LB yX7_value cX7_value 4 (some FieldType.int) 2 := ⟨tw_dec (by decide +kernel), tw_dec (by decide +kernel), by decide +kernel⟩
theorem bX7_walks : LB yX7_walks cX7_walks 6 (some FieldType.int) 3 := ⟨tw_dec (by decide +kernel), tw_dec (by decide +kernel), by decide +kernel⟩
theorem mL_13 : LV RL 13 RX6 yX6_push := ⟨tw_dec (by decide +kernel), tw_dec (by decide +kernel), tw_dec (by decide +kernel)⟩
theorem mL_17 : LV RL 17 RX7 yX7_push := ⟨tw_dec (by decide +kernel), tw_dec (by decide +kernel), tw_dec (by decide +kernel)⟩
theorem mL_18 : LV RL 18 RX6 yX6_pop := ⟨tw_dec (by decide +kernel), tw_dec (by decide +kernel), tw_dec (by decide +kernel)⟩
theorem mL_21 : LV RL 21 RX7 yX7_pop := ⟨tw_dec (by decide +kernel), tw_dec (by decide +kernel), tw_dec (by decide +kernel)⟩
theorem mL_22 : LV RL 22 RX6 yX6_turn := ⟨tw_dec (by decide +kernel), tw_dec (by decide +kernel), tw_dec (by decide +kernel)⟩
theorem mL_26 : LV RL 26 RX7 yX7_turn := ⟨tw_dec (by decide +kernel), tw_dec (by decide +kernel), tw_dec (by decide +kernel)⟩
theorem mL_27 : LV RL 27 RX6 yX6_lift := ⟨tw_dec (by decide +kernel), tw_dec (by decide +kernel), tw_dec (by decide +kernel)⟩
theorem mL_31 : LV RL 31 RX7 yX7_lift := ⟨tw_dec (by decide +kernel), tw_dec (by decide +kernel), tw_dec (by decide +kernel)⟩
theorem mL_32 : LV RL 32 RX6 yX6_setEntry := ⟨tw_dec (by decide +kernel), tw_dec (by decide +kernel), tw_dec (by decide +kernel)⟩
theorem mL_36 : LV RL 36 RX7 yX7_setEntry := ⟨tw_dec (by decide +kernel), tw_dec (by decide +kernel), tw_dec (by decide +kernel)⟩
theorem mL_37 : LV RL 37 RX6 yX6_flatten := ⟨tw_dec (by decide +kernel), tw_dec (by decide +kernel), tw_dec (by decide +kernel)⟩
theorem mL_40 : LV RL 40 RX7 yX7_flatten := ⟨tw_dec (by decide +kernel), tw_dec (by decide +kernel), tw_dec (by decide +kernel)⟩
theorem mL_41 : LV RL 41 RX6 yX6_assign := ⟨tw_dec (by decide +kernel), tw_dec (by decide +kernel), tw_dec (by decide +kernel)⟩
theorem mL_45 : LV RL 45 RX7 yX7_assign := ⟨tw_dec (by decide +kernel), tw_dec (by decide +kernel), tw_dec (by decide +kernel)⟩
theorem mL_46 : LV RL 46 RX6 yX6_setRule := ⟨tw_dec (by decide +kernel), tw_dec (by decide +kernel), tw_dec (by decide +kernel)⟩
theorem mL_49 : LV RL 49 RX7 yX7_setRule := ⟨tw_dec (by decide +kernel), tw_dec (by decide +kernel), tw_dec (by decide +kernel)⟩
theorem mL_50 : LV RL 50 RX6 yX6_hide := ⟨tw_dec (by decide +kernel), tw_dec (by decide +kernel), tw_dec (by decide +kernel)⟩
theorem mL_54 : LV RL 54 RX7 yX7_hide := ⟨tw_dec (by decide +kernel), tw_dec (by decide +kernel), tw_dec (by decide +kernel)⟩
theorem mL_55 : LV RL 55 RX6 yX6_ask := ⟨tw_dec (by decide +kernel), tw_dec (by decide +kernel), tw_dec (by decide +kernel)⟩
theorem mL_58 : LV RL 58 RX7 yX7_ask := ⟨tw_dec (by decide +kernel), tw_dec (by decide +kernel), tw_dec (by decide +kernel)⟩
theorem mL_59 : LV RL 59 RX6 yX6_type := ⟨tw_dec (by decide +kernel), tw_dec (by decide +kernel), tw_dec (by decide +kernel)⟩
theorem mL_63 : LV RL 63 RX7 yX7_type := ⟨tw_dec (by decide +kernel), tw_dec (by decide +kernel), tw_dec (by decide +kernel)⟩
theorem mL_64 : LV RL 64 RX6 yX6_clearText := ⟨tw_dec (by decide +kernel), tw_dec (by decide +kernel), tw_dec (by decide +kernel)⟩
theorem mL_67 : LV RL 67 RX7 yX7_clearText := ⟨tw_dec (by decide +kernel), tw_dec (by decide +kernel), tw_dec (by decide +kernel)⟩
theorem mL_68 : LV RL 68 RX6 yX6_undo := ⟨tw_dec (by decide +kernel), tw_dec (by decide +kernel), tw_dec (by decide +kernel)⟩
theorem mL_71 : LV RL 71 RX7 yX7_undo := ⟨tw_dec (by decide +kernel), tw_dec (by decide +kernel), tw_dec (by decide +kernel)⟩
theorem mL_72 : LV RL 72 RX6 yX6_keep := ⟨tw_dec (by decide +kernel), tw_dec (by decide +kernel), tw_dec (by decide +kernel)⟩
theorem mL_75 : LV RL 75 RX7 yX7_keep := ⟨tw_dec (by decide +kernel), tw_dec (by decide +kernel), tw_dec (by decide +kernel)⟩
theorem mL_76 : LV RL 76 RX6 yX6_restore := ⟨tw_dec (by decide +kernel), tw_dec (by decide +kernel), tw_dec (by decide +kernel)⟩
theorem mL_79 : LV RL 79 RX7 yX7_restore := ⟨tw_dec (by decide +kernel), tw_dec (by decide +kernel), tw_dec (by decide +kernel)⟩
theorem mL_80 : LV RL 80 RX6 yX6_get := ⟨tw_dec (by decide +kernel), tw_dec (by decide +kernel), tw_dec (by decide +kernel)⟩
theorem mL_83 : LV RL 83 RX7 yX7_get := ⟨tw_dec (by decide +kernel), tw_dec (by decide +kernel), tw_dec (by decide +kernel)⟩
theorem mL_84 : LV RL 84 RX6 yX6_tells := ⟨tw_dec (by decide +kernel), tw_dec (by decide +kernel), tw_dec (by decide +kernel)⟩
theorem mL_87 : LV RL 87 RX7 yX7_tells := ⟨tw_dec (by decide +kernel), tw_dec (by decide +kernel), tw_dec (by decide +kernel)⟩
theorem mL_88 : LV RL 88 RX6 yX6_map := ⟨tw_dec (by decide +kernel), tw_dec (by decide +kernel), tw_dec (by decide +kernel)⟩
theorem mL_91 : LV RL 91 RX7 yX7_map := ⟨tw_dec (by decide +kernel), tw_dec (by decide +kernel), tw_dec (by decide +kernel)⟩
theorem mL_92 : LV RL 92 RX6 yX6_layer := ⟨tw_dec (by decide +kernel), tw_dec (by decide +kernel), tw_dec (by decide +kernel)⟩
theorem mL_95 : LV RL 95 RX7 yX7_layer := ⟨tw_dec (by decide +kernel), tw_dec (by decide +kernel), tw_dec (by decide +kernel)⟩
theorem mL_96 : LV RL 96 RX6 yX6_entry := ⟨tw_dec (by decide +kernel), tw_dec (by decide +kernel), tw_dec (by decide +kernel)⟩
theorem mL_99 : LV RL 99 RX7 yX7_entry := ⟨tw_dec (by decide +kernel), tw_dec (by decide +kernel), tw_dec (by decide +kernel)⟩
theorem mL_100 : LV RL 100 RX6 yX6_follow := ⟨tw_dec (by decide +kernel), tw_dec (by decide +kernel), tw_dec (by decide +kernel)⟩
theorem mL_103 : LV RL 103 RX7 yX7_follow := ⟨tw_dec (by decide +kernel), tw_dec (by decide +kernel), tw_dec (by decide +kernel)⟩
theorem mL_104 : LV RL 104 RX6 yX6_after := ⟨tw_dec (by decide +kernel), tw_dec (by decide +kernel), tw_dec (by decide +kernel)⟩
theorem mL_107 : LV RL 107 RX7 yX7_after := ⟨tw_dec (by decide +kernel), tw_dec (by decide +kernel), tw_dec (by decide +kernel)⟩
theorem mL_108 : LV RL 108 RX6 yX6_gives := ⟨tw_dec (by decide +kernel), tw_dec (by decide +kernel), tw_dec (by decide +kernel)⟩
theorem mL_111 : LV RL 111 RX7 yX7_gives := ⟨tw_dec (by decide +kernel), tw_dec (by decide +kernel), tw_dec (by decide +kernel)⟩
theorem mL_112 : LV RL 112 RX6 yX6_differ := ⟨tw_dec (by decide +kernel), tw_dec (by decide +kernel), tw_dec (by decide +kernel)⟩
theorem mL_115 : LV RL 115 RX7 yX7_differ := ⟨tw_dec (by decide +kernel), tw_dec (by decide +kernel), tw_dec (by decide +kernel)⟩
theorem mL_116 : LV RL 116 RX6 yX6_probes := ⟨tw_dec (by decide +kernel), tw_dec (by decide +kernel), tw_dec (by decide +kernel)⟩
theorem mL_119 : LV RL 119 RX7 yX7_probes := ⟨tw_dec (by decide +kernel), tw_dec (by decide +kernel), tw_dec (by decide +kernel)⟩
theorem mL_120 : LV RL 120 RX6 yX6_hidden := ⟨tw_dec (by decide +kernel), tw_dec (by decide +kernel), tw_dec (by decide +kernel)⟩
theorem mL_123 : LV RL 123 RX7 yX7_hidden := ⟨tw_dec (by decide +kernel), tw_dec (by decide +kernel), tw_dec (by decide +kernel)⟩
theorem mL_124 : LV RL 124 RX6 yX6_split := ⟨tw_dec (by decide +kernel), tw_dec (by decide +kernel), tw_dec (by decide +kernel)⟩
theorem mL_127 : LV RL 127 RX7 yX7_split := ⟨tw_dec (by decide +kernel), tw_dec (by decide +kernel), tw_dec (by decide +kernel)⟩
theorem mL_128 : LV RL 128 RX6 yX6_count := ⟨tw_dec (by decide +kernel), tw_dec (by decide +kernel), tw_dec (by decide +kernel)⟩
theorem mL_131 : LV RL 131 RX7 yX7_count := ⟨tw_dec (by decide +kernel), tw_dec (by decide +kernel), tw_dec (by decide +kernel)⟩
theorem mX0_28 : LSt RX0 28 yJ7_fill_53178 := ⟨tw_dec (by decide +kernel), tw_dec (by decide +kernel)⟩
theorem mX0_34 : LSt RX0 34 yX2_copy := ⟨tw_dec (by decide +kernel), tw_dec (by decide +kernel)⟩
theorem mX0_40 : LV RX0 40 RX0 yX0_tellingLayer := ⟨tw_dec (by decide +kernel), tw_dec (by decide +kernel), tw_dec (by decide +kernel)⟩
theorem mX0_44 : LV RX0 44 RX0 yX0_settle := ⟨tw_dec (by decide +kernel), tw_dec (by decide +kernel), tw_dec (by decide +kernel)⟩
theorem mX0_48 : LV RX0 48 RX0 yX0_entriesIn := ⟨tw_dec (by decide +kernel), tw_dec (by decide +kernel), tw_dec (by decide +kernel)⟩
theorem mX0_51 : LV RX0 51 RX0 yX0_swapWithNext := ⟨tw_dec (by decide +kernel), tw_dec (by decide +kernel), tw_dec (by decide +kernel)⟩
theorem mX0_55 : LV RX0 55 RX0 yX0_nowhereIn := ⟨tw_dec (by decide +kernel), tw_dec (by decide +kernel), tw_dec (by decide +kernel)⟩
theorem mX0_58 : LV RX0 58 RX0 yX0_shadowedIn := ⟨tw_dec (by decide +kernel), tw_dec (by decide +kernel), tw_dec (by decide +kernel)⟩
theorem mX1_37 : LSt RX1 37 yJ7_fill_53178 := ⟨tw_dec (by decide +kernel), tw_dec (by decide +kernel)⟩
theorem mX1_43 : LV RX1 43 RX1 yX1_readEntry := ⟨tw_dec (by decide +kernel), tw_dec (by decide +kernel), tw_dec (by decide +kernel)⟩
theorem mX1_47 : LV RX1 47 RX5 yX5_isAtEnd := ⟨tw_dec (by decide +kernel), tw_dec (by decide +kernel), tw_dec (by decide +kernel)⟩
theorem mX1_50 : LV RX1 50 RX5 yX5_take := ⟨tw_dec (by decide +kernel), tw_dec (by decide +kernel), tw_dec (by decide +kernel)⟩
theorem mX1_54 : LV RX1 54 RX5 yX5_takeKey := ⟨tw_dec (by decide +kernel), tw_dec (by decide +kernel), tw_dec (by decide +kernel)⟩
theorem mX1_62 : LV RX1 62 RX5 yX5_takeMap := ⟨tw_dec (by decide +kernel), tw_dec (by decide +kernel), tw_dec (by decide +kernel)⟩
theorem mX1_65 : LV RX1 65 RX1 yX1_readExpression := ⟨tw_dec (by decide +kernel), tw_dec (by decide +kernel), tw_dec (by decide +kernel)⟩
theorem mX1_69 : LV RX1 69 RX1 yX1_readFactor := ⟨tw_dec (by decide +kernel), tw_dec (by decide +kernel), tw_dec (by decide +kernel)⟩
theorem mX1_72 : LSt RX1 72 yX2_compose := ⟨tw_dec (by decide +kernel), tw_dec (by decide +kernel)⟩
theorem mX1_78 : LSt RX1 78 yX2_overlay := ⟨tw_dec (by decide +kernel), tw_dec (by decide +kernel)⟩
theorem mX1_95 : LSt RX1 95 yX2_copy := ⟨tw_dec (by decide +kernel), tw_dec (by decide +kernel)⟩
theorem mX1_101 : LV RX1 101 RX1 yX1_readSigns := ⟨tw_dec (by decide +kernel), tw_dec (by decide +kernel), tw_dec (by decide +kernel)⟩
theorem mX1_105 : LSt RX1 105 yX2_inverse := ⟨tw_dec (by decide +kernel), tw_dec (by decide +kernel)⟩
theorem mX1_109 : LV RX1 109 RX5 yX5_takeDigit := ⟨tw_dec (by decide +kernel), tw_dec (by decide +kernel), tw_dec (by decide +kernel)⟩
theorem mX1_112 : LSt RX1 112 yX2_power := ⟨tw_dec (by decide +kernel), tw_dec (by decide +kernel)⟩
theorem mX1_115 : LV RX1 115 RX5 yX5_takeKeySet := ⟨tw_dec (by decide +kernel), tw_dec (by decide +kernel), tw_dec (by decide +kernel)⟩
theorem mX1_118 : LSt RX1 118 yX2_restrict := ⟨tw_dec (by decide +kernel), tw_dec (by decide +kernel)⟩
theorem mX2_15 : LSt RX2 15 yX2_step := ⟨tw_dec (by decide +kernel), tw_dec (by decide +kernel)⟩
theorem mX2_21 : LSt RX2 21 yX2_walk := ⟨tw_dec (by decide +kernel), tw_dec (by decide +kernel)⟩
theorem mX2_25 : LSt RX2 25 yX2_cycleOf := ⟨tw_dec (by decide +kernel), tw_dec (by decide +kernel)⟩
theorem mX2_28 : LSt RX2 28 yX2_holes := ⟨tw_dec (by decide +kernel), tw_dec (by decide +kernel)⟩
theorem mX2_32 : LSt RX2 32 yJ6_bitCount_0f7a4 := ⟨tw_dec (by decide +kernel), tw_dec (by decide +kernel)⟩
theorem mX2_38 : LSt RX2 38 yX2_image := ⟨tw_dec (by decide +kernel), tw_dec (by decide +kernel)⟩
theorem mX2_47 : LSt RX2 47 yJ7_fill_53178 := ⟨tw_dec (by decide +kernel), tw_dec (by decide +kernel)⟩
theorem mX3_26 : LSt RX3 26 yX2_copy := ⟨tw_dec (by decide +kernel), tw_dec (by decide +kernel)⟩
theorem mX3_42 : LV RX3 42 RX3 yX3_isRunning := ⟨tw_dec (by decide +kernel), tw_dec (by decide +kernel), tw_dec (by decide +kernel)⟩
theorem mX3_46 : LV RX3 46 RX3 yX3_isSuspect := ⟨tw_dec (by decide +kernel), tw_dec (by decide +kernel), tw_dec (by decide +kernel)⟩
theorem mX3_49 : LSt RX3 49 yX2_difference := ⟨tw_dec (by decide +kernel), tw_dec (by decide +kernel)⟩
theorem mX3_53 : LV RX3 53 RX3 yX3_alikeUpTo := ⟨tw_dec (by decide +kernel), tw_dec (by decide +kernel), tw_dec (by decide +kernel)⟩
theorem mX3_63 : LV RX3 63 RX3 yX3_isBetter := ⟨tw_dec (by decide +kernel), tw_dec (by decide +kernel), tw_dec (by decide +kernel)⟩
theorem mX3_67 : LV RX3 67 RX3 yX3_greatestGroup := ⟨tw_dec (by decide +kernel), tw_dec (by decide +kernel), tw_dec (by decide +kernel)⟩
theorem mX3_71 : LV RX3 71 RX3 yX3_groups := ⟨tw_dec (by decide +kernel), tw_dec (by decide +kernel), tw_dec (by decide +kernel)⟩
theorem mX4_29 : LV RX4 29 RX0 yX0_copyFrom := ⟨tw_dec (by decide +kernel), tw_dec (by decide +kernel), tw_dec (by decide +kernel)⟩
theorem mX4_33 : LV RX4 33 RX3 yX3_copyFrom := ⟨tw_dec (by decide +kernel), tw_dec (by decide +kernel), tw_dec (by decide +kernel)⟩
theorem mX4_39 : LV RX4 39 RX0 yX0_allEntries := ⟨tw_dec (by decide +kernel), tw_dec (by decide +kernel), tw_dec (by decide +kernel)⟩
theorem mX4_43 : LV RX4 43 RX0 yX0_shadowed := ⟨tw_dec (by decide +kernel), tw_dec (by decide +kernel), tw_dec (by decide +kernel)⟩
theorem mX4_46 : LV RX4 46 RX4 yX4_repeatsLowerMap := ⟨tw_dec (by decide +kernel), tw_dec (by decide +kernel), tw_dec (by decide +kernel)⟩
theorem mX4_54 : LSt RX4 54 yX2_difference := ⟨tw_dec (by decide +kernel), tw_dec (by decide +kernel)⟩
theorem mX5_22 : LV RX5 22 RX5 yX5_isAtEnd := ⟨tw_dec (by decide +kernel), tw_dec (by decide +kernel), tw_dec (by decide +kernel)⟩
theorem mX5_26 : LV RX5 26 RX5 yX5_takeBetween := ⟨tw_dec (by decide +kernel), tw_dec (by decide +kernel), tw_dec (by decide +kernel)⟩
theorem mX5_30 : LV RX5 30 RX5 yX5_takeKey := ⟨tw_dec (by decide +kernel), tw_dec (by decide +kernel), tw_dec (by decide +kernel)⟩
theorem mX5_34 : LV RX5 34 RX5 yX5_take := ⟨tw_dec (by decide +kernel), tw_dec (by decide +kernel), tw_dec (by decide +kernel)⟩
theorem mX6_42 : LSt RX6 42 yX6_isMap := ⟨tw_dec (by decide +kernel), tw_dec (by decide +kernel)⟩
theorem mX6_46 : LV RX6 46 RX1 yX1_readLayer := ⟨tw_dec (by decide +kernel), tw_dec (by decide +kernel), tw_dec (by decide +kernel)⟩
theorem mX6_59 : LV RX6 59 RX6 yX6_record := ⟨tw_dec (by decide +kernel), tw_dec (by decide +kernel), tw_dec (by decide +kernel)⟩
theorem mX6_65 : LV RX6 65 RX0 yX0_addLayer := ⟨tw_dec (by decide +kernel), tw_dec (by decide +kernel), tw_dec (by decide +kernel)⟩
theorem mX6_69 : LV RX6 69 RX0 yX0_removeTop := ⟨tw_dec (by decide +kernel), tw_dec (by decide +kernel), tw_dec (by decide +kernel)⟩
theorem mX6_72 : LV RX6 72 RX6 yX6_isLayer := ⟨tw_dec (by decide +kernel), tw_dec (by decide +kernel), tw_dec (by decide +kernel)⟩
theorem mX6_80 : LV RX6 80 RX0 yX0_settle := ⟨tw_dec (by decide +kernel), tw_dec (by decide +kernel), tw_dec (by decide +kernel)⟩
theorem mX6_83 : LV RX6 83 RX0 yX0_moveLayer := ⟨tw_dec (by decide +kernel), tw_dec (by decide +kernel), tw_dec (by decide +kernel)⟩
theorem mX6_87 : LSt RX6 87 yX6_isKey := ⟨tw_dec (by decide +kernel), tw_dec (by decide +kernel)⟩
theorem mX6_94 : LV RX6 94 RX0 yX0_isFlat := ⟨tw_dec (by decide +kernel), tw_dec (by decide +kernel), tw_dec (by decide +kernel)⟩
theorem mX6_101 : LV RX6 101 RX0 yX0_becomeOneLayer := ⟨tw_dec (by decide +kernel), tw_dec (by decide +kernel), tw_dec (by decide +kernel)⟩
theorem mX6_105 : LV RX6 105 RX1 yX1_readAssignment := ⟨tw_dec (by decide +kernel), tw_dec (by decide +kernel), tw_dec (by decide +kernel)⟩
theorem mX6_119 : LV RX6 119 RX3 yX3_start := ⟨tw_dec (by decide +kernel), tw_dec (by decide +kernel), tw_dec (by decide +kernel)⟩
theorem mX6_125 : LSt RX6 125 yJ6_bitCount_0f7a4 := ⟨tw_dec (by decide +kernel), tw_dec (by decide +kernel)⟩
theorem mX6_131 : LV RX6 131 RX3 yX3_isRunning := ⟨tw_dec (by decide +kernel), tw_dec (by decide +kernel), tw_dec (by decide +kernel)⟩
theorem mX6_134 : LV RX6 134 RX3 yX3_answer := ⟨tw_dec (by decide +kernel), tw_dec (by decide +kernel), tw_dec (by decide +kernel)⟩
theorem mX6_141 : LV RX6 141 RX5 yX5_add := ⟨tw_dec (by decide +kernel), tw_dec (by decide +kernel), tw_dec (by decide +kernel)⟩
theorem mX6_150 : LV RX6 150 RX4 yX4_copyFrom := ⟨tw_dec (by decide +kernel), tw_dec (by decide +kernel), tw_dec (by decide +kernel)⟩
theorem mX6_154 : LV RX6 154 RX4 yX4_layers := ⟨tw_dec (by decide +kernel), tw_dec (by decide +kernel), tw_dec (by decide +kernel)⟩
theorem mX6_157 : LSt RX6 157 yX6_orNone := ⟨tw_dec (by decide +kernel), tw_dec (by decide +kernel)⟩
theorem mX6_160 : LV RX6 160 RX0 yX0_tellingLayer := ⟨tw_dec (by decide +kernel), tw_dec (by decide +kernel), tw_dec (by decide +kernel)⟩
theorem mX6_163 : LV RX6 163 RX0 yX0_layersOn := ⟨tw_dec (by decide +kernel), tw_dec (by decide +kernel), tw_dec (by decide +kernel)⟩
theorem mX6_166 : LSt RX6 166 yX2_holes := ⟨tw_dec (by decide +kernel), tw_dec (by decide +kernel)⟩
theorem mX6_171 : LSt RX6 171 yX2_image := ⟨tw_dec (by decide +kernel), tw_dec (by decide +kernel)⟩
theorem mX6_174 : LSt RX6 174 yX2_isOneToOne := ⟨tw_dec (by decide +kernel), tw_dec (by decide +kernel)⟩
theorem mX6_178 : LSt RX6 178 yX2_fixed := ⟨tw_dec (by decide +kernel), tw_dec (by decide +kernel)⟩
theorem mX6_181 : LV RX6 181 RX0 yX0_shadowed := ⟨tw_dec (by decide +kernel), tw_dec (by decide +kernel), tw_dec (by decide +kernel)⟩
theorem mX6_184 : LSt RX6 184 yX2_cyclic := ⟨tw_dec (by decide +kernel), tw_dec (by decide +kernel)⟩
theorem mX6_187 : LSt RX6 187 yX2_longestCycle := ⟨tw_dec (by decide +kernel), tw_dec (by decide +kernel)⟩
theorem mX6_190 : LV RX6 190 RX0 yX0_entriesIn := ⟨tw_dec (by decide +kernel), tw_dec (by decide +kernel), tw_dec (by decide +kernel)⟩
theorem mX6_193 : LV RX6 193 RX0 yX0_shadowedIn := ⟨tw_dec (by decide +kernel), tw_dec (by decide +kernel), tw_dec (by decide +kernel)⟩
theorem mX6_196 : LV RX6 196 RX0 yX0_nowhereIn := ⟨tw_dec (by decide +kernel), tw_dec (by decide +kernel), tw_dec (by decide +kernel)⟩
theorem mX6_199 : LSt RX6 199 yX2_stepsToHole := ⟨tw_dec (by decide +kernel), tw_dec (by decide +kernel)⟩
theorem mX6_203 : LSt RX6 203 yX2_stepsToSecondMeeting := ⟨tw_dec (by decide +kernel), tw_dec (by decide +kernel)⟩
theorem mX6_206 : LSt RX6 206 yX2_cycleMet := ⟨tw_dec (by decide +kernel), tw_dec (by decide +kernel)⟩
theorem mX6_210 : LSt RX6 210 yX2_walkFar := ⟨tw_dec (by decide +kernel), tw_dec (by decide +kernel)⟩
theorem mX6_214 : LSt RX6 214 yX2_difference := ⟨tw_dec (by decide +kernel), tw_dec (by decide +kernel)⟩
theorem mX6_218 : LV RX6 218 RX6 yX6_collectDifferences := ⟨tw_dec (by decide +kernel), tw_dec (by decide +kernel), tw_dec (by decide +kernel)⟩
theorem mX6_221 : LV RX6 221 RX6 yX6_leastSetOfSize := ⟨tw_dec (by decide +kernel), tw_dec (by decide +kernel), tw_dec (by decide +kernel)⟩
theorem mX6_232 : LV RX6 232 RX3 yX3_isFound := ⟨tw_dec (by decide +kernel), tw_dec (by decide +kernel), tw_dec (by decide +kernel)⟩
theorem mX6_235 : LSt RX6 235 yX6_aboutBestKey := ⟨tw_dec (by decide +kernel), tw_dec (by decide +kernel)⟩
theorem mX6_239 : LV RX6 239 RX3 yX3_groups := ⟨tw_dec (by decide +kernel), tw_dec (by decide +kernel), tw_dec (by decide +kernel)⟩
theorem mX6_242 : LV RX6 242 RX3 yX3_greatestGroup := ⟨tw_dec (by decide +kernel), tw_dec (by decide +kernel), tw_dec (by decide +kernel)⟩
theorem mX6_245 : LV RX6 245 RX4 yX4_entriesOfAll := ⟨tw_dec (by decide +kernel), tw_dec (by decide +kernel), tw_dec (by decide +kernel)⟩
theorem mX6_248 : LV RX6 248 RX4 yX4_shadowedOfAll := ⟨tw_dec (by decide +kernel), tw_dec (by decide +kernel), tw_dec (by decide +kernel)⟩
theorem mX6_251 : LV RX6 251 RX4 yX4_repeatedMaps := ⟨tw_dec (by decide +kernel), tw_dec (by decide +kernel), tw_dec (by decide +kernel)⟩
theorem mX6_254 : LV RX6 254 RX3 yX3_bestKey := ⟨tw_dec (by decide +kernel), tw_dec (by decide +kernel), tw_dec (by decide +kernel)⟩
theorem mX6_257 : LV RX6 257 RX6 yX6_dropOldest := ⟨tw_dec (by decide +kernel), tw_dec (by decide +kernel), tw_dec (by decide +kernel)⟩
theorem mX6_260 : LV RX6 260 RX6 yX6_tellsApart := ⟨tw_dec (by decide +kernel), tw_dec (by decide +kernel), tw_dec (by decide +kernel)⟩
theorem mX6_263 : LSt RX6 263 yX6_nextSetOfSameSize := ⟨tw_dec (by decide +kernel), tw_dec (by decide +kernel)⟩
theorem mX7_51 : LSt RX7 51 yX7_in := ⟨tw_dec (by decide +kernel), tw_dec (by decide +kernel)⟩
theorem mX7_55 : LSt RX7 55 yX7_noMap := ⟨tw_dec (by decide +kernel), tw_dec (by decide +kernel)⟩
theorem mX7_63 : LV RX7 63 RX7 yX7_isOn := ⟨tw_dec (by decide +kernel), tw_dec (by decide +kernel), tw_dec (by decide +kernel)⟩
theorem mX7_67 : LSt RX7 67 yX7_cell := ⟨tw_dec (by decide +kernel), tw_dec (by decide +kernel)⟩
theorem mX7_71 : LV RX7 71 RX7 yX7_teller := ⟨tw_dec (by decide +kernel), tw_dec (by decide +kernel), tw_dec (by decide +kernel)⟩
theorem mX7_75 : LV RX7 75 RX7 yX7_value := ⟨tw_dec (by decide +kernel), tw_dec (by decide +kernel), tw_dec (by decide +kernel)⟩
theorem mX7_78 : LV RX7 78 RX7 yX7_entries := ⟨tw_dec (by decide +kernel), tw_dec (by decide +kernel), tw_dec (by decide +kernel)⟩
theorem mX7_81 : LV RX7 81 RX7 yX7_isLayerText := ⟨tw_dec (by decide +kernel), tw_dec (by decide +kernel), tw_dec (by decide +kernel)⟩
theorem mX7_88 : LV RX7 88 RX7 yX7_record := ⟨tw_dec (by decide +kernel), tw_dec (by decide +kernel), tw_dec (by decide +kernel)⟩
theorem mX7_91 : LV RX7 91 RX7 yX7_noLayer := ⟨tw_dec (by decide +kernel), tw_dec (by decide +kernel), tw_dec (by decide +kernel)⟩
theorem mX7_94 : LV RX7 94 RX7 yX7_remembers := ⟨tw_dec (by decide +kernel), tw_dec (by decide +kernel), tw_dec (by decide +kernel)⟩
theorem mX7_98 : LV RX7 98 RX7 yX7_changed := ⟨tw_dec (by decide +kernel), tw_dec (by decide +kernel), tw_dec (by decide +kernel)⟩
theorem mX7_102 : LV RX7 102 RX7 yX7_swaps := ⟨tw_dec (by decide +kernel), tw_dec (by decide +kernel), tw_dec (by decide +kernel)⟩
theorem mX7_106 : LSt RX7 106 yX7_noKey := ⟨tw_dec (by decide +kernel), tw_dec (by decide +kernel)⟩
theorem mX7_109 : LV RX7 109 RX7 yX7_becomes := ⟨tw_dec (by decide +kernel), tw_dec (by decide +kernel), tw_dec (by decide +kernel)⟩
theorem mX7_113 : LV RX7 113 RX7 yX7_isExpressionText := ⟨tw_dec (by decide +kernel), tw_dec (by decide +kernel), tw_dec (by decide +kernel)⟩
theorem mX7_119 : LSt RX7 119 yX7_bits := ⟨tw_dec (by decide +kernel), tw_dec (by decide +kernel)⟩
theorem mX7_122 : LV RX7 122 RX7 yX7_known := ⟨tw_dec (by decide +kernel), tw_dec (by decide +kernel), tw_dec (by decide +kernel)⟩
theorem mX7_125 : LV RX7 125 RX7 yX7_isSuspect := ⟨tw_dec (by decide +kernel), tw_dec (by decide +kernel), tw_dec (by decide +kernel)⟩
theorem mX7_128 : LV RX7 128 RX7 yX7_groups := ⟨tw_dec (by decide +kernel), tw_dec (by decide +kernel), tw_dec (by decide +kernel)⟩
theorem mX7_134 : LV RX7 134 RX7 yX7_isSign := ⟨tw_dec (by decide +kernel), tw_dec (by decide +kernel), tw_dec (by decide +kernel)⟩
theorem mX7_137 : LV RX7 137 RX7 yX7_isBetween := ⟨tw_dec (by decide +kernel), tw_dec (by decide +kernel), tw_dec (by decide +kernel)⟩
theorem mX7_143 : LV RX7 143 RX7 yX7_takesKey := ⟨tw_dec (by decide +kernel), tw_dec (by decide +kernel), tw_dec (by decide +kernel)⟩
theorem mX7_146 : LV RX7 146 RX7 yX7_takes := ⟨tw_dec (by decide +kernel), tw_dec (by decide +kernel), tw_dec (by decide +kernel)⟩
theorem mX7_149 : LV RX7 149 RX7 yX7_settles := ⟨tw_dec (by decide +kernel), tw_dec (by decide +kernel), tw_dec (by decide +kernel)⟩
theorem mX7_155 : LV RX7 155 RX7 yX7_joins := ⟨tw_dec (by decide +kernel), tw_dec (by decide +kernel), tw_dec (by decide +kernel)⟩
theorem mX7_158 : LV RX7 158 RX7 yX7_inverts := ⟨tw_dec (by decide +kernel), tw_dec (by decide +kernel), tw_dec (by decide +kernel)⟩
theorem mX7_161 : LV RX7 161 RX7 yX7_repeats := ⟨tw_dec (by decide +kernel), tw_dec (by decide +kernel), tw_dec (by decide +kernel)⟩
theorem mX7_164 : LV RX7 164 RX7 yX7_takesSet := ⟨tw_dec (by decide +kernel), tw_dec (by decide +kernel), tw_dec (by decide +kernel)⟩
theorem mX7_167 : LV RX7 167 RX7 yX7_takesLetter := ⟨tw_dec (by decide +kernel), tw_dec (by decide +kernel), tw_dec (by decide +kernel)⟩
theorem mX7_170 : LV RX7 170 RX7 yX7_takesSigns := ⟨tw_dec (by decide +kernel), tw_dec (by decide +kernel), tw_dec (by decide +kernel)⟩
theorem mX7_173 : LV RX7 173 RX7 yX7_underlies := ⟨tw_dec (by decide +kernel), tw_dec (by decide +kernel), tw_dec (by decide +kernel)⟩
theorem mX7_180 : LV RX7 180 RX7 yX7_layers := ⟨tw_dec (by decide +kernel), tw_dec (by decide +kernel), tw_dec (by decide +kernel)⟩
theorem mX7_184 : LV RX7 184 RX7 yX7_returns := ⟨tw_dec (by decide +kernel), tw_dec (by decide +kernel), tw_dec (by decide +kernel)⟩
theorem mX7_187 : LV RX7 187 RX7 yX7_walks := ⟨tw_dec (by decide +kernel), tw_dec (by decide +kernel), tw_dec (by decide +kernel)⟩
theorem mX7_190 : LV RX7 190 RX7 yX7_cycle := ⟨tw_dec (by decide +kernel), tw_dec (by decide +kernel), tw_dec (by decide +kernel)⟩
theorem mX7_193 : LV RX7 193 RX7 yX7_onLayers := ⟨tw_dec (by decide +kernel), tw_dec (by decide +kernel), tw_dec (by decide +kernel)⟩
theorem mX7_196 : LV RX7 196 RX7 yX7_set := ⟨tw_dec (by decide +kernel), tw_dec (by decide +kernel), tw_dec (by decide +kernel)⟩
theorem mX7_199 : LV RX7 199 RX7 yX7_shadowed := ⟨tw_dec (by decide +kernel), tw_dec (by decide +kernel), tw_dec (by decide +kernel)⟩
theorem mX7_202 : LV RX7 202 RX7 yX7_longest := ⟨tw_dec (by decide +kernel), tw_dec (by decide +kernel), tw_dec (by decide +kernel)⟩
theorem mX7_206 : LV RX7 206 RX7 yX7_apart := ⟨tw_dec (by decide +kernel), tw_dec (by decide +kernel), tw_dec (by decide +kernel)⟩
theorem mX7_210 : LV RX7 210 RX7 yX7_isFound := ⟨tw_dec (by decide +kernel), tw_dec (by decide +kernel), tw_dec (by decide +kernel)⟩
theorem mX7_213 : LV RX7 213 RX7 yX7_bestKey := ⟨tw_dec (by decide +kernel), tw_dec (by decide +kernel), tw_dec (by decide +kernel)⟩
theorem mX7_216 : LV RX7 216 RX7 yX7_allEntries := ⟨tw_dec (by decide +kernel), tw_dec (by decide +kernel), tw_dec (by decide +kernel)⟩
theorem mX7_220 : LV RX7 220 RX7 yX7_twins := ⟨tw_dec (by decide +kernel), tw_dec (by decide +kernel), tw_dec (by decide +kernel)⟩
theorem mX1_58 : LN RX1 58 yX6_isKey RX6 := ⟨by simp [nests], tw_dec (by decide +kernel)⟩
theorem mX1_81 : LN RX1 81 yX6_isMap RX6 := ⟨by simp [nests], tw_dec (by decide +kernel)⟩
theorem mX2_53 : LN RX2 53 yX6_isKey RX6 := ⟨by simp [nests], tw_dec (by decide +kernel)⟩
theorem mX3_38 : LN RX3 38 yX6_isMap RX6 := ⟨by simp [nests], tw_dec (by decide +kernel)⟩
theorem kJ6_265 : Cond.constant RJ6 265 (1431655765) ∈ TWg := tw_dec (by decide +kernel)
theorem kJ6_266 : Cond.constant RJ6 266 (858993459) ∈ TWg := tw_dec (by decide +kernel)
theorem kJ6_267 : Cond.constant RJ6 267 (252645135) ∈ TWg := tw_dec (by decide +kernel)
theorem kX6_209 : Cond.constant RX6 209 (1000000) ∈ TWg := tw_dec (by decide +kernel)
theorem kX6_225 : Cond.constant RX6 225 (65535) ∈ TWg := tw_dec (by decide +kernel)
theorem kX6_266 : Cond.constant RX6 266 (65536) ∈ TWg := tw_dec (by decide +kernel)
theorem kX7_205 : Cond.constant RX7 205 (1000000) ∈ TWg := tw_dec (by decide +kernel)
theorem kX7_209 : Cond.constant RX7 209 (65535) ∈ TWg := tw_dec (by decide +kernel)
