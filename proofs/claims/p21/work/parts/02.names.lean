def RX0 : String := "Twoends$Row"
def TX0 : u_T := fun k => match k with
  | 0 => ("Twoends$Row", "cells", "[I", true)
  | _ => ("Twoends$Row", "count", "I", false)
def tyX0 : Nat → FieldType := fun k => match k with
  | 0 => .array .int
  | _ => .int
abbrev wsX00 : List Cond := u_ws RX0 TX0 2
theorem nmX0 : ∀ a, a < 2 → ∀ b, b < 2 → a ≠ b → (TX0 a).2.1 ≠ (TX0 b).2.1 := by decide +kernel
theorem tyX0_ok : ∀ k, k < 2 → parseFieldDescriptor (TX0 k).2.2.1 = some (tyX0 k) := by decide +kernel
abbrev cX0_init : ByteArray := prog_2_method_1_code
def yX0_init : MethodName := ⟨RX0, "<init>", "(I)V"⟩
abbrev cX0_size : ByteArray := prog_2_method_2_code
def yX0_size : MethodName := ⟨RX0, "size", "()I"⟩
abbrev cX0_isEmpty : ByteArray := prog_2_method_3_code
def yX0_isEmpty : MethodName := ⟨RX0, "isEmpty", "()Z"⟩
abbrev cX0_isFull : ByteArray := prog_2_method_4_code
def yX0_isFull : MethodName := ⟨RX0, "isFull", "()Z"⟩
abbrev cX0_read : ByteArray := prog_2_method_5_code
def yX0_read : MethodName := ⟨RX0, "read", "(I)I"⟩
abbrev cX0_readFrom : ByteArray := prog_2_method_6_code
def yX0_readFrom : MethodName := ⟨RX0, "readFrom", "(ZI)I"⟩
abbrev cX0_overwrite : ByteArray := prog_2_method_7_code
def yX0_overwrite : MethodName := ⟨RX0, "overwrite", "(II)V"⟩
abbrev cX0_enter : ByteArray := prog_2_method_8_code
def yX0_enter : MethodName := ⟨RX0, "enter", "(II)V"⟩
abbrev cX0_enterLast : ByteArray := prog_2_method_9_code
def yX0_enterLast : MethodName := ⟨RX0, "enterLast", "(I)V"⟩
abbrev cX0_leave : ByteArray := prog_2_method_10_code
def yX0_leave : MethodName := ⟨RX0, "leave", "(I)I"⟩
abbrev cX0_empty : ByteArray := prog_2_method_11_code
def yX0_empty : MethodName := ⟨RX0, "empty", "()V"⟩
abbrev cX0_copyFrom : ByteArray := prog_2_method_12_code
def yX0_copyFrom : MethodName := ⟨RX0, "copyFrom", "(LTwoends$Row;)V"⟩
abbrev cX0_endPlace : ByteArray := prog_2_method_13_code
def yX0_endPlace : MethodName := ⟨RX0, "endPlace", "(Z)I"⟩
abbrev cX0_placeOf : ByteArray := prog_2_method_14_code
def yX0_placeOf : MethodName := ⟨RX0, "placeOf", "(IZ)I"⟩
abbrev cX0_placeOfKind : ByteArray := prog_2_method_15_code
def yX0_placeOfKind : MethodName := ⟨RX0, "placeOfKind", "(IZ)I"⟩
def RX1 : String := "Twoends$Walk"
def TX1 : u_T := fun k => match k with
  | 0 => ("Twoends$Walk", "isOn", "Z", false)
  | 1 => ("Twoends$Walk", "isFromBack", "Z", false)
  | 2 => ("Twoends$Walk", "next", "I", false)
  | _ => ("Twoends$Walk", "held", "I", false)
def tyX1 : Nat → FieldType := fun k => match k with
  | 0 => .boolean
  | 1 => .boolean
  | 2 => .int
  | _ => .int
abbrev wsX10 : List Cond := u_ws RX1 TX1 4
theorem nmX1 : ∀ a, a < 4 → ∀ b, b < 4 → a ≠ b → (TX1 a).2.1 ≠ (TX1 b).2.1 := by decide +kernel
theorem tyX1_ok : ∀ k, k < 4 → parseFieldDescriptor (TX1 k).2.2.1 = some (tyX1 k) := by decide +kernel
abbrev cX1_init : ByteArray := prog_3_method_1_code
def yX1_init : MethodName := ⟨RX1, "<init>", "()V"⟩
abbrev cX1_begin : ByteArray := prog_3_method_2_code
def yX1_begin : MethodName := ⟨RX1, "begin", "(ZI)V"⟩
abbrev cX1_end : ByteArray := prog_3_method_3_code
def yX1_end : MethodName := ⟨RX1, "end", "()V"⟩
abbrev cX1_hasNext : ByteArray := prog_3_method_4_code
def yX1_hasNext : MethodName := ⟨RX1, "hasNext", "(I)Z"⟩
abbrev cX1_goOn : ByteArray := prog_3_method_5_code
def yX1_goOn : MethodName := ⟨RX1, "goOn", "()V"⟩
abbrev cX1_letGo : ByteArray := prog_3_method_6_code
def yX1_letGo : MethodName := ⟨RX1, "letGo", "()V"⟩
def RX2 : String := "Twoends$Walker"
def TX2 : u_T := fun k => match k with
  | 0 => ("Twoends$Walker", "state", "I", false)
  | 1 => ("Twoends$Walker", "cleft", "I", false)
  | _ => ("Twoends$Walker", "held", "I", false)
def tyX2 : Nat → FieldType := fun k => match k with
  | 0 => .int
  | 1 => .int
  | _ => .int
abbrev wsX20 : List Cond := u_ws RX2 TX2 3
theorem nmX2 : ∀ a, a < 3 → ∀ b, b < 3 → a ≠ b → (TX2 a).2.1 ≠ (TX2 b).2.1 := by decide +kernel
theorem tyX2_ok : ∀ k, k < 3 → parseFieldDescriptor (TX2 k).2.2.1 = some (tyX2 k) := by decide +kernel
abbrev cX2_init : ByteArray := prog_4_method_1_code
def yX2_init : MethodName := ⟨RX2, "<init>", "()V"⟩
abbrev cX2_standAt : ByteArray := prog_4_method_2_code
def yX2_standAt : MethodName := ⟨RX2, "standAt", "(I)V"⟩
abbrev cX2_growStale : ByteArray := prog_4_method_3_code
def yX2_growStale : MethodName := ⟨RX2, "growStale", "()V"⟩
abbrev cX2_isFresh : ByteArray := prog_4_method_4_code
def yX2_isFresh : MethodName := ⟨RX2, "isFresh", "()Z"⟩
abbrev cX2_holds : ByteArray := prog_4_method_5_code
def yX2_holds : MethodName := ⟨RX2, "holds", "()Z"⟩
abbrev cX2_goForth : ByteArray := prog_4_method_6_code
def yX2_goForth : MethodName := ⟨RX2, "goForth", "()V"⟩
abbrev cX2_goBack : ByteArray := prog_4_method_7_code
def yX2_goBack : MethodName := ⟨RX2, "goBack", "()V"⟩
abbrev cX2_loseHeld : ByteArray := prog_4_method_8_code
def yX2_loseHeld : MethodName := ⟨RX2, "loseHeld", "()V"⟩
abbrev cX2_passNew : ByteArray := prog_4_method_9_code
def yX2_passNew : MethodName := ⟨RX2, "passNew", "()V"⟩
def RX3 : String := "Twoends"
def TX3 : u_T := fun k => match k with
  | 0 => ("Twoends", "siding", "LTwoends$Row;", true)
  | 1 => ("Twoends", "line", "LTwoends$Row;", true)
  | 2 => ("Twoends", "slips", "LTwoends$Row;", true)
  | 3 => ("Twoends", "orders", "LTwoends$Row;", true)
  | 4 => ("Twoends", "sidingWalk", "LTwoends$Walk;", true)
  | 5 => ("Twoends", "walkerZero", "LTwoends$Walker;", true)
  | 6 => ("Twoends", "walkerOne", "LTwoends$Walker;", true)
  | 7 => ("Twoends", "knocks", "I", false)
  | 8 => ("Twoends", "paperSiding", "LTwoends$Row;", true)
  | 9 => ("Twoends", "paperLine", "LTwoends$Row;", true)
  | _ => ("Twoends", "openBrackets", "LTwoends$Row;", true)
def tyX3 : Nat → FieldType := fun k => match k with
  | 0 => .object "Twoends$Row"
  | 1 => .object "Twoends$Row"
  | 2 => .object "Twoends$Row"
  | 3 => .object "Twoends$Row"
  | 4 => .object "Twoends$Walk"
  | 5 => .object "Twoends$Walker"
  | 6 => .object "Twoends$Walker"
  | 7 => .int
  | 8 => .object "Twoends$Row"
  | 9 => .object "Twoends$Row"
  | _ => .object "Twoends$Row"
abbrev wsX30 : List Cond := u_ws RX3 TX3 11
theorem nmX3 : ∀ a, a < 11 → ∀ b, b < 11 → a ≠ b → (TX3 a).2.1 ≠ (TX3 b).2.1 := by decide +kernel
theorem tyX3_ok : ∀ k, k < 11 → parseFieldDescriptor (TX3 k).2.2.1 = some (tyX3 k) := by decide +kernel
abbrev cX3_init : ByteArray := prog_1_method_1_code
def yX3_init : MethodName := ⟨RX3, "<init>", "()V"⟩
abbrev cX3_join : ByteArray := prog_1_method_2_code
def yX3_join : MethodName := ⟨RX3, "join", "(IZII)I"⟩
abbrev cX3_offer : ByteArray := prog_1_method_3_code
def yX3_offer : MethodName := ⟨RX3, "offer", "(IZII)Z"⟩
abbrev cX3_push : ByteArray := prog_1_method_4_code
def yX3_push : MethodName := ⟨RX3, "push", "(III)I"⟩
abbrev cX3_append : ByteArray := prog_1_method_5_code
def yX3_append : MethodName := ⟨RX3, "append", "(III)I"⟩
abbrev cX3_train : ByteArray := prog_1_method_6_code
def yX3_train : MethodName := ⟨RX3, "train", "(IIII)I"⟩
abbrev cX3_take : ByteArray := prog_1_method_7_code
def yX3_take : MethodName := ⟨RX3, "take", "(IZ)I"⟩
abbrev cX3_poll : ByteArray := prog_1_method_8_code
def yX3_poll : MethodName := ⟨RX3, "poll", "(IZ)I"⟩
abbrev cX3_pop : ByteArray := prog_1_method_9_code
def yX3_pop : MethodName := ⟨RX3, "pop", "(I)I"⟩
abbrev cX3_serve : ByteArray := prog_1_method_10_code
def yX3_serve : MethodName := ⟨RX3, "serve", "(IZ)I"⟩
abbrev cX3_rotate : ByteArray := prog_1_method_11_code
def yX3_rotate : MethodName := ⟨RX3, "rotate", "(II)I"⟩
abbrev cX3_undo : ByteArray := prog_1_method_12_code
def yX3_undo : MethodName := ⟨RX3, "undo", "()I"⟩
abbrev cX3_drop : ByteArray := prog_1_method_13_code
def yX3_drop : MethodName := ⟨RX3, "drop", "(IIZ)Z"⟩
abbrev cX3_dropAll : ByteArray := prog_1_method_14_code
def yX3_dropAll : MethodName := ⟨RX3, "dropAll", "(II)I"⟩
abbrev cX3_shed : ByteArray := prog_1_method_15_code
def yX3_shed : MethodName := ⟨RX3, "shed", "(IZII)I"⟩
abbrev cX3_thin : ByteArray := prog_1_method_16_code
def yX3_thin : MethodName := ⟨RX3, "thin", "(IZI)I"⟩
abbrev cX3_turn : ByteArray := prog_1_method_17_code
def yX3_turn : MethodName := ⟨RX3, "turn", "(I)I"⟩
abbrev cX3_clear : ByteArray := prog_1_method_18_code
def yX3_clear : MethodName := ⟨RX3, "clear", "(I)I"⟩
abbrev cX3_purge : ByteArray := prog_1_method_19_code
def yX3_purge : MethodName := ⟨RX3, "purge", "(Z)I"⟩
abbrev cX3_walk : ByteArray := prog_1_method_20_code
def yX3_walk : MethodName := ⟨RX3, "walk", "(Z)I"⟩
abbrev cX3_step : ByteArray := prog_1_method_21_code
def yX3_step : MethodName := ⟨RX3, "step", "()I"⟩
abbrev cX3_pluck : ByteArray := prog_1_method_22_code
def yX3_pluck : MethodName := ⟨RX3, "pluck", "()I"⟩
abbrev cX3_insert : ByteArray := prog_1_method_23_code
def yX3_insert : MethodName := ⟨RX3, "insert", "(III)I"⟩
abbrev cX3_cut : ByteArray := prog_1_method_24_code
def yX3_cut : MethodName := ⟨RX3, "cut", "(I)I"⟩
abbrev cX3_replace : ByteArray := prog_1_method_25_code
def yX3_replace : MethodName := ⟨RX3, "replace", "(III)I"⟩
abbrev cX3_at : ByteArray := prog_1_method_26_code
def yX3_at : MethodName := ⟨RX3, "at", "(I)I"⟩
abbrev cX3_find : ByteArray := prog_1_method_27_code
def yX3_find : MethodName := ⟨RX3, "find", "(IZ)I"⟩
abbrev cX3_splice : ByteArray := prog_1_method_28_code
def yX3_splice : MethodName := ⟨RX3, "splice", "(I)I"⟩
abbrev cX3_shunt : ByteArray := prog_1_method_29_code
def yX3_shunt : MethodName := ⟨RX3, "shunt", "(II)I"⟩
abbrev cX3_stand : ByteArray := prog_1_method_30_code
def yX3_stand : MethodName := ⟨RX3, "stand", "(II)I"⟩
abbrev cX3_forth : ByteArray := prog_1_method_31_code
def yX3_forth : MethodName := ⟨RX3, "forth", "(I)I"⟩
abbrev cX3_back : ByteArray := prog_1_method_32_code
def yX3_back : MethodName := ⟨RX3, "back", "(I)I"⟩
abbrev cX3_takeHeld : ByteArray := prog_1_method_33_code
def yX3_takeHeld : MethodName := ⟨RX3, "takeHeld", "(I)I"⟩
abbrev cX3_setHeld : ByteArray := prog_1_method_34_code
def yX3_setHeld : MethodName := ⟨RX3, "setHeld", "(III)I"⟩
abbrev cX3_put : ByteArray := prog_1_method_35_code
def yX3_put : MethodName := ⟨RX3, "put", "(III)I"⟩
abbrev cX3_where : ByteArray := prog_1_method_36_code
def yX3_where : MethodName := ⟨RX3, "where", "(II)I"⟩
abbrev cX3_order : ByteArray := prog_1_method_37_code
def yX3_order : MethodName := ⟨RX3, "order", "(I)I"⟩
abbrev cX3_work : ByteArray := prog_1_method_38_code
def yX3_work : MethodName := ⟨RX3, "work", "(I)I"⟩
abbrev cX3_cancel : ByteArray := prog_1_method_39_code
def yX3_cancel : MethodName := ⟨RX3, "cancel", "(IZ)Z"⟩
abbrev cX3_ask : ByteArray := prog_1_method_40_code
def yX3_ask : MethodName := ⟨RX3, "ask", "(II)I"⟩
abbrev cX3_ofTrack : ByteArray := prog_1_method_41_code
def yX3_ofTrack : MethodName := ⟨RX3, "ofTrack", "(II)I"⟩
abbrev cX3_has : ByteArray := prog_1_method_42_code
def yX3_has : MethodName := ⟨RX3, "has", "(II)Z"⟩
abbrev cX3_compare : ByteArray := prog_1_method_43_code
def yX3_compare : MethodName := ⟨RX3, "compare", "(Z)Z"⟩
abbrev cX3_text : ByteArray := prog_1_method_44_code
def yX3_text : MethodName := ⟨RX3, "text", "(IZ)Ljava/lang/String;"⟩
abbrev cX3_nested : ByteArray := prog_1_method_45_code
def yX3_nested : MethodName := ⟨RX3, "nested", "(I)I"⟩
abbrev cX3_heaviest : ByteArray := prog_1_method_46_code
def yX3_heaviest : MethodName := ⟨RX3, "heaviest", "(III)I"⟩
abbrev cX3_ahead : ByteArray := prog_1_method_47_code
def yX3_ahead : MethodName := ⟨RX3, "ahead", "(II)I"⟩
abbrev cX3_yard : ByteArray := prog_1_method_48_code
def yX3_yard : MethodName := ⟨RX3, "yard", "(I)I"⟩
abbrev cX3_knock : ByteArray := prog_1_method_49_code
def yX3_knock : MethodName := ⟨RX3, "knock", "()I"⟩
abbrev cX3_isSound : ByteArray := prog_1_method_50_code
def yX3_isSound : MethodName := ⟨RX3, "isSound", "()Z"⟩
abbrev cX3_digest : ByteArray := prog_1_method_51_code
def yX3_digest : MethodName := ⟨RX3, "digest", "()J"⟩
abbrev cX3_needWithin : ByteArray := prog_1_method_52_code
def yX3_needWithin : MethodName := ⟨RX3, "needWithin", "(III)V"⟩
abbrev cX3_needTrack : ByteArray := prog_1_method_53_code
def yX3_needTrack : MethodName := ⟨RX3, "needTrack", "(I)V"⟩
abbrev cX3_needWalker : ByteArray := prog_1_method_54_code
def yX3_needWalker : MethodName := ⟨RX3, "needWalker", "(I)V"⟩
abbrev cX3_needPlace : ByteArray := prog_1_method_55_code
def yX3_needPlace : MethodName := ⟨RX3, "needPlace", "(II)V"⟩
abbrev cX3_needPiece : ByteArray := prog_1_method_56_code
def yX3_needPiece : MethodName := ⟨RX3, "needPiece", "(II)V"⟩
abbrev cX3_needKindOf : ByteArray := prog_1_method_57_code
def yX3_needKindOf : MethodName := ⟨RX3, "needKindOf", "(II)V"⟩
abbrev cX3_needRoom : ByteArray := prog_1_method_58_code
def yX3_needRoom : MethodName := ⟨RX3, "needRoom", "(II)V"⟩
abbrev cX3_needWalk : ByteArray := prog_1_method_59_code
def yX3_needWalk : MethodName := ⟨RX3, "needWalk", "()V"⟩
abbrev cX3_needSomewhere : ByteArray := prog_1_method_60_code
def yX3_needSomewhere : MethodName := ⟨RX3, "needSomewhere", "(I)V"⟩
abbrev cX3_codeOf : ByteArray := prog_1_method_61_code
def yX3_codeOf : MethodName := ⟨RX3, "codeOf", "(II)I"⟩
abbrev cX3_kindOf : ByteArray := prog_1_method_62_code
def yX3_kindOf : MethodName := ⟨RX3, "kindOf", "(I)I"⟩
abbrev cX3_loadOf : ByteArray := prog_1_method_63_code
def yX3_loadOf : MethodName := ⟨RX3, "loadOf", "(I)I"⟩
abbrev cX3_slipOf : ByteArray := prog_1_method_64_code
def yX3_slipOf : MethodName := ⟨RX3, "slipOf", "(IZZI)I"⟩
abbrev cX3_slipTrack : ByteArray := prog_1_method_65_code
def yX3_slipTrack : MethodName := ⟨RX3, "slipTrack", "(I)I"⟩
abbrev cX3_slipIsBack : ByteArray := prog_1_method_66_code
def yX3_slipIsBack : MethodName := ⟨RX3, "slipIsBack", "(I)Z"⟩
abbrev cX3_slipIsPut : ByteArray := prog_1_method_67_code
def yX3_slipIsPut : MethodName := ⟨RX3, "slipIsPut", "(I)Z"⟩
abbrev cX3_slipCode : ByteArray := prog_1_method_68_code
def yX3_slipCode : MethodName := ⟨RX3, "slipCode", "(I)I"⟩
abbrev cX3_oneIf : ByteArray := prog_1_method_69_code
def yX3_oneIf : MethodName := ⟨RX3, "oneIf", "(Z)I"⟩
abbrev cX3_trackOf : ByteArray := prog_1_method_70_code
def yX3_trackOf : MethodName := ⟨RX3, "trackOf", "(I)LTwoends$Row;"⟩
abbrev cX3_walkerOf : ByteArray := prog_1_method_71_code
def yX3_walkerOf : MethodName := ⟨RX3, "walkerOf", "(I)LTwoends$Walker;"⟩
abbrev cX3_bringPiece : ByteArray := prog_1_method_72_code
def yX3_bringPiece : MethodName := ⟨RX3, "bringPiece", "(IZII)Z"⟩
abbrev cX3_fetchPiece : ByteArray := prog_1_method_73_code
def yX3_fetchPiece : MethodName := ⟨RX3, "fetchPiece", "(IZI)I"⟩
abbrev cX3_stepOn : ByteArray := prog_1_method_74_code
def yX3_stepOn : MethodName := ⟨RX3, "stepOn", "(IZI)V"⟩
abbrev cX3_stepOff : ByteArray := prog_1_method_75_code
def yX3_stepOff : MethodName := ⟨RX3, "stepOff", "(IZ)I"⟩
abbrev cX3_laySlip : ByteArray := prog_1_method_76_code
def yX3_laySlip : MethodName := ⟨RX3, "laySlip", "(I)V"⟩
abbrev cX3_disturb : ByteArray := prog_1_method_77_code
def yX3_disturb : MethodName := ⟨RX3, "disturb", "(I)V"⟩
abbrev cX3_tearFor : ByteArray := prog_1_method_78_code
def yX3_tearFor : MethodName := ⟨RX3, "tearFor", "(I)V"⟩
abbrev cX3_tearIfAny : ByteArray := prog_1_method_79_code
def yX3_tearIfAny : MethodName := ⟨RX3, "tearIfAny", "(II)V"⟩
abbrev cX3_tearForWalker : ByteArray := prog_1_method_80_code
def yX3_tearForWalker : MethodName := ⟨RX3, "tearForWalker", "(I)V"⟩
abbrev cX3_layAnew : ByteArray := prog_1_method_81_code
def yX3_layAnew : MethodName := ⟨RX3, "layAnew", "(II)V"⟩
abbrev cX3_orderTrack : ByteArray := prog_1_method_82_code
def yX3_orderTrack : MethodName := ⟨RX3, "orderTrack", "(I)I"⟩
abbrev cX3_orderIsFromBack : ByteArray := prog_1_method_83_code
def yX3_orderIsFromBack : MethodName := ⟨RX3, "orderIsFromBack", "(I)Z"⟩
abbrev cX3_orderIsToBack : ByteArray := prog_1_method_84_code
def yX3_orderIsToBack : MethodName := ⟨RX3, "orderIsToBack", "(I)Z"⟩
abbrev cX3_canMove : ByteArray := prog_1_method_85_code
def yX3_canMove : MethodName := ⟨RX3, "canMove", "(I)Z"⟩
abbrev cX3_move : ByteArray := prog_1_method_86_code
def yX3_move : MethodName := ⟨RX3, "move", "(I)V"⟩
abbrev cX3_codeAtEnd : ByteArray := prog_1_method_87_code
def yX3_codeAtEnd : MethodName := ⟨RX3, "codeAtEnd", "(IZ)I"⟩
abbrev cX3_atEnd : ByteArray := prog_1_method_88_code
def yX3_atEnd : MethodName := ⟨RX3, "atEnd", "(II)I"⟩
abbrev cX3_factOfTrack : ByteArray := prog_1_method_89_code
def yX3_factOfTrack : MethodName := ⟨RX3, "factOfTrack", "(II)I"⟩
abbrev cX3_sumOfLoads : ByteArray := prog_1_method_90_code
def yX3_sumOfLoads : MethodName := ⟨RX3, "sumOfLoads", "(LTwoends$Row;)I"⟩
abbrev cX3_sealOf : ByteArray := prog_1_method_91_code
def yX3_sealOf : MethodName := ⟨RX3, "sealOf", "(LTwoends$Row;)I"⟩
abbrev cX3_ofWalker : ByteArray := prog_1_method_92_code
def yX3_ofWalker : MethodName := ⟨RX3, "ofWalker", "(II)I"⟩
abbrev cX3_factOfYard : ByteArray := prog_1_method_93_code
def yX3_factOfYard : MethodName := ⟨RX3, "factOfYard", "(I)I"⟩
abbrev cX3_wayOfWalk : ByteArray := prog_1_method_94_code
def yX3_wayOfWalk : MethodName := ⟨RX3, "wayOfWalk", "()I"⟩
abbrev cX3_isLikeOneOf : ByteArray := prog_1_method_95_code
def yX3_isLikeOneOf : MethodName := ⟨RX3, "isLikeOneOf", "(LTwoends$Row;I)Z"⟩
abbrev cX3_isSameAllAlong : ByteArray := prog_1_method_96_code
def yX3_isSameAllAlong : MethodName := ⟨RX3, "isSameAllAlong", "()Z"⟩
abbrev cX3_isSidingAmongLine : ByteArray := prog_1_method_97_code
def yX3_isSidingAmongLine : MethodName := ⟨RX3, "isSidingAmongLine", "()Z"⟩
abbrev cX3_writtenLength : ByteArray := prog_1_method_98_code
def yX3_writtenLength : MethodName := ⟨RX3, "writtenLength", "(LTwoends$Row;)I"⟩
abbrev cX3_mostOpen : ByteArray := prog_1_method_99_code
def yX3_mostOpen : MethodName := ⟨RX3, "mostOpen", "(I)I"⟩
abbrev cX3_closedBy : ByteArray := prog_1_method_100_code
def yX3_closedBy : MethodName := ⟨RX3, "closedBy", "(I)Z"⟩
abbrev cX3_isRowSound : ByteArray := prog_1_method_101_code
def yX3_isRowSound : MethodName := ⟨RX3, "isRowSound", "(LTwoends$Row;)Z"⟩
abbrev cX3_isLineFound : ByteArray := prog_1_method_102_code
def yX3_isLineFound : MethodName := ⟨RX3, "isLineFound", "()Z"⟩
abbrev cX3_isWalkerSound : ByteArray := prog_1_method_103_code
def yX3_isWalkerSound : MethodName := ⟨RX3, "isWalkerSound", "(LTwoends$Walker;)Z"⟩
abbrev cX3_isUndoneOnPaper : ByteArray := prog_1_method_104_code
def yX3_isUndoneOnPaper : MethodName := ⟨RX3, "isUndoneOnPaper", "()Z"⟩
abbrev cX3_isUndoneOn : ByteArray := prog_1_method_105_code
def yX3_isUndoneOn : MethodName := ⟨RX3, "isUndoneOn", "(LTwoends$Row;I)Z"⟩
abbrev cX3_with : ByteArray := prog_1_method_106_code
def yX3_with : MethodName := ⟨RX3, "with", "(JI)J"⟩
abbrev cX3_withTrack : ByteArray := prog_1_method_107_code
def yX3_withTrack : MethodName := ⟨RX3, "withTrack", "(JI)J"⟩
abbrev cX3_withWalker : ByteArray := prog_1_method_108_code
def yX3_withWalker : MethodName := ⟨RX3, "withWalker", "(JI)J"⟩
def RX4 : String := "TwoendsLaw$Out"
def TX4 : u_T := fun k => match k with
  | 0 => ("TwoendsLaw$Out", "n", "J", false)
  | _ => ("TwoendsLaw$Out", "s", "Ljava/lang/String;", false)
def tyX4 : Nat → FieldType := fun k => match k with
  | 0 => .long
  | _ => .object "java/lang/String"
abbrev wsX40 : List Cond := u_ws RX4 TX4 2
theorem nmX4 : ∀ a, a < 2 → ∀ b, b < 2 → a ≠ b → (TX4 a).2.1 ≠ (TX4 b).2.1 := by decide +kernel
theorem tyX4_ok : ∀ k, k < 2 → parseFieldDescriptor (TX4 k).2.2.1 = some (tyX4 k) := by decide +kernel
abbrev cX4_init : ByteArray := prog_6_method_1_code
def yX4_init : MethodName := ⟨RX4, "<init>", "()V"⟩
def RX5 : String := "TwoendsModel$Walker"
def TX5 : u_T := fun k => match k with
  | 0 => ("TwoendsModel$Walker", "state", "I", false)
  | 1 => ("TwoendsModel$Walker", "cleft", "I", false)
  | _ => ("TwoendsModel$Walker", "held", "I", false)
def tyX5 : Nat → FieldType := fun k => match k with
  | 0 => .int
  | 1 => .int
  | _ => .int
abbrev wsX50 : List Cond := u_ws RX5 TX5 3
theorem nmX5 : ∀ a, a < 3 → ∀ b, b < 3 → a ≠ b → (TX5 a).2.1 ≠ (TX5 b).2.1 := by decide +kernel
theorem tyX5_ok : ∀ k, k < 3 → parseFieldDescriptor (TX5 k).2.2.1 = some (tyX5 k) := by decide +kernel
abbrev cX5_init : ByteArray := prog_8_method_1_code
def yX5_init : MethodName := ⟨RX5, "<init>", "()V"⟩
def RX6 : String := "TwoendsModel"
def TX6 : u_T := fun k => match k with
  | 0 => ("TwoendsModel", "thrown", "I", false)
  | 1 => ("TwoendsModel", "tracks", "Ljava/util/ArrayList;", true)
  | 2 => ("TwoendsModel", "slips", "Ljava/util/ArrayList;", true)
  | 3 => ("TwoendsModel", "orders", "Ljava/util/ArrayList;", true)
  | 4 => ("TwoendsModel", "walkers", "[LTwoendsModel$Walker;", true)
  | 5 => ("TwoendsModel", "walk", "I", false)
  | 6 => ("TwoendsModel", "next", "I", false)
  | 7 => ("TwoendsModel", "held", "I", false)
  | _ => ("TwoendsModel", "knocks", "I", false)
def tyX6 : Nat → FieldType := fun k => match k with
  | 0 => .int
  | 1 => .object "java/util/ArrayList"
  | 2 => .object "java/util/ArrayList"
  | 3 => .object "java/util/ArrayList"
  | 4 => .array (.object "TwoendsModel$Walker")
  | 5 => .int
  | 6 => .int
  | 7 => .int
  | _ => .int
abbrev wsX60 : List Cond := u_ws RX6 TX6 9
theorem nmX6 : ∀ a, a < 9 → ∀ b, b < 9 → a ≠ b → (TX6 a).2.1 ≠ (TX6 b).2.1 := by decide +kernel
theorem tyX6_ok : ∀ k, k < 9 → parseFieldDescriptor (TX6 k).2.2.1 = some (tyX6 k) := by decide +kernel
abbrev cX6_isIn : ByteArray := prog_7_method_1_code
def yX6_isIn : MethodName := ⟨RX6, "isIn", "(III)Z"⟩
abbrev cX6_one : ByteArray := prog_7_method_2_code
def yX6_one : MethodName := ⟨RX6, "one", "(Z)I"⟩
abbrev cX6_init : ByteArray := prog_7_method_3_code
def yX6_init : MethodName := ⟨RX6, "<init>", "()V"⟩
abbrev cX6_thrown : ByteArray := prog_7_method_4_code
def yX6_thrown : MethodName := ⟨RX6, "thrown", "()I"⟩
abbrev cX6_refuse : ByteArray := prog_7_method_5_code
def yX6_refuse : MethodName := ⟨RX6, "refuse", "(ZI)Z"⟩
abbrev cX6_start : ByteArray := prog_7_method_6_code
def yX6_start : MethodName := ⟨RX6, "start", "(ZI)Z"⟩
abbrev cX6_isNoTrack : ByteArray := prog_7_method_7_code
def yX6_isNoTrack : MethodName := ⟨RX6, "isNoTrack", "(I)Z"⟩
abbrev cX6_isNoPiece : ByteArray := prog_7_method_8_code
def yX6_isNoPiece : MethodName := ⟨RX6, "isNoPiece", "(II)Z"⟩
abbrev cX6_code : ByteArray := prog_7_method_9_code
def yX6_code : MethodName := ⟨RX6, "code", "(II)I"⟩
abbrev cX6_kind : ByteArray := prog_7_method_10_code
def yX6_kind : MethodName := ⟨RX6, "kind", "(I)I"⟩
abbrev cX6_load : ByteArray := prog_7_method_11_code
def yX6_load : MethodName := ⟨RX6, "load", "(I)I"⟩
abbrev cX6_size : ByteArray := prog_7_method_12_code
def yX6_size : MethodName := ⟨RX6, "size", "(I)I"⟩
abbrev cX6_get : ByteArray := prog_7_method_13_code
def yX6_get : MethodName := ⟨RX6, "get", "(II)I"⟩
abbrev cX6_changed : ByteArray := prog_7_method_14_code
def yX6_changed : MethodName := ⟨RX6, "changed", "(II)V"⟩
abbrev cX6_come : ByteArray := prog_7_method_15_code
def yX6_come : MethodName := ⟨RX6, "come", "(III)V"⟩
abbrev cX6_go : ByteArray := prog_7_method_16_code
def yX6_go : MethodName := ⟨RX6, "go", "(II)I"⟩
abbrev cX6_tear : ByteArray := prog_7_method_17_code
def yX6_tear : MethodName := ⟨RX6, "tear", "()V"⟩
abbrev cX6_slip : ByteArray := prog_7_method_18_code
def yX6_slip : MethodName := ⟨RX6, "slip", "(IZZI)V"⟩
abbrev cX6_stepIn : ByteArray := prog_7_method_19_code
def yX6_stepIn : MethodName := ⟨RX6, "stepIn", "(IZI)V"⟩
abbrev cX6_stepOut : ByteArray := prog_7_method_20_code
def yX6_stepOut : MethodName := ⟨RX6, "stepOut", "(IZ)I"⟩
abbrev cX6_mayNot : ByteArray := prog_7_method_21_code
def yX6_mayNot : MethodName := ⟨RX6, "mayNot", "(IIII)Z"⟩
abbrev cX6_isBarred : ByteArray := prog_7_method_22_code
def yX6_isBarred : MethodName := ⟨RX6, "isBarred", "(II)Z"⟩
abbrev cX6_join : ByteArray := prog_7_method_23_code
def yX6_join : MethodName := ⟨RX6, "join", "(IZII)I"⟩
abbrev cX6_offer : ByteArray := prog_7_method_24_code
def yX6_offer : MethodName := ⟨RX6, "offer", "(IZII)Z"⟩
abbrev cX6_push : ByteArray := prog_7_method_25_code
def yX6_push : MethodName := ⟨RX6, "push", "(III)I"⟩
abbrev cX6_append : ByteArray := prog_7_method_26_code
def yX6_append : MethodName := ⟨RX6, "append", "(III)I"⟩
abbrev cX6_train : ByteArray := prog_7_method_27_code
def yX6_train : MethodName := ⟨RX6, "train", "(IIII)I"⟩
abbrev cX6_off : ByteArray := prog_7_method_28_code
def yX6_off : MethodName := ⟨RX6, "off", "(IZI)I"⟩
abbrev cX6_take : ByteArray := prog_7_method_29_code
def yX6_take : MethodName := ⟨RX6, "take", "(IZ)I"⟩
abbrev cX6_poll : ByteArray := prog_7_method_30_code
def yX6_poll : MethodName := ⟨RX6, "poll", "(IZ)I"⟩
abbrev cX6_pop : ByteArray := prog_7_method_31_code
def yX6_pop : MethodName := ⟨RX6, "pop", "(I)I"⟩
abbrev cX6_serve : ByteArray := prog_7_method_32_code
def yX6_serve : MethodName := ⟨RX6, "serve", "(IZ)I"⟩
abbrev cX6_rotate : ByteArray := prog_7_method_33_code
def yX6_rotate : MethodName := ⟨RX6, "rotate", "(II)I"⟩
abbrev cX6_undo : ByteArray := prog_7_method_34_code
def yX6_undo : MethodName := ⟨RX6, "undo", "()I"⟩
abbrev cX6_found : ByteArray := prog_7_method_35_code
def yX6_found : MethodName := ⟨RX6, "found", "(IIZ)I"⟩
abbrev cX6_isNoKind : ByteArray := prog_7_method_36_code
def yX6_isNoKind : MethodName := ⟨RX6, "isNoKind", "(II)Z"⟩
abbrev cX6_drop : ByteArray := prog_7_method_37_code
def yX6_drop : MethodName := ⟨RX6, "drop", "(IIZ)Z"⟩
abbrev cX6_offAll : ByteArray := prog_7_method_38_code
def yX6_offAll : MethodName := ⟨RX6, "offAll", "(I[Z)I"⟩
abbrev cX6_dropAll : ByteArray := prog_7_method_39_code
def yX6_dropAll : MethodName := ⟨RX6, "dropAll", "(II)I"⟩
abbrev cX6_shed : ByteArray := prog_7_method_40_code
def yX6_shed : MethodName := ⟨RX6, "shed", "(IZII)I"⟩
abbrev cX6_thin : ByteArray := prog_7_method_41_code
def yX6_thin : MethodName := ⟨RX6, "thin", "(IZI)I"⟩
abbrev cX6_turn : ByteArray := prog_7_method_42_code
def yX6_turn : MethodName := ⟨RX6, "turn", "(I)I"⟩
abbrev cX6_clear : ByteArray := prog_7_method_43_code
def yX6_clear : MethodName := ⟨RX6, "clear", "(I)I"⟩
abbrev cX6_purge : ByteArray := prog_7_method_44_code
def yX6_purge : MethodName := ⟨RX6, "purge", "(Z)I"⟩
abbrev cX6_walk : ByteArray := prog_7_method_45_code
def yX6_walk : MethodName := ⟨RX6, "walk", "(Z)I"⟩
abbrev cX6_hasNext : ByteArray := prog_7_method_46_code
def yX6_hasNext : MethodName := ⟨RX6, "hasNext", "()Z"⟩
abbrev cX6_step : ByteArray := prog_7_method_47_code
def yX6_step : MethodName := ⟨RX6, "step", "()I"⟩
abbrev cX6_pluck : ByteArray := prog_7_method_48_code
def yX6_pluck : MethodName := ⟨RX6, "pluck", "()I"⟩
abbrev cX6_insert : ByteArray := prog_7_method_49_code
def yX6_insert : MethodName := ⟨RX6, "insert", "(III)I"⟩
abbrev cX6_isNoPlace : ByteArray := prog_7_method_50_code
def yX6_isNoPlace : MethodName := ⟨RX6, "isNoPlace", "(I)Z"⟩
abbrev cX6_cut : ByteArray := prog_7_method_51_code
def yX6_cut : MethodName := ⟨RX6, "cut", "(I)I"⟩
abbrev cX6_replace : ByteArray := prog_7_method_52_code
def yX6_replace : MethodName := ⟨RX6, "replace", "(III)I"⟩
abbrev cX6_at : ByteArray := prog_7_method_53_code
def yX6_at : MethodName := ⟨RX6, "at", "(I)I"⟩
abbrev cX6_find : ByteArray := prog_7_method_54_code
def yX6_find : MethodName := ⟨RX6, "find", "(IZ)I"⟩
abbrev cX6_splice : ByteArray := prog_7_method_55_code
def yX6_splice : MethodName := ⟨RX6, "splice", "(I)I"⟩
abbrev cX6_shunt : ByteArray := prog_7_method_56_code
def yX6_shunt : MethodName := ⟨RX6, "shunt", "(II)I"⟩
abbrev cX6_isNoWalker : ByteArray := prog_7_method_57_code
def yX6_isNoWalker : MethodName := ⟨RX6, "isNoWalker", "(I)Z"⟩
abbrev cX6_isNowhere : ByteArray := prog_7_method_58_code
def yX6_isNowhere : MethodName := ⟨RX6, "isNowhere", "(I)Z"⟩
abbrev cX6_stand : ByteArray := prog_7_method_59_code
def yX6_stand : MethodName := ⟨RX6, "stand", "(II)I"⟩
abbrev cX6_forth : ByteArray := prog_7_method_60_code
def yX6_forth : MethodName := ⟨RX6, "forth", "(I)I"⟩
abbrev cX6_back : ByteArray := prog_7_method_61_code
def yX6_back : MethodName := ⟨RX6, "back", "(I)I"⟩
abbrev cX6_takeHeld : ByteArray := prog_7_method_62_code
def yX6_takeHeld : MethodName := ⟨RX6, "takeHeld", "(I)I"⟩
abbrev cX6_setHeld : ByteArray := prog_7_method_63_code
def yX6_setHeld : MethodName := ⟨RX6, "setHeld", "(III)I"⟩
abbrev cX6_put : ByteArray := prog_7_method_64_code
def yX6_put : MethodName := ⟨RX6, "put", "(III)I"⟩
abbrev cX6_whereNow : ByteArray := prog_7_method_65_code
def yX6_whereNow : MethodName := ⟨RX6, "whereNow", "(II)I"⟩
abbrev cX6_where : ByteArray := prog_7_method_66_code
def yX6_where : MethodName := ⟨RX6, "where", "(II)I"⟩
abbrev cX6_order : ByteArray := prog_7_method_67_code
def yX6_order : MethodName := ⟨RX6, "order", "(I)I"⟩
abbrev cX6_move : ByteArray := prog_7_method_68_code
def yX6_move : MethodName := ⟨RX6, "move", "(I)Z"⟩
abbrev cX6_work : ByteArray := prog_7_method_69_code
def yX6_work : MethodName := ⟨RX6, "work", "(I)I"⟩
abbrev cX6_cancel : ByteArray := prog_7_method_70_code
def yX6_cancel : MethodName := ⟨RX6, "cancel", "(IZ)Z"⟩
abbrev cX6_asked : ByteArray := prog_7_method_71_code
def yX6_asked : MethodName := ⟨RX6, "asked", "(II)I"⟩
abbrev cX6_ask : ByteArray := prog_7_method_72_code
def yX6_ask : MethodName := ⟨RX6, "ask", "(II)I"⟩
abbrev cX6_trackTold : ByteArray := prog_7_method_73_code
def yX6_trackTold : MethodName := ⟨RX6, "trackTold", "(II)I"⟩
abbrev cX6_ofTrack : ByteArray := prog_7_method_74_code
def yX6_ofTrack : MethodName := ⟨RX6, "ofTrack", "(II)I"⟩
abbrev cX6_has : ByteArray := prog_7_method_75_code
def yX6_has : MethodName := ⟨RX6, "has", "(II)Z"⟩
abbrev cX6_compared : ByteArray := prog_7_method_76_code
def yX6_compared : MethodName := ⟨RX6, "compared", "(Z)Z"⟩
abbrev cX6_compare : ByteArray := prog_7_method_77_code
def yX6_compare : MethodName := ⟨RX6, "compare", "(Z)Z"⟩
abbrev cX6_textOf : ByteArray := prog_7_method_78_code
def yX6_textOf : MethodName := ⟨RX6, "textOf", "(IZ)Ljava/lang/String;"⟩
abbrev cX6_text : ByteArray := prog_7_method_79_code
def yX6_text : MethodName := ⟨RX6, "text", "(IZ)Ljava/lang/String;"⟩
abbrev cX6_nestedNow : ByteArray := prog_7_method_80_code
def yX6_nestedNow : MethodName := ⟨RX6, "nestedNow", "(I)I"⟩
abbrev cX6_nested : ByteArray := prog_7_method_81_code
def yX6_nested : MethodName := ⟨RX6, "nested", "(I)I"⟩
abbrev cX6_heaviest : ByteArray := prog_7_method_82_code
def yX6_heaviest : MethodName := ⟨RX6, "heaviest", "(III)I"⟩
abbrev cX6_ahead : ByteArray := prog_7_method_83_code
def yX6_ahead : MethodName := ⟨RX6, "ahead", "(II)I"⟩
abbrev cX6_yardTold : ByteArray := prog_7_method_84_code
def yX6_yardTold : MethodName := ⟨RX6, "yardTold", "(I)I"⟩
abbrev cX6_yard : ByteArray := prog_7_method_85_code
def yX6_yard : MethodName := ⟨RX6, "yard", "(I)I"⟩
abbrev cX6_knock : ByteArray := prog_7_method_86_code
def yX6_knock : MethodName := ⟨RX6, "knock", "()I"⟩
abbrev cX6_areSlips : ByteArray := prog_7_method_87_code
def yX6_areSlips : MethodName := ⟨RX6, "areSlips", "()Z"⟩
abbrev cX6_isWhole : ByteArray := prog_7_method_88_code
def yX6_isWhole : MethodName := ⟨RX6, "isWhole", "()Z"⟩
abbrev cX6_isSound : ByteArray := prog_7_method_89_code
def yX6_isSound : MethodName := ⟨RX6, "isSound", "()Z"⟩
abbrev cX6_add : ByteArray := prog_7_method_90_code
def yX6_add : MethodName := ⟨RX6, "add", "(JJ)J"⟩
abbrev cX6_digest : ByteArray := prog_7_method_91_code
def yX6_digest : MethodName := ⟨RX6, "digest", "()J"⟩
def RJx145de : String := "java/io/Serializable"
def TJx145de : u_T := fun k => match k with
  | _ => ("", "", "", false)
def tyJx145de : Nat → FieldType := fun k => match k with
  | _ => .int
abbrev wsJx145de0 : List Cond := u_ws RJx145de TJx145de 0
theorem nmJx145de : ∀ a, a < 0 → ∀ b, b < 0 → a ≠ b → (TJx145de a).2.1 ≠ (TJx145de b).2.1 := by decide +kernel
theorem tyJx145de_ok : ∀ k, k < 0 → parseFieldDescriptor (TJx145de k).2.2.1 = some (tyJx145de k) := by decide +kernel
def RJ5 : String := "java/lang/AbstractStringBuilder"
def TJ5 : u_T := fun k => match k with
  | _ => ("", "", "", false)
def tyJ5 : Nat → FieldType := fun k => match k with
  | _ => .int
abbrev wsJ50 : List Cond := u_ws RJ5 TJ5 0
theorem nmJ5 : ∀ a, a < 0 → ∀ b, b < 0 → a ≠ b → (TJ5 a).2.1 ≠ (TJ5 b).2.1 := by decide +kernel
theorem tyJ5_ok : ∀ k, k < 0 → parseFieldDescriptor (TJ5 k).2.2.1 = some (tyJ5 k) := by decide +kernel
abbrev cJ5_init_d00df : ByteArray := prog_10_method_2_code
def yJ5_init_d00df : MethodName := ⟨RJ5, "<init>", "(I)V"⟩
abbrev cJ5_length_8abf5 : ByteArray := prog_10_method_6_code
def yJ5_length_8abf5 : MethodName := ⟨RJ5, "length", "()I"⟩
abbrev cJ5_ensureCapacityInternal_d00df : ByteArray := prog_10_method_9_code
def yJ5_ensureCapacityInternal_d00df : MethodName := ⟨RJ5, "ensureCapacityInternal", "(I)V"⟩
abbrev cJ5_newCapacity_0f7a4 : ByteArray := prog_10_method_10_code
def yJ5_newCapacity_0f7a4 : MethodName := ⟨RJ5, "newCapacity", "(I)I"⟩
abbrev cJ5_inflate_da8c8 : ByteArray := prog_10_method_11_code
def yJ5_inflate_da8c8 : MethodName := ⟨RJ5, "inflate", "()V"⟩
abbrev cJ5_append_cf1ce : ByteArray := prog_10_method_22_code
def yJ5_append_cf1ce : MethodName := ⟨RJ5, "append", "(Ljava/lang/String;)Ljava/lang/AbstractStringBuilder;"⟩
abbrev cJ5_appendNull_278bc : ByteArray := prog_10_method_26_code
def yJ5_appendNull_278bc : MethodName := ⟨RJ5, "appendNull", "()Ljava/lang/AbstractStringBuilder;"⟩
abbrev cJ5_append_3fe6f : ByteArray := prog_10_method_31_code
def yJ5_append_3fe6f : MethodName := ⟨RJ5, "append", "(C)Ljava/lang/AbstractStringBuilder;"⟩
abbrev cJ5_append_c97b9 : ByteArray := prog_10_method_32_code
def yJ5_append_c97b9 : MethodName := ⟨RJ5, "append", "(I)Ljava/lang/AbstractStringBuilder;"⟩
abbrev cJ5_getValue_6d5f1 : ByteArray := prog_10_method_64_code
def yJ5_getValue_6d5f1 : MethodName := ⟨RJ5, "getValue", "()[B"⟩
abbrev cJ5_isLatin1_aae02 : ByteArray := prog_10_method_68_code
def yJ5_isLatin1_aae02 : MethodName := ⟨RJ5, "isLatin1", "()Z"⟩
abbrev cJ5_inflateIfNeededFor_a7421 : ByteArray := prog_10_method_71_code
def yJ5_inflateIfNeededFor_a7421 : MethodName := ⟨RJ5, "inflateIfNeededFor", "(Ljava/lang/String;)V"⟩
abbrev cJ5_putStringAt_47b60 : ByteArray := prog_10_method_73_code
def yJ5_putStringAt_47b60 : MethodName := ⟨RJ5, "putStringAt", "(ILjava/lang/String;)V"⟩
def RJx2cfe8 : String := "java/lang/Appendable"
def TJx2cfe8 : u_T := fun k => match k with
  | _ => ("", "", "", false)
def tyJx2cfe8 : Nat → FieldType := fun k => match k with
  | _ => .int
abbrev wsJx2cfe80 : List Cond := u_ws RJx2cfe8 TJx2cfe8 0
theorem nmJx2cfe8 : ∀ a, a < 0 → ∀ b, b < 0 → a ≠ b → (TJx2cfe8 a).2.1 ≠ (TJx2cfe8 b).2.1 := by decide +kernel
theorem tyJx2cfe8_ok : ∀ k, k < 0 → parseFieldDescriptor (TJx2cfe8 k).2.2.1 = some (tyJx2cfe8 k) := by decide +kernel
def RJx9f9b0 : String := "java/lang/CharSequence"
def TJx9f9b0 : u_T := fun k => match k with
  | _ => ("", "", "", false)
def tyJx9f9b0 : Nat → FieldType := fun k => match k with
  | _ => .int
abbrev wsJx9f9b00 : List Cond := u_ws RJx9f9b0 TJx9f9b0 0
theorem nmJx9f9b0 : ∀ a, a < 0 → ∀ b, b < 0 → a ≠ b → (TJx9f9b0 a).2.1 ≠ (TJx9f9b0 b).2.1 := by decide +kernel
theorem tyJx9f9b0_ok : ∀ k, k < 0 → parseFieldDescriptor (TJx9f9b0 k).2.2.1 = some (tyJx9f9b0 k) := by decide +kernel
def RJx8e188 : String := "java/lang/Cloneable"
def TJx8e188 : u_T := fun k => match k with
  | _ => ("", "", "", false)
def tyJx8e188 : Nat → FieldType := fun k => match k with
  | _ => .int
abbrev wsJx8e1880 : List Cond := u_ws RJx8e188 TJx8e188 0
theorem nmJx8e188 : ∀ a, a < 0 → ∀ b, b < 0 → a ≠ b → (TJx8e188 a).2.1 ≠ (TJx8e188 b).2.1 := by decide +kernel
theorem tyJx8e188_ok : ∀ k, k < 0 → parseFieldDescriptor (TJx8e188 k).2.2.1 = some (tyJx8e188 k) := by decide +kernel
def RJxb160c : String := "java/lang/Comparable"
def TJxb160c : u_T := fun k => match k with
  | _ => ("", "", "", false)
def tyJxb160c : Nat → FieldType := fun k => match k with
  | _ => .int
abbrev wsJxb160c0 : List Cond := u_ws RJxb160c TJxb160c 0
theorem nmJxb160c : ∀ a, a < 0 → ∀ b, b < 0 → a ≠ b → (TJxb160c a).2.1 ≠ (TJxb160c b).2.1 := by decide +kernel
theorem tyJxb160c_ok : ∀ k, k < 0 → parseFieldDescriptor (TJxb160c k).2.2.1 = some (tyJxb160c k) := by decide +kernel
def RJxabbfe : String := "java/lang/Integer$IntegerCache"
def TJxabbfe : u_T := fun k => match k with
  | _ => ("", "", "", false)
def tyJxabbfe : Nat → FieldType := fun k => match k with
  | _ => .int
abbrev wsJxabbfe0 : List Cond := u_ws RJxabbfe TJxabbfe 0
theorem nmJxabbfe : ∀ a, a < 0 → ∀ b, b < 0 → a ≠ b → (TJxabbfe a).2.1 ≠ (TJxabbfe b).2.1 := by decide +kernel
theorem tyJxabbfe_ok : ∀ k, k < 0 → parseFieldDescriptor (TJxabbfe k).2.2.1 = some (tyJxabbfe k) := by decide +kernel
def RJ6 : String := "java/lang/Integer"
def TJ6 : u_T := fun k => match k with
  | _ => ("java/lang/Integer", "value", "I", true)
def tyJ6 : Nat → FieldType := fun k => match k with
  | _ => .int
abbrev wsJ60 : List Cond := u_ws RJ6 TJ6 1
theorem nmJ6 : ∀ a, a < 1 → ∀ b, b < 1 → a ≠ b → (TJ6 a).2.1 ≠ (TJ6 b).2.1 := by decide +kernel
theorem tyJ6_ok : ∀ k, k < 1 → parseFieldDescriptor (TJ6 k).2.2.1 = some (tyJ6 k) := by decide +kernel
abbrev cJ6_getChars_ba4f3 : ByteArray := prog_19_method_12_code
def yJ6_getChars_ba4f3 : MethodName := ⟨RJ6, "getChars", "(II[B)I"⟩
abbrev cJ6_stringSize_0f7a4 : ByteArray := prog_19_method_13_code
def yJ6_stringSize_0f7a4 : MethodName := ⟨RJ6, "stringSize", "(I)I"⟩
abbrev cJ6_valueOf_2dffe : ByteArray := prog_19_method_22_code
def yJ6_valueOf_2dffe : MethodName := ⟨RJ6, "valueOf", "(I)Ljava/lang/Integer;"⟩
abbrev cJ6_init_d00df : ByteArray := prog_19_method_23_code
def yJ6_init_d00df : MethodName := ⟨RJ6, "<init>", "(I)V"⟩
abbrev cJ6_intValue_8abf5 : ByteArray := prog_19_method_27_code
def yJ6_intValue_8abf5 : MethodName := ⟨RJ6, "intValue", "()I"⟩
def RJxab1ab : String := "java/lang/Iterable"
def TJxab1ab : u_T := fun k => match k with
  | _ => ("", "", "", false)
def tyJxab1ab : Nat → FieldType := fun k => match k with
  | _ => .int
abbrev wsJxab1ab0 : List Cond := u_ws RJxab1ab TJxab1ab 0
theorem nmJxab1ab : ∀ a, a < 0 → ∀ b, b < 0 → a ≠ b → (TJxab1ab a).2.1 ≠ (TJxab1ab b).2.1 := by decide +kernel
theorem tyJxab1ab_ok : ∀ k, k < 0 → parseFieldDescriptor (TJxab1ab k).2.2.1 = some (tyJxab1ab k) := by decide +kernel
def RJ9 : String := "java/lang/Math"
def TJ9 : u_T := fun k => match k with
  | _ => ("", "", "", false)
def tyJ9 : Nat → FieldType := fun k => match k with
  | _ => .int
abbrev wsJ90 : List Cond := u_ws RJ9 TJ9 0
theorem nmJ9 : ∀ a, a < 0 → ∀ b, b < 0 → a ≠ b → (TJ9 a).2.1 ≠ (TJ9 b).2.1 := by decide +kernel
theorem tyJ9_ok : ∀ k, k < 0 → parseFieldDescriptor (TJ9 k).2.2.1 = some (tyJ9 k) := by decide +kernel
abbrev cJ9_abs_0f7a4 : ByteArray := prog_22_method_59_code
def yJ9_abs_0f7a4 : MethodName := ⟨RJ9, "abs", "(I)I"⟩
abbrev cJ9_max_7cf53 : ByteArray := prog_22_method_65_code
def yJ9_max_7cf53 : MethodName := ⟨RJ9, "max", "(II)I"⟩
abbrev cJ9_min_7cf53 : ByteArray := prog_22_method_69_code
def yJ9_min_7cf53 : MethodName := ⟨RJ9, "min", "(II)I"⟩
def RJxd2413 : String := "java/lang/Number"
def TJxd2413 : u_T := fun k => match k with
  | _ => ("", "", "", false)
def tyJxd2413 : Nat → FieldType := fun k => match k with
  | _ => .int
abbrev wsJxd24130 : List Cond := u_ws RJxd2413 TJxd2413 0
theorem nmJxd2413 : ∀ a, a < 0 → ∀ b, b < 0 → a ≠ b → (TJxd2413 a).2.1 ≠ (TJxd2413 b).2.1 := by decide +kernel
theorem tyJxd2413_ok : ∀ k, k < 0 → parseFieldDescriptor (TJxd2413 k).2.2.1 = some (tyJxd2413 k) := by decide +kernel
abbrev cJxd2413_init_da8c8 : ByteArray := prog_23_method_1_code
def yJxd2413_init_da8c8 : MethodName := ⟨RJxd2413, "<init>", "()V"⟩
def RJ0 : String := "java/lang/String"
def TJ0 : u_T := fun k => match k with
  | 0 => ("java/lang/String", "value", "[B", true)
  | 1 => ("java/lang/String", "coder", "B", true)
  | 2 => ("java/lang/String", "hash", "I", false)
  | _ => ("java/lang/String", "hashIsZero", "Z", false)
def tyJ0 : Nat → FieldType := fun k => match k with
  | 0 => .array .byte
  | 1 => .byte
  | 2 => .int
  | _ => .boolean
abbrev wsJ00 : List Cond := u_ws RJ0 TJ0 4
theorem nmJ0 : ∀ a, a < 4 → ∀ b, b < 4 → a ≠ b → (TJ0 a).2.1 ≠ (TJ0 b).2.1 := by decide +kernel
theorem tyJ0_ok : ∀ k, k < 4 → parseFieldDescriptor (TJ0 k).2.2.1 = some (tyJ0 k) := by decide +kernel
abbrev cJ0_init_81219 : ByteArray := prog_25_method_53_code
def yJ0_init_81219 : MethodName := ⟨RJ0, "<init>", "(Ljava/lang/StringBuilder;)V"⟩
abbrev cJ0_length_8abf5 : ByteArray := prog_25_method_54_code
def yJ0_length_8abf5 : MethodName := ⟨RJ0, "length", "()I"⟩
abbrev cJ0_getBytes_840e7 : ByteArray := prog_25_method_147_code
def yJ0_getBytes_840e7 : MethodName := ⟨RJ0, "getBytes", "([BIB)V"⟩
abbrev cJ0_init_db425 : ByteArray := prog_25_method_150_code
def yJ0_init_db425 : MethodName := ⟨RJ0, "<init>", "(Ljava/lang/AbstractStringBuilder;Ljava/lang/Void;)V"⟩
abbrev cJ0_coder_7d493 : ByteArray := prog_25_method_152_code
def yJ0_coder_7d493 : MethodName := ⟨RJ0, "coder", "()B"⟩
abbrev cJ0_checkIndex_df160 : ByteArray := prog_25_method_155_code
def yJ0_checkIndex_df160 : MethodName := ⟨RJ0, "checkIndex", "(II)V"⟩
abbrev cJ0_checkBoundsOffCount_cabcc : ByteArray := prog_25_method_157_code
def yJ0_checkBoundsOffCount_cabcc : MethodName := ⟨RJ0, "checkBoundsOffCount", "(III)I"⟩
abbrev cJ0_checkBoundsBeginEnd_23922 : ByteArray := prog_25_method_158_code
def yJ0_checkBoundsBeginEnd_23922 : MethodName := ⟨RJ0, "checkBoundsBeginEnd", "(III)V"⟩
def RJ4 : String := "java/lang/StringBuilder"
def TJ4 : u_T := fun k => match k with
  | 0 => ("java/lang/AbstractStringBuilder", "value", "[B", false)
  | 1 => ("java/lang/AbstractStringBuilder", "coder", "B", false)
  | 2 => ("java/lang/AbstractStringBuilder", "maybeLatin1", "Z", false)
  | _ => ("java/lang/AbstractStringBuilder", "count", "I", false)
def tyJ4 : Nat → FieldType := fun k => match k with
  | 0 => .array .byte
  | 1 => .byte
  | 2 => .boolean
  | _ => .int
abbrev wsJ40 : List Cond := u_ws RJ4 TJ4 4
theorem nmJ4 : ∀ a, a < 4 → ∀ b, b < 4 → a ≠ b → (TJ4 a).2.1 ≠ (TJ4 b).2.1 := by decide +kernel
theorem tyJ4_ok : ∀ k, k < 4 → parseFieldDescriptor (TJ4 k).2.2.1 = some (tyJ4 k) := by decide +kernel
abbrev cJ4_init_da8c8 : ByteArray := prog_26_method_1_code
def yJ4_init_da8c8 : MethodName := ⟨RJ4, "<init>", "()V"⟩
abbrev cJ4_append_15ec4 : ByteArray := prog_26_method_7_code
def yJ4_append_15ec4 : MethodName := ⟨RJ4, "append", "(Ljava/lang/String;)Ljava/lang/StringBuilder;"⟩
abbrev cJ4_append_cf468 : ByteArray := prog_26_method_14_code
def yJ4_append_cf468 : MethodName := ⟨RJ4, "append", "(C)Ljava/lang/StringBuilder;"⟩
abbrev cJ4_append_bf812 : ByteArray := prog_26_method_15_code
def yJ4_append_bf812 : MethodName := ⟨RJ4, "append", "(I)Ljava/lang/StringBuilder;"⟩
abbrev cJ4_toString_0e30d : ByteArray := prog_26_method_42_code
def yJ4_toString_0e30d : MethodName := ⟨RJ4, "toString", "()Ljava/lang/String;"⟩
abbrev cJ4_length_8abf5 : ByteArray := prog_26_method_93_code
def yJ4_length_8abf5 : MethodName := ⟨RJ4, "length", "()I"⟩
def RJ1 : String := "java/lang/StringLatin1"
def TJ1 : u_T := fun k => match k with
  | _ => ("", "", "", false)
def tyJ1 : Nat → FieldType := fun k => match k with
  | _ => .int
abbrev wsJ10 : List Cond := u_ws RJ1 TJ1 0
theorem nmJ1 : ∀ a, a < 0 → ∀ b, b < 0 → a ≠ b → (TJ1 a).2.1 ≠ (TJ1 b).2.1 := by decide +kernel
theorem tyJ1_ok : ∀ k, k < 0 → parseFieldDescriptor (TJ1 k).2.2.1 = some (tyJ1 k) := by decide +kernel
abbrev cJ1_canEncode_fc78d : ByteArray := prog_27_method_3_code
def yJ1_canEncode_fc78d : MethodName := ⟨RJ1, "canEncode", "(C)Z"⟩
abbrev cJ1_inflate_0e8fd : ByteArray := prog_27_method_50_code
def yJ1_inflate_0e8fd : MethodName := ⟨RJ1, "inflate", "([BI[BII)V"⟩
def RJ2 : String := "java/lang/StringUTF16"
def TJ2 : u_T := fun k => match k with
  | _ => ("", "", "", false)
def tyJ2 : Nat → FieldType := fun k => match k with
  | _ => .int
abbrev wsJ20 : List Cond := u_ws RJ2 TJ2 0
theorem nmJ2 : ∀ a, a < 0 → ∀ b, b < 0 → a ≠ b → (TJ2 a).2.1 ≠ (TJ2 b).2.1 := by decide +kernel
theorem tyJ2_ok : ∀ k, k < 0 → parseFieldDescriptor (TJ2 k).2.2.1 = some (tyJ2 k) := by decide +kernel
abbrev cJ2_newBytesFor_77867 : ByteArray := prog_28_method_2_code
def yJ2_newBytesFor_77867 : MethodName := ⟨RJ2, "newBytesFor", "(I)[B"⟩
abbrev cJ2_newBytesLength_0f7a4 : ByteArray := prog_28_method_3_code
def yJ2_newBytesLength_0f7a4 : MethodName := ⟨RJ2, "newBytesLength", "(I)I"⟩
abbrev cJ2_putChar_b72d1 : ByteArray := prog_28_method_4_code
def yJ2_putChar_b72d1 : MethodName := ⟨RJ2, "putChar", "([BII)V"⟩
abbrev cJ2_getChar_3b067 : ByteArray := prog_28_method_5_code
def yJ2_getChar_3b067 : MethodName := ⟨RJ2, "getChar", "([BI)C"⟩
abbrev cJ2_length_9d52b : ByteArray := prog_28_method_6_code
def yJ2_length_9d52b : MethodName := ⟨RJ2, "length", "([B)I"⟩
abbrev cJ2_coderFromArrayLen_85cad : ByteArray := prog_28_method_15_code
def yJ2_coderFromArrayLen_85cad : MethodName := ⟨RJ2, "coderFromArrayLen", "([BI)B"⟩
abbrev cJ2_compress_39247 : ByteArray := prog_28_method_17_code
def yJ2_compress_39247 : MethodName := ⟨RJ2, "compress", "([BII)[B"⟩
abbrev cJ2_compress_5af95 : ByteArray := prog_28_method_22_code
def yJ2_compress_5af95 : MethodName := ⟨RJ2, "compress", "([BI[BII)I"⟩
abbrev cJ2_putCharSB_b72d1 : ByteArray := prog_28_method_71_code
def yJ2_putCharSB_b72d1 : MethodName := ⟨RJ2, "putCharSB", "([BII)V"⟩
abbrev cJ2_getChars_46870 : ByteArray := prog_28_method_77_code
def yJ2_getChars_46870 : MethodName := ⟨RJ2, "getChars", "(III[B)I"⟩
abbrev cJ2_putCharsAt_cd4e5 : ByteArray := prog_28_method_81_code
def yJ2_putCharsAt_cd4e5 : MethodName := ⟨RJ2, "putCharsAt", "([BICCCC)I"⟩
abbrev cJ2_inflate_0e8fd : ByteArray := prog_28_method_86_code
def yJ2_inflate_0e8fd : MethodName := ⟨RJ2, "inflate", "([BI[BII)V"⟩
abbrev cJ2_getChars_ba4f3 : ByteArray := prog_28_method_89_code
def yJ2_getChars_ba4f3 : MethodName := ⟨RJ2, "getChars", "(II[B)I"⟩
abbrev cJ2_checkIndex_2214a : ByteArray := prog_28_method_91_code
def yJ2_checkIndex_2214a : MethodName := ⟨RJ2, "checkIndex", "(I[B)V"⟩
abbrev cJ2_checkBoundsBeginEnd_d044e : ByteArray := prog_28_method_93_code
def yJ2_checkBoundsBeginEnd_d044e : MethodName := ⟨RJ2, "checkBoundsBeginEnd", "(II[B)V"⟩
abbrev cJ2_checkBoundsOffCount_d044e : ByteArray := prog_28_method_94_code
def yJ2_checkBoundsOffCount_d044e : MethodName := ⟨RJ2, "checkBoundsOffCount", "(II[B)V"⟩
def RJ10 : String := "java/lang/System"
def TJ10 : u_T := fun k => match k with
  | _ => ("", "", "", false)
def tyJ10 : Nat → FieldType := fun k => match k with
  | _ => .int
abbrev wsJ100 : List Cond := u_ws RJ10 TJ10 0
theorem nmJ10 : ∀ a, a < 0 → ∀ b, b < 0 → a ≠ b → (TJ10 a).2.1 ≠ (TJ10 b).2.1 := by decide +kernel
theorem tyJ10_ok : ∀ k, k < 0 → parseFieldDescriptor (TJ10 k).2.2.1 = some (tyJ10 k) := by decide +kernel
def RJxfd54e : String := "java/lang/constant/Constable"
def TJxfd54e : u_T := fun k => match k with
  | _ => ("", "", "", false)
def tyJxfd54e : Nat → FieldType := fun k => match k with
  | _ => .int
abbrev wsJxfd54e0 : List Cond := u_ws RJxfd54e TJxfd54e 0
theorem nmJxfd54e : ∀ a, a < 0 → ∀ b, b < 0 → a ≠ b → (TJxfd54e a).2.1 ≠ (TJxfd54e b).2.1 := by decide +kernel
theorem tyJxfd54e_ok : ∀ k, k < 0 → parseFieldDescriptor (TJxfd54e k).2.2.1 = some (tyJxfd54e k) := by decide +kernel
def RJx3cf43 : String := "java/lang/constant/ConstantDesc"
def TJx3cf43 : u_T := fun k => match k with
  | _ => ("", "", "", false)
def tyJx3cf43 : Nat → FieldType := fun k => match k with
  | _ => .int
abbrev wsJx3cf430 : List Cond := u_ws RJx3cf43 TJx3cf43 0
theorem nmJx3cf43 : ∀ a, a < 0 → ∀ b, b < 0 → a ≠ b → (TJx3cf43 a).2.1 ≠ (TJx3cf43 b).2.1 := by decide +kernel
theorem tyJx3cf43_ok : ∀ k, k < 0 → parseFieldDescriptor (TJx3cf43 k).2.2.1 = some (tyJx3cf43 k) := by decide +kernel
def RJxa1e45 : String := "java/util/AbstractCollection"
def TJxa1e45 : u_T := fun k => match k with
  | _ => ("", "", "", false)
def tyJxa1e45 : Nat → FieldType := fun k => match k with
  | _ => .int
abbrev wsJxa1e450 : List Cond := u_ws RJxa1e45 TJxa1e45 0
theorem nmJxa1e45 : ∀ a, a < 0 → ∀ b, b < 0 → a ≠ b → (TJxa1e45 a).2.1 ≠ (TJxa1e45 b).2.1 := by decide +kernel
theorem tyJxa1e45_ok : ∀ k, k < 0 → parseFieldDescriptor (TJxa1e45 k).2.2.1 = some (tyJxa1e45 k) := by decide +kernel
abbrev cJxa1e45_init_da8c8 : ByteArray := prog_33_method_1_code
def yJxa1e45_init_da8c8 : MethodName := ⟨RJxa1e45, "<init>", "()V"⟩
def RJxc12de : String := "java/util/AbstractList"
def TJxc12de : u_T := fun k => match k with
  | _ => ("", "", "", false)
def tyJxc12de : Nat → FieldType := fun k => match k with
  | _ => .int
abbrev wsJxc12de0 : List Cond := u_ws RJxc12de TJxc12de 0
theorem nmJxc12de : ∀ a, a < 0 → ∀ b, b < 0 → a ≠ b → (TJxc12de a).2.1 ≠ (TJxc12de b).2.1 := by decide +kernel
theorem tyJxc12de_ok : ∀ k, k < 0 → parseFieldDescriptor (TJxc12de k).2.2.1 = some (tyJxc12de k) := by decide +kernel
abbrev cJxc12de_init_da8c8 : ByteArray := prog_34_method_1_code
def yJxc12de_init_da8c8 : MethodName := ⟨RJxc12de, "<init>", "()V"⟩
def RJx35411 : String := "java/util/ArrayList$Itr"
def TJx35411 : u_T := fun k => match k with
  | 0 => ("java/util/ArrayList$Itr", "cursor", "I", false)
  | 1 => ("java/util/ArrayList$Itr", "lastRet", "I", false)
  | 2 => ("java/util/ArrayList$Itr", "expectedModCount", "I", false)
  | _ => ("java/util/ArrayList$Itr", "this$0", "Ljava/util/ArrayList;", true)
def tyJx35411 : Nat → FieldType := fun k => match k with
  | 0 => .int
  | 1 => .int
  | 2 => .int
  | _ => .object "java/util/ArrayList"
abbrev wsJx354110 : List Cond := u_ws RJx35411 TJx35411 4
theorem nmJx35411 : ∀ a, a < 4 → ∀ b, b < 4 → a ≠ b → (TJx35411 a).2.1 ≠ (TJx35411 b).2.1 := by decide +kernel
theorem tyJx35411_ok : ∀ k, k < 4 → parseFieldDescriptor (TJx35411 k).2.2.1 = some (tyJx35411 k) := by decide +kernel
abbrev cJx35411_init_45d68 : ByteArray := prog_36_method_1_code
def yJx35411_init_45d68 : MethodName := ⟨RJx35411, "<init>", "(Ljava/util/ArrayList;)V"⟩
abbrev cJx35411_hasNext_aae02 : ByteArray := prog_36_method_2_code
def yJx35411_hasNext_aae02 : MethodName := ⟨RJx35411, "hasNext", "()Z"⟩
abbrev cJx35411_next_0502b : ByteArray := prog_36_method_3_code
def yJx35411_next_0502b : MethodName := ⟨RJx35411, "next", "()Ljava/lang/Object;"⟩
abbrev cJx35411_checkForComodification_da8c8 : ByteArray := prog_36_method_6_code
def yJx35411_checkForComodification_da8c8 : MethodName := ⟨RJx35411, "checkForComodification", "()V"⟩
def RJx4a65c : String := "java/util/ArrayList"
def TJx4a65c : u_T := fun k => match k with
  | 0 => ("java/util/AbstractList", "modCount", "I", false)
  | 1 => ("java/util/ArrayList", "elementData", "[Ljava/lang/Object;", false)
  | _ => ("java/util/ArrayList", "size", "I", false)
def tyJx4a65c : Nat → FieldType := fun k => match k with
  | 0 => .int
  | 1 => .array (.object "java/lang/Object")
  | _ => .int
abbrev wsJx4a65c0 : List Cond := u_ws RJx4a65c TJx4a65c 3
theorem nmJx4a65c : ∀ a, a < 3 → ∀ b, b < 3 → a ≠ b → (TJx4a65c a).2.1 ≠ (TJx4a65c b).2.1 := by decide +kernel
theorem tyJx4a65c_ok : ∀ k, k < 3 → parseFieldDescriptor (TJx4a65c k).2.2.1 = some (tyJx4a65c k) := by decide +kernel
abbrev cJx4a65c_init_da8c8 : ByteArray := prog_35_method_2_code
def yJx4a65c_init_da8c8 : MethodName := ⟨RJx4a65c, "<init>", "()V"⟩
abbrev cJx4a65c_grow_92f84 : ByteArray := prog_35_method_6_code
def yJx4a65c_grow_92f84 : MethodName := ⟨RJx4a65c, "grow", "(I)[Ljava/lang/Object;"⟩
abbrev cJx4a65c_grow_d5877 : ByteArray := prog_35_method_7_code
def yJx4a65c_grow_d5877 : MethodName := ⟨RJx4a65c, "grow", "()[Ljava/lang/Object;"⟩
abbrev cJx4a65c_size_8abf5 : ByteArray := prog_35_method_8_code
def yJx4a65c_size_8abf5 : MethodName := ⟨RJx4a65c, "size", "()I"⟩
abbrev cJx4a65c_isEmpty_aae02 : ByteArray := prog_35_method_9_code
def yJx4a65c_isEmpty_aae02 : MethodName := ⟨RJx4a65c, "isEmpty", "()Z"⟩
abbrev cJx4a65c_elementData_915e3 : ByteArray := prog_35_method_18_code
def yJx4a65c_elementData_915e3 : MethodName := ⟨RJx4a65c, "elementData", "(I)Ljava/lang/Object;"⟩
abbrev cJx4a65c_get_915e3 : ByteArray := prog_35_method_20_code
def yJx4a65c_get_915e3 : MethodName := ⟨RJx4a65c, "get", "(I)Ljava/lang/Object;"⟩
abbrev cJx4a65c_set_bcc79 : ByteArray := prog_35_method_23_code
def yJx4a65c_set_bcc79 : MethodName := ⟨RJx4a65c, "set", "(ILjava/lang/Object;)Ljava/lang/Object;"⟩
abbrev cJx4a65c_add_72be8 : ByteArray := prog_35_method_24_code
def yJx4a65c_add_72be8 : MethodName := ⟨RJx4a65c, "add", "(Ljava/lang/Object;[Ljava/lang/Object;I)V"⟩
abbrev cJx4a65c_add_9ea2d : ByteArray := prog_35_method_25_code
def yJx4a65c_add_9ea2d : MethodName := ⟨RJx4a65c, "add", "(Ljava/lang/Object;)Z"⟩
abbrev cJx4a65c_add_7a177 : ByteArray := prog_35_method_26_code
def yJx4a65c_add_7a177 : MethodName := ⟨RJx4a65c, "add", "(ILjava/lang/Object;)V"⟩
abbrev cJx4a65c_remove_915e3 : ByteArray := prog_35_method_29_code
def yJx4a65c_remove_915e3 : MethodName := ⟨RJx4a65c, "remove", "(I)Ljava/lang/Object;"⟩
abbrev cJx4a65c_fastRemove_b59b0 : ByteArray := prog_35_method_39_code
def yJx4a65c_fastRemove_b59b0 : MethodName := ⟨RJx4a65c, "fastRemove", "([Ljava/lang/Object;I)V"⟩
abbrev cJx4a65c_clear_da8c8 : ByteArray := prog_35_method_40_code
def yJx4a65c_clear_da8c8 : MethodName := ⟨RJx4a65c, "clear", "()V"⟩
abbrev cJx4a65c_rangeCheckForAdd_d00df : ByteArray := prog_35_method_45_code
def yJx4a65c_rangeCheckForAdd_d00df : MethodName := ⟨RJx4a65c, "rangeCheckForAdd", "(I)V"⟩
abbrev cJx4a65c_outOfBoundsMsg_b52d3 : ByteArray := prog_35_method_46_code
def yJx4a65c_outOfBoundsMsg_b52d3 : MethodName := ⟨RJx4a65c, "outOfBoundsMsg", "(I)Ljava/lang/String;"⟩
abbrev cJx4a65c_iterator_32c93 : ByteArray := prog_35_method_55_code
def yJx4a65c_iterator_32c93 : MethodName := ⟨RJx4a65c, "iterator", "()Ljava/util/Iterator;"⟩
def RJ7 : String := "java/util/Arrays"
def TJ7 : u_T := fun k => match k with
  | _ => ("", "", "", false)
def tyJ7 : Nat → FieldType := fun k => match k with
  | _ => .int
abbrev wsJ70 : List Cond := u_ws RJ7 TJ7 0
theorem nmJ7 : ∀ a, a < 0 → ∀ b, b < 0 → a ≠ b → (TJ7 a).2.1 ≠ (TJ7 b).2.1 := by decide +kernel
theorem tyJ7_ok : ∀ k, k < 0 → parseFieldDescriptor (TJ7 k).2.2.1 = some (tyJ7 k) := by decide +kernel
abbrev cJ7_copyOf_1904c : ByteArray := prog_37_method_119_code
def yJ7_copyOf_1904c : MethodName := ⟨RJ7, "copyOf", "([Ljava/lang/Object;I)[Ljava/lang/Object;"⟩
abbrev cJ7_copyOf_6403c : ByteArray := prog_37_method_120_code
def yJ7_copyOf_6403c : MethodName := ⟨RJ7, "copyOf", "([Ljava/lang/Object;ILjava/lang/Class;)[Ljava/lang/Object;"⟩
abbrev cJ7_copyOf_9075b : ByteArray := prog_37_method_121_code
def yJ7_copyOf_9075b : MethodName := ⟨RJ7, "copyOf", "([BI)[B"⟩
abbrev cJ7_checkLength_df160 : ByteArray := prog_37_method_131_code
def yJ7_checkLength_df160 : MethodName := ⟨RJ7, "checkLength", "(II)V"⟩
abbrev cJ7_copyOfRange_39247 : ByteArray := prog_37_method_132_code
def yJ7_copyOfRange_39247 : MethodName := ⟨RJ7, "copyOfRange", "([BII)[B"⟩
abbrev cJ7_copyOfRangeByte_39247 : ByteArray := prog_37_method_133_code
def yJ7_copyOfRangeByte_39247 : MethodName := ⟨RJ7, "copyOfRangeByte", "([BII)[B"⟩
def RJx5ef63 : String := "java/util/Collection"
def TJx5ef63 : u_T := fun k => match k with
  | _ => ("", "", "", false)
def tyJx5ef63 : Nat → FieldType := fun k => match k with
  | _ => .int
abbrev wsJx5ef630 : List Cond := u_ws RJx5ef63 TJx5ef63 0
theorem nmJx5ef63 : ∀ a, a < 0 → ∀ b, b < 0 → a ≠ b → (TJx5ef63 a).2.1 ≠ (TJx5ef63 b).2.1 := by decide +kernel
theorem tyJx5ef63_ok : ∀ k, k < 0 → parseFieldDescriptor (TJx5ef63 k).2.2.1 = some (tyJx5ef63 k) := by decide +kernel
def RJx4d0d8 : String := "java/util/Iterator"
def TJx4d0d8 : u_T := fun k => match k with
  | _ => ("", "", "", false)
def tyJx4d0d8 : Nat → FieldType := fun k => match k with
  | _ => .int
abbrev wsJx4d0d80 : List Cond := u_ws RJx4d0d8 TJx4d0d8 0
theorem nmJx4d0d8 : ∀ a, a < 0 → ∀ b, b < 0 → a ≠ b → (TJx4d0d8 a).2.1 ≠ (TJx4d0d8 b).2.1 := by decide +kernel
theorem tyJx4d0d8_ok : ∀ k, k < 0 → parseFieldDescriptor (TJx4d0d8 k).2.2.1 = some (tyJx4d0d8 k) := by decide +kernel
def RJxbd725 : String := "java/util/List"
def TJxbd725 : u_T := fun k => match k with
  | _ => ("", "", "", false)
def tyJxbd725 : Nat → FieldType := fun k => match k with
  | _ => .int
abbrev wsJxbd7250 : List Cond := u_ws RJxbd725 TJxbd725 0
theorem nmJxbd725 : ∀ a, a < 0 → ∀ b, b < 0 → a ≠ b → (TJxbd725 a).2.1 ≠ (TJxbd725 b).2.1 := by decide +kernel
theorem tyJxbd725_ok : ∀ k, k < 0 → parseFieldDescriptor (TJxbd725 k).2.2.1 = some (tyJxbd725 k) := by decide +kernel
def RJ15 : String := "java/util/Objects"
def TJ15 : u_T := fun k => match k with
  | _ => ("", "", "", false)
def tyJ15 : Nat → FieldType := fun k => match k with
  | _ => .int
abbrev wsJ150 : List Cond := u_ws RJ15 TJ15 0
theorem nmJ15 : ∀ a, a < 0 → ∀ b, b < 0 → a ≠ b → (TJ15 a).2.1 ≠ (TJ15 b).2.1 := by decide +kernel
theorem tyJ15_ok : ∀ k, k < 0 → parseFieldDescriptor (TJ15 k).2.2.1 = some (tyJ15 k) := by decide +kernel
abbrev cJ15_checkIndex_7cf53 : ByteArray := prog_41_method_17_code
def yJ15_checkIndex_7cf53 : MethodName := ⟨RJ15, "checkIndex", "(II)I"⟩
def RJxf0a74 : String := "java/util/RandomAccess"
def TJxf0a74 : u_T := fun k => match k with
  | _ => ("", "", "", false)
def tyJxf0a74 : Nat → FieldType := fun k => match k with
  | _ => .int
abbrev wsJxf0a740 : List Cond := u_ws RJxf0a74 TJxf0a74 0
theorem nmJxf0a74 : ∀ a, a < 0 → ∀ b, b < 0 → a ≠ b → (TJxf0a74 a).2.1 ≠ (TJxf0a74 b).2.1 := by decide +kernel
theorem tyJxf0a74_ok : ∀ k, k < 0 → parseFieldDescriptor (TJxf0a74 k).2.2.1 = some (tyJxf0a74 k) := by decide +kernel
def RJxa66e6 : String := "java/util/SequencedCollection"
def TJxa66e6 : u_T := fun k => match k with
  | _ => ("", "", "", false)
def tyJxa66e6 : Nat → FieldType := fun k => match k with
  | _ => .int
abbrev wsJxa66e60 : List Cond := u_ws RJxa66e6 TJxa66e6 0
theorem nmJxa66e6 : ∀ a, a < 0 → ∀ b, b < 0 → a ≠ b → (TJxa66e6 a).2.1 ≠ (TJxa66e6 b).2.1 := by decide +kernel
theorem tyJxa66e6_ok : ∀ k, k < 0 → parseFieldDescriptor (TJxa66e6 k).2.2.1 = some (tyJxa66e6 k) := by decide +kernel
def RJ8 : String := "jdk/internal/util/ArraysSupport"
def TJ8 : u_T := fun k => match k with
  | _ => ("", "", "", false)
def tyJ8 : Nat → FieldType := fun k => match k with
  | _ => .int
abbrev wsJ80 : List Cond := u_ws RJ8 TJ8 0
theorem nmJ8 : ∀ a, a < 0 → ∀ b, b < 0 → a ≠ b → (TJ8 a).2.1 ≠ (TJ8 b).2.1 := by decide +kernel
theorem tyJ8_ok : ∀ k, k < 0 → parseFieldDescriptor (TJ8 k).2.2.1 = some (tyJ8 k) := by decide +kernel
abbrev cJ8_newLength_cabcc : ByteArray := prog_44_method_27_code
def yJ8_newLength_cabcc : MethodName := ⟨RJ8, "newLength", "(III)I"⟩
abbrev cJ8_hugeLength_7cf53 : ByteArray := prog_44_method_28_code
def yJ8_hugeLength_7cf53 : MethodName := ⟨RJ8, "hugeLength", "(II)I"⟩
def RJ3 : String := "jdk/internal/util/Preconditions"
def TJ3 : u_T := fun k => match k with
  | _ => ("", "", "", false)
def tyJ3 : Nat → FieldType := fun k => match k with
  | _ => .int
abbrev wsJ30 : List Cond := u_ws RJ3 TJ3 0
theorem nmJ3 : ∀ a, a < 0 → ∀ b, b < 0 → a ≠ b → (TJ3 a).2.1 ≠ (TJ3 b).2.1 := by decide +kernel
theorem tyJ3_ok : ∀ k, k < 0 → parseFieldDescriptor (TJ3 k).2.2.1 = some (tyJ3 k) := by decide +kernel
abbrev cJ3_checkIndex_8e157 : ByteArray := prog_45_method_11_code
def yJ3_checkIndex_8e157 : MethodName := ⟨RJ3, "checkIndex", "(IILjava/util/function/BiFunction;)I"⟩
abbrev cJ3_checkFromToIndex_8c36e : ByteArray := prog_45_method_12_code
def yJ3_checkFromToIndex_8c36e : MethodName := ⟨RJ3, "checkFromToIndex", "(IIILjava/util/function/BiFunction;)I"⟩
abbrev cJ3_checkFromIndexSize_8c36e : ByteArray := prog_45_method_13_code
def yJ3_checkFromIndexSize_8c36e : MethodName := ⟨RJ3, "checkFromIndexSize", "(IIILjava/util/function/BiFunction;)I"⟩
def RL : String := "TwoendsLaw"
abbrev cL_join : ByteArray := method_2_code
def yL_join : MethodName := ⟨RL, "join", "(LTwoends;IZIILTwoendsLaw$Out;)I"⟩
abbrev cL_offer : ByteArray := method_3_code
def yL_offer : MethodName := ⟨RL, "offer", "(LTwoends;IZIILTwoendsLaw$Out;)I"⟩
abbrev cL_push : ByteArray := method_4_code
def yL_push : MethodName := ⟨RL, "push", "(LTwoends;IIILTwoendsLaw$Out;)I"⟩
abbrev cL_append : ByteArray := method_5_code
def yL_append : MethodName := ⟨RL, "append", "(LTwoends;IIILTwoendsLaw$Out;)I"⟩
abbrev cL_train : ByteArray := method_6_code
def yL_train : MethodName := ⟨RL, "train", "(LTwoends;IIIILTwoendsLaw$Out;)I"⟩
abbrev cL_take : ByteArray := method_7_code
def yL_take : MethodName := ⟨RL, "take", "(LTwoends;IZLTwoendsLaw$Out;)I"⟩
abbrev cL_poll : ByteArray := method_8_code
def yL_poll : MethodName := ⟨RL, "poll", "(LTwoends;IZLTwoendsLaw$Out;)I"⟩
abbrev cL_pop : ByteArray := method_9_code
def yL_pop : MethodName := ⟨RL, "pop", "(LTwoends;ILTwoendsLaw$Out;)I"⟩
abbrev cL_serve : ByteArray := method_10_code
def yL_serve : MethodName := ⟨RL, "serve", "(LTwoends;IZLTwoendsLaw$Out;)I"⟩
abbrev cL_rotate : ByteArray := method_11_code
def yL_rotate : MethodName := ⟨RL, "rotate", "(LTwoends;IILTwoendsLaw$Out;)I"⟩
abbrev cL_drop : ByteArray := method_12_code
def yL_drop : MethodName := ⟨RL, "drop", "(LTwoends;IIZLTwoendsLaw$Out;)I"⟩
abbrev cL_dropAll : ByteArray := method_13_code
def yL_dropAll : MethodName := ⟨RL, "dropAll", "(LTwoends;IILTwoendsLaw$Out;)I"⟩
abbrev cL_shed : ByteArray := method_14_code
def yL_shed : MethodName := ⟨RL, "shed", "(LTwoends;IZIILTwoendsLaw$Out;)I"⟩
abbrev cL_thin : ByteArray := method_15_code
def yL_thin : MethodName := ⟨RL, "thin", "(LTwoends;IZILTwoendsLaw$Out;)I"⟩
abbrev cL_turn : ByteArray := method_16_code
def yL_turn : MethodName := ⟨RL, "turn", "(LTwoends;ILTwoendsLaw$Out;)I"⟩
abbrev cL_clear : ByteArray := method_17_code
def yL_clear : MethodName := ⟨RL, "clear", "(LTwoends;ILTwoendsLaw$Out;)I"⟩
abbrev cL_step : ByteArray := method_18_code
def yL_step : MethodName := ⟨RL, "step", "(LTwoends;LTwoendsLaw$Out;)I"⟩
abbrev cL_pluck : ByteArray := method_19_code
def yL_pluck : MethodName := ⟨RL, "pluck", "(LTwoends;LTwoendsLaw$Out;)I"⟩
abbrev cL_insert : ByteArray := method_20_code
def yL_insert : MethodName := ⟨RL, "insert", "(LTwoends;IIILTwoendsLaw$Out;)I"⟩
abbrev cL_cut : ByteArray := method_21_code
def yL_cut : MethodName := ⟨RL, "cut", "(LTwoends;ILTwoendsLaw$Out;)I"⟩
abbrev cL_replace : ByteArray := method_22_code
def yL_replace : MethodName := ⟨RL, "replace", "(LTwoends;IIILTwoendsLaw$Out;)I"⟩
abbrev cL_at : ByteArray := method_23_code
def yL_at : MethodName := ⟨RL, "at", "(LTwoends;ILTwoendsLaw$Out;)I"⟩
abbrev cL_find : ByteArray := method_24_code
def yL_find : MethodName := ⟨RL, "find", "(LTwoends;IZLTwoendsLaw$Out;)I"⟩
abbrev cL_splice : ByteArray := method_25_code
def yL_splice : MethodName := ⟨RL, "splice", "(LTwoends;ILTwoendsLaw$Out;)I"⟩
abbrev cL_shunt : ByteArray := method_26_code
def yL_shunt : MethodName := ⟨RL, "shunt", "(LTwoends;IILTwoendsLaw$Out;)I"⟩
abbrev cL_stand : ByteArray := method_27_code
def yL_stand : MethodName := ⟨RL, "stand", "(LTwoends;IILTwoendsLaw$Out;)I"⟩
abbrev cL_forth : ByteArray := method_28_code
def yL_forth : MethodName := ⟨RL, "forth", "(LTwoends;ILTwoendsLaw$Out;)I"⟩
abbrev cL_back : ByteArray := method_29_code
def yL_back : MethodName := ⟨RL, "back", "(LTwoends;ILTwoendsLaw$Out;)I"⟩
abbrev cL_takeHeld : ByteArray := method_30_code
def yL_takeHeld : MethodName := ⟨RL, "takeHeld", "(LTwoends;ILTwoendsLaw$Out;)I"⟩
abbrev cL_setHeld : ByteArray := method_31_code
def yL_setHeld : MethodName := ⟨RL, "setHeld", "(LTwoends;IIILTwoendsLaw$Out;)I"⟩
abbrev cL_put : ByteArray := method_32_code
def yL_put : MethodName := ⟨RL, "put", "(LTwoends;IIILTwoendsLaw$Out;)I"⟩
abbrev cL_where : ByteArray := method_33_code
def yL_where : MethodName := ⟨RL, "where", "(LTwoends;IILTwoendsLaw$Out;)I"⟩
abbrev cL_order : ByteArray := method_34_code
def yL_order : MethodName := ⟨RL, "order", "(LTwoends;ILTwoendsLaw$Out;)I"⟩
abbrev cL_work : ByteArray := method_35_code
def yL_work : MethodName := ⟨RL, "work", "(LTwoends;ILTwoendsLaw$Out;)I"⟩
abbrev cL_cancel : ByteArray := method_36_code
def yL_cancel : MethodName := ⟨RL, "cancel", "(LTwoends;IZLTwoendsLaw$Out;)I"⟩
abbrev cL_ask : ByteArray := method_37_code
def yL_ask : MethodName := ⟨RL, "ask", "(LTwoends;IILTwoendsLaw$Out;)I"⟩
abbrev cL_ofTrack : ByteArray := method_38_code
def yL_ofTrack : MethodName := ⟨RL, "ofTrack", "(LTwoends;IILTwoendsLaw$Out;)I"⟩
abbrev cL_has : ByteArray := method_39_code
def yL_has : MethodName := ⟨RL, "has", "(LTwoends;IILTwoendsLaw$Out;)I"⟩
abbrev cL_text : ByteArray := method_40_code
def yL_text : MethodName := ⟨RL, "text", "(LTwoends;IZLTwoendsLaw$Out;)I"⟩
abbrev cL_nested : ByteArray := method_41_code
def yL_nested : MethodName := ⟨RL, "nested", "(LTwoends;ILTwoendsLaw$Out;)I"⟩
abbrev cL_heaviest : ByteArray := method_42_code
def yL_heaviest : MethodName := ⟨RL, "heaviest", "(LTwoends;IIILTwoendsLaw$Out;)I"⟩
abbrev cL_ahead : ByteArray := method_43_code
def yL_ahead : MethodName := ⟨RL, "ahead", "(LTwoends;IILTwoendsLaw$Out;)I"⟩
abbrev cL_yard : ByteArray := method_44_code
def yL_yard : MethodName := ⟨RL, "yard", "(LTwoends;ILTwoendsLaw$Out;)I"⟩
abbrev cL_law : ByteArray := code
def yL_law : MethodName := ⟨RL, "law", "([I)Z"⟩
