def q_tx : List (Nat × String) := [(95, "no such root"), (99, "an object has 0 to 6 fields"), (106, "the object doesn't fit"), (102, "the ways are 0 to 2"), (115, "way 1 is for objects of one size"), (120, "the root has nothing"), (127, "no such field"), (129, "the field has a number"), (81, "no such address")]
set_option maxRecDepth 100000 in
theorem at_1 : ∀ w ∈ (vx_atS "ThreeCompactors" 83 "java/lang/IndexOutOfBoundsException" ["java/lang/RuntimeException", "java/lang/Exception"]).filter goodWord, w ∈ BG := by decide +kernel
set_option maxRecDepth 100000 in
theorem at_2 : ∀ w ∈ (vx_atS "ThreeCompactors" 101 "java/lang/IllegalArgumentException" ["java/lang/RuntimeException", "java/lang/Exception"]).filter goodWord, w ∈ BG := by decide +kernel
set_option maxRecDepth 100000 in
theorem at_3 : ∀ w ∈ (vx_atS "ThreeCompactors" 108 "java/lang/IllegalStateException" ["java/lang/RuntimeException", "java/lang/Exception"]).filter goodWord, w ∈ BG := by decide +kernel
set_option maxRecDepth 100000 in
theorem at_4 : ∀ w ∈ (vx_atS "ThreeCompactors" 117 "java/lang/UnsupportedOperationException" ["java/lang/RuntimeException", "java/lang/Exception"]).filter goodWord, w ∈ BG := by decide +kernel
abbrev cXA_rangeCheck : ByteArray := prog_13_method_30_code
abbrev yXA_rangeCheck : MethodName := ⟨"java/util/Arrays", "rangeCheck", "(III)V"⟩
abbrev wsXA_rangeCheck : List Cond := .code yXA_rangeCheck cXA_rangeCheck 3 (none) :: BG
abbrev rmXA_rangeCheck : Room := { frames := 0, cells := 0, slots := 0, locals := 0 }
abbrev cXA_fill : ByteArray := prog_13_method_103_code
abbrev yXA_fill : MethodName := ⟨"java/util/Arrays", "fill", "([II)V"⟩
abbrev wsXA_fill : List Cond := .code yXA_fill cXA_fill 4 (none) :: BG
abbrev rmXA_fill : Room := { frames := 0, cells := 0, slots := 0, locals := 0 }
abbrev cXB_fill : ByteArray := prog_13_method_104_code
abbrev yXB_fill : MethodName := ⟨"java/util/Arrays", "fill", "([IIII)V"⟩
abbrev wsXB_fill : List Cond := .code yXB_fill cXB_fill 5 (none) :: BG
abbrev rmXB_fill : Room := { frames := 1, cells := 0, slots := 0, locals := 22 }
abbrev cX0_requireRoot : ByteArray := prog_1_method_17_code
abbrev yX0_requireRoot : MethodName := ⟨"ThreeCompactors", "requireRoot", "(I)V"⟩
abbrev wsX0_requireRoot : List Cond := .code yX0_requireRoot cX0_requireRoot 1 (none) :: BG
abbrev rmX0_requireRoot (e : Nat) : Room := { frames := 7, cells := q_mc e, slots := q_ms e, locals := 90 }
abbrev cX0_requireFieldCount : ByteArray := prog_1_method_18_code
abbrev yX0_requireFieldCount : MethodName := ⟨"ThreeCompactors", "requireFieldCount", "(I)V"⟩
abbrev wsX0_requireFieldCount : List Cond := .code yX0_requireFieldCount cX0_requireFieldCount 1 (none) :: BG
abbrev rmX0_requireFieldCount (e : Nat) : Room := { frames := 7, cells := q_mc e, slots := q_ms e, locals := 90 }
abbrev cX0_requireWay : ByteArray := prog_1_method_19_code
abbrev yX0_requireWay : MethodName := ⟨"ThreeCompactors", "requireWay", "(I)V"⟩
abbrev wsX0_requireWay : List Cond := .code yX0_requireWay cX0_requireWay 1 (none) :: BG
abbrev rmX0_requireWay (e : Nat) : Room := { frames := 7, cells := q_mc e, slots := q_ms e, locals := 90 }
abbrev cX0_fieldAddress : ByteArray := prog_1_method_29_code
abbrev yX0_fieldAddress : MethodName := ⟨"ThreeCompactors", "fieldAddress", "(II)I"⟩
abbrev wsX0_fieldAddress : List Cond := .code yX0_fieldAddress cX0_fieldAddress 2 (some .int) :: BG
abbrev rmX0_fieldAddress : Room := { frames := 0, cells := 0, slots := 0, locals := 0 }
abbrev cX0_hasRoom : ByteArray := prog_1_method_24_code
abbrev yX0_hasRoom : MethodName := ⟨"ThreeCompactors", "hasRoom", "(I)Z"⟩
abbrev wsX0_hasRoom : List Cond := .code yX0_hasRoom cX0_hasRoom 2 (some .boolean) :: BG
abbrev rmX0_hasRoom : Room := { frames := 0, cells := 0, slots := 0, locals := 0 }
abbrev cX0_fieldCount : ByteArray := prog_1_method_27_code
abbrev yX0_fieldCount : MethodName := ⟨"ThreeCompactors", "fieldCount", "(I)I"⟩
abbrev wsX0_fieldCount : List Cond := .code yX0_fieldCount cX0_fieldCount 2 (some .int) :: BG
abbrev rmX0_fieldCount : Room := { frames := 0, cells := 0, slots := 0, locals := 0 }
abbrev cX0_sizeOf : ByteArray := prog_1_method_28_code
abbrev yX0_sizeOf : MethodName := ⟨"ThreeCompactors", "sizeOf", "(I)I"⟩
abbrev wsX0_sizeOf : List Cond := .code yX0_sizeOf cX0_sizeOf 2 (some .int) :: BG
abbrev rmX0_sizeOf : Room := { frames := 1, cells := 0, slots := 0, locals := 21 }
abbrev cX0_fieldKind : ByteArray := prog_1_method_30_code
abbrev yX0_fieldKind : MethodName := ⟨"ThreeCompactors", "fieldKind", "(II)I"⟩
abbrev wsX0_fieldKind : List Cond := .code yX0_fieldKind cX0_fieldKind 4 (some .int) :: BG
abbrev rmX0_fieldKind : Room := { frames := 0, cells := 0, slots := 0, locals := 0 }
abbrev cX0_setField : ByteArray := prog_1_method_31_code
abbrev yX0_setField : MethodName := ⟨"ThreeCompactors", "setField", "(IIII)V"⟩
abbrev wsX0_setField : List Cond := .code yX0_setField cX0_setField 8 (none) :: BG
abbrev rmX0_setField : Room := { frames := 1, cells := 0, slots := 0, locals := 21 }
abbrev cX0_makeObject : ByteArray := prog_1_method_26_code
abbrev yX0_makeObject : MethodName := ⟨"ThreeCompactors", "makeObject", "(II)I"⟩
abbrev wsX0_makeObject : List Cond := .code yX0_makeObject cX0_makeObject 3 (some .int) :: BG
abbrev rmX0_makeObject : Room := { frames := 0, cells := 0, slots := 0, locals := 0 }
abbrev cX0_reach : ByteArray := prog_1_method_33_code
abbrev yX0_reach : MethodName := ⟨"ThreeCompactors", "reach", "(I)V"⟩
abbrev wsX0_reach : List Cond := .code yX0_reach cX0_reach 2 (none) :: BG
abbrev rmX0_reach : Room := { frames := 0, cells := 0, slots := 0, locals := 0 }
abbrev cX0_reachFrom : ByteArray := prog_1_method_34_code
abbrev yX0_reachFrom : MethodName := ⟨"ThreeCompactors", "reachFrom", "(I)V"⟩
abbrev wsX0_reachFrom : List Cond := .code yX0_reachFrom cX0_reachFrom 4 (none) :: BG
abbrev rmX0_reachFrom : Room := { frames := 1, cells := 0, slots := 0, locals := 23 }
abbrev cX0_findAlive : ByteArray := prog_1_method_32_code
abbrev yX0_findAlive : MethodName := ⟨"ThreeCompactors", "findAlive", "()V"⟩
abbrev wsX0_findAlive : List Cond := .code yX0_findAlive cX0_findAlive 2 (none) :: BG
abbrev rmX0_findAlive : Room := { frames := 2, cells := 0, slots := 0, locals := 46 }
abbrev cX0_addressAfterMove : ByteArray := prog_1_method_40_code
abbrev yX0_addressAfterMove : MethodName := ⟨"ThreeCompactors", "addressAfterMove", "(I)I"⟩
abbrev wsX0_addressAfterMove : List Cond := .code yX0_addressAfterMove cX0_addressAfterMove 2 (some .int) :: BG
abbrev rmX0_addressAfterMove : Room := { frames := 0, cells := 0, slots := 0, locals := 0 }
abbrev cX0_isOneSize : ByteArray := prog_1_method_25_code
abbrev yX0_isOneSize : MethodName := ⟨"ThreeCompactors", "isOneSize", "()Z"⟩
abbrev wsX0_isOneSize : List Cond := .code yX0_isOneSize cX0_isOneSize 2 (some .boolean) :: BG
abbrev rmX0_isOneSize : Room := { frames := 1, cells := 0, slots := 0, locals := 21 }
abbrev cX0_planSlide : ByteArray := prog_1_method_36_code
abbrev yX0_planSlide : MethodName := ⟨"ThreeCompactors", "planSlide", "()V"⟩
abbrev wsX0_planSlide : List Cond := .code yX0_planSlide cX0_planSlide 4 (none) :: BG
abbrev rmX0_planSlide : Room := { frames := 2, cells := 0, slots := 0, locals := 42 }
abbrev cX0_planTwoFingers : ByteArray := prog_1_method_37_code
abbrev yX0_planTwoFingers : MethodName := ⟨"ThreeCompactors", "planTwoFingers", "()V"⟩
abbrev wsX0_planTwoFingers : List Cond := .code yX0_planTwoFingers cX0_planTwoFingers 3 (none) :: BG
abbrev rmX0_planTwoFingers : Room := { frames := 0, cells := 0, slots := 0, locals := 0 }
abbrev cX0_redirectRoots : ByteArray := prog_1_method_38_code
abbrev yX0_redirectRoots : MethodName := ⟨"ThreeCompactors", "redirectRoots", "()V"⟩
abbrev wsX0_redirectRoots : List Cond := .code yX0_redirectRoots cX0_redirectRoots 2 (none) :: BG
abbrev rmX0_redirectRoots : Room := { frames := 1, cells := 0, slots := 0, locals := 21 }
abbrev cX0_redirectFields : ByteArray := prog_1_method_39_code
abbrev yX0_redirectFields : MethodName := ⟨"ThreeCompactors", "redirectFields", "(I)V"⟩
abbrev wsX0_redirectFields : List Cond := .code yX0_redirectFields cX0_redirectFields 5 (none) :: BG
abbrev rmX0_redirectFields : Room := { frames := 1, cells := 0, slots := 0, locals := 23 }
abbrev cX0_moveObjects : ByteArray := prog_1_method_41_code
abbrev yX0_moveObjects : MethodName := ⟨"ThreeCompactors", "moveObjects", "()V"⟩
abbrev wsX0_moveObjects : List Cond := .code yX0_moveObjects cX0_moveObjects 3 (none) :: BG
abbrev rmX0_moveObjects : Room := { frames := 2, cells := 0, slots := 0, locals := 60 }
abbrev cX0_listObjects : ByteArray := prog_1_method_42_code
abbrev yX0_listObjects : MethodName := ⟨"ThreeCompactors", "listObjects", "()V"⟩
abbrev wsX0_listObjects : List Cond := .code yX0_listObjects cX0_listObjects 3 (none) :: BG
abbrev rmX0_listObjects : Room := { frames := 2, cells := 0, slots := 0, locals := 46 }
abbrev cX0_moveTogether : ByteArray := prog_1_method_35_code
abbrev yX0_moveTogether : MethodName := ⟨"ThreeCompactors", "moveTogether", "(I)V"⟩
abbrev wsX0_moveTogether : List Cond := .code yX0_moveTogether cX0_moveTogether 3 (none) :: BG
abbrev rmX0_moveTogether : Room := { frames := 3, cells := 0, slots := 0, locals := 82 }
abbrev cX0_requireRoom : ByteArray := prog_1_method_20_code
abbrev yX0_requireRoom : MethodName := ⟨"ThreeCompactors", "requireRoom", "(I)V"⟩
abbrev wsX0_requireRoom : List Cond := .code yX0_requireRoom cX0_requireRoom 2 (none) :: BG
abbrev rmX0_requireRoom (e : Nat) : Room := { frames := 7, cells := q_mc e, slots := q_ms e, locals := 90 }
abbrev cX0_requireSizesFor : ByteArray := prog_1_method_21_code
abbrev yX0_requireSizesFor : MethodName := ⟨"ThreeCompactors", "requireSizesFor", "(I)V"⟩
abbrev wsX0_requireSizesFor : List Cond := .code yX0_requireSizesFor cX0_requireSizesFor 2 (none) :: BG
abbrev rmX0_requireSizesFor (e : Nat) : Room := { frames := 7, cells := q_mc e, slots := q_ms e, locals := 90 }
abbrev cX0_requireObjectWithField : ByteArray := prog_1_method_22_code
abbrev yX0_requireObjectWithField : MethodName := ⟨"ThreeCompactors", "requireObjectWithField", "(II)V"⟩
abbrev wsX0_requireObjectWithField : List Cond := .code yX0_requireObjectWithField cX0_requireObjectWithField 3 (none) :: BG
abbrev rmX0_requireObjectWithField (e : Nat) : Room := { frames := 7, cells := q_mc e, slots := q_ms e, locals := 90 }
abbrev cX0_requireReference : ByteArray := prog_1_method_23_code
abbrev yX0_requireReference : MethodName := ⟨"ThreeCompactors", "requireReference", "(II)V"⟩
abbrev wsX0_requireReference : List Cond := .code yX0_requireReference cX0_requireReference 3 (none) :: BG
abbrev rmX0_requireReference (e : Nat) : Room := { frames := 7, cells := q_mc e, slots := q_ms e, locals := 90 }
abbrev cX0_allocate : ByteArray := prog_1_method_2_code
abbrev yX0_allocate : MethodName := ⟨"ThreeCompactors", "allocate", "(II)I"⟩
abbrev wsX0_allocate : List Cond := .code yX0_allocate cX0_allocate 3 (some .int) :: BG
abbrev rmX0_allocate (e : Nat) : Room := { frames := 8, cells := q_mc e, slots := q_ms e, locals := 111 }
abbrev cX0_claim : ByteArray := prog_1_method_3_code
abbrev yX0_claim : MethodName := ⟨"ThreeCompactors", "claim", "(III)I"⟩
abbrev wsX0_claim : List Cond := .code yX0_claim cX0_claim 4 (some .int) :: BG
abbrev rmX0_claim (e : Nat) : Room := { frames := 8, cells := q_mc e, slots := q_ms e, locals := 111 }
abbrev cX0_compact : ByteArray := prog_1_method_4_code
abbrev yX0_compact : MethodName := ⟨"ThreeCompactors", "compact", "(I)I"⟩
abbrev wsX0_compact : List Cond := .code yX0_compact cX0_compact 3 (some .int) :: BG
abbrev rmX0_compact (e : Nat) : Room := { frames := 8, cells := q_mc e, slots := q_ms e, locals := 111 }
abbrev cX0_copy : ByteArray := prog_1_method_5_code
abbrev yX0_copy : MethodName := ⟨"ThreeCompactors", "copy", "(II)V"⟩
abbrev wsX0_copy : List Cond := .code yX0_copy cX0_copy 3 (none) :: BG
abbrev rmX0_copy (e : Nat) : Room := { frames := 8, cells := q_mc e, slots := q_ms e, locals := 110 }
abbrev cX0_clear : ByteArray := prog_1_method_6_code
abbrev yX0_clear : MethodName := ⟨"ThreeCompactors", "clear", "(I)V"⟩
abbrev wsX0_clear : List Cond := .code yX0_clear cX0_clear 2 (none) :: BG
abbrev rmX0_clear (e : Nat) : Room := { frames := 8, cells := q_mc e, slots := q_ms e, locals := 110 }
abbrev cX0_put : ByteArray := prog_1_method_7_code
abbrev yX0_put : MethodName := ⟨"ThreeCompactors", "put", "(III)V"⟩
abbrev wsX0_put : List Cond := .code yX0_put cX0_put 4 (none) :: BG
abbrev rmX0_put (e : Nat) : Room := { frames := 8, cells := q_mc e, slots := q_ms e, locals := 112 }
abbrev cX0_refer : ByteArray := prog_1_method_8_code
abbrev yX0_refer : MethodName := ⟨"ThreeCompactors", "refer", "(IIIZ)V"⟩
abbrev wsX0_refer : List Cond := .code yX0_refer cX0_refer 5 (none) :: BG
abbrev rmX0_refer (e : Nat) : Room := { frames := 8, cells := q_mc e, slots := q_ms e, locals := 112 }
abbrev cX0_follow : ByteArray := prog_1_method_9_code
abbrev yX0_follow : MethodName := ⟨"ThreeCompactors", "follow", "(III)Z"⟩
abbrev wsX0_follow : List Cond := .code yX0_follow cX0_follow 4 (some .boolean) :: BG
abbrev rmX0_follow (e : Nat) : Room := { frames := 8, cells := q_mc e, slots := q_ms e, locals := 112 }
abbrev cX0_kind : ByteArray := prog_1_method_10_code
abbrev yX0_kind : MethodName := ⟨"ThreeCompactors", "kind", "(II)I"⟩
abbrev wsX0_kind : List Cond := .code yX0_kind cX0_kind 3 (some .int) :: BG
abbrev rmX0_kind (e : Nat) : Room := { frames := 8, cells := q_mc e, slots := q_ms e, locals := 112 }
abbrev cX0_serial : ByteArray := prog_1_method_11_code
abbrev yX0_serial : MethodName := ⟨"ThreeCompactors", "serial", "(I)I"⟩
abbrev wsX0_serial : List Cond := .code yX0_serial cX0_serial 2 (some .int) :: BG
abbrev rmX0_serial (e : Nat) : Room := { frames := 8, cells := q_mc e, slots := q_ms e, locals := 110 }
abbrev cX0_address : ByteArray := prog_1_method_12_code
abbrev yX0_address : MethodName := ⟨"ThreeCompactors", "address", "(I)I"⟩
abbrev wsX0_address : List Cond := .code yX0_address cX0_address 2 (some .int) :: BG
abbrev rmX0_address (e : Nat) : Room := { frames := 8, cells := q_mc e, slots := q_ms e, locals := 110 }
abbrev cX0_word : ByteArray := prog_1_method_13_code
abbrev yX0_word : MethodName := ⟨"ThreeCompactors", "word", "(I)I"⟩
abbrev wsX0_word : List Cond := .code yX0_word cX0_word 2 (some .int) :: BG
abbrev rmX0_word (e : Nat) : Room := { frames := 7, cells := q_mc e, slots := q_ms e, locals := 90 }
abbrev cX0_top : ByteArray := prog_1_method_14_code
abbrev yX0_top : MethodName := ⟨"ThreeCompactors", "top", "()I"⟩
abbrev wsX0_top : List Cond := .code yX0_top cX0_top 1 (some .int) :: BG
abbrev rmX0_top : Room := { frames := 0, cells := 0, slots := 0, locals := 0 }
abbrev cX0_objects : ByteArray := prog_1_method_15_code
abbrev yX0_objects : MethodName := ⟨"ThreeCompactors", "objects", "()I"⟩
abbrev wsX0_objects : List Cond := .code yX0_objects cX0_objects 1 (some .int) :: BG
abbrev rmX0_objects : Room := { frames := 0, cells := 0, slots := 0, locals := 0 }
abbrev cX0_alive : ByteArray := prog_1_method_16_code
abbrev yX0_alive : MethodName := ⟨"ThreeCompactors", "alive", "()I"⟩
abbrev wsX0_alive : List Cond := .code yX0_alive cX0_alive 1 (some .int) :: BG
abbrev rmX0_alive : Room := { frames := 3, cells := 0, slots := 0, locals := 67 }
abbrev cX1_thrown : ByteArray := prog_3_method_2_code
abbrev yX1_thrown : MethodName := ⟨"ThreeCompactorsModel", "thrown", "()I"⟩
abbrev wsX1_thrown : List Cond := .code yX1_thrown cX1_thrown 1 (some .int) :: BG
abbrev rmX1_thrown : Room := { frames := 0, cells := 0, slots := 0, locals := 0 }
abbrev cX1_topNow : ByteArray := prog_3_method_3_code
abbrev yX1_topNow : MethodName := ⟨"ThreeCompactorsModel", "topNow", "()I"⟩
abbrev wsX1_topNow : List Cond := .code yX1_topNow cX1_topNow 3 (some .int) :: BG
abbrev rmX1_topNow : Room := { frames := 0, cells := 0, slots := 0, locals := 0 }
abbrev cX1_addressOf : ByteArray := prog_3_method_4_code
abbrev yX1_addressOf : MethodName := ⟨"ThreeCompactorsModel", "addressOf", "(I)I"⟩
abbrev wsX1_addressOf : List Cond := .code yX1_addressOf cX1_addressOf 4 (some .int) :: BG
abbrev rmX1_addressOf : Room := { frames := 0, cells := 0, slots := 0, locals := 0 }
abbrev cX1_enliven : ByteArray := prog_3_method_5_code
abbrev yX1_enliven : MethodName := ⟨"ThreeCompactorsModel", "enliven", "(I)Z"⟩
abbrev wsX1_enliven : List Cond := .code yX1_enliven cX1_enliven 3 (some .boolean) :: BG
abbrev rmX1_enliven : Room := { frames := 0, cells := 0, slots := 0, locals := 0 }
abbrev cX1_findAlive : ByteArray := prog_3_method_6_code
abbrev yX1_findAlive : MethodName := ⟨"ThreeCompactorsModel", "findAlive", "()V"⟩
abbrev wsX1_findAlive : List Cond := .code yX1_findAlive cX1_findAlive 5 (none) :: BG
abbrev rmX1_findAlive : Room := { frames := 1, cells := 0, slots := 0, locals := 22 }
abbrev cX1_countAlive : ByteArray := prog_3_method_7_code
abbrev yX1_countAlive : MethodName := ⟨"ThreeCompactorsModel", "countAlive", "()I"⟩
abbrev wsX1_countAlive : List Cond := .code yX1_countAlive cX1_countAlive 3 (some .int) :: BG
abbrev rmX1_countAlive : Room := { frames := 0, cells := 0, slots := 0, locals := 0 }
abbrev cX1_oneSize : ByteArray := prog_3_method_8_code
abbrev yX1_oneSize : MethodName := ⟨"ThreeCompactorsModel", "oneSize", "()Z"⟩
abbrev wsX1_oneSize : List Cond := .code yX1_oneSize cX1_oneSize 3 (some .boolean) :: BG
abbrev rmX1_oneSize : Room := { frames := 0, cells := 0, slots := 0, locals := 0 }
abbrev cX1_keepOrder : ByteArray := prog_3_method_9_code
abbrev yX1_keepOrder : MethodName := ⟨"ThreeCompactorsModel", "keepOrder", "()V"⟩
abbrev wsX1_keepOrder : List Cond := .code yX1_keepOrder cX1_keepOrder 3 (none) :: BG
abbrev rmX1_keepOrder : Room := { frames := 0, cells := 0, slots := 0, locals := 0 }
abbrev cX1_fillGaps : ByteArray := prog_3_method_10_code
abbrev yX1_fillGaps : MethodName := ⟨"ThreeCompactorsModel", "fillGaps", "()V"⟩
abbrev wsX1_fillGaps : List Cond := .code yX1_fillGaps cX1_fillGaps 4 (none) :: BG
abbrev rmX1_fillGaps : Room := { frames := 1, cells := 0, slots := 0, locals := 22 }
abbrev cX1_press : ByteArray := prog_3_method_11_code
abbrev yX1_press : MethodName := ⟨"ThreeCompactorsModel", "press", "(I)V"⟩
abbrev wsX1_press : List Cond := .code yX1_press cX1_press 6 (none) :: BG
abbrev rmX1_press : Room := { frames := 2, cells := 0, slots := 0, locals := 46 }
abbrev cX1_make : ByteArray := prog_3_method_13_code
abbrev yX1_make : MethodName := ⟨"ThreeCompactorsModel", "make", "(II)I"⟩
abbrev wsX1_make : List Cond := .code yX1_make cX1_make 5 (some .int) :: BG
abbrev rmX1_make : Room := { frames := 0, cells := 0, slots := 0, locals := 0 }
abbrev cX1_isRoot : ByteArray := prog_3_method_14_code
abbrev yX1_isRoot : MethodName := ⟨"ThreeCompactorsModel", "isRoot", "(I)Z"⟩
abbrev wsX1_isRoot : List Cond := .code yX1_isRoot cX1_isRoot 1 (some .boolean) :: BG
abbrev rmX1_isRoot : Room := { frames := 0, cells := 0, slots := 0, locals := 0 }
abbrev cX1_isFields : ByteArray := prog_3_method_15_code
abbrev yX1_isFields : MethodName := ⟨"ThreeCompactorsModel", "isFields", "(I)Z"⟩
abbrev wsX1_isFields : List Cond := .code yX1_isFields cX1_isFields 1 (some .boolean) :: BG
abbrev rmX1_isFields : Room := { frames := 0, cells := 0, slots := 0, locals := 0 }
abbrev cX1_fits : ByteArray := prog_3_method_16_code
abbrev yX1_fits : MethodName := ⟨"ThreeCompactorsModel", "fits", "(I)Z"⟩
abbrev wsX1_fits : List Cond := .code yX1_fits cX1_fits 2 (some .boolean) :: BG
abbrev rmX1_fits : Room := { frames := 1, cells := 0, slots := 0, locals := 22 }
abbrev cX1_compact : ByteArray := prog_3_method_12_code
abbrev yX1_compact : MethodName := ⟨"ThreeCompactorsModel", "compact", "(I)I"⟩
abbrev wsX1_compact : List Cond := .code yX1_compact cX1_compact 3 (some .int) :: BG
abbrev rmX1_compact : Room := { frames := 3, cells := 0, slots := 0, locals := 71 }
abbrev cX1_allocate : ByteArray := prog_3_method_17_code
abbrev yX1_allocate : MethodName := ⟨"ThreeCompactorsModel", "allocate", "(II)I"⟩
abbrev wsX1_allocate : List Cond := .code yX1_allocate cX1_allocate 3 (some .int) :: BG
abbrev rmX1_allocate : Room := { frames := 2, cells := 0, slots := 0, locals := 43 }
abbrev cX1_claim : ByteArray := prog_3_method_18_code
abbrev yX1_claim : MethodName := ⟨"ThreeCompactorsModel", "claim", "(III)I"⟩
abbrev wsX1_claim : List Cond := .code yX1_claim cX1_claim 4 (some .int) :: BG
abbrev rmX1_claim : Room := { frames := 3, cells := 0, slots := 0, locals := 71 }
abbrev cX1_copy : ByteArray := prog_3_method_19_code
abbrev yX1_copy : MethodName := ⟨"ThreeCompactorsModel", "copy", "(II)V"⟩
abbrev wsX1_copy : List Cond := .code yX1_copy cX1_copy 3 (none) :: BG
abbrev rmX1_copy : Room := { frames := 1, cells := 0, slots := 0, locals := 20 }
abbrev cX1_clear : ByteArray := prog_3_method_20_code
abbrev yX1_clear : MethodName := ⟨"ThreeCompactorsModel", "clear", "(I)V"⟩
abbrev wsX1_clear : List Cond := .code yX1_clear cX1_clear 2 (none) :: BG
abbrev rmX1_clear : Room := { frames := 1, cells := 0, slots := 0, locals := 20 }
abbrev cX1_bar : ByteArray := prog_3_method_21_code
abbrev yX1_bar : MethodName := ⟨"ThreeCompactorsModel", "bar", "(II)I"⟩
abbrev wsX1_bar : List Cond := .code yX1_bar cX1_bar 3 (some .int) :: BG
abbrev rmX1_bar : Room := { frames := 1, cells := 0, slots := 0, locals := 20 }
abbrev cX1_set : ByteArray := prog_3_method_22_code
abbrev yX1_set : MethodName := ⟨"ThreeCompactorsModel", "set", "(IIII)V"⟩
abbrev wsX1_set : List Cond := .code yX1_set cX1_set 5 (none) :: BG
abbrev rmX1_set : Room := { frames := 0, cells := 0, slots := 0, locals := 0 }
abbrev cX1_put : ByteArray := prog_3_method_23_code
abbrev yX1_put : MethodName := ⟨"ThreeCompactorsModel", "put", "(III)V"⟩
abbrev wsX1_put : List Cond := .code yX1_put cX1_put 4 (none) :: BG
abbrev rmX1_put : Room := { frames := 2, cells := 0, slots := 0, locals := 42 }
abbrev cX1_refer : ByteArray := prog_3_method_24_code
abbrev yX1_refer : MethodName := ⟨"ThreeCompactorsModel", "refer", "(IIIZ)V"⟩
abbrev wsX1_refer : List Cond := .code yX1_refer cX1_refer 5 (none) :: BG
abbrev rmX1_refer : Room := { frames := 2, cells := 0, slots := 0, locals := 42 }
abbrev cX1_follow : ByteArray := prog_3_method_25_code
abbrev yX1_follow : MethodName := ⟨"ThreeCompactorsModel", "follow", "(III)Z"⟩
abbrev wsX1_follow : List Cond := .code yX1_follow cX1_follow 4 (some .boolean) :: BG
abbrev rmX1_follow : Room := { frames := 2, cells := 0, slots := 0, locals := 42 }
abbrev cX1_kind : ByteArray := prog_3_method_26_code
abbrev yX1_kind : MethodName := ⟨"ThreeCompactorsModel", "kind", "(II)I"⟩
abbrev wsX1_kind : List Cond := .code yX1_kind cX1_kind 3 (some .int) :: BG
abbrev rmX1_kind : Room := { frames := 2, cells := 0, slots := 0, locals := 42 }
abbrev cX1_serial : ByteArray := prog_3_method_27_code
abbrev yX1_serial : MethodName := ⟨"ThreeCompactorsModel", "serial", "(I)I"⟩
abbrev wsX1_serial : List Cond := .code yX1_serial cX1_serial 2 (some .int) :: BG
abbrev rmX1_serial : Room := { frames := 1, cells := 0, slots := 0, locals := 20 }
abbrev cX1_address : ByteArray := prog_3_method_28_code
abbrev yX1_address : MethodName := ⟨"ThreeCompactorsModel", "address", "(I)I"⟩
abbrev wsX1_address : List Cond := .code yX1_address cX1_address 2 (some .int) :: BG
abbrev rmX1_address : Room := { frames := 1, cells := 0, slots := 0, locals := 23 }
abbrev cX1_wordOf : ByteArray := prog_3_method_29_code
abbrev yX1_wordOf : MethodName := ⟨"ThreeCompactorsModel", "wordOf", "(II)I"⟩
abbrev wsX1_wordOf : List Cond := .code yX1_wordOf cX1_wordOf 6 (some .int) :: BG
abbrev rmX1_wordOf : Room := { frames := 1, cells := 0, slots := 0, locals := 23 }
abbrev cX1_word : ByteArray := prog_3_method_30_code
abbrev yX1_word : MethodName := ⟨"ThreeCompactorsModel", "word", "(I)I"⟩
abbrev wsX1_word : List Cond := .code yX1_word cX1_word 5 (some .int) :: BG
abbrev rmX1_word : Room := { frames := 2, cells := 0, slots := 0, locals := 48 }
abbrev cX1_top : ByteArray := prog_3_method_31_code
abbrev yX1_top : MethodName := ⟨"ThreeCompactorsModel", "top", "()I"⟩
abbrev wsX1_top : List Cond := .code yX1_top cX1_top 1 (some .int) :: BG
abbrev rmX1_top : Room := { frames := 1, cells := 0, slots := 0, locals := 22 }
abbrev cX1_objects : ByteArray := prog_3_method_32_code
abbrev yX1_objects : MethodName := ⟨"ThreeCompactorsModel", "objects", "()I"⟩
abbrev wsX1_objects : List Cond := .code yX1_objects cX1_objects 1 (some .int) :: BG
abbrev rmX1_objects : Room := { frames := 0, cells := 0, slots := 0, locals := 0 }
abbrev cX1_alive : ByteArray := prog_3_method_33_code
abbrev yX1_alive : MethodName := ⟨"ThreeCompactorsModel", "alive", "()I"⟩
abbrev wsX1_alive : List Cond := .code yX1_alive cX1_alive 1 (some .int) :: BG
abbrev rmX1_alive : Room := { frames := 2, cells := 0, slots := 0, locals := 46 }
theorem mw_0 : (Jvm.Cond.selects "ThreeCompactors" ({ cls := "ThreeCompactors", name := "findAlive", desc := "()V" } : Jvm.MethodName) ({ cls := "ThreeCompactors", name := "findAlive", desc := "()V" } : Jvm.MethodName)) ∈ BG := List.mem_filter.mpr ⟨List.mem_of_getElem? (i := 0) (by decide +kernel), by decide +kernel⟩
theorem mw_1 : (Jvm.Cond.selects "ThreeCompactors" ({ cls := "ThreeCompactors", name := "reach", desc := "(I)V" } : Jvm.MethodName) ({ cls := "ThreeCompactors", name := "reach", desc := "(I)V" } : Jvm.MethodName)) ∈ BG := List.mem_filter.mpr ⟨List.mem_of_getElem? (i := 1) (by decide +kernel), by decide +kernel⟩
theorem mw_2 : (Jvm.Cond.selects "ThreeCompactors" ({ cls := "ThreeCompactors", name := "reachFrom", desc := "(I)V" } : Jvm.MethodName) ({ cls := "ThreeCompactors", name := "reachFrom", desc := "(I)V" } : Jvm.MethodName)) ∈ BG := List.mem_filter.mpr ⟨List.mem_of_getElem? (i := 2) (by decide +kernel), by decide +kernel⟩
theorem mw_3 : (Jvm.Cond.selects "ThreeCompactors" ({ cls := "ThreeCompactors", name := "fieldCount", desc := "(I)I" } : Jvm.MethodName) ({ cls := "ThreeCompactors", name := "fieldCount", desc := "(I)I" } : Jvm.MethodName)) ∈ BG := List.mem_filter.mpr ⟨List.mem_of_getElem? (i := 3) (by decide +kernel), by decide +kernel⟩
theorem mw_4 : (Jvm.Cond.selects "ThreeCompactors" ({ cls := "ThreeCompactors", name := "fieldKind", desc := "(II)I" } : Jvm.MethodName) ({ cls := "ThreeCompactors", name := "fieldKind", desc := "(II)I" } : Jvm.MethodName)) ∈ BG := List.mem_filter.mpr ⟨List.mem_of_getElem? (i := 4) (by decide +kernel), by decide +kernel⟩
theorem mw_6 : (Jvm.Cond.selects "ThreeCompactors" ({ cls := "ThreeCompactors", name := "requireRoom", desc := "(I)V" } : Jvm.MethodName) ({ cls := "ThreeCompactors", name := "requireRoom", desc := "(I)V" } : Jvm.MethodName)) ∈ BG := List.mem_filter.mpr ⟨List.mem_of_getElem? (i := 6) (by decide +kernel), by decide +kernel⟩
theorem mw_7 : (Jvm.Cond.selects "ThreeCompactors" ({ cls := "ThreeCompactors", name := "hasRoom", desc := "(I)Z" } : Jvm.MethodName) ({ cls := "ThreeCompactors", name := "hasRoom", desc := "(I)Z" } : Jvm.MethodName)) ∈ BG := List.mem_filter.mpr ⟨List.mem_of_getElem? (i := 7) (by decide +kernel), by decide +kernel⟩
theorem mw_8 : (Jvm.Cond.selects "ThreeCompactors" ({ cls := "ThreeCompactors", name := "makeObject", desc := "(II)I" } : Jvm.MethodName) ({ cls := "ThreeCompactors", name := "makeObject", desc := "(II)I" } : Jvm.MethodName)) ∈ BG := List.mem_filter.mpr ⟨List.mem_of_getElem? (i := 8) (by decide +kernel), by decide +kernel⟩
theorem mw_9 : (Jvm.Cond.selects "ThreeCompactors" ({ cls := "ThreeCompactors", name := "requireSizesFor", desc := "(I)V" } : Jvm.MethodName) ({ cls := "ThreeCompactors", name := "requireSizesFor", desc := "(I)V" } : Jvm.MethodName)) ∈ BG := List.mem_filter.mpr ⟨List.mem_of_getElem? (i := 9) (by decide +kernel), by decide +kernel⟩
theorem mw_10 : (Jvm.Cond.selects "ThreeCompactors" ({ cls := "ThreeCompactors", name := "isOneSize", desc := "()Z" } : Jvm.MethodName) ({ cls := "ThreeCompactors", name := "isOneSize", desc := "()Z" } : Jvm.MethodName)) ∈ BG := List.mem_filter.mpr ⟨List.mem_of_getElem? (i := 10) (by decide +kernel), by decide +kernel⟩
theorem mw_11 : (Jvm.Cond.selects "ThreeCompactors" ({ cls := "ThreeCompactors", name := "moveTogether", desc := "(I)V" } : Jvm.MethodName) ({ cls := "ThreeCompactors", name := "moveTogether", desc := "(I)V" } : Jvm.MethodName)) ∈ BG := List.mem_filter.mpr ⟨List.mem_of_getElem? (i := 11) (by decide +kernel), by decide +kernel⟩
theorem mw_12 : (Jvm.Cond.selects "ThreeCompactors" ({ cls := "ThreeCompactors", name := "planTwoFingers", desc := "()V" } : Jvm.MethodName) ({ cls := "ThreeCompactors", name := "planTwoFingers", desc := "()V" } : Jvm.MethodName)) ∈ BG := List.mem_filter.mpr ⟨List.mem_of_getElem? (i := 12) (by decide +kernel), by decide +kernel⟩
theorem mw_13 : (Jvm.Cond.selects "ThreeCompactors" ({ cls := "ThreeCompactors", name := "planSlide", desc := "()V" } : Jvm.MethodName) ({ cls := "ThreeCompactors", name := "planSlide", desc := "()V" } : Jvm.MethodName)) ∈ BG := List.mem_filter.mpr ⟨List.mem_of_getElem? (i := 13) (by decide +kernel), by decide +kernel⟩
theorem mw_14 : (Jvm.Cond.selects "ThreeCompactors" ({ cls := "ThreeCompactors", name := "sizeOf", desc := "(I)I" } : Jvm.MethodName) ({ cls := "ThreeCompactors", name := "sizeOf", desc := "(I)I" } : Jvm.MethodName)) ∈ BG := List.mem_filter.mpr ⟨List.mem_of_getElem? (i := 14) (by decide +kernel), by decide +kernel⟩
theorem mw_15 : (Jvm.Cond.selects "ThreeCompactors" ({ cls := "ThreeCompactors", name := "redirectRoots", desc := "()V" } : Jvm.MethodName) ({ cls := "ThreeCompactors", name := "redirectRoots", desc := "()V" } : Jvm.MethodName)) ∈ BG := List.mem_filter.mpr ⟨List.mem_of_getElem? (i := 15) (by decide +kernel), by decide +kernel⟩
theorem mw_16 : (Jvm.Cond.selects "ThreeCompactors" ({ cls := "ThreeCompactors", name := "addressAfterMove", desc := "(I)I" } : Jvm.MethodName) ({ cls := "ThreeCompactors", name := "addressAfterMove", desc := "(I)I" } : Jvm.MethodName)) ∈ BG := List.mem_filter.mpr ⟨List.mem_of_getElem? (i := 16) (by decide +kernel), by decide +kernel⟩
theorem mw_17 : (Jvm.Cond.selects "ThreeCompactors" ({ cls := "ThreeCompactors", name := "redirectFields", desc := "(I)V" } : Jvm.MethodName) ({ cls := "ThreeCompactors", name := "redirectFields", desc := "(I)V" } : Jvm.MethodName)) ∈ BG := List.mem_filter.mpr ⟨List.mem_of_getElem? (i := 17) (by decide +kernel), by decide +kernel⟩
theorem mw_18 : (Jvm.Cond.selects "ThreeCompactors" ({ cls := "ThreeCompactors", name := "moveObjects", desc := "()V" } : Jvm.MethodName) ({ cls := "ThreeCompactors", name := "moveObjects", desc := "()V" } : Jvm.MethodName)) ∈ BG := List.mem_filter.mpr ⟨List.mem_of_getElem? (i := 18) (by decide +kernel), by decide +kernel⟩
theorem mw_19 : (Jvm.Cond.selects "ThreeCompactors" ({ cls := "ThreeCompactors", name := "listObjects", desc := "()V" } : Jvm.MethodName) ({ cls := "ThreeCompactors", name := "listObjects", desc := "()V" } : Jvm.MethodName)) ∈ BG := List.mem_filter.mpr ⟨List.mem_of_getElem? (i := 19) (by decide +kernel), by decide +kernel⟩
theorem mw_20 : (Jvm.Cond.selects "ThreeCompactors" ({ cls := "ThreeCompactors", name := "requireObjectWithField", desc := "(II)V" } : Jvm.MethodName) ({ cls := "ThreeCompactors", name := "requireObjectWithField", desc := "(II)V" } : Jvm.MethodName)) ∈ BG := List.mem_filter.mpr ⟨List.mem_of_getElem? (i := 20) (by decide +kernel), by decide +kernel⟩
theorem mw_21 : (Jvm.Cond.selects "ThreeCompactors" ({ cls := "ThreeCompactors", name := "setField", desc := "(IIII)V" } : Jvm.MethodName) ({ cls := "ThreeCompactors", name := "setField", desc := "(IIII)V" } : Jvm.MethodName)) ∈ BG := List.mem_filter.mpr ⟨List.mem_of_getElem? (i := 21) (by decide +kernel), by decide +kernel⟩
theorem mw_22 : (Jvm.Cond.selects "ThreeCompactors" ({ cls := "ThreeCompactors", name := "requireReference", desc := "(II)V" } : Jvm.MethodName) ({ cls := "ThreeCompactors", name := "requireReference", desc := "(II)V" } : Jvm.MethodName)) ∈ BG := List.mem_filter.mpr ⟨List.mem_of_getElem? (i := 22) (by decide +kernel), by decide +kernel⟩
theorem mw_23 : (Jvm.Cond.selects "ThreeCompactorsModel" ({ cls := "ThreeCompactorsModel", name := "oneSize", desc := "()Z" } : Jvm.MethodName) ({ cls := "ThreeCompactorsModel", name := "oneSize", desc := "()Z" } : Jvm.MethodName)) ∈ BG := List.mem_filter.mpr ⟨List.mem_of_getElem? (i := 23) (by decide +kernel), by decide +kernel⟩
theorem mw_24 : (Jvm.Cond.selects "ThreeCompactorsModel" ({ cls := "ThreeCompactorsModel", name := "topNow", desc := "()I" } : Jvm.MethodName) ({ cls := "ThreeCompactorsModel", name := "topNow", desc := "()I" } : Jvm.MethodName)) ∈ BG := List.mem_filter.mpr ⟨List.mem_of_getElem? (i := 24) (by decide +kernel), by decide +kernel⟩
theorem mw_25 : (Jvm.Cond.selects "ThreeCompactorsModel" ({ cls := "ThreeCompactorsModel", name := "press", desc := "(I)V" } : Jvm.MethodName) ({ cls := "ThreeCompactorsModel", name := "press", desc := "(I)V" } : Jvm.MethodName)) ∈ BG := List.mem_filter.mpr ⟨List.mem_of_getElem? (i := 25) (by decide +kernel), by decide +kernel⟩
theorem mw_26 : (Jvm.Cond.selects "ThreeCompactorsModel" ({ cls := "ThreeCompactorsModel", name := "findAlive", desc := "()V" } : Jvm.MethodName) ({ cls := "ThreeCompactorsModel", name := "findAlive", desc := "()V" } : Jvm.MethodName)) ∈ BG := List.mem_filter.mpr ⟨List.mem_of_getElem? (i := 26) (by decide +kernel), by decide +kernel⟩
theorem mw_27 : (Jvm.Cond.selects "ThreeCompactorsModel" ({ cls := "ThreeCompactorsModel", name := "enliven", desc := "(I)Z" } : Jvm.MethodName) ({ cls := "ThreeCompactorsModel", name := "enliven", desc := "(I)Z" } : Jvm.MethodName)) ∈ BG := List.mem_filter.mpr ⟨List.mem_of_getElem? (i := 27) (by decide +kernel), by decide +kernel⟩
theorem mw_28 : (Jvm.Cond.selects "ThreeCompactorsModel" ({ cls := "ThreeCompactorsModel", name := "countAlive", desc := "()I" } : Jvm.MethodName) ({ cls := "ThreeCompactorsModel", name := "countAlive", desc := "()I" } : Jvm.MethodName)) ∈ BG := List.mem_filter.mpr ⟨List.mem_of_getElem? (i := 28) (by decide +kernel), by decide +kernel⟩
theorem mw_29 : (Jvm.Cond.selects "ThreeCompactorsModel" ({ cls := "ThreeCompactorsModel", name := "fillGaps", desc := "()V" } : Jvm.MethodName) ({ cls := "ThreeCompactorsModel", name := "fillGaps", desc := "()V" } : Jvm.MethodName)) ∈ BG := List.mem_filter.mpr ⟨List.mem_of_getElem? (i := 29) (by decide +kernel), by decide +kernel⟩
theorem mw_30 : (Jvm.Cond.selects "ThreeCompactorsModel" ({ cls := "ThreeCompactorsModel", name := "keepOrder", desc := "()V" } : Jvm.MethodName) ({ cls := "ThreeCompactorsModel", name := "keepOrder", desc := "()V" } : Jvm.MethodName)) ∈ BG := List.mem_filter.mpr ⟨List.mem_of_getElem? (i := 30) (by decide +kernel), by decide +kernel⟩
theorem mw_31 : (Jvm.Cond.selects "ThreeCompactorsModel" ({ cls := "ThreeCompactorsModel", name := "fits", desc := "(I)Z" } : Jvm.MethodName) ({ cls := "ThreeCompactorsModel", name := "fits", desc := "(I)Z" } : Jvm.MethodName)) ∈ BG := List.mem_filter.mpr ⟨List.mem_of_getElem? (i := 31) (by decide +kernel), by decide +kernel⟩
theorem mw_32 : (Jvm.Cond.selects "ThreeCompactorsModel" ({ cls := "ThreeCompactorsModel", name := "make", desc := "(II)I" } : Jvm.MethodName) ({ cls := "ThreeCompactorsModel", name := "make", desc := "(II)I" } : Jvm.MethodName)) ∈ BG := List.mem_filter.mpr ⟨List.mem_of_getElem? (i := 32) (by decide +kernel), by decide +kernel⟩
theorem mw_33 : (Jvm.Cond.selects "ThreeCompactorsModel" ({ cls := "ThreeCompactorsModel", name := "bar", desc := "(II)I" } : Jvm.MethodName) ({ cls := "ThreeCompactorsModel", name := "bar", desc := "(II)I" } : Jvm.MethodName)) ∈ BG := List.mem_filter.mpr ⟨List.mem_of_getElem? (i := 33) (by decide +kernel), by decide +kernel⟩
theorem mw_34 : (Jvm.Cond.selects "ThreeCompactorsModel" ({ cls := "ThreeCompactorsModel", name := "set", desc := "(IIII)V" } : Jvm.MethodName) ({ cls := "ThreeCompactorsModel", name := "set", desc := "(IIII)V" } : Jvm.MethodName)) ∈ BG := List.mem_filter.mpr ⟨List.mem_of_getElem? (i := 34) (by decide +kernel), by decide +kernel⟩
theorem mw_35 : (Jvm.Cond.selects "ThreeCompactorsModel" ({ cls := "ThreeCompactorsModel", name := "addressOf", desc := "(I)I" } : Jvm.MethodName) ({ cls := "ThreeCompactorsModel", name := "addressOf", desc := "(I)I" } : Jvm.MethodName)) ∈ BG := List.mem_filter.mpr ⟨List.mem_of_getElem? (i := 35) (by decide +kernel), by decide +kernel⟩
theorem mw_36 : (Jvm.Cond.selects "ThreeCompactorsModel" ({ cls := "ThreeCompactorsModel", name := "wordOf", desc := "(II)I" } : Jvm.MethodName) ({ cls := "ThreeCompactorsModel", name := "wordOf", desc := "(II)I" } : Jvm.MethodName)) ∈ BG := List.mem_filter.mpr ⟨List.mem_of_getElem? (i := 36) (by decide +kernel), by decide +kernel⟩
theorem mw_38 : (Jvm.Cond.initialized "ThreeCompactors") ∈ BG := List.mem_filter.mpr ⟨List.mem_of_getElem? (i := 38) (by decide +kernel), by decide +kernel⟩
theorem mw_39 : (Jvm.Cond.initialized "java/util/Arrays") ∈ BG := List.mem_filter.mpr ⟨List.mem_of_getElem? (i := 39) (by decide +kernel), by decide +kernel⟩
theorem mw_40 : (Jvm.Cond.initialized "ThreeCompactorsModel") ∈ BG := List.mem_filter.mpr ⟨List.mem_of_getElem? (i := 40) (by decide +kernel), by decide +kernel⟩
theorem mw_44 : (Jvm.Cond.initialized "java/lang/IndexOutOfBoundsException") ∈ BG := List.mem_filter.mpr ⟨List.mem_of_getElem? (i := 44) (by decide +kernel), by decide +kernel⟩
theorem mw_45 : (Jvm.Cond.initialized "java/lang/IllegalArgumentException") ∈ BG := List.mem_filter.mpr ⟨List.mem_of_getElem? (i := 45) (by decide +kernel), by decide +kernel⟩
theorem mw_46 : (Jvm.Cond.initialized "java/lang/IllegalStateException") ∈ BG := List.mem_filter.mpr ⟨List.mem_of_getElem? (i := 46) (by decide +kernel), by decide +kernel⟩
theorem mw_47 : (Jvm.Cond.initialized "java/lang/UnsupportedOperationException") ∈ BG := List.mem_filter.mpr ⟨List.mem_of_getElem? (i := 47) (by decide +kernel), by decide +kernel⟩
theorem mw_48 : (Jvm.Cond.initialized "java/lang/System") ∈ BG := List.mem_filter.mpr ⟨List.mem_of_getElem? (i := 48) (by decide +kernel), by decide +kernel⟩
theorem mw_49 : (Jvm.Cond.initialized "java/util/NoSuchElementException") ∈ BG := List.mem_filter.mpr ⟨List.mem_of_getElem? (i := 49) (by decide +kernel), by decide +kernel⟩
theorem mw_58 : (Jvm.Cond.methodLink "ThreeCompactors" (25 : Nat) ({ cls := "java/util/Arrays", name := "fill", desc := "([II)V" } : Jvm.MethodName)) ∈ BG := List.mem_filter.mpr ⟨List.mem_of_getElem? (i := 58) (by decide +kernel), by decide +kernel⟩
theorem mw_59 : (Jvm.Cond.static ({ cls := "java/util/Arrays", name := "fill", desc := "([II)V" } : Jvm.MethodName)) ∈ BG := List.mem_filter.mpr ⟨List.mem_of_getElem? (i := 59) (by decide +kernel), by decide +kernel⟩
theorem mw_60 : (Jvm.Cond.code ({ cls := "java/util/Arrays", name := "fill", desc := "([II)V" } : Jvm.MethodName) prog_13_method_103_code (4 : Nat) (Option.none : Option Jvm.ClassFile.FieldType)) ∈ BG := List.mem_filter.mpr ⟨List.mem_of_getElem? (i := 60) (by decide +kernel), by decide +kernel⟩
theorem mw_61 : (Jvm.Cond.fieldLink "ThreeCompactors" (9 : Nat) "ThreeCompactors" "words" "[I") ∈ BG := List.mem_filter.mpr ⟨List.mem_of_getElem? (i := 61) (by decide +kernel), by decide +kernel⟩
theorem mw_62 : (Jvm.Cond.fieldLink "ThreeCompactors" (13 : Nat) "ThreeCompactors" "roots" "[I") ∈ BG := List.mem_filter.mpr ⟨List.mem_of_getElem? (i := 62) (by decide +kernel), by decide +kernel⟩
theorem mw_63 : (Jvm.Cond.fieldLink "ThreeCompactors" (16 : Nat) "ThreeCompactors" "starts" "[I") ∈ BG := List.mem_filter.mpr ⟨List.mem_of_getElem? (i := 63) (by decide +kernel), by decide +kernel⟩
theorem mw_64 : (Jvm.Cond.fieldLink "ThreeCompactors" (19 : Nat) "ThreeCompactors" "reached" "[I") ∈ BG := List.mem_filter.mpr ⟨List.mem_of_getElem? (i := 64) (by decide +kernel), by decide +kernel⟩
theorem mw_65 : (Jvm.Cond.fieldLink "ThreeCompactors" (22 : Nat) "ThreeCompactors" "newAddress" "[I") ∈ BG := List.mem_filter.mpr ⟨List.mem_of_getElem? (i := 65) (by decide +kernel), by decide +kernel⟩
theorem mw_66 : (Jvm.Cond.fieldLink "ThreeCompactors" (58 : Nat) "ThreeCompactors" "top" "I") ∈ BG := List.mem_filter.mpr ⟨List.mem_of_getElem? (i := 66) (by decide +kernel), by decide +kernel⟩
theorem mw_67 : (Jvm.Cond.fieldLink "ThreeCompactors" (86 : Nat) "ThreeCompactors" "objectCount" "I") ∈ BG := List.mem_filter.mpr ⟨List.mem_of_getElem? (i := 67) (by decide +kernel), by decide +kernel⟩
theorem mw_68 : (Jvm.Cond.fieldLink "ThreeCompactors" (92 : Nat) "ThreeCompactors" "reachedCount" "I") ∈ BG := List.mem_filter.mpr ⟨List.mem_of_getElem? (i := 68) (by decide +kernel), by decide +kernel⟩
theorem mw_69 : (Jvm.Cond.fieldLink "ThreeCompactors" (131 : Nat) "ThreeCompactors" "lastSerial" "I") ∈ BG := List.mem_filter.mpr ⟨List.mem_of_getElem? (i := 69) (by decide +kernel), by decide +kernel⟩
theorem mw_102 : (Jvm.Cond.methodLink "ThreeCompactors" (89 : Nat) ({ cls := "ThreeCompactors", name := "findAlive", desc := "()V" } : Jvm.MethodName)) ∈ BG := List.mem_filter.mpr ⟨List.mem_of_getElem? (i := 102) (by decide +kernel), by decide +kernel⟩
theorem mw_104 : (Jvm.Cond.instanceMethod ({ cls := "ThreeCompactors", name := "findAlive", desc := "()V" } : Jvm.MethodName)) ∈ BG := List.mem_filter.mpr ⟨List.mem_of_getElem? (i := 104) (by decide +kernel), by decide +kernel⟩
theorem mw_105 : (Jvm.Cond.code ({ cls := "ThreeCompactors", name := "findAlive", desc := "()V" } : Jvm.MethodName) prog_1_method_32_code (2 : Nat) (Option.none : Option Jvm.ClassFile.FieldType)) ∈ BG := List.mem_filter.mpr ⟨List.mem_of_getElem? (i := 105) (by decide +kernel), by decide +kernel⟩
theorem mw_106 : (Jvm.Cond.methodLink "ThreeCompactors" (134 : Nat) ({ cls := "ThreeCompactors", name := "reach", desc := "(I)V" } : Jvm.MethodName)) ∈ BG := List.mem_filter.mpr ⟨List.mem_of_getElem? (i := 106) (by decide +kernel), by decide +kernel⟩
theorem mw_108 : (Jvm.Cond.instanceMethod ({ cls := "ThreeCompactors", name := "reach", desc := "(I)V" } : Jvm.MethodName)) ∈ BG := List.mem_filter.mpr ⟨List.mem_of_getElem? (i := 108) (by decide +kernel), by decide +kernel⟩
theorem mw_109 : (Jvm.Cond.code ({ cls := "ThreeCompactors", name := "reach", desc := "(I)V" } : Jvm.MethodName) prog_1_method_33_code (2 : Nat) (Option.none : Option Jvm.ClassFile.FieldType)) ∈ BG := List.mem_filter.mpr ⟨List.mem_of_getElem? (i := 109) (by decide +kernel), by decide +kernel⟩
theorem mw_110 : (Jvm.Cond.methodLink "ThreeCompactors" (137 : Nat) ({ cls := "ThreeCompactors", name := "reachFrom", desc := "(I)V" } : Jvm.MethodName)) ∈ BG := List.mem_filter.mpr ⟨List.mem_of_getElem? (i := 110) (by decide +kernel), by decide +kernel⟩
theorem mw_112 : (Jvm.Cond.instanceMethod ({ cls := "ThreeCompactors", name := "reachFrom", desc := "(I)V" } : Jvm.MethodName)) ∈ BG := List.mem_filter.mpr ⟨List.mem_of_getElem? (i := 112) (by decide +kernel), by decide +kernel⟩
theorem mw_113 : (Jvm.Cond.code ({ cls := "ThreeCompactors", name := "reachFrom", desc := "(I)V" } : Jvm.MethodName) prog_1_method_34_code (4 : Nat) (Option.none : Option Jvm.ClassFile.FieldType)) ∈ BG := List.mem_filter.mpr ⟨List.mem_of_getElem? (i := 113) (by decide +kernel), by decide +kernel⟩
theorem mw_114 : (Jvm.Cond.methodLink "ThreeCompactors" (123 : Nat) ({ cls := "ThreeCompactors", name := "fieldCount", desc := "(I)I" } : Jvm.MethodName)) ∈ BG := List.mem_filter.mpr ⟨List.mem_of_getElem? (i := 114) (by decide +kernel), by decide +kernel⟩
theorem mw_116 : (Jvm.Cond.instanceMethod ({ cls := "ThreeCompactors", name := "fieldCount", desc := "(I)I" } : Jvm.MethodName)) ∈ BG := List.mem_filter.mpr ⟨List.mem_of_getElem? (i := 116) (by decide +kernel), by decide +kernel⟩
theorem mw_117 : (Jvm.Cond.code ({ cls := "ThreeCompactors", name := "fieldCount", desc := "(I)I" } : Jvm.MethodName) prog_1_method_27_code (2 : Nat) (Option.some Jvm.ClassFile.FieldType.int)) ∈ BG := List.mem_filter.mpr ⟨List.mem_of_getElem? (i := 117) (by decide +kernel), by decide +kernel⟩
theorem mw_118 : (Jvm.Cond.methodLink "ThreeCompactors" (76 : Nat) ({ cls := "ThreeCompactors", name := "fieldKind", desc := "(II)I" } : Jvm.MethodName)) ∈ BG := List.mem_filter.mpr ⟨List.mem_of_getElem? (i := 118) (by decide +kernel), by decide +kernel⟩
theorem mw_120 : (Jvm.Cond.instanceMethod ({ cls := "ThreeCompactors", name := "fieldKind", desc := "(II)I" } : Jvm.MethodName)) ∈ BG := List.mem_filter.mpr ⟨List.mem_of_getElem? (i := 120) (by decide +kernel), by decide +kernel⟩
theorem mw_121 : (Jvm.Cond.code ({ cls := "ThreeCompactors", name := "fieldKind", desc := "(II)I" } : Jvm.MethodName) prog_1_method_30_code (4 : Nat) (Option.some Jvm.ClassFile.FieldType.int)) ∈ BG := List.mem_filter.mpr ⟨List.mem_of_getElem? (i := 121) (by decide +kernel), by decide +kernel⟩
theorem mw_122 : (Jvm.Cond.methodLink "ThreeCompactors" (73 : Nat) ({ cls := "ThreeCompactors", name := "fieldAddress", desc := "(II)I" } : Jvm.MethodName)) ∈ BG := List.mem_filter.mpr ⟨List.mem_of_getElem? (i := 122) (by decide +kernel), by decide +kernel⟩
theorem mw_123 : (Jvm.Cond.static ({ cls := "ThreeCompactors", name := "fieldAddress", desc := "(II)I" } : Jvm.MethodName)) ∈ BG := List.mem_filter.mpr ⟨List.mem_of_getElem? (i := 123) (by decide +kernel), by decide +kernel⟩
theorem mw_124 : (Jvm.Cond.code ({ cls := "ThreeCompactors", name := "fieldAddress", desc := "(II)I" } : Jvm.MethodName) prog_1_method_29_code (2 : Nat) (Option.some Jvm.ClassFile.FieldType.int)) ∈ BG := List.mem_filter.mpr ⟨List.mem_of_getElem? (i := 124) (by decide +kernel), by decide +kernel⟩
theorem mw_135 : (Jvm.Cond.methodLink "ThreeCompactors" (31 : Nat) ({ cls := "ThreeCompactors", name := "requireRoot", desc := "(I)V" } : Jvm.MethodName)) ∈ BG := List.mem_filter.mpr ⟨List.mem_of_getElem? (i := 135) (by decide +kernel), by decide +kernel⟩
theorem mw_136 : (Jvm.Cond.static ({ cls := "ThreeCompactors", name := "requireRoot", desc := "(I)V" } : Jvm.MethodName)) ∈ BG := List.mem_filter.mpr ⟨List.mem_of_getElem? (i := 136) (by decide +kernel), by decide +kernel⟩
theorem mw_137 : (Jvm.Cond.code ({ cls := "ThreeCompactors", name := "requireRoot", desc := "(I)V" } : Jvm.MethodName) prog_1_method_17_code (1 : Nat) (Option.none : Option Jvm.ClassFile.FieldType)) ∈ BG := List.mem_filter.mpr ⟨List.mem_of_getElem? (i := 137) (by decide +kernel), by decide +kernel⟩
theorem mw_138 : (Jvm.Cond.classLink "ThreeCompactors" (79 : Nat) "java/lang/IndexOutOfBoundsException") ∈ BG := List.mem_filter.mpr ⟨List.mem_of_getElem? (i := 138) (by decide +kernel), by decide +kernel⟩
theorem mw_208 : (Jvm.Cond.methodLink "ThreeCompactors" (35 : Nat) ({ cls := "ThreeCompactors", name := "requireFieldCount", desc := "(I)V" } : Jvm.MethodName)) ∈ BG := List.mem_filter.mpr ⟨List.mem_of_getElem? (i := 208) (by decide +kernel), by decide +kernel⟩
theorem mw_209 : (Jvm.Cond.static ({ cls := "ThreeCompactors", name := "requireFieldCount", desc := "(I)V" } : Jvm.MethodName)) ∈ BG := List.mem_filter.mpr ⟨List.mem_of_getElem? (i := 209) (by decide +kernel), by decide +kernel⟩
theorem mw_210 : (Jvm.Cond.code ({ cls := "ThreeCompactors", name := "requireFieldCount", desc := "(I)V" } : Jvm.MethodName) prog_1_method_18_code (1 : Nat) (Option.none : Option Jvm.ClassFile.FieldType)) ∈ BG := List.mem_filter.mpr ⟨List.mem_of_getElem? (i := 210) (by decide +kernel), by decide +kernel⟩
theorem mw_211 : (Jvm.Cond.classLink "ThreeCompactors" (97 : Nat) "java/lang/IllegalArgumentException") ∈ BG := List.mem_filter.mpr ⟨List.mem_of_getElem? (i := 211) (by decide +kernel), by decide +kernel⟩
theorem mw_227 : (Jvm.Cond.methodLink "ThreeCompactors" (38 : Nat) ({ cls := "ThreeCompactors", name := "requireRoom", desc := "(I)V" } : Jvm.MethodName)) ∈ BG := List.mem_filter.mpr ⟨List.mem_of_getElem? (i := 227) (by decide +kernel), by decide +kernel⟩
theorem mw_229 : (Jvm.Cond.instanceMethod ({ cls := "ThreeCompactors", name := "requireRoom", desc := "(I)V" } : Jvm.MethodName)) ∈ BG := List.mem_filter.mpr ⟨List.mem_of_getElem? (i := 229) (by decide +kernel), by decide +kernel⟩
theorem mw_230 : (Jvm.Cond.code ({ cls := "ThreeCompactors", name := "requireRoom", desc := "(I)V" } : Jvm.MethodName) prog_1_method_20_code (2 : Nat) (Option.none : Option Jvm.ClassFile.FieldType)) ∈ BG := List.mem_filter.mpr ⟨List.mem_of_getElem? (i := 230) (by decide +kernel), by decide +kernel⟩
theorem mw_231 : (Jvm.Cond.methodLink "ThreeCompactors" (48 : Nat) ({ cls := "ThreeCompactors", name := "hasRoom", desc := "(I)Z" } : Jvm.MethodName)) ∈ BG := List.mem_filter.mpr ⟨List.mem_of_getElem? (i := 231) (by decide +kernel), by decide +kernel⟩
theorem mw_233 : (Jvm.Cond.instanceMethod ({ cls := "ThreeCompactors", name := "hasRoom", desc := "(I)Z" } : Jvm.MethodName)) ∈ BG := List.mem_filter.mpr ⟨List.mem_of_getElem? (i := 233) (by decide +kernel), by decide +kernel⟩
theorem mw_234 : (Jvm.Cond.code ({ cls := "ThreeCompactors", name := "hasRoom", desc := "(I)Z" } : Jvm.MethodName) prog_1_method_24_code (2 : Nat) (Option.some Jvm.ClassFile.FieldType.boolean)) ∈ BG := List.mem_filter.mpr ⟨List.mem_of_getElem? (i := 234) (by decide +kernel), by decide +kernel⟩
theorem mw_235 : (Jvm.Cond.classLink "ThreeCompactors" (104 : Nat) "java/lang/IllegalStateException") ∈ BG := List.mem_filter.mpr ⟨List.mem_of_getElem? (i := 235) (by decide +kernel), by decide +kernel⟩
theorem mw_251 : (Jvm.Cond.methodLink "ThreeCompactors" (41 : Nat) ({ cls := "ThreeCompactors", name := "makeObject", desc := "(II)I" } : Jvm.MethodName)) ∈ BG := List.mem_filter.mpr ⟨List.mem_of_getElem? (i := 251) (by decide +kernel), by decide +kernel⟩
theorem mw_253 : (Jvm.Cond.instanceMethod ({ cls := "ThreeCompactors", name := "makeObject", desc := "(II)I" } : Jvm.MethodName)) ∈ BG := List.mem_filter.mpr ⟨List.mem_of_getElem? (i := 253) (by decide +kernel), by decide +kernel⟩
theorem mw_254 : (Jvm.Cond.code ({ cls := "ThreeCompactors", name := "makeObject", desc := "(II)I" } : Jvm.MethodName) prog_1_method_26_code (3 : Nat) (Option.some Jvm.ClassFile.FieldType.int)) ∈ BG := List.mem_filter.mpr ⟨List.mem_of_getElem? (i := 254) (by decide +kernel), by decide +kernel⟩
theorem mw_263 : (Jvm.Cond.methodLink "ThreeCompactors" (45 : Nat) ({ cls := "ThreeCompactors", name := "requireWay", desc := "(I)V" } : Jvm.MethodName)) ∈ BG := List.mem_filter.mpr ⟨List.mem_of_getElem? (i := 263) (by decide +kernel), by decide +kernel⟩
theorem mw_264 : (Jvm.Cond.static ({ cls := "ThreeCompactors", name := "requireWay", desc := "(I)V" } : Jvm.MethodName)) ∈ BG := List.mem_filter.mpr ⟨List.mem_of_getElem? (i := 264) (by decide +kernel), by decide +kernel⟩
theorem mw_265 : (Jvm.Cond.code ({ cls := "ThreeCompactors", name := "requireWay", desc := "(I)V" } : Jvm.MethodName) prog_1_method_19_code (1 : Nat) (Option.none : Option Jvm.ClassFile.FieldType)) ∈ BG := List.mem_filter.mpr ⟨List.mem_of_getElem? (i := 265) (by decide +kernel), by decide +kernel⟩
theorem mw_267 : (Jvm.Cond.methodLink "ThreeCompactors" (52 : Nat) ({ cls := "ThreeCompactors", name := "requireSizesFor", desc := "(I)V" } : Jvm.MethodName)) ∈ BG := List.mem_filter.mpr ⟨List.mem_of_getElem? (i := 267) (by decide +kernel), by decide +kernel⟩
theorem mw_269 : (Jvm.Cond.instanceMethod ({ cls := "ThreeCompactors", name := "requireSizesFor", desc := "(I)V" } : Jvm.MethodName)) ∈ BG := List.mem_filter.mpr ⟨List.mem_of_getElem? (i := 269) (by decide +kernel), by decide +kernel⟩
theorem mw_270 : (Jvm.Cond.code ({ cls := "ThreeCompactors", name := "requireSizesFor", desc := "(I)V" } : Jvm.MethodName) prog_1_method_21_code (2 : Nat) (Option.none : Option Jvm.ClassFile.FieldType)) ∈ BG := List.mem_filter.mpr ⟨List.mem_of_getElem? (i := 270) (by decide +kernel), by decide +kernel⟩
theorem mw_271 : (Jvm.Cond.methodLink "ThreeCompactors" (109 : Nat) ({ cls := "ThreeCompactors", name := "isOneSize", desc := "()Z" } : Jvm.MethodName)) ∈ BG := List.mem_filter.mpr ⟨List.mem_of_getElem? (i := 271) (by decide +kernel), by decide +kernel⟩
theorem mw_273 : (Jvm.Cond.instanceMethod ({ cls := "ThreeCompactors", name := "isOneSize", desc := "()Z" } : Jvm.MethodName)) ∈ BG := List.mem_filter.mpr ⟨List.mem_of_getElem? (i := 273) (by decide +kernel), by decide +kernel⟩
theorem mw_274 : (Jvm.Cond.code ({ cls := "ThreeCompactors", name := "isOneSize", desc := "()Z" } : Jvm.MethodName) prog_1_method_25_code (2 : Nat) (Option.some Jvm.ClassFile.FieldType.boolean)) ∈ BG := List.mem_filter.mpr ⟨List.mem_of_getElem? (i := 274) (by decide +kernel), by decide +kernel⟩
theorem mw_275 : (Jvm.Cond.classLink "ThreeCompactors" (113 : Nat) "java/lang/UnsupportedOperationException") ∈ BG := List.mem_filter.mpr ⟨List.mem_of_getElem? (i := 275) (by decide +kernel), by decide +kernel⟩
theorem mw_291 : (Jvm.Cond.methodLink "ThreeCompactors" (55 : Nat) ({ cls := "ThreeCompactors", name := "moveTogether", desc := "(I)V" } : Jvm.MethodName)) ∈ BG := List.mem_filter.mpr ⟨List.mem_of_getElem? (i := 291) (by decide +kernel), by decide +kernel⟩
theorem mw_293 : (Jvm.Cond.instanceMethod ({ cls := "ThreeCompactors", name := "moveTogether", desc := "(I)V" } : Jvm.MethodName)) ∈ BG := List.mem_filter.mpr ⟨List.mem_of_getElem? (i := 293) (by decide +kernel), by decide +kernel⟩
theorem mw_294 : (Jvm.Cond.code ({ cls := "ThreeCompactors", name := "moveTogether", desc := "(I)V" } : Jvm.MethodName) prog_1_method_35_code (3 : Nat) (Option.none : Option Jvm.ClassFile.FieldType)) ∈ BG := List.mem_filter.mpr ⟨List.mem_of_getElem? (i := 294) (by decide +kernel), by decide +kernel⟩
theorem mw_295 : (Jvm.Cond.methodLink "ThreeCompactors" (140 : Nat) ({ cls := "ThreeCompactors", name := "planTwoFingers", desc := "()V" } : Jvm.MethodName)) ∈ BG := List.mem_filter.mpr ⟨List.mem_of_getElem? (i := 295) (by decide +kernel), by decide +kernel⟩
theorem mw_297 : (Jvm.Cond.instanceMethod ({ cls := "ThreeCompactors", name := "planTwoFingers", desc := "()V" } : Jvm.MethodName)) ∈ BG := List.mem_filter.mpr ⟨List.mem_of_getElem? (i := 297) (by decide +kernel), by decide +kernel⟩
theorem mw_298 : (Jvm.Cond.code ({ cls := "ThreeCompactors", name := "planTwoFingers", desc := "()V" } : Jvm.MethodName) prog_1_method_37_code (3 : Nat) (Option.none : Option Jvm.ClassFile.FieldType)) ∈ BG := List.mem_filter.mpr ⟨List.mem_of_getElem? (i := 298) (by decide +kernel), by decide +kernel⟩
theorem mw_299 : (Jvm.Cond.methodLink "ThreeCompactors" (143 : Nat) ({ cls := "ThreeCompactors", name := "planSlide", desc := "()V" } : Jvm.MethodName)) ∈ BG := List.mem_filter.mpr ⟨List.mem_of_getElem? (i := 299) (by decide +kernel), by decide +kernel⟩
theorem mw_301 : (Jvm.Cond.instanceMethod ({ cls := "ThreeCompactors", name := "planSlide", desc := "()V" } : Jvm.MethodName)) ∈ BG := List.mem_filter.mpr ⟨List.mem_of_getElem? (i := 301) (by decide +kernel), by decide +kernel⟩
theorem mw_302 : (Jvm.Cond.code ({ cls := "ThreeCompactors", name := "planSlide", desc := "()V" } : Jvm.MethodName) prog_1_method_36_code (4 : Nat) (Option.none : Option Jvm.ClassFile.FieldType)) ∈ BG := List.mem_filter.mpr ⟨List.mem_of_getElem? (i := 302) (by decide +kernel), by decide +kernel⟩
theorem mw_303 : (Jvm.Cond.methodLink "ThreeCompactors" (158 : Nat) ({ cls := "ThreeCompactors", name := "sizeOf", desc := "(I)I" } : Jvm.MethodName)) ∈ BG := List.mem_filter.mpr ⟨List.mem_of_getElem? (i := 303) (by decide +kernel), by decide +kernel⟩
theorem mw_305 : (Jvm.Cond.instanceMethod ({ cls := "ThreeCompactors", name := "sizeOf", desc := "(I)I" } : Jvm.MethodName)) ∈ BG := List.mem_filter.mpr ⟨List.mem_of_getElem? (i := 305) (by decide +kernel), by decide +kernel⟩
theorem mw_306 : (Jvm.Cond.code ({ cls := "ThreeCompactors", name := "sizeOf", desc := "(I)I" } : Jvm.MethodName) prog_1_method_28_code (2 : Nat) (Option.some Jvm.ClassFile.FieldType.int)) ∈ BG := List.mem_filter.mpr ⟨List.mem_of_getElem? (i := 306) (by decide +kernel), by decide +kernel⟩
theorem mw_307 : (Jvm.Cond.methodLink "ThreeCompactors" (146 : Nat) ({ cls := "ThreeCompactors", name := "redirectRoots", desc := "()V" } : Jvm.MethodName)) ∈ BG := List.mem_filter.mpr ⟨List.mem_of_getElem? (i := 307) (by decide +kernel), by decide +kernel⟩
theorem mw_309 : (Jvm.Cond.instanceMethod ({ cls := "ThreeCompactors", name := "redirectRoots", desc := "()V" } : Jvm.MethodName)) ∈ BG := List.mem_filter.mpr ⟨List.mem_of_getElem? (i := 309) (by decide +kernel), by decide +kernel⟩
theorem mw_310 : (Jvm.Cond.code ({ cls := "ThreeCompactors", name := "redirectRoots", desc := "()V" } : Jvm.MethodName) prog_1_method_38_code (2 : Nat) (Option.none : Option Jvm.ClassFile.FieldType)) ∈ BG := List.mem_filter.mpr ⟨List.mem_of_getElem? (i := 310) (by decide +kernel), by decide +kernel⟩
theorem mw_311 : (Jvm.Cond.methodLink "ThreeCompactors" (161 : Nat) ({ cls := "ThreeCompactors", name := "addressAfterMove", desc := "(I)I" } : Jvm.MethodName)) ∈ BG := List.mem_filter.mpr ⟨List.mem_of_getElem? (i := 311) (by decide +kernel), by decide +kernel⟩
theorem mw_313 : (Jvm.Cond.instanceMethod ({ cls := "ThreeCompactors", name := "addressAfterMove", desc := "(I)I" } : Jvm.MethodName)) ∈ BG := List.mem_filter.mpr ⟨List.mem_of_getElem? (i := 313) (by decide +kernel), by decide +kernel⟩
theorem mw_314 : (Jvm.Cond.code ({ cls := "ThreeCompactors", name := "addressAfterMove", desc := "(I)I" } : Jvm.MethodName) prog_1_method_40_code (2 : Nat) (Option.some Jvm.ClassFile.FieldType.int)) ∈ BG := List.mem_filter.mpr ⟨List.mem_of_getElem? (i := 314) (by decide +kernel), by decide +kernel⟩
theorem mw_315 : (Jvm.Cond.methodLink "ThreeCompactors" (149 : Nat) ({ cls := "ThreeCompactors", name := "redirectFields", desc := "(I)V" } : Jvm.MethodName)) ∈ BG := List.mem_filter.mpr ⟨List.mem_of_getElem? (i := 315) (by decide +kernel), by decide +kernel⟩
theorem mw_317 : (Jvm.Cond.instanceMethod ({ cls := "ThreeCompactors", name := "redirectFields", desc := "(I)V" } : Jvm.MethodName)) ∈ BG := List.mem_filter.mpr ⟨List.mem_of_getElem? (i := 317) (by decide +kernel), by decide +kernel⟩
theorem mw_318 : (Jvm.Cond.code ({ cls := "ThreeCompactors", name := "redirectFields", desc := "(I)V" } : Jvm.MethodName) prog_1_method_39_code (5 : Nat) (Option.none : Option Jvm.ClassFile.FieldType)) ∈ BG := List.mem_filter.mpr ⟨List.mem_of_getElem? (i := 318) (by decide +kernel), by decide +kernel⟩
theorem mw_319 : (Jvm.Cond.methodLink "ThreeCompactors" (152 : Nat) ({ cls := "ThreeCompactors", name := "moveObjects", desc := "()V" } : Jvm.MethodName)) ∈ BG := List.mem_filter.mpr ⟨List.mem_of_getElem? (i := 319) (by decide +kernel), by decide +kernel⟩
theorem mw_321 : (Jvm.Cond.instanceMethod ({ cls := "ThreeCompactors", name := "moveObjects", desc := "()V" } : Jvm.MethodName)) ∈ BG := List.mem_filter.mpr ⟨List.mem_of_getElem? (i := 321) (by decide +kernel), by decide +kernel⟩
theorem mw_322 : (Jvm.Cond.code ({ cls := "ThreeCompactors", name := "moveObjects", desc := "()V" } : Jvm.MethodName) prog_1_method_41_code (3 : Nat) (Option.none : Option Jvm.ClassFile.FieldType)) ∈ BG := List.mem_filter.mpr ⟨List.mem_of_getElem? (i := 322) (by decide +kernel), by decide +kernel⟩
theorem mw_323 : (Jvm.Cond.methodLink "ThreeCompactors" (164 : Nat) ({ cls := "java/lang/System", name := "arraycopy", desc := "(Ljava/lang/Object;ILjava/lang/Object;II)V" } : Jvm.MethodName)) ∈ BG := List.mem_filter.mpr ⟨List.mem_of_getElem? (i := 323) (by decide +kernel), by decide +kernel⟩
theorem mw_324 : (Jvm.Cond.static ({ cls := "java/lang/System", name := "arraycopy", desc := "(Ljava/lang/Object;ILjava/lang/Object;II)V" } : Jvm.MethodName)) ∈ BG := List.mem_filter.mpr ⟨List.mem_of_getElem? (i := 324) (by decide +kernel), by decide +kernel⟩
theorem mw_325 : (Jvm.Cond.native ({ cls := "java/lang/System", name := "arraycopy", desc := "(Ljava/lang/Object;ILjava/lang/Object;II)V" } : Jvm.MethodName)) ∈ BG := List.mem_filter.mpr ⟨List.mem_of_getElem? (i := 325) (by decide +kernel), by decide +kernel⟩
theorem mw_326 : (Jvm.Cond.methodLink "ThreeCompactors" (155 : Nat) ({ cls := "ThreeCompactors", name := "listObjects", desc := "()V" } : Jvm.MethodName)) ∈ BG := List.mem_filter.mpr ⟨List.mem_of_getElem? (i := 326) (by decide +kernel), by decide +kernel⟩
theorem mw_328 : (Jvm.Cond.instanceMethod ({ cls := "ThreeCompactors", name := "listObjects", desc := "()V" } : Jvm.MethodName)) ∈ BG := List.mem_filter.mpr ⟨List.mem_of_getElem? (i := 328) (by decide +kernel), by decide +kernel⟩
theorem mw_329 : (Jvm.Cond.code ({ cls := "ThreeCompactors", name := "listObjects", desc := "()V" } : Jvm.MethodName) prog_1_method_42_code (3 : Nat) (Option.none : Option Jvm.ClassFile.FieldType)) ∈ BG := List.mem_filter.mpr ⟨List.mem_of_getElem? (i := 329) (by decide +kernel), by decide +kernel⟩
theorem mw_330 : (Jvm.Cond.methodLink "ThreeCompactors" (170 : Nat) ({ cls := "java/util/Arrays", name := "fill", desc := "([IIII)V" } : Jvm.MethodName)) ∈ BG := List.mem_filter.mpr ⟨List.mem_of_getElem? (i := 330) (by decide +kernel), by decide +kernel⟩
theorem mw_331 : (Jvm.Cond.static ({ cls := "java/util/Arrays", name := "fill", desc := "([IIII)V" } : Jvm.MethodName)) ∈ BG := List.mem_filter.mpr ⟨List.mem_of_getElem? (i := 331) (by decide +kernel), by decide +kernel⟩
theorem mw_332 : (Jvm.Cond.code ({ cls := "java/util/Arrays", name := "fill", desc := "([IIII)V" } : Jvm.MethodName) prog_13_method_104_code (5 : Nat) (Option.none : Option Jvm.ClassFile.FieldType)) ∈ BG := List.mem_filter.mpr ⟨List.mem_of_getElem? (i := 332) (by decide +kernel), by decide +kernel⟩
theorem mw_333 : (Jvm.Cond.methodLink "java/util/Arrays" (13 : Nat) ({ cls := "java/util/Arrays", name := "rangeCheck", desc := "(III)V" } : Jvm.MethodName)) ∈ BG := List.mem_filter.mpr ⟨List.mem_of_getElem? (i := 333) (by decide +kernel), by decide +kernel⟩
theorem mw_334 : (Jvm.Cond.static ({ cls := "java/util/Arrays", name := "rangeCheck", desc := "(III)V" } : Jvm.MethodName)) ∈ BG := List.mem_filter.mpr ⟨List.mem_of_getElem? (i := 334) (by decide +kernel), by decide +kernel⟩
theorem mw_335 : (Jvm.Cond.code ({ cls := "java/util/Arrays", name := "rangeCheck", desc := "(III)V" } : Jvm.MethodName) prog_13_method_30_code (3 : Nat) (Option.none : Option Jvm.ClassFile.FieldType)) ∈ BG := List.mem_filter.mpr ⟨List.mem_of_getElem? (i := 335) (by decide +kernel), by decide +kernel⟩
theorem mw_365 : (Jvm.Cond.methodLink "ThreeCompactors" (62 : Nat) ({ cls := "ThreeCompactors", name := "requireObjectWithField", desc := "(II)V" } : Jvm.MethodName)) ∈ BG := List.mem_filter.mpr ⟨List.mem_of_getElem? (i := 365) (by decide +kernel), by decide +kernel⟩
theorem mw_367 : (Jvm.Cond.instanceMethod ({ cls := "ThreeCompactors", name := "requireObjectWithField", desc := "(II)V" } : Jvm.MethodName)) ∈ BG := List.mem_filter.mpr ⟨List.mem_of_getElem? (i := 367) (by decide +kernel), by decide +kernel⟩
theorem mw_368 : (Jvm.Cond.code ({ cls := "ThreeCompactors", name := "requireObjectWithField", desc := "(II)V" } : Jvm.MethodName) prog_1_method_22_code (3 : Nat) (Option.none : Option Jvm.ClassFile.FieldType)) ∈ BG := List.mem_filter.mpr ⟨List.mem_of_getElem? (i := 368) (by decide +kernel), by decide +kernel⟩
theorem mw_369 : (Jvm.Cond.classLink "ThreeCompactors" (118 : Nat) "java/util/NoSuchElementException") ∈ BG := List.mem_filter.mpr ⟨List.mem_of_getElem? (i := 369) (by decide +kernel), by decide +kernel⟩
theorem mw_386 : (Jvm.Cond.methodLink "ThreeCompactors" (66 : Nat) ({ cls := "ThreeCompactors", name := "setField", desc := "(IIII)V" } : Jvm.MethodName)) ∈ BG := List.mem_filter.mpr ⟨List.mem_of_getElem? (i := 386) (by decide +kernel), by decide +kernel⟩
theorem mw_388 : (Jvm.Cond.instanceMethod ({ cls := "ThreeCompactors", name := "setField", desc := "(IIII)V" } : Jvm.MethodName)) ∈ BG := List.mem_filter.mpr ⟨List.mem_of_getElem? (i := 388) (by decide +kernel), by decide +kernel⟩
theorem mw_389 : (Jvm.Cond.code ({ cls := "ThreeCompactors", name := "setField", desc := "(IIII)V" } : Jvm.MethodName) prog_1_method_31_code (8 : Nat) (Option.none : Option Jvm.ClassFile.FieldType)) ∈ BG := List.mem_filter.mpr ⟨List.mem_of_getElem? (i := 389) (by decide +kernel), by decide +kernel⟩
theorem mw_404 : (Jvm.Cond.methodLink "ThreeCompactors" (70 : Nat) ({ cls := "ThreeCompactors", name := "requireReference", desc := "(II)V" } : Jvm.MethodName)) ∈ BG := List.mem_filter.mpr ⟨List.mem_of_getElem? (i := 404) (by decide +kernel), by decide +kernel⟩
theorem mw_406 : (Jvm.Cond.instanceMethod ({ cls := "ThreeCompactors", name := "requireReference", desc := "(II)V" } : Jvm.MethodName)) ∈ BG := List.mem_filter.mpr ⟨List.mem_of_getElem? (i := 406) (by decide +kernel), by decide +kernel⟩
theorem mw_407 : (Jvm.Cond.code ({ cls := "ThreeCompactors", name := "requireReference", desc := "(II)V" } : Jvm.MethodName) prog_1_method_23_code (3 : Nat) (Option.none : Option Jvm.ClassFile.FieldType)) ∈ BG := List.mem_filter.mpr ⟨List.mem_of_getElem? (i := 407) (by decide +kernel), by decide +kernel⟩
theorem mw_444 : (Jvm.Cond.fieldLink "ThreeCompactorsModel" (38 : Nat) "ThreeCompactorsModel" "thrown" "I") ∈ BG := List.mem_filter.mpr ⟨List.mem_of_getElem? (i := 444) (by decide +kernel), by decide +kernel⟩
theorem mw_445 : (Jvm.Cond.fieldLink "ThreeCompactorsModel" (73 : Nat) "ThreeCompactorsModel" "made" "I") ∈ BG := List.mem_filter.mpr ⟨List.mem_of_getElem? (i := 445) (by decide +kernel), by decide +kernel⟩
theorem mw_446 : (Jvm.Cond.fieldLink "ThreeCompactorsModel" (7 : Nat) "ThreeCompactorsModel" "used" "[Z") ∈ BG := List.mem_filter.mpr ⟨List.mem_of_getElem? (i := 446) (by decide +kernel), by decide +kernel⟩
theorem mw_447 : (Jvm.Cond.fieldLink "ThreeCompactorsModel" (13 : Nat) "ThreeCompactorsModel" "fields" "[I") ∈ BG := List.mem_filter.mpr ⟨List.mem_of_getElem? (i := 447) (by decide +kernel), by decide +kernel⟩
theorem mw_448 : (Jvm.Cond.fieldLink "ThreeCompactorsModel" (17 : Nat) "ThreeCompactorsModel" "serials" "[I") ∈ BG := List.mem_filter.mpr ⟨List.mem_of_getElem? (i := 448) (by decide +kernel), by decide +kernel⟩
theorem mw_449 : (Jvm.Cond.fieldLink "ThreeCompactorsModel" (20 : Nat) "ThreeCompactorsModel" "kinds" "[I") ∈ BG := List.mem_filter.mpr ⟨List.mem_of_getElem? (i := 449) (by decide +kernel), by decide +kernel⟩
theorem mw_450 : (Jvm.Cond.fieldLink "ThreeCompactorsModel" (23 : Nat) "ThreeCompactorsModel" "values" "[I") ∈ BG := List.mem_filter.mpr ⟨List.mem_of_getElem? (i := 450) (by decide +kernel), by decide +kernel⟩
theorem mw_451 : (Jvm.Cond.fieldLink "ThreeCompactorsModel" (26 : Nat) "ThreeCompactorsModel" "lives" "[Z") ∈ BG := List.mem_filter.mpr ⟨List.mem_of_getElem? (i := 451) (by decide +kernel), by decide +kernel⟩
theorem mw_452 : (Jvm.Cond.fieldLink "ThreeCompactorsModel" (42 : Nat) "ThreeCompactorsModel" "count" "I") ∈ BG := List.mem_filter.mpr ⟨List.mem_of_getElem? (i := 452) (by decide +kernel), by decide +kernel⟩
theorem mw_453 : (Jvm.Cond.fieldLink "ThreeCompactorsModel" (29 : Nat) "ThreeCompactorsModel" "order" "[I") ∈ BG := List.mem_filter.mpr ⟨List.mem_of_getElem? (i := 453) (by decide +kernel), by decide +kernel⟩
theorem mw_454 : (Jvm.Cond.fieldLink "ThreeCompactorsModel" (32 : Nat) "ThreeCompactorsModel" "next" "[I") ∈ BG := List.mem_filter.mpr ⟨List.mem_of_getElem? (i := 454) (by decide +kernel), by decide +kernel⟩
theorem mw_455 : (Jvm.Cond.fieldLink "ThreeCompactorsModel" (35 : Nat) "ThreeCompactorsModel" "roots" "[I") ∈ BG := List.mem_filter.mpr ⟨List.mem_of_getElem? (i := 455) (by decide +kernel), by decide +kernel⟩
theorem mw_490 : (Jvm.Cond.methodLink "ThreeCompactorsModel" (62 : Nat) ({ cls := "ThreeCompactorsModel", name := "oneSize", desc := "()Z" } : Jvm.MethodName)) ∈ BG := List.mem_filter.mpr ⟨List.mem_of_getElem? (i := 490) (by decide +kernel), by decide +kernel⟩
theorem mw_492 : (Jvm.Cond.instanceMethod ({ cls := "ThreeCompactorsModel", name := "oneSize", desc := "()Z" } : Jvm.MethodName)) ∈ BG := List.mem_filter.mpr ⟨List.mem_of_getElem? (i := 492) (by decide +kernel), by decide +kernel⟩
theorem mw_493 : (Jvm.Cond.code ({ cls := "ThreeCompactorsModel", name := "oneSize", desc := "()Z" } : Jvm.MethodName) prog_3_method_8_code (3 : Nat) (Option.some Jvm.ClassFile.FieldType.boolean)) ∈ BG := List.mem_filter.mpr ⟨List.mem_of_getElem? (i := 493) (by decide +kernel), by decide +kernel⟩
theorem mw_494 : (Jvm.Cond.methodLink "ThreeCompactorsModel" (66 : Nat) ({ cls := "ThreeCompactorsModel", name := "topNow", desc := "()I" } : Jvm.MethodName)) ∈ BG := List.mem_filter.mpr ⟨List.mem_of_getElem? (i := 494) (by decide +kernel), by decide +kernel⟩
theorem mw_496 : (Jvm.Cond.instanceMethod ({ cls := "ThreeCompactorsModel", name := "topNow", desc := "()I" } : Jvm.MethodName)) ∈ BG := List.mem_filter.mpr ⟨List.mem_of_getElem? (i := 496) (by decide +kernel), by decide +kernel⟩
theorem mw_497 : (Jvm.Cond.code ({ cls := "ThreeCompactorsModel", name := "topNow", desc := "()I" } : Jvm.MethodName) prog_3_method_3_code (3 : Nat) (Option.some Jvm.ClassFile.FieldType.int)) ∈ BG := List.mem_filter.mpr ⟨List.mem_of_getElem? (i := 497) (by decide +kernel), by decide +kernel⟩
theorem mw_498 : (Jvm.Cond.methodLink "ThreeCompactorsModel" (69 : Nat) ({ cls := "ThreeCompactorsModel", name := "press", desc := "(I)V" } : Jvm.MethodName)) ∈ BG := List.mem_filter.mpr ⟨List.mem_of_getElem? (i := 498) (by decide +kernel), by decide +kernel⟩
theorem mw_500 : (Jvm.Cond.instanceMethod ({ cls := "ThreeCompactorsModel", name := "press", desc := "(I)V" } : Jvm.MethodName)) ∈ BG := List.mem_filter.mpr ⟨List.mem_of_getElem? (i := 500) (by decide +kernel), by decide +kernel⟩
theorem mw_501 : (Jvm.Cond.code ({ cls := "ThreeCompactorsModel", name := "press", desc := "(I)V" } : Jvm.MethodName) prog_3_method_11_code (6 : Nat) (Option.none : Option Jvm.ClassFile.FieldType)) ∈ BG := List.mem_filter.mpr ⟨List.mem_of_getElem? (i := 501) (by decide +kernel), by decide +kernel⟩
theorem mw_502 : (Jvm.Cond.methodLink "ThreeCompactorsModel" (53 : Nat) ({ cls := "ThreeCompactorsModel", name := "findAlive", desc := "()V" } : Jvm.MethodName)) ∈ BG := List.mem_filter.mpr ⟨List.mem_of_getElem? (i := 502) (by decide +kernel), by decide +kernel⟩
theorem mw_504 : (Jvm.Cond.instanceMethod ({ cls := "ThreeCompactorsModel", name := "findAlive", desc := "()V" } : Jvm.MethodName)) ∈ BG := List.mem_filter.mpr ⟨List.mem_of_getElem? (i := 504) (by decide +kernel), by decide +kernel⟩
theorem mw_505 : (Jvm.Cond.code ({ cls := "ThreeCompactorsModel", name := "findAlive", desc := "()V" } : Jvm.MethodName) prog_3_method_6_code (5 : Nat) (Option.none : Option Jvm.ClassFile.FieldType)) ∈ BG := List.mem_filter.mpr ⟨List.mem_of_getElem? (i := 505) (by decide +kernel), by decide +kernel⟩
theorem mw_506 : (Jvm.Cond.methodLink "ThreeCompactorsModel" (45 : Nat) ({ cls := "ThreeCompactorsModel", name := "enliven", desc := "(I)Z" } : Jvm.MethodName)) ∈ BG := List.mem_filter.mpr ⟨List.mem_of_getElem? (i := 506) (by decide +kernel), by decide +kernel⟩
theorem mw_508 : (Jvm.Cond.instanceMethod ({ cls := "ThreeCompactorsModel", name := "enliven", desc := "(I)Z" } : Jvm.MethodName)) ∈ BG := List.mem_filter.mpr ⟨List.mem_of_getElem? (i := 508) (by decide +kernel), by decide +kernel⟩
theorem mw_509 : (Jvm.Cond.code ({ cls := "ThreeCompactorsModel", name := "enliven", desc := "(I)Z" } : Jvm.MethodName) prog_3_method_5_code (3 : Nat) (Option.some Jvm.ClassFile.FieldType.boolean)) ∈ BG := List.mem_filter.mpr ⟨List.mem_of_getElem? (i := 509) (by decide +kernel), by decide +kernel⟩
theorem mw_510 : (Jvm.Cond.methodLink "ThreeCompactorsModel" (49 : Nat) ({ cls := "ThreeCompactorsModel", name := "countAlive", desc := "()I" } : Jvm.MethodName)) ∈ BG := List.mem_filter.mpr ⟨List.mem_of_getElem? (i := 510) (by decide +kernel), by decide +kernel⟩
theorem mw_512 : (Jvm.Cond.instanceMethod ({ cls := "ThreeCompactorsModel", name := "countAlive", desc := "()I" } : Jvm.MethodName)) ∈ BG := List.mem_filter.mpr ⟨List.mem_of_getElem? (i := 512) (by decide +kernel), by decide +kernel⟩
theorem mw_513 : (Jvm.Cond.code ({ cls := "ThreeCompactorsModel", name := "countAlive", desc := "()I" } : Jvm.MethodName) prog_3_method_7_code (3 : Nat) (Option.some Jvm.ClassFile.FieldType.int)) ∈ BG := List.mem_filter.mpr ⟨List.mem_of_getElem? (i := 513) (by decide +kernel), by decide +kernel⟩
theorem mw_514 : (Jvm.Cond.methodLink "ThreeCompactorsModel" (56 : Nat) ({ cls := "ThreeCompactorsModel", name := "fillGaps", desc := "()V" } : Jvm.MethodName)) ∈ BG := List.mem_filter.mpr ⟨List.mem_of_getElem? (i := 514) (by decide +kernel), by decide +kernel⟩
theorem mw_516 : (Jvm.Cond.instanceMethod ({ cls := "ThreeCompactorsModel", name := "fillGaps", desc := "()V" } : Jvm.MethodName)) ∈ BG := List.mem_filter.mpr ⟨List.mem_of_getElem? (i := 516) (by decide +kernel), by decide +kernel⟩
theorem mw_517 : (Jvm.Cond.code ({ cls := "ThreeCompactorsModel", name := "fillGaps", desc := "()V" } : Jvm.MethodName) prog_3_method_10_code (4 : Nat) (Option.none : Option Jvm.ClassFile.FieldType)) ∈ BG := List.mem_filter.mpr ⟨List.mem_of_getElem? (i := 517) (by decide +kernel), by decide +kernel⟩
theorem mw_518 : (Jvm.Cond.methodLink "ThreeCompactorsModel" (59 : Nat) ({ cls := "ThreeCompactorsModel", name := "keepOrder", desc := "()V" } : Jvm.MethodName)) ∈ BG := List.mem_filter.mpr ⟨List.mem_of_getElem? (i := 518) (by decide +kernel), by decide +kernel⟩
theorem mw_520 : (Jvm.Cond.instanceMethod ({ cls := "ThreeCompactorsModel", name := "keepOrder", desc := "()V" } : Jvm.MethodName)) ∈ BG := List.mem_filter.mpr ⟨List.mem_of_getElem? (i := 520) (by decide +kernel), by decide +kernel⟩
theorem mw_521 : (Jvm.Cond.code ({ cls := "ThreeCompactorsModel", name := "keepOrder", desc := "()V" } : Jvm.MethodName) prog_3_method_9_code (3 : Nat) (Option.none : Option Jvm.ClassFile.FieldType)) ∈ BG := List.mem_filter.mpr ⟨List.mem_of_getElem? (i := 521) (by decide +kernel), by decide +kernel⟩
theorem mw_526 : (Jvm.Cond.methodLink "ThreeCompactorsModel" (76 : Nat) ({ cls := "ThreeCompactorsModel", name := "isRoot", desc := "(I)Z" } : Jvm.MethodName)) ∈ BG := List.mem_filter.mpr ⟨List.mem_of_getElem? (i := 526) (by decide +kernel), by decide +kernel⟩
theorem mw_527 : (Jvm.Cond.static ({ cls := "ThreeCompactorsModel", name := "isRoot", desc := "(I)Z" } : Jvm.MethodName)) ∈ BG := List.mem_filter.mpr ⟨List.mem_of_getElem? (i := 527) (by decide +kernel), by decide +kernel⟩
theorem mw_528 : (Jvm.Cond.code ({ cls := "ThreeCompactorsModel", name := "isRoot", desc := "(I)Z" } : Jvm.MethodName) prog_3_method_14_code (1 : Nat) (Option.some Jvm.ClassFile.FieldType.boolean)) ∈ BG := List.mem_filter.mpr ⟨List.mem_of_getElem? (i := 528) (by decide +kernel), by decide +kernel⟩
theorem mw_529 : (Jvm.Cond.methodLink "ThreeCompactorsModel" (79 : Nat) ({ cls := "ThreeCompactorsModel", name := "isFields", desc := "(I)Z" } : Jvm.MethodName)) ∈ BG := List.mem_filter.mpr ⟨List.mem_of_getElem? (i := 529) (by decide +kernel), by decide +kernel⟩
theorem mw_530 : (Jvm.Cond.static ({ cls := "ThreeCompactorsModel", name := "isFields", desc := "(I)Z" } : Jvm.MethodName)) ∈ BG := List.mem_filter.mpr ⟨List.mem_of_getElem? (i := 530) (by decide +kernel), by decide +kernel⟩
theorem mw_531 : (Jvm.Cond.code ({ cls := "ThreeCompactorsModel", name := "isFields", desc := "(I)Z" } : Jvm.MethodName) prog_3_method_15_code (1 : Nat) (Option.some Jvm.ClassFile.FieldType.boolean)) ∈ BG := List.mem_filter.mpr ⟨List.mem_of_getElem? (i := 531) (by decide +kernel), by decide +kernel⟩
theorem mw_532 : (Jvm.Cond.methodLink "ThreeCompactorsModel" (82 : Nat) ({ cls := "ThreeCompactorsModel", name := "fits", desc := "(I)Z" } : Jvm.MethodName)) ∈ BG := List.mem_filter.mpr ⟨List.mem_of_getElem? (i := 532) (by decide +kernel), by decide +kernel⟩
theorem mw_534 : (Jvm.Cond.instanceMethod ({ cls := "ThreeCompactorsModel", name := "fits", desc := "(I)Z" } : Jvm.MethodName)) ∈ BG := List.mem_filter.mpr ⟨List.mem_of_getElem? (i := 534) (by decide +kernel), by decide +kernel⟩
theorem mw_535 : (Jvm.Cond.code ({ cls := "ThreeCompactorsModel", name := "fits", desc := "(I)Z" } : Jvm.MethodName) prog_3_method_16_code (2 : Nat) (Option.some Jvm.ClassFile.FieldType.boolean)) ∈ BG := List.mem_filter.mpr ⟨List.mem_of_getElem? (i := 535) (by decide +kernel), by decide +kernel⟩
theorem mw_536 : (Jvm.Cond.methodLink "ThreeCompactorsModel" (85 : Nat) ({ cls := "ThreeCompactorsModel", name := "make", desc := "(II)I" } : Jvm.MethodName)) ∈ BG := List.mem_filter.mpr ⟨List.mem_of_getElem? (i := 536) (by decide +kernel), by decide +kernel⟩
theorem mw_538 : (Jvm.Cond.instanceMethod ({ cls := "ThreeCompactorsModel", name := "make", desc := "(II)I" } : Jvm.MethodName)) ∈ BG := List.mem_filter.mpr ⟨List.mem_of_getElem? (i := 538) (by decide +kernel), by decide +kernel⟩
theorem mw_539 : (Jvm.Cond.code ({ cls := "ThreeCompactorsModel", name := "make", desc := "(II)I" } : Jvm.MethodName) prog_3_method_13_code (5 : Nat) (Option.some Jvm.ClassFile.FieldType.int)) ∈ BG := List.mem_filter.mpr ⟨List.mem_of_getElem? (i := 539) (by decide +kernel), by decide +kernel⟩
theorem mw_556 : (Jvm.Cond.methodLink "ThreeCompactorsModel" (89 : Nat) ({ cls := "ThreeCompactorsModel", name := "bar", desc := "(II)I" } : Jvm.MethodName)) ∈ BG := List.mem_filter.mpr ⟨List.mem_of_getElem? (i := 556) (by decide +kernel), by decide +kernel⟩
theorem mw_558 : (Jvm.Cond.instanceMethod ({ cls := "ThreeCompactorsModel", name := "bar", desc := "(II)I" } : Jvm.MethodName)) ∈ BG := List.mem_filter.mpr ⟨List.mem_of_getElem? (i := 558) (by decide +kernel), by decide +kernel⟩
theorem mw_559 : (Jvm.Cond.code ({ cls := "ThreeCompactorsModel", name := "bar", desc := "(II)I" } : Jvm.MethodName) prog_3_method_21_code (3 : Nat) (Option.some Jvm.ClassFile.FieldType.int)) ∈ BG := List.mem_filter.mpr ⟨List.mem_of_getElem? (i := 559) (by decide +kernel), by decide +kernel⟩
theorem mw_560 : (Jvm.Cond.methodLink "ThreeCompactorsModel" (92 : Nat) ({ cls := "ThreeCompactorsModel", name := "set", desc := "(IIII)V" } : Jvm.MethodName)) ∈ BG := List.mem_filter.mpr ⟨List.mem_of_getElem? (i := 560) (by decide +kernel), by decide +kernel⟩
theorem mw_562 : (Jvm.Cond.instanceMethod ({ cls := "ThreeCompactorsModel", name := "set", desc := "(IIII)V" } : Jvm.MethodName)) ∈ BG := List.mem_filter.mpr ⟨List.mem_of_getElem? (i := 562) (by decide +kernel), by decide +kernel⟩
theorem mw_563 : (Jvm.Cond.code ({ cls := "ThreeCompactorsModel", name := "set", desc := "(IIII)V" } : Jvm.MethodName) prog_3_method_22_code (5 : Nat) (Option.none : Option Jvm.ClassFile.FieldType)) ∈ BG := List.mem_filter.mpr ⟨List.mem_of_getElem? (i := 563) (by decide +kernel), by decide +kernel⟩
theorem mw_584 : (Jvm.Cond.methodLink "ThreeCompactorsModel" (96 : Nat) ({ cls := "ThreeCompactorsModel", name := "addressOf", desc := "(I)I" } : Jvm.MethodName)) ∈ BG := List.mem_filter.mpr ⟨List.mem_of_getElem? (i := 584) (by decide +kernel), by decide +kernel⟩
theorem mw_586 : (Jvm.Cond.instanceMethod ({ cls := "ThreeCompactorsModel", name := "addressOf", desc := "(I)I" } : Jvm.MethodName)) ∈ BG := List.mem_filter.mpr ⟨List.mem_of_getElem? (i := 586) (by decide +kernel), by decide +kernel⟩
theorem mw_587 : (Jvm.Cond.code ({ cls := "ThreeCompactorsModel", name := "addressOf", desc := "(I)I" } : Jvm.MethodName) prog_3_method_4_code (4 : Nat) (Option.some Jvm.ClassFile.FieldType.int)) ∈ BG := List.mem_filter.mpr ⟨List.mem_of_getElem? (i := 587) (by decide +kernel), by decide +kernel⟩
theorem mw_592 : (Jvm.Cond.methodLink "ThreeCompactorsModel" (100 : Nat) ({ cls := "ThreeCompactorsModel", name := "wordOf", desc := "(II)I" } : Jvm.MethodName)) ∈ BG := List.mem_filter.mpr ⟨List.mem_of_getElem? (i := 592) (by decide +kernel), by decide +kernel⟩
theorem mw_594 : (Jvm.Cond.instanceMethod ({ cls := "ThreeCompactorsModel", name := "wordOf", desc := "(II)I" } : Jvm.MethodName)) ∈ BG := List.mem_filter.mpr ⟨List.mem_of_getElem? (i := 594) (by decide +kernel), by decide +kernel⟩
theorem mw_595 : (Jvm.Cond.code ({ cls := "ThreeCompactorsModel", name := "wordOf", desc := "(II)I" } : Jvm.MethodName) prog_3_method_29_code (6 : Nat) (Option.some Jvm.ClassFile.FieldType.int)) ∈ BG := List.mem_filter.mpr ⟨List.mem_of_getElem? (i := 595) (by decide +kernel), by decide +kernel⟩
