/-- one cell more: the law's own row of one long -/
abbrev wY (cI cL : ClassId) (h a1 a2 a3 a4 a5 oa : Nat) (w r st rc na : Nat → Int32) (tp cn rh sr : Int32) (ou : Nat → Int64) : va_W := [(h, .inr (0, [.ref a1, .ref a2, .ref a3, .ref a4, .ref a5, .int tp, .int cn, .int rh, .int sr])), (a1, .inl (cI, 256, .inl w)), (a2, .inl (cI, 8, .inl r)), (a3, .inl (cI, 128, .inl st)), (a4, .inl (cI, 128, .inl rc)), (a5, .inl (cI, 256, .inl na)), (oa, .inl (cL, 1, .inr (.inl ou)))]
def q_nc : List (String × String) := [("java/lang/IllegalStateException", "java/lang/IllegalArgumentException"), ("java/lang/IllegalStateException", "java/lang/IndexOutOfBoundsException"), ("java/lang/IllegalArgumentException", "java/lang/IndexOutOfBoundsException"), ("java/lang/IllegalStateException", "java/lang/UnsupportedOperationException"), ("java/lang/UnsupportedOperationException", "java/lang/IllegalArgumentException"), ("java/lang/UnsupportedOperationException", "java/lang/IndexOutOfBoundsException"), ("java/util/NoSuchElementException", "java/lang/IndexOutOfBoundsException"), ("java/lang/IllegalStateException", "java/util/NoSuchElementException")]
def q_C (U : State) : Prop := ∀ q ∈ q_nc, va_Nc q.1 q.2 U
theorem q_C.moved {u U : State} (hvm : u.vm.Alike U.vm) (h : q_C u) : q_C U := fun q hq => (h q hq).moved hvm
abbrev q_preW (D : va_G) (cl : List vw_C) (tys : List (ClassId × FieldType)) (own : String) (tx : List (Nat × String)) (sz : Nat) (W : va_W) : State → Prop := fun U => U.heap.size = sz ∧ va_P D cl W U.heap ∧ va_K D cl tys U ∧ va_D (fun _ => True) W ∧ q_Z (va_A W sz) U U.heap ∧ q_T own tx U ∧ q_N U ∧ q_C U
theorem q_mc1 (e : Nat) : 0 + q_mc e ≤ 1 ∧ 0 + q_ms e ≤ 6 := by
  unfold q_mc q_ms
  constructor <;> split <;> omega
theorem q_w1 (ws : List Cond) (rm : Room) (e : Nat) (h : rm.cells = 1) : 0 + q_mc e ≤ (headSpec ws rm).room.cells := by
  have := (q_mc1 e).1
  rw [← h] at this
  exact this
theorem q_w6 (ws : List Cond) (rm : Room) (e : Nat) (h : rm.slots = 6) : 0 + q_ms e ≤ (headSpec ws rm).room.slots := by
  have := (q_mc1 e).2
  rw [← h] at this
  exact this
theorem mw_128 : (Jvm.Cond.classLink "ThreeCompactorsLaw" (13 : Nat) "java/lang/IndexOutOfBoundsException") ∈ BG := List.mem_filter.mpr ⟨List.mem_of_getElem? (i := 128) (by decide +kernel), by decide +kernel⟩
theorem mw_129 : (Jvm.Cond.classLink "ThreeCompactorsLaw" (15 : Nat) "java/lang/IllegalArgumentException") ∈ BG := List.mem_filter.mpr ⟨List.mem_of_getElem? (i := 129) (by decide +kernel), by decide +kernel⟩
theorem mw_130 : (Jvm.Cond.classLink "ThreeCompactorsLaw" (17 : Nat) "java/lang/IllegalStateException") ∈ BG := List.mem_filter.mpr ⟨List.mem_of_getElem? (i := 130) (by decide +kernel), by decide +kernel⟩
theorem mw_131 : (Jvm.Cond.methodLink "ThreeCompactorsLaw" (7 : Nat) ({ cls := "ThreeCompactors", name := "allocate", desc := "(II)I" } : Jvm.MethodName)) ∈ BG := List.mem_filter.mpr ⟨List.mem_of_getElem? (i := 131) (by decide +kernel), by decide +kernel⟩
theorem mw_132 : (Jvm.Cond.instanceMethod ({ cls := "ThreeCompactors", name := "allocate", desc := "(II)I" } : Jvm.MethodName)) ∈ BG := List.mem_filter.mpr ⟨List.mem_of_getElem? (i := 132) (by decide +kernel), by decide +kernel⟩
theorem mw_133 : (Jvm.Cond.selects "ThreeCompactors" ({ cls := "ThreeCompactors", name := "allocate", desc := "(II)I" } : Jvm.MethodName) ({ cls := "ThreeCompactors", name := "allocate", desc := "(II)I" } : Jvm.MethodName)) ∈ BG := List.mem_filter.mpr ⟨List.mem_of_getElem? (i := 133) (by decide +kernel), by decide +kernel⟩
theorem mw_134 : (Jvm.Cond.code ({ cls := "ThreeCompactors", name := "allocate", desc := "(II)I" } : Jvm.MethodName) prog_1_method_2_code (3 : Nat) (Option.some Jvm.ClassFile.FieldType.int)) ∈ BG := List.mem_filter.mpr ⟨List.mem_of_getElem? (i := 134) (by decide +kernel), by decide +kernel⟩
theorem mw_258 : (Jvm.Cond.classLink "ThreeCompactorsLaw" (23 : Nat) "java/lang/UnsupportedOperationException") ∈ BG := List.mem_filter.mpr ⟨List.mem_of_getElem? (i := 258) (by decide +kernel), by decide +kernel⟩
theorem mw_259 : (Jvm.Cond.methodLink "ThreeCompactorsLaw" (19 : Nat) ({ cls := "ThreeCompactors", name := "claim", desc := "(III)I" } : Jvm.MethodName)) ∈ BG := List.mem_filter.mpr ⟨List.mem_of_getElem? (i := 259) (by decide +kernel), by decide +kernel⟩
theorem mw_260 : (Jvm.Cond.instanceMethod ({ cls := "ThreeCompactors", name := "claim", desc := "(III)I" } : Jvm.MethodName)) ∈ BG := List.mem_filter.mpr ⟨List.mem_of_getElem? (i := 260) (by decide +kernel), by decide +kernel⟩
theorem mw_261 : (Jvm.Cond.selects "ThreeCompactors" ({ cls := "ThreeCompactors", name := "claim", desc := "(III)I" } : Jvm.MethodName) ({ cls := "ThreeCompactors", name := "claim", desc := "(III)I" } : Jvm.MethodName)) ∈ BG := List.mem_filter.mpr ⟨List.mem_of_getElem? (i := 261) (by decide +kernel), by decide +kernel⟩
theorem mw_262 : (Jvm.Cond.code ({ cls := "ThreeCompactors", name := "claim", desc := "(III)I" } : Jvm.MethodName) prog_1_method_3_code (4 : Nat) (Option.some Jvm.ClassFile.FieldType.int)) ∈ BG := List.mem_filter.mpr ⟨List.mem_of_getElem? (i := 262) (by decide +kernel), by decide +kernel⟩
theorem mw_339 : (Jvm.Cond.methodLink "ThreeCompactorsLaw" (25 : Nat) ({ cls := "ThreeCompactors", name := "compact", desc := "(I)I" } : Jvm.MethodName)) ∈ BG := List.mem_filter.mpr ⟨List.mem_of_getElem? (i := 339) (by decide +kernel), by decide +kernel⟩
theorem mw_340 : (Jvm.Cond.instanceMethod ({ cls := "ThreeCompactors", name := "compact", desc := "(I)I" } : Jvm.MethodName)) ∈ BG := List.mem_filter.mpr ⟨List.mem_of_getElem? (i := 340) (by decide +kernel), by decide +kernel⟩
theorem mw_341 : (Jvm.Cond.selects "ThreeCompactors" ({ cls := "ThreeCompactors", name := "compact", desc := "(I)I" } : Jvm.MethodName) ({ cls := "ThreeCompactors", name := "compact", desc := "(I)I" } : Jvm.MethodName)) ∈ BG := List.mem_filter.mpr ⟨List.mem_of_getElem? (i := 341) (by decide +kernel), by decide +kernel⟩
theorem mw_342 : (Jvm.Cond.code ({ cls := "ThreeCompactors", name := "compact", desc := "(I)I" } : Jvm.MethodName) prog_1_method_4_code (3 : Nat) (Option.some Jvm.ClassFile.FieldType.int)) ∈ BG := List.mem_filter.mpr ⟨List.mem_of_getElem? (i := 342) (by decide +kernel), by decide +kernel⟩
theorem mw_346 : (Jvm.Cond.methodLink "ThreeCompactorsLaw" (29 : Nat) ({ cls := "ThreeCompactors", name := "copy", desc := "(II)V" } : Jvm.MethodName)) ∈ BG := List.mem_filter.mpr ⟨List.mem_of_getElem? (i := 346) (by decide +kernel), by decide +kernel⟩
theorem mw_347 : (Jvm.Cond.instanceMethod ({ cls := "ThreeCompactors", name := "copy", desc := "(II)V" } : Jvm.MethodName)) ∈ BG := List.mem_filter.mpr ⟨List.mem_of_getElem? (i := 347) (by decide +kernel), by decide +kernel⟩
theorem mw_348 : (Jvm.Cond.selects "ThreeCompactors" ({ cls := "ThreeCompactors", name := "copy", desc := "(II)V" } : Jvm.MethodName) ({ cls := "ThreeCompactors", name := "copy", desc := "(II)V" } : Jvm.MethodName)) ∈ BG := List.mem_filter.mpr ⟨List.mem_of_getElem? (i := 348) (by decide +kernel), by decide +kernel⟩
theorem mw_349 : (Jvm.Cond.code ({ cls := "ThreeCompactors", name := "copy", desc := "(II)V" } : Jvm.MethodName) prog_1_method_5_code (3 : Nat) (Option.none : Option Jvm.ClassFile.FieldType)) ∈ BG := List.mem_filter.mpr ⟨List.mem_of_getElem? (i := 349) (by decide +kernel), by decide +kernel⟩
theorem mw_353 : (Jvm.Cond.methodLink "ThreeCompactorsLaw" (33 : Nat) ({ cls := "ThreeCompactors", name := "clear", desc := "(I)V" } : Jvm.MethodName)) ∈ BG := List.mem_filter.mpr ⟨List.mem_of_getElem? (i := 353) (by decide +kernel), by decide +kernel⟩
theorem mw_354 : (Jvm.Cond.instanceMethod ({ cls := "ThreeCompactors", name := "clear", desc := "(I)V" } : Jvm.MethodName)) ∈ BG := List.mem_filter.mpr ⟨List.mem_of_getElem? (i := 354) (by decide +kernel), by decide +kernel⟩
theorem mw_355 : (Jvm.Cond.selects "ThreeCompactors" ({ cls := "ThreeCompactors", name := "clear", desc := "(I)V" } : Jvm.MethodName) ({ cls := "ThreeCompactors", name := "clear", desc := "(I)V" } : Jvm.MethodName)) ∈ BG := List.mem_filter.mpr ⟨List.mem_of_getElem? (i := 355) (by decide +kernel), by decide +kernel⟩
theorem mw_356 : (Jvm.Cond.code ({ cls := "ThreeCompactors", name := "clear", desc := "(I)V" } : Jvm.MethodName) prog_1_method_6_code (2 : Nat) (Option.none : Option Jvm.ClassFile.FieldType)) ∈ BG := List.mem_filter.mpr ⟨List.mem_of_getElem? (i := 356) (by decide +kernel), by decide +kernel⟩
theorem mw_360 : (Jvm.Cond.classLink "ThreeCompactorsLaw" (41 : Nat) "java/util/NoSuchElementException") ∈ BG := List.mem_filter.mpr ⟨List.mem_of_getElem? (i := 360) (by decide +kernel), by decide +kernel⟩
theorem mw_361 : (Jvm.Cond.methodLink "ThreeCompactorsLaw" (37 : Nat) ({ cls := "ThreeCompactors", name := "put", desc := "(III)V" } : Jvm.MethodName)) ∈ BG := List.mem_filter.mpr ⟨List.mem_of_getElem? (i := 361) (by decide +kernel), by decide +kernel⟩
theorem mw_362 : (Jvm.Cond.instanceMethod ({ cls := "ThreeCompactors", name := "put", desc := "(III)V" } : Jvm.MethodName)) ∈ BG := List.mem_filter.mpr ⟨List.mem_of_getElem? (i := 362) (by decide +kernel), by decide +kernel⟩
theorem mw_363 : (Jvm.Cond.selects "ThreeCompactors" ({ cls := "ThreeCompactors", name := "put", desc := "(III)V" } : Jvm.MethodName) ({ cls := "ThreeCompactors", name := "put", desc := "(III)V" } : Jvm.MethodName)) ∈ BG := List.mem_filter.mpr ⟨List.mem_of_getElem? (i := 363) (by decide +kernel), by decide +kernel⟩
theorem mw_364 : (Jvm.Cond.code ({ cls := "ThreeCompactors", name := "put", desc := "(III)V" } : Jvm.MethodName) prog_1_method_7_code (4 : Nat) (Option.none : Option Jvm.ClassFile.FieldType)) ∈ BG := List.mem_filter.mpr ⟨List.mem_of_getElem? (i := 364) (by decide +kernel), by decide +kernel⟩
theorem mw_393 : (Jvm.Cond.methodLink "ThreeCompactorsLaw" (43 : Nat) ({ cls := "ThreeCompactors", name := "refer", desc := "(IIIZ)V" } : Jvm.MethodName)) ∈ BG := List.mem_filter.mpr ⟨List.mem_of_getElem? (i := 393) (by decide +kernel), by decide +kernel⟩
theorem mw_394 : (Jvm.Cond.instanceMethod ({ cls := "ThreeCompactors", name := "refer", desc := "(IIIZ)V" } : Jvm.MethodName)) ∈ BG := List.mem_filter.mpr ⟨List.mem_of_getElem? (i := 394) (by decide +kernel), by decide +kernel⟩
theorem mw_395 : (Jvm.Cond.selects "ThreeCompactors" ({ cls := "ThreeCompactors", name := "refer", desc := "(IIIZ)V" } : Jvm.MethodName) ({ cls := "ThreeCompactors", name := "refer", desc := "(IIIZ)V" } : Jvm.MethodName)) ∈ BG := List.mem_filter.mpr ⟨List.mem_of_getElem? (i := 395) (by decide +kernel), by decide +kernel⟩
theorem mw_396 : (Jvm.Cond.code ({ cls := "ThreeCompactors", name := "refer", desc := "(IIIZ)V" } : Jvm.MethodName) prog_1_method_8_code (5 : Nat) (Option.none : Option Jvm.ClassFile.FieldType)) ∈ BG := List.mem_filter.mpr ⟨List.mem_of_getElem? (i := 396) (by decide +kernel), by decide +kernel⟩
theorem mw_400 : (Jvm.Cond.methodLink "ThreeCompactorsLaw" (47 : Nat) ({ cls := "ThreeCompactors", name := "follow", desc := "(III)Z" } : Jvm.MethodName)) ∈ BG := List.mem_filter.mpr ⟨List.mem_of_getElem? (i := 400) (by decide +kernel), by decide +kernel⟩
theorem mw_401 : (Jvm.Cond.instanceMethod ({ cls := "ThreeCompactors", name := "follow", desc := "(III)Z" } : Jvm.MethodName)) ∈ BG := List.mem_filter.mpr ⟨List.mem_of_getElem? (i := 401) (by decide +kernel), by decide +kernel⟩
theorem mw_402 : (Jvm.Cond.selects "ThreeCompactors" ({ cls := "ThreeCompactors", name := "follow", desc := "(III)Z" } : Jvm.MethodName) ({ cls := "ThreeCompactors", name := "follow", desc := "(III)Z" } : Jvm.MethodName)) ∈ BG := List.mem_filter.mpr ⟨List.mem_of_getElem? (i := 402) (by decide +kernel), by decide +kernel⟩
theorem mw_403 : (Jvm.Cond.code ({ cls := "ThreeCompactors", name := "follow", desc := "(III)Z" } : Jvm.MethodName) prog_1_method_9_code (4 : Nat) (Option.some Jvm.ClassFile.FieldType.boolean)) ∈ BG := List.mem_filter.mpr ⟨List.mem_of_getElem? (i := 403) (by decide +kernel), by decide +kernel⟩
theorem mw_412 : (Jvm.Cond.methodLink "ThreeCompactorsLaw" (51 : Nat) ({ cls := "ThreeCompactors", name := "kind", desc := "(II)I" } : Jvm.MethodName)) ∈ BG := List.mem_filter.mpr ⟨List.mem_of_getElem? (i := 412) (by decide +kernel), by decide +kernel⟩
theorem mw_413 : (Jvm.Cond.instanceMethod ({ cls := "ThreeCompactors", name := "kind", desc := "(II)I" } : Jvm.MethodName)) ∈ BG := List.mem_filter.mpr ⟨List.mem_of_getElem? (i := 413) (by decide +kernel), by decide +kernel⟩
theorem mw_414 : (Jvm.Cond.selects "ThreeCompactors" ({ cls := "ThreeCompactors", name := "kind", desc := "(II)I" } : Jvm.MethodName) ({ cls := "ThreeCompactors", name := "kind", desc := "(II)I" } : Jvm.MethodName)) ∈ BG := List.mem_filter.mpr ⟨List.mem_of_getElem? (i := 414) (by decide +kernel), by decide +kernel⟩
theorem mw_415 : (Jvm.Cond.code ({ cls := "ThreeCompactors", name := "kind", desc := "(II)I" } : Jvm.MethodName) prog_1_method_10_code (3 : Nat) (Option.some Jvm.ClassFile.FieldType.int)) ∈ BG := List.mem_filter.mpr ⟨List.mem_of_getElem? (i := 415) (by decide +kernel), by decide +kernel⟩
theorem mw_419 : (Jvm.Cond.methodLink "ThreeCompactorsLaw" (54 : Nat) ({ cls := "ThreeCompactors", name := "serial", desc := "(I)I" } : Jvm.MethodName)) ∈ BG := List.mem_filter.mpr ⟨List.mem_of_getElem? (i := 419) (by decide +kernel), by decide +kernel⟩
theorem mw_420 : (Jvm.Cond.instanceMethod ({ cls := "ThreeCompactors", name := "serial", desc := "(I)I" } : Jvm.MethodName)) ∈ BG := List.mem_filter.mpr ⟨List.mem_of_getElem? (i := 420) (by decide +kernel), by decide +kernel⟩
theorem mw_421 : (Jvm.Cond.selects "ThreeCompactors" ({ cls := "ThreeCompactors", name := "serial", desc := "(I)I" } : Jvm.MethodName) ({ cls := "ThreeCompactors", name := "serial", desc := "(I)I" } : Jvm.MethodName)) ∈ BG := List.mem_filter.mpr ⟨List.mem_of_getElem? (i := 421) (by decide +kernel), by decide +kernel⟩
theorem mw_422 : (Jvm.Cond.code ({ cls := "ThreeCompactors", name := "serial", desc := "(I)I" } : Jvm.MethodName) prog_1_method_11_code (2 : Nat) (Option.some Jvm.ClassFile.FieldType.int)) ∈ BG := List.mem_filter.mpr ⟨List.mem_of_getElem? (i := 422) (by decide +kernel), by decide +kernel⟩
theorem mw_426 : (Jvm.Cond.methodLink "ThreeCompactorsLaw" (57 : Nat) ({ cls := "ThreeCompactors", name := "address", desc := "(I)I" } : Jvm.MethodName)) ∈ BG := List.mem_filter.mpr ⟨List.mem_of_getElem? (i := 426) (by decide +kernel), by decide +kernel⟩
theorem mw_427 : (Jvm.Cond.instanceMethod ({ cls := "ThreeCompactors", name := "address", desc := "(I)I" } : Jvm.MethodName)) ∈ BG := List.mem_filter.mpr ⟨List.mem_of_getElem? (i := 427) (by decide +kernel), by decide +kernel⟩
theorem mw_428 : (Jvm.Cond.selects "ThreeCompactors" ({ cls := "ThreeCompactors", name := "address", desc := "(I)I" } : Jvm.MethodName) ({ cls := "ThreeCompactors", name := "address", desc := "(I)I" } : Jvm.MethodName)) ∈ BG := List.mem_filter.mpr ⟨List.mem_of_getElem? (i := 428) (by decide +kernel), by decide +kernel⟩
theorem mw_429 : (Jvm.Cond.code ({ cls := "ThreeCompactors", name := "address", desc := "(I)I" } : Jvm.MethodName) prog_1_method_12_code (2 : Nat) (Option.some Jvm.ClassFile.FieldType.int)) ∈ BG := List.mem_filter.mpr ⟨List.mem_of_getElem? (i := 429) (by decide +kernel), by decide +kernel⟩
theorem mw_433 : (Jvm.Cond.methodLink "ThreeCompactorsLaw" (60 : Nat) ({ cls := "ThreeCompactors", name := "word", desc := "(I)I" } : Jvm.MethodName)) ∈ BG := List.mem_filter.mpr ⟨List.mem_of_getElem? (i := 433) (by decide +kernel), by decide +kernel⟩
theorem mw_434 : (Jvm.Cond.instanceMethod ({ cls := "ThreeCompactors", name := "word", desc := "(I)I" } : Jvm.MethodName)) ∈ BG := List.mem_filter.mpr ⟨List.mem_of_getElem? (i := 434) (by decide +kernel), by decide +kernel⟩
theorem mw_435 : (Jvm.Cond.selects "ThreeCompactors" ({ cls := "ThreeCompactors", name := "word", desc := "(I)I" } : Jvm.MethodName) ({ cls := "ThreeCompactors", name := "word", desc := "(I)I" } : Jvm.MethodName)) ∈ BG := List.mem_filter.mpr ⟨List.mem_of_getElem? (i := 435) (by decide +kernel), by decide +kernel⟩
theorem mw_436 : (Jvm.Cond.code ({ cls := "ThreeCompactors", name := "word", desc := "(I)I" } : Jvm.MethodName) prog_1_method_13_code (2 : Nat) (Option.some Jvm.ClassFile.FieldType.int)) ∈ BG := List.mem_filter.mpr ⟨List.mem_of_getElem? (i := 436) (by decide +kernel), by decide +kernel⟩
abbrev cL_allocate : ByteArray := method_3_code
abbrev yL_allocate : MethodName := ⟨"ThreeCompactorsLaw", "allocate", "(LThreeCompactors;II[J)I"⟩
abbrev wsL_allocate : List Cond := .codeWith yL_allocate cL_allocate 5 (some .int) [(0, 10, 13, 13), (0, 10, 17, 15), (0, 10, 21, 17)] :: BG
abbrev rmL_allocate : Room := { frames := 9, cells := 1, slots := 6, locals := 133 }
abbrev cL_claim : ByteArray := method_4_code
abbrev yL_claim : MethodName := ⟨"ThreeCompactorsLaw", "claim", "(LThreeCompactors;III[J)I"⟩
abbrev wsL_claim : List Cond := .codeWith yL_claim cL_claim 6 (some .int) [(0, 12, 15, 13), (0, 12, 19, 15), (0, 12, 23, 23), (0, 12, 27, 17)] :: BG
abbrev rmL_claim : Room := { frames := 9, cells := 1, slots := 6, locals := 134 }
abbrev cL_compact : ByteArray := method_5_code
abbrev yL_compact : MethodName := ⟨"ThreeCompactorsLaw", "compact", "(LThreeCompactors;I[J)I"⟩
abbrev wsL_compact : List Cond := .codeWith yL_compact cL_compact 4 (some .int) [(0, 9, 12, 15), (0, 9, 15, 23)] :: BG
abbrev rmL_compact : Room := { frames := 9, cells := 1, slots := 6, locals := 133 }
abbrev cL_copy : ByteArray := method_6_code
abbrev yL_copy : MethodName := ⟨"ThreeCompactorsLaw", "copy", "(LThreeCompactors;II)I"⟩
abbrev wsL_copy : List Cond := .codeWith yL_copy cL_copy 4 (some .int) [(0, 6, 9, 13)] :: BG
abbrev rmL_copy : Room := { frames := 9, cells := 1, slots := 6, locals := 132 }
abbrev cL_clear : ByteArray := method_7_code
abbrev yL_clear : MethodName := ⟨"ThreeCompactorsLaw", "clear", "(LThreeCompactors;I)I"⟩
abbrev wsL_clear : List Cond := .codeWith yL_clear cL_clear 3 (some .int) [(0, 5, 8, 13)] :: BG
abbrev rmL_clear : Room := { frames := 9, cells := 1, slots := 6, locals := 131 }
abbrev cL_put : ByteArray := method_8_code
abbrev yL_put : MethodName := ⟨"ThreeCompactorsLaw", "put", "(LThreeCompactors;III)I"⟩
abbrev wsL_put : List Cond := .codeWith yL_put cL_put 5 (some .int) [(0, 7, 10, 13), (0, 7, 14, 41)] :: BG
abbrev rmL_put : Room := { frames := 9, cells := 1, slots := 6, locals := 135 }
abbrev cL_refer : ByteArray := method_9_code
abbrev yL_refer : MethodName := ⟨"ThreeCompactorsLaw", "refer", "(LThreeCompactors;IIIZ)I"⟩
abbrev wsL_refer : List Cond := .codeWith yL_refer cL_refer 6 (some .int) [(0, 9, 12, 13), (0, 9, 16, 41)] :: BG
abbrev rmL_refer : Room := { frames := 9, cells := 1, slots := 6, locals := 136 }
abbrev cL_follow : ByteArray := method_10_code
abbrev yL_follow : MethodName := ⟨"ThreeCompactorsLaw", "follow", "(LThreeCompactors;III[J)I"⟩
abbrev wsL_follow : List Cond := .codeWith yL_follow cL_follow 6 (some .int) [(0, 19, 22, 13), (0, 19, 26, 41), (0, 19, 30, 17)] :: BG
abbrev rmL_follow : Room := { frames := 9, cells := 1, slots := 6, locals := 135 }
abbrev cL_kind : ByteArray := method_11_code
abbrev yL_kind : MethodName := ⟨"ThreeCompactorsLaw", "kind", "(LThreeCompactors;II[J)I"⟩
abbrev wsL_kind : List Cond := .codeWith yL_kind cL_kind 5 (some .int) [(0, 10, 13, 13), (0, 10, 17, 41)] :: BG
abbrev rmL_kind : Room := { frames := 9, cells := 1, slots := 6, locals := 134 }
abbrev cL_serial : ByteArray := method_12_code
abbrev yL_serial : MethodName := ⟨"ThreeCompactorsLaw", "serial", "(LThreeCompactors;I[J)I"⟩
abbrev wsL_serial : List Cond := .codeWith yL_serial cL_serial 4 (some .int) [(0, 9, 12, 13)] :: BG
abbrev rmL_serial : Room := { frames := 9, cells := 1, slots := 6, locals := 131 }
abbrev cL_address : ByteArray := method_13_code
abbrev yL_address : MethodName := ⟨"ThreeCompactorsLaw", "address", "(LThreeCompactors;I[J)I"⟩
abbrev wsL_address : List Cond := .codeWith yL_address cL_address 4 (some .int) [(0, 9, 12, 13)] :: BG
abbrev rmL_address : Room := { frames := 9, cells := 1, slots := 6, locals := 131 }
abbrev cL_word : ByteArray := method_14_code
abbrev yL_word : MethodName := ⟨"ThreeCompactorsLaw", "word", "(LThreeCompactors;I[J)I"⟩
abbrev wsL_word : List Cond := .codeWith yL_word cL_word 4 (some .int) [(0, 9, 12, 13)] :: BG
abbrev rmL_word : Room := { frames := 8, cells := 1, slots := 6, locals := 111 }
theorem dL_allocate_0 : decode cL_allocate 0 = .ok (.aload_n 3, 1) := by decide +kernel
theorem dL_allocate_1 : decode cL_allocate 1 = .ok (.iconst 0, 1) := by decide +kernel
theorem dL_allocate_2 : decode cL_allocate 2 = .ok (.aload_n 0, 1) := by decide +kernel
theorem dL_allocate_3 : decode cL_allocate 3 = .ok (.iload_n 1, 1) := by decide +kernel
theorem dL_allocate_4 : decode cL_allocate 4 = .ok (.iload_n 2, 1) := by decide +kernel
theorem dL_allocate_5 : decode cL_allocate 5 = .ok (.invokevirtual 7, 3) := by decide +kernel
theorem dL_allocate_8 : decode cL_allocate 8 = .ok (.i2l, 1) := by decide +kernel
theorem dL_allocate_9 : decode cL_allocate 9 = .ok (.lastore, 1) := by decide +kernel
theorem dL_allocate_10 : decode cL_allocate 10 = .ok (.goto 15, 3) := by decide +kernel
theorem dL_allocate_13 : decode cL_allocate 13 = .ok (.astore 4, 2) := by decide +kernel
theorem dL_allocate_15 : decode cL_allocate 15 = .ok (.iconst 1, 1) := by decide +kernel
theorem dL_allocate_16 : decode cL_allocate 16 = .ok (.ireturn, 1) := by decide +kernel
theorem dL_allocate_17 : decode cL_allocate 17 = .ok (.astore 4, 2) := by decide +kernel
theorem dL_allocate_19 : decode cL_allocate 19 = .ok (.iconst 2, 1) := by decide +kernel
theorem dL_allocate_20 : decode cL_allocate 20 = .ok (.ireturn, 1) := by decide +kernel
theorem dL_allocate_21 : decode cL_allocate 21 = .ok (.astore 4, 2) := by decide +kernel
theorem dL_allocate_23 : decode cL_allocate 23 = .ok (.iconst 3, 1) := by decide +kernel
theorem dL_allocate_24 : decode cL_allocate 24 = .ok (.ireturn, 1) := by decide +kernel
theorem dL_allocate_25 : decode cL_allocate 25 = .ok (.iconst 0, 1) := by decide +kernel
theorem dL_allocate_26 : decode cL_allocate 26 = .ok (.ireturn, 1) := by decide +kernel
theorem dL_claim_0 : decode cL_claim 0 = .ok (.aload 4, 2) := by decide +kernel
theorem dL_claim_2 : decode cL_claim 2 = .ok (.iconst 0, 1) := by decide +kernel
theorem dL_claim_3 : decode cL_claim 3 = .ok (.aload_n 0, 1) := by decide +kernel
theorem dL_claim_4 : decode cL_claim 4 = .ok (.iload_n 1, 1) := by decide +kernel
theorem dL_claim_5 : decode cL_claim 5 = .ok (.iload_n 2, 1) := by decide +kernel
theorem dL_claim_6 : decode cL_claim 6 = .ok (.iload_n 3, 1) := by decide +kernel
theorem dL_claim_7 : decode cL_claim 7 = .ok (.invokevirtual 19, 3) := by decide +kernel
theorem dL_claim_10 : decode cL_claim 10 = .ok (.i2l, 1) := by decide +kernel
theorem dL_claim_11 : decode cL_claim 11 = .ok (.lastore, 1) := by decide +kernel
theorem dL_claim_12 : decode cL_claim 12 = .ok (.goto 19, 3) := by decide +kernel
theorem dL_claim_15 : decode cL_claim 15 = .ok (.astore 5, 2) := by decide +kernel
theorem dL_claim_17 : decode cL_claim 17 = .ok (.iconst 1, 1) := by decide +kernel
theorem dL_claim_18 : decode cL_claim 18 = .ok (.ireturn, 1) := by decide +kernel
theorem dL_claim_19 : decode cL_claim 19 = .ok (.astore 5, 2) := by decide +kernel
theorem dL_claim_21 : decode cL_claim 21 = .ok (.iconst 2, 1) := by decide +kernel
theorem dL_claim_22 : decode cL_claim 22 = .ok (.ireturn, 1) := by decide +kernel
theorem dL_claim_23 : decode cL_claim 23 = .ok (.astore 5, 2) := by decide +kernel
theorem dL_claim_25 : decode cL_claim 25 = .ok (.iconst 3, 1) := by decide +kernel
theorem dL_claim_26 : decode cL_claim 26 = .ok (.ireturn, 1) := by decide +kernel
theorem dL_claim_27 : decode cL_claim 27 = .ok (.astore 5, 2) := by decide +kernel
theorem dL_claim_29 : decode cL_claim 29 = .ok (.iconst 4, 1) := by decide +kernel
theorem dL_claim_30 : decode cL_claim 30 = .ok (.ireturn, 1) := by decide +kernel
theorem dL_claim_31 : decode cL_claim 31 = .ok (.iconst 0, 1) := by decide +kernel
theorem dL_claim_32 : decode cL_claim 32 = .ok (.ireturn, 1) := by decide +kernel
theorem dL_compact_0 : decode cL_compact 0 = .ok (.aload_n 2, 1) := by decide +kernel
theorem dL_compact_1 : decode cL_compact 1 = .ok (.iconst 0, 1) := by decide +kernel
theorem dL_compact_2 : decode cL_compact 2 = .ok (.aload_n 0, 1) := by decide +kernel
theorem dL_compact_3 : decode cL_compact 3 = .ok (.iload_n 1, 1) := by decide +kernel
theorem dL_compact_4 : decode cL_compact 4 = .ok (.invokevirtual 25, 3) := by decide +kernel
theorem dL_compact_7 : decode cL_compact 7 = .ok (.i2l, 1) := by decide +kernel
theorem dL_compact_8 : decode cL_compact 8 = .ok (.lastore, 1) := by decide +kernel
theorem dL_compact_9 : decode cL_compact 9 = .ok (.goto 9, 3) := by decide +kernel
theorem dL_compact_12 : decode cL_compact 12 = .ok (.astore_n 3, 1) := by decide +kernel
theorem dL_compact_13 : decode cL_compact 13 = .ok (.iconst 1, 1) := by decide +kernel
theorem dL_compact_14 : decode cL_compact 14 = .ok (.ireturn, 1) := by decide +kernel
theorem dL_compact_15 : decode cL_compact 15 = .ok (.astore_n 3, 1) := by decide +kernel
theorem dL_compact_16 : decode cL_compact 16 = .ok (.iconst 2, 1) := by decide +kernel
theorem dL_compact_17 : decode cL_compact 17 = .ok (.ireturn, 1) := by decide +kernel
theorem dL_compact_18 : decode cL_compact 18 = .ok (.iconst 0, 1) := by decide +kernel
theorem dL_compact_19 : decode cL_compact 19 = .ok (.ireturn, 1) := by decide +kernel
theorem dL_copy_0 : decode cL_copy 0 = .ok (.aload_n 0, 1) := by decide +kernel
theorem dL_copy_1 : decode cL_copy 1 = .ok (.iload_n 1, 1) := by decide +kernel
theorem dL_copy_2 : decode cL_copy 2 = .ok (.iload_n 2, 1) := by decide +kernel
theorem dL_copy_3 : decode cL_copy 3 = .ok (.invokevirtual 29, 3) := by decide +kernel
theorem dL_copy_6 : decode cL_copy 6 = .ok (.goto 6, 3) := by decide +kernel
theorem dL_copy_9 : decode cL_copy 9 = .ok (.astore_n 3, 1) := by decide +kernel
theorem dL_copy_10 : decode cL_copy 10 = .ok (.iconst 1, 1) := by decide +kernel
theorem dL_copy_11 : decode cL_copy 11 = .ok (.ireturn, 1) := by decide +kernel
theorem dL_copy_12 : decode cL_copy 12 = .ok (.iconst 0, 1) := by decide +kernel
theorem dL_copy_13 : decode cL_copy 13 = .ok (.ireturn, 1) := by decide +kernel
theorem dL_clear_0 : decode cL_clear 0 = .ok (.aload_n 0, 1) := by decide +kernel
theorem dL_clear_1 : decode cL_clear 1 = .ok (.iload_n 1, 1) := by decide +kernel
theorem dL_clear_2 : decode cL_clear 2 = .ok (.invokevirtual 33, 3) := by decide +kernel
theorem dL_clear_5 : decode cL_clear 5 = .ok (.goto 6, 3) := by decide +kernel
theorem dL_clear_8 : decode cL_clear 8 = .ok (.astore_n 2, 1) := by decide +kernel
theorem dL_clear_9 : decode cL_clear 9 = .ok (.iconst 1, 1) := by decide +kernel
theorem dL_clear_10 : decode cL_clear 10 = .ok (.ireturn, 1) := by decide +kernel
theorem dL_clear_11 : decode cL_clear 11 = .ok (.iconst 0, 1) := by decide +kernel
theorem dL_clear_12 : decode cL_clear 12 = .ok (.ireturn, 1) := by decide +kernel
theorem dL_put_0 : decode cL_put 0 = .ok (.aload_n 0, 1) := by decide +kernel
theorem dL_put_1 : decode cL_put 1 = .ok (.iload_n 1, 1) := by decide +kernel
theorem dL_put_2 : decode cL_put 2 = .ok (.iload_n 2, 1) := by decide +kernel
theorem dL_put_3 : decode cL_put 3 = .ok (.iload_n 3, 1) := by decide +kernel
theorem dL_put_4 : decode cL_put 4 = .ok (.invokevirtual 37, 3) := by decide +kernel
theorem dL_put_7 : decode cL_put 7 = .ok (.goto 11, 3) := by decide +kernel
theorem dL_put_10 : decode cL_put 10 = .ok (.astore 4, 2) := by decide +kernel
theorem dL_put_12 : decode cL_put 12 = .ok (.iconst 1, 1) := by decide +kernel
theorem dL_put_13 : decode cL_put 13 = .ok (.ireturn, 1) := by decide +kernel
theorem dL_put_14 : decode cL_put 14 = .ok (.astore 4, 2) := by decide +kernel
theorem dL_put_16 : decode cL_put 16 = .ok (.iconst 2, 1) := by decide +kernel
theorem dL_put_17 : decode cL_put 17 = .ok (.ireturn, 1) := by decide +kernel
theorem dL_put_18 : decode cL_put 18 = .ok (.iconst 0, 1) := by decide +kernel
theorem dL_put_19 : decode cL_put 19 = .ok (.ireturn, 1) := by decide +kernel
theorem dL_refer_0 : decode cL_refer 0 = .ok (.aload_n 0, 1) := by decide +kernel
theorem dL_refer_1 : decode cL_refer 1 = .ok (.iload_n 1, 1) := by decide +kernel
theorem dL_refer_2 : decode cL_refer 2 = .ok (.iload_n 2, 1) := by decide +kernel
theorem dL_refer_3 : decode cL_refer 3 = .ok (.iload_n 3, 1) := by decide +kernel
theorem dL_refer_4 : decode cL_refer 4 = .ok (.iload 4, 2) := by decide +kernel
theorem dL_refer_6 : decode cL_refer 6 = .ok (.invokevirtual 43, 3) := by decide +kernel
theorem dL_refer_9 : decode cL_refer 9 = .ok (.goto 11, 3) := by decide +kernel
theorem dL_refer_12 : decode cL_refer 12 = .ok (.astore 5, 2) := by decide +kernel
theorem dL_refer_14 : decode cL_refer 14 = .ok (.iconst 1, 1) := by decide +kernel
theorem dL_refer_15 : decode cL_refer 15 = .ok (.ireturn, 1) := by decide +kernel
theorem dL_refer_16 : decode cL_refer 16 = .ok (.astore 5, 2) := by decide +kernel
theorem dL_refer_18 : decode cL_refer 18 = .ok (.iconst 2, 1) := by decide +kernel
theorem dL_refer_19 : decode cL_refer 19 = .ok (.ireturn, 1) := by decide +kernel
theorem dL_refer_20 : decode cL_refer 20 = .ok (.iconst 0, 1) := by decide +kernel
theorem dL_refer_21 : decode cL_refer 21 = .ok (.ireturn, 1) := by decide +kernel
theorem dL_follow_0 : decode cL_follow 0 = .ok (.aload 4, 2) := by decide +kernel
theorem dL_follow_2 : decode cL_follow 2 = .ok (.iconst 0, 1) := by decide +kernel
theorem dL_follow_3 : decode cL_follow 3 = .ok (.aload_n 0, 1) := by decide +kernel
theorem dL_follow_4 : decode cL_follow 4 = .ok (.iload_n 1, 1) := by decide +kernel
theorem dL_follow_5 : decode cL_follow 5 = .ok (.iload_n 2, 1) := by decide +kernel
theorem dL_follow_6 : decode cL_follow 6 = .ok (.iload_n 3, 1) := by decide +kernel
theorem dL_follow_7 : decode cL_follow 7 = .ok (.invokevirtual 47, 3) := by decide +kernel
theorem dL_follow_10 : decode cL_follow 10 = .ok (.ifCond .eq 7, 3) := by decide +kernel
theorem dL_follow_13 : decode cL_follow 13 = .ok (.lconst 1, 1) := by decide +kernel
theorem dL_follow_14 : decode cL_follow 14 = .ok (.goto 4, 3) := by decide +kernel
theorem dL_follow_17 : decode cL_follow 17 = .ok (.lconst 0, 1) := by decide +kernel
theorem dL_follow_18 : decode cL_follow 18 = .ok (.lastore, 1) := by decide +kernel
theorem dL_follow_19 : decode cL_follow 19 = .ok (.goto 15, 3) := by decide +kernel
theorem dL_follow_22 : decode cL_follow 22 = .ok (.astore 5, 2) := by decide +kernel
theorem dL_follow_24 : decode cL_follow 24 = .ok (.iconst 1, 1) := by decide +kernel
theorem dL_follow_25 : decode cL_follow 25 = .ok (.ireturn, 1) := by decide +kernel
theorem dL_follow_26 : decode cL_follow 26 = .ok (.astore 5, 2) := by decide +kernel
theorem dL_follow_28 : decode cL_follow 28 = .ok (.iconst 2, 1) := by decide +kernel
theorem dL_follow_29 : decode cL_follow 29 = .ok (.ireturn, 1) := by decide +kernel
theorem dL_follow_30 : decode cL_follow 30 = .ok (.astore 5, 2) := by decide +kernel
theorem dL_follow_32 : decode cL_follow 32 = .ok (.iconst 3, 1) := by decide +kernel
theorem dL_follow_33 : decode cL_follow 33 = .ok (.ireturn, 1) := by decide +kernel
theorem dL_follow_34 : decode cL_follow 34 = .ok (.iconst 0, 1) := by decide +kernel
theorem dL_follow_35 : decode cL_follow 35 = .ok (.ireturn, 1) := by decide +kernel
theorem dL_kind_0 : decode cL_kind 0 = .ok (.aload_n 3, 1) := by decide +kernel
theorem dL_kind_1 : decode cL_kind 1 = .ok (.iconst 0, 1) := by decide +kernel
theorem dL_kind_2 : decode cL_kind 2 = .ok (.aload_n 0, 1) := by decide +kernel
theorem dL_kind_3 : decode cL_kind 3 = .ok (.iload_n 1, 1) := by decide +kernel
theorem dL_kind_4 : decode cL_kind 4 = .ok (.iload_n 2, 1) := by decide +kernel
theorem dL_kind_5 : decode cL_kind 5 = .ok (.invokevirtual 51, 3) := by decide +kernel
theorem dL_kind_8 : decode cL_kind 8 = .ok (.i2l, 1) := by decide +kernel
theorem dL_kind_9 : decode cL_kind 9 = .ok (.lastore, 1) := by decide +kernel
theorem dL_kind_10 : decode cL_kind 10 = .ok (.goto 11, 3) := by decide +kernel
theorem dL_kind_13 : decode cL_kind 13 = .ok (.astore 4, 2) := by decide +kernel
theorem dL_kind_15 : decode cL_kind 15 = .ok (.iconst 1, 1) := by decide +kernel
theorem dL_kind_16 : decode cL_kind 16 = .ok (.ireturn, 1) := by decide +kernel
theorem dL_kind_17 : decode cL_kind 17 = .ok (.astore 4, 2) := by decide +kernel
theorem dL_kind_19 : decode cL_kind 19 = .ok (.iconst 2, 1) := by decide +kernel
theorem dL_kind_20 : decode cL_kind 20 = .ok (.ireturn, 1) := by decide +kernel
theorem dL_kind_21 : decode cL_kind 21 = .ok (.iconst 0, 1) := by decide +kernel
theorem dL_kind_22 : decode cL_kind 22 = .ok (.ireturn, 1) := by decide +kernel
theorem dL_serial_0 : decode cL_serial 0 = .ok (.aload_n 2, 1) := by decide +kernel
theorem dL_serial_1 : decode cL_serial 1 = .ok (.iconst 0, 1) := by decide +kernel
theorem dL_serial_2 : decode cL_serial 2 = .ok (.aload_n 0, 1) := by decide +kernel
theorem dL_serial_3 : decode cL_serial 3 = .ok (.iload_n 1, 1) := by decide +kernel
theorem dL_serial_4 : decode cL_serial 4 = .ok (.invokevirtual 54, 3) := by decide +kernel
theorem dL_serial_7 : decode cL_serial 7 = .ok (.i2l, 1) := by decide +kernel
theorem dL_serial_8 : decode cL_serial 8 = .ok (.lastore, 1) := by decide +kernel
theorem dL_serial_9 : decode cL_serial 9 = .ok (.goto 6, 3) := by decide +kernel
theorem dL_serial_12 : decode cL_serial 12 = .ok (.astore_n 3, 1) := by decide +kernel
theorem dL_serial_13 : decode cL_serial 13 = .ok (.iconst 1, 1) := by decide +kernel
theorem dL_serial_14 : decode cL_serial 14 = .ok (.ireturn, 1) := by decide +kernel
theorem dL_serial_15 : decode cL_serial 15 = .ok (.iconst 0, 1) := by decide +kernel
theorem dL_serial_16 : decode cL_serial 16 = .ok (.ireturn, 1) := by decide +kernel
theorem dL_address_0 : decode cL_address 0 = .ok (.aload_n 2, 1) := by decide +kernel
theorem dL_address_1 : decode cL_address 1 = .ok (.iconst 0, 1) := by decide +kernel
theorem dL_address_2 : decode cL_address 2 = .ok (.aload_n 0, 1) := by decide +kernel
theorem dL_address_3 : decode cL_address 3 = .ok (.iload_n 1, 1) := by decide +kernel
theorem dL_address_4 : decode cL_address 4 = .ok (.invokevirtual 57, 3) := by decide +kernel
theorem dL_address_7 : decode cL_address 7 = .ok (.i2l, 1) := by decide +kernel
theorem dL_address_8 : decode cL_address 8 = .ok (.lastore, 1) := by decide +kernel
theorem dL_address_9 : decode cL_address 9 = .ok (.goto 6, 3) := by decide +kernel
theorem dL_address_12 : decode cL_address 12 = .ok (.astore_n 3, 1) := by decide +kernel
theorem dL_address_13 : decode cL_address 13 = .ok (.iconst 1, 1) := by decide +kernel
theorem dL_address_14 : decode cL_address 14 = .ok (.ireturn, 1) := by decide +kernel
theorem dL_address_15 : decode cL_address 15 = .ok (.iconst 0, 1) := by decide +kernel
theorem dL_address_16 : decode cL_address 16 = .ok (.ireturn, 1) := by decide +kernel
theorem dL_word_0 : decode cL_word 0 = .ok (.aload_n 2, 1) := by decide +kernel
theorem dL_word_1 : decode cL_word 1 = .ok (.iconst 0, 1) := by decide +kernel
theorem dL_word_2 : decode cL_word 2 = .ok (.aload_n 0, 1) := by decide +kernel
theorem dL_word_3 : decode cL_word 3 = .ok (.iload_n 1, 1) := by decide +kernel
theorem dL_word_4 : decode cL_word 4 = .ok (.invokevirtual 60, 3) := by decide +kernel
theorem dL_word_7 : decode cL_word 7 = .ok (.i2l, 1) := by decide +kernel
theorem dL_word_8 : decode cL_word 8 = .ok (.lastore, 1) := by decide +kernel
theorem dL_word_9 : decode cL_word 9 = .ok (.goto 6, 3) := by decide +kernel
theorem dL_word_12 : decode cL_word 12 = .ok (.astore_n 3, 1) := by decide +kernel
theorem dL_word_13 : decode cL_word 13 = .ok (.iconst 1, 1) := by decide +kernel
theorem dL_word_14 : decode cL_word 14 = .ok (.ireturn, 1) := by decide +kernel
theorem dL_word_15 : decode cL_word 15 = .ok (.iconst 0, 1) := by decide +kernel
theorem dL_word_16 : decode cL_word 16 = .ok (.ireturn, 1) := by decide +kernel
def fL_allocate (w : Nat → Int32) (r : Nat → Int32) (st : Nat → Int32) (tp : Int32) (cn : Int32) (sr : Int32) (ou : Nat → Int64) (x1 : Int32) (x2 : Int32) : Option (Int32 × (Nat → Int32) × (Nat → Int32) × (Nat → Int32) × Int32 × Int32 × Int32 × (Nat → Int64)) :=
  (fX0_allocate w r st tp cn sr x1 x2).bind fun (e1, v2, w_3, r_4, st_5, tp_6, cn_7, sr_8) =>
  if e1 = 0 then
    (stL 1 ou (0 : Int32) v2.toInt64).bind fun ou_9 =>
    some ((0 : Int32), w_3, r_4, st_5, tp_6, cn_7, sr_8, ou_9)
  else
    if e1 = 1 then
      some ((1 : Int32), w_3, r_4, st_5, tp_6, cn_7, sr_8, ou)
    else
      if e1 = 2 then
        some ((2 : Int32), w_3, r_4, st_5, tp_6, cn_7, sr_8, ou)
      else
        if e1 = 3 then
          some ((3 : Int32), w_3, r_4, st_5, tp_6, cn_7, sr_8, ou)
        else
          none
def fL_claim (w : Nat → Int32) (r : Nat → Int32) (st : Nat → Int32) (rc : Nat → Int32) (na : Nat → Int32) (tp : Int32) (cn : Int32) (rh : Int32) (sr : Int32) (ou : Nat → Int64) (x1 : Int32) (x2 : Int32) (x3 : Int32) : Option (Int32 × (Nat → Int32) × (Nat → Int32) × (Nat → Int32) × (Nat → Int32) × (Nat → Int32) × Int32 × Int32 × Int32 × Int32 × (Nat → Int64)) :=
  (fX0_claim w r st rc na tp cn rh sr x1 x2 x3).bind fun (e1, v2, w_3, r_4, st_5, rc_6, na_7, tp_8, cn_9, rh_10, sr_11) =>
  if e1 = 0 then
    (stL 1 ou (0 : Int32) v2.toInt64).bind fun ou_12 =>
    some ((0 : Int32), w_3, r_4, st_5, rc_6, na_7, tp_8, cn_9, rh_10, sr_11, ou_12)
  else
    if e1 = 1 then
      some ((1 : Int32), w_3, r_4, st_5, rc_6, na_7, tp_8, cn_9, rh_10, sr_11, ou)
    else
      if e1 = 2 then
        some ((2 : Int32), w_3, r_4, st_5, rc_6, na_7, tp_8, cn_9, rh_10, sr_11, ou)
      else
        if e1 = 4 then
          some ((3 : Int32), w_3, r_4, st_5, rc_6, na_7, tp_8, cn_9, rh_10, sr_11, ou)
        else
          if e1 = 3 then
            some ((4 : Int32), w_3, r_4, st_5, rc_6, na_7, tp_8, cn_9, rh_10, sr_11, ou)
          else
            none
def fL_compact (w : Nat → Int32) (r : Nat → Int32) (st : Nat → Int32) (rc : Nat → Int32) (na : Nat → Int32) (tp : Int32) (cn : Int32) (rh : Int32) (ou : Nat → Int64) (x1 : Int32) : Option (Int32 × (Nat → Int32) × (Nat → Int32) × (Nat → Int32) × (Nat → Int32) × (Nat → Int32) × Int32 × Int32 × Int32 × (Nat → Int64)) :=
  (fX0_compact w r st rc na tp cn rh x1).bind fun (e1, v2, w_3, r_4, st_5, rc_6, na_7, tp_8, cn_9, rh_10) =>
  if e1 = 0 then
    (stL 1 ou (0 : Int32) v2.toInt64).bind fun ou_11 =>
    some ((0 : Int32), w_3, r_4, st_5, rc_6, na_7, tp_8, cn_9, rh_10, ou_11)
  else
    if e1 = 2 then
      some ((1 : Int32), w_3, r_4, st_5, rc_6, na_7, tp_8, cn_9, rh_10, ou)
    else
      if e1 = 4 then
        some ((2 : Int32), w_3, r_4, st_5, rc_6, na_7, tp_8, cn_9, rh_10, ou)
      else
        none
def fL_copy (r : Nat → Int32) (x1 : Int32) (x2 : Int32) : Option (Int32 × (Nat → Int32)) :=
  (fX0_copy r x1 x2).bind fun (e1, r_2) =>
  if e1 = 0 then
    some ((0 : Int32), r_2)
  else
    if e1 = 1 then
      some ((1 : Int32), r_2)
    else
      none
def fL_clear (r : Nat → Int32) (x1 : Int32) : Option (Int32 × (Nat → Int32)) :=
  (fX0_clear r x1).bind fun (e1, r_2) =>
  if e1 = 0 then
    some ((0 : Int32), r_2)
  else
    if e1 = 1 then
      some ((1 : Int32), r_2)
    else
      none
def fL_put (w : Nat → Int32) (r : Nat → Int32) (x1 : Int32) (x2 : Int32) (x3 : Int32) : Option (Int32 × (Nat → Int32)) :=
  (fX0_put w r x1 x2 x3).bind fun (e1, w_2) =>
  if e1 = 0 then
    some ((0 : Int32), w_2)
  else
    if e1 = 1 then
      some ((1 : Int32), w_2)
    else
      if e1 = 5 then
        some ((2 : Int32), w_2)
      else
        none
def fL_refer (w : Nat → Int32) (r : Nat → Int32) (x1 : Int32) (x2 : Int32) (x3 : Int32) (x4 : Int32) : Option (Int32 × (Nat → Int32)) :=
  (fX0_refer w r x1 x2 x3 x4).bind fun (e1, w_2) =>
  if e1 = 0 then
    some ((0 : Int32), w_2)
  else
    if e1 = 1 then
      some ((1 : Int32), w_2)
    else
      if e1 = 5 then
        some ((2 : Int32), w_2)
      else
        none
def fL_follow (w : Nat → Int32) (r : Nat → Int32) (ou : Nat → Int64) (x1 : Int32) (x2 : Int32) (x3 : Int32) : Option (Int32 × (Nat → Int32) × (Nat → Int64)) :=
  (fX0_follow w r x1 x2 x3).bind fun (e1, v2, r_3) =>
  if e1 = 0 then
    if v2 = (0 : Int32) then
      (stL 1 ou (0 : Int32) 0).bind fun ou_5 =>
      some ((0 : Int32), r_3, ou_5)
    else
      (stL 1 ou (0 : Int32) 1).bind fun ou_6 =>
      some ((0 : Int32), r_3, ou_6)
  else
    if e1 = 1 then
      some ((1 : Int32), r_3, ou)
    else
      if e1 = 5 then
        some ((2 : Int32), r_3, ou)
      else
        if e1 = 3 then
          some ((3 : Int32), r_3, ou)
        else
          none
def fL_kind (w : Nat → Int32) (r : Nat → Int32) (ou : Nat → Int64) (x1 : Int32) (x2 : Int32) : Option (Int32 × (Nat → Int64)) :=
  (fX0_kind w r x1 x2).bind fun (e1, v2) =>
  if e1 = 0 then
    (stL 1 ou (0 : Int32) v2.toInt64).bind fun ou_3 =>
    some ((0 : Int32), ou_3)
  else
    if e1 = 1 then
      some ((1 : Int32), ou)
    else
      if e1 = 5 then
        some ((2 : Int32), ou)
      else
        none
def fL_serial (w : Nat → Int32) (r : Nat → Int32) (ou : Nat → Int64) (x1 : Int32) : Option (Int32 × (Nat → Int64)) :=
  (fX0_serial w r x1).bind fun (e1, v2) =>
  if e1 = 0 then
    (stL 1 ou (0 : Int32) v2.toInt64).bind fun ou_3 =>
    some ((0 : Int32), ou_3)
  else
    if e1 = 1 then
      some ((1 : Int32), ou)
    else
      none
def fL_address (r : Nat → Int32) (ou : Nat → Int64) (x1 : Int32) : Option (Int32 × (Nat → Int64)) :=
  (fX0_address r x1).bind fun (e1, v2) =>
  if e1 = 0 then
    (stL 1 ou (0 : Int32) v2.toInt64).bind fun ou_3 =>
    some ((0 : Int32), ou_3)
  else
    if e1 = 1 then
      some ((1 : Int32), ou)
    else
      none
def fL_word (w : Nat → Int32) (ou : Nat → Int64) (x1 : Int32) : Option (Int32 × (Nat → Int64)) :=
  (fX0_word w x1).bind fun (e1, v2) =>
  if e1 = 0 then
    (stL 1 ou (0 : Int32) v2.toInt64).bind fun ou_3 =>
    some ((0 : Int32), ou_3)
  else
    if e1 = 1 then
      some ((1 : Int32), ou)
    else
      none
