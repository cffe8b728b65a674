section
-- ===== PART A: goes FIRST, ahead of the names: the tables' words, and 'selects' of the private methods out of them =====
/-- a private method of a class that the tables say can be made, by its rows of tables_1 -/
def lw_okq (q : MethodName × Nat) : Prop := (q.1.cls ≠ "java/lang/invoke/MethodHandle" ∧ q.1.cls ≠ "java/lang/invoke/VarHandle") ∧ Cond.instantiable q.1.cls q.2 ∈ tables_1 ∧ Cond.privateMethod q.1 ∈ tables_1 ∧ Cond.instanceMethod q.1 ∈ tables_1
theorem lw_p0 : lw_okq (⟨"ThreeCompactors", "findAlive", "()V"⟩, 9) := ⟨⟨by decide +kernel, by decide +kernel⟩, List.mem_of_getElem? (i := 14) (by decide +kernel), List.mem_of_getElem? (i := 66) (by decide +kernel), List.mem_of_getElem? (i := 67) (by decide +kernel)⟩
theorem lw_p1 : lw_okq (⟨"ThreeCompactors", "reach", "(I)V"⟩, 9) := ⟨⟨by decide +kernel, by decide +kernel⟩, List.mem_of_getElem? (i := 14) (by decide +kernel), List.mem_of_getElem? (i := 70) (by decide +kernel), List.mem_of_getElem? (i := 71) (by decide +kernel)⟩
theorem lw_p2 : lw_okq (⟨"ThreeCompactors", "reachFrom", "(I)V"⟩, 9) := ⟨⟨by decide +kernel, by decide +kernel⟩, List.mem_of_getElem? (i := 14) (by decide +kernel), List.mem_of_getElem? (i := 74) (by decide +kernel), List.mem_of_getElem? (i := 75) (by decide +kernel)⟩
theorem lw_p3 : lw_okq (⟨"ThreeCompactors", "fieldCount", "(I)I"⟩, 9) := ⟨⟨by decide +kernel, by decide +kernel⟩, List.mem_of_getElem? (i := 14) (by decide +kernel), List.mem_of_getElem? (i := 78) (by decide +kernel), List.mem_of_getElem? (i := 79) (by decide +kernel)⟩
theorem lw_p4 : lw_okq (⟨"ThreeCompactors", "fieldKind", "(II)I"⟩, 9) := ⟨⟨by decide +kernel, by decide +kernel⟩, List.mem_of_getElem? (i := 14) (by decide +kernel), List.mem_of_getElem? (i := 82) (by decide +kernel), List.mem_of_getElem? (i := 83) (by decide +kernel)⟩
theorem lw_p5 : lw_okq (⟨"java/lang/Throwable", "fillInStackTrace", "(I)Ljava/lang/Throwable;"⟩, 6) := ⟨⟨by decide +kernel, by decide +kernel⟩, List.mem_of_getElem? (i := 142) (by decide +kernel), List.mem_of_getElem? (i := 140) (by decide +kernel), List.mem_of_getElem? (i := 141) (by decide +kernel)⟩
theorem lw_p6 : lw_okq (⟨"ThreeCompactors", "requireRoom", "(I)V"⟩, 9) := ⟨⟨by decide +kernel, by decide +kernel⟩, List.mem_of_getElem? (i := 14) (by decide +kernel), List.mem_of_getElem? (i := 191) (by decide +kernel), List.mem_of_getElem? (i := 192) (by decide +kernel)⟩
theorem lw_p7 : lw_okq (⟨"ThreeCompactors", "hasRoom", "(I)Z"⟩, 9) := ⟨⟨by decide +kernel, by decide +kernel⟩, List.mem_of_getElem? (i := 14) (by decide +kernel), List.mem_of_getElem? (i := 195) (by decide +kernel), List.mem_of_getElem? (i := 196) (by decide +kernel)⟩
theorem lw_p8 : lw_okq (⟨"ThreeCompactors", "makeObject", "(II)I"⟩, 9) := ⟨⟨by decide +kernel, by decide +kernel⟩, List.mem_of_getElem? (i := 14) (by decide +kernel), List.mem_of_getElem? (i := 215) (by decide +kernel), List.mem_of_getElem? (i := 216) (by decide +kernel)⟩
theorem lw_p9 : lw_okq (⟨"ThreeCompactors", "requireSizesFor", "(I)V"⟩, 9) := ⟨⟨by decide +kernel, by decide +kernel⟩, List.mem_of_getElem? (i := 14) (by decide +kernel), List.mem_of_getElem? (i := 231) (by decide +kernel), List.mem_of_getElem? (i := 232) (by decide +kernel)⟩
theorem lw_p10 : lw_okq (⟨"ThreeCompactors", "isOneSize", "()Z"⟩, 9) := ⟨⟨by decide +kernel, by decide +kernel⟩, List.mem_of_getElem? (i := 14) (by decide +kernel), List.mem_of_getElem? (i := 235) (by decide +kernel), List.mem_of_getElem? (i := 236) (by decide +kernel)⟩
theorem lw_p11 : lw_okq (⟨"ThreeCompactors", "moveTogether", "(I)V"⟩, 9) := ⟨⟨by decide +kernel, by decide +kernel⟩, List.mem_of_getElem? (i := 14) (by decide +kernel), List.mem_of_getElem? (i := 255) (by decide +kernel), List.mem_of_getElem? (i := 256) (by decide +kernel)⟩
theorem lw_p12 : lw_okq (⟨"ThreeCompactors", "planTwoFingers", "()V"⟩, 9) := ⟨⟨by decide +kernel, by decide +kernel⟩, List.mem_of_getElem? (i := 14) (by decide +kernel), List.mem_of_getElem? (i := 259) (by decide +kernel), List.mem_of_getElem? (i := 260) (by decide +kernel)⟩
theorem lw_p13 : lw_okq (⟨"ThreeCompactors", "planSlide", "()V"⟩, 9) := ⟨⟨by decide +kernel, by decide +kernel⟩, List.mem_of_getElem? (i := 14) (by decide +kernel), List.mem_of_getElem? (i := 263) (by decide +kernel), List.mem_of_getElem? (i := 264) (by decide +kernel)⟩
theorem lw_p14 : lw_okq (⟨"ThreeCompactors", "sizeOf", "(I)I"⟩, 9) := ⟨⟨by decide +kernel, by decide +kernel⟩, List.mem_of_getElem? (i := 14) (by decide +kernel), List.mem_of_getElem? (i := 267) (by decide +kernel), List.mem_of_getElem? (i := 268) (by decide +kernel)⟩
theorem lw_p15 : lw_okq (⟨"ThreeCompactors", "redirectRoots", "()V"⟩, 9) := ⟨⟨by decide +kernel, by decide +kernel⟩, List.mem_of_getElem? (i := 14) (by decide +kernel), List.mem_of_getElem? (i := 271) (by decide +kernel), List.mem_of_getElem? (i := 272) (by decide +kernel)⟩
def lw_privs_1 : List (MethodName × Nat) := [(⟨"ThreeCompactors", "findAlive", "()V"⟩, 9), (⟨"ThreeCompactors", "reach", "(I)V"⟩, 9), (⟨"ThreeCompactors", "reachFrom", "(I)V"⟩, 9), (⟨"ThreeCompactors", "fieldCount", "(I)I"⟩, 9), (⟨"ThreeCompactors", "fieldKind", "(II)I"⟩, 9), (⟨"java/lang/Throwable", "fillInStackTrace", "(I)Ljava/lang/Throwable;"⟩, 6), (⟨"ThreeCompactors", "requireRoom", "(I)V"⟩, 9), (⟨"ThreeCompactors", "hasRoom", "(I)Z"⟩, 9), (⟨"ThreeCompactors", "makeObject", "(II)I"⟩, 9), (⟨"ThreeCompactors", "requireSizesFor", "(I)V"⟩, 9), (⟨"ThreeCompactors", "isOneSize", "()Z"⟩, 9), (⟨"ThreeCompactors", "moveTogether", "(I)V"⟩, 9), (⟨"ThreeCompactors", "planTwoFingers", "()V"⟩, 9), (⟨"ThreeCompactors", "planSlide", "()V"⟩, 9), (⟨"ThreeCompactors", "sizeOf", "(I)I"⟩, 9), (⟨"ThreeCompactors", "redirectRoots", "()V"⟩, 9)]
theorem lw_r1 : ∀ q ∈ lw_privs_1, lw_okq q := List.forall_mem_cons.mpr ⟨lw_p0, List.forall_mem_cons.mpr ⟨lw_p1, List.forall_mem_cons.mpr ⟨lw_p2, List.forall_mem_cons.mpr ⟨lw_p3, List.forall_mem_cons.mpr ⟨lw_p4, List.forall_mem_cons.mpr ⟨lw_p5, List.forall_mem_cons.mpr ⟨lw_p6, List.forall_mem_cons.mpr ⟨lw_p7, List.forall_mem_cons.mpr ⟨lw_p8, List.forall_mem_cons.mpr ⟨lw_p9, List.forall_mem_cons.mpr ⟨lw_p10, List.forall_mem_cons.mpr ⟨lw_p11, List.forall_mem_cons.mpr ⟨lw_p12, List.forall_mem_cons.mpr ⟨lw_p13, List.forall_mem_cons.mpr ⟨lw_p14, List.forall_mem_cons.mpr ⟨lw_p15, fun _ h => absurd h List.not_mem_nil⟩⟩⟩⟩⟩⟩⟩⟩⟩⟩⟩⟩⟩⟩⟩⟩
theorem lw_p16 : lw_okq (⟨"ThreeCompactors", "addressAfterMove", "(I)I"⟩, 9) := ⟨⟨by decide +kernel, by decide +kernel⟩, List.mem_of_getElem? (i := 14) (by decide +kernel), List.mem_of_getElem? (i := 275) (by decide +kernel), List.mem_of_getElem? (i := 276) (by decide +kernel)⟩
theorem lw_p17 : lw_okq (⟨"ThreeCompactors", "redirectFields", "(I)V"⟩, 9) := ⟨⟨by decide +kernel, by decide +kernel⟩, List.mem_of_getElem? (i := 14) (by decide +kernel), List.mem_of_getElem? (i := 279) (by decide +kernel), List.mem_of_getElem? (i := 280) (by decide +kernel)⟩
theorem lw_p18 : lw_okq (⟨"ThreeCompactors", "moveObjects", "()V"⟩, 9) := ⟨⟨by decide +kernel, by decide +kernel⟩, List.mem_of_getElem? (i := 14) (by decide +kernel), List.mem_of_getElem? (i := 283) (by decide +kernel), List.mem_of_getElem? (i := 284) (by decide +kernel)⟩
theorem lw_p19 : lw_okq (⟨"ThreeCompactors", "listObjects", "()V"⟩, 9) := ⟨⟨by decide +kernel, by decide +kernel⟩, List.mem_of_getElem? (i := 14) (by decide +kernel), List.mem_of_getElem? (i := 290) (by decide +kernel), List.mem_of_getElem? (i := 291) (by decide +kernel)⟩
theorem lw_p20 : lw_okq (⟨"ThreeCompactors", "requireObjectWithField", "(II)V"⟩, 9) := ⟨⟨by decide +kernel, by decide +kernel⟩, List.mem_of_getElem? (i := 14) (by decide +kernel), List.mem_of_getElem? (i := 329) (by decide +kernel), List.mem_of_getElem? (i := 330) (by decide +kernel)⟩
theorem lw_p21 : lw_okq (⟨"ThreeCompactors", "setField", "(IIII)V"⟩, 9) := ⟨⟨by decide +kernel, by decide +kernel⟩, List.mem_of_getElem? (i := 14) (by decide +kernel), List.mem_of_getElem? (i := 350) (by decide +kernel), List.mem_of_getElem? (i := 351) (by decide +kernel)⟩
theorem lw_p22 : lw_okq (⟨"ThreeCompactors", "requireReference", "(II)V"⟩, 9) := ⟨⟨by decide +kernel, by decide +kernel⟩, List.mem_of_getElem? (i := 14) (by decide +kernel), List.mem_of_getElem? (i := 368) (by decide +kernel), List.mem_of_getElem? (i := 369) (by decide +kernel)⟩
theorem lw_p23 : lw_okq (⟨"ThreeCompactorsModel", "oneSize", "()Z"⟩, 12) := ⟨⟨by decide +kernel, by decide +kernel⟩, List.mem_of_getElem? (i := 402) (by decide +kernel), List.mem_of_getElem? (i := 454) (by decide +kernel), List.mem_of_getElem? (i := 455) (by decide +kernel)⟩
theorem lw_p24 : lw_okq (⟨"ThreeCompactorsModel", "topNow", "()I"⟩, 12) := ⟨⟨by decide +kernel, by decide +kernel⟩, List.mem_of_getElem? (i := 402) (by decide +kernel), List.mem_of_getElem? (i := 458) (by decide +kernel), List.mem_of_getElem? (i := 459) (by decide +kernel)⟩
theorem lw_p25 : lw_okq (⟨"ThreeCompactorsModel", "press", "(I)V"⟩, 12) := ⟨⟨by decide +kernel, by decide +kernel⟩, List.mem_of_getElem? (i := 402) (by decide +kernel), List.mem_of_getElem? (i := 462) (by decide +kernel), List.mem_of_getElem? (i := 463) (by decide +kernel)⟩
theorem lw_p26 : lw_okq (⟨"ThreeCompactorsModel", "findAlive", "()V"⟩, 12) := ⟨⟨by decide +kernel, by decide +kernel⟩, List.mem_of_getElem? (i := 402) (by decide +kernel), List.mem_of_getElem? (i := 466) (by decide +kernel), List.mem_of_getElem? (i := 467) (by decide +kernel)⟩
theorem lw_p27 : lw_okq (⟨"ThreeCompactorsModel", "enliven", "(I)Z"⟩, 12) := ⟨⟨by decide +kernel, by decide +kernel⟩, List.mem_of_getElem? (i := 402) (by decide +kernel), List.mem_of_getElem? (i := 470) (by decide +kernel), List.mem_of_getElem? (i := 471) (by decide +kernel)⟩
theorem lw_p28 : lw_okq (⟨"ThreeCompactorsModel", "countAlive", "()I"⟩, 12) := ⟨⟨by decide +kernel, by decide +kernel⟩, List.mem_of_getElem? (i := 402) (by decide +kernel), List.mem_of_getElem? (i := 474) (by decide +kernel), List.mem_of_getElem? (i := 475) (by decide +kernel)⟩
theorem lw_p29 : lw_okq (⟨"ThreeCompactorsModel", "fillGaps", "()V"⟩, 12) := ⟨⟨by decide +kernel, by decide +kernel⟩, List.mem_of_getElem? (i := 402) (by decide +kernel), List.mem_of_getElem? (i := 478) (by decide +kernel), List.mem_of_getElem? (i := 479) (by decide +kernel)⟩
theorem lw_p30 : lw_okq (⟨"ThreeCompactorsModel", "keepOrder", "()V"⟩, 12) := ⟨⟨by decide +kernel, by decide +kernel⟩, List.mem_of_getElem? (i := 402) (by decide +kernel), List.mem_of_getElem? (i := 482) (by decide +kernel), List.mem_of_getElem? (i := 483) (by decide +kernel)⟩
theorem lw_p31 : lw_okq (⟨"ThreeCompactorsModel", "fits", "(I)Z"⟩, 12) := ⟨⟨by decide +kernel, by decide +kernel⟩, List.mem_of_getElem? (i := 402) (by decide +kernel), List.mem_of_getElem? (i := 496) (by decide +kernel), List.mem_of_getElem? (i := 497) (by decide +kernel)⟩
def lw_privs_2 : List (MethodName × Nat) := [(⟨"ThreeCompactors", "addressAfterMove", "(I)I"⟩, 9), (⟨"ThreeCompactors", "redirectFields", "(I)V"⟩, 9), (⟨"ThreeCompactors", "moveObjects", "()V"⟩, 9), (⟨"ThreeCompactors", "listObjects", "()V"⟩, 9), (⟨"ThreeCompactors", "requireObjectWithField", "(II)V"⟩, 9), (⟨"ThreeCompactors", "setField", "(IIII)V"⟩, 9), (⟨"ThreeCompactors", "requireReference", "(II)V"⟩, 9), (⟨"ThreeCompactorsModel", "oneSize", "()Z"⟩, 12), (⟨"ThreeCompactorsModel", "topNow", "()I"⟩, 12), (⟨"ThreeCompactorsModel", "press", "(I)V"⟩, 12), (⟨"ThreeCompactorsModel", "findAlive", "()V"⟩, 12), (⟨"ThreeCompactorsModel", "enliven", "(I)Z"⟩, 12), (⟨"ThreeCompactorsModel", "countAlive", "()I"⟩, 12), (⟨"ThreeCompactorsModel", "fillGaps", "()V"⟩, 12), (⟨"ThreeCompactorsModel", "keepOrder", "()V"⟩, 12), (⟨"ThreeCompactorsModel", "fits", "(I)Z"⟩, 12)]
theorem lw_r2 : ∀ q ∈ lw_privs_2, lw_okq q := List.forall_mem_cons.mpr ⟨lw_p16, List.forall_mem_cons.mpr ⟨lw_p17, List.forall_mem_cons.mpr ⟨lw_p18, List.forall_mem_cons.mpr ⟨lw_p19, List.forall_mem_cons.mpr ⟨lw_p20, List.forall_mem_cons.mpr ⟨lw_p21, List.forall_mem_cons.mpr ⟨lw_p22, List.forall_mem_cons.mpr ⟨lw_p23, List.forall_mem_cons.mpr ⟨lw_p24, List.forall_mem_cons.mpr ⟨lw_p25, List.forall_mem_cons.mpr ⟨lw_p26, List.forall_mem_cons.mpr ⟨lw_p27, List.forall_mem_cons.mpr ⟨lw_p28, List.forall_mem_cons.mpr ⟨lw_p29, List.forall_mem_cons.mpr ⟨lw_p30, List.forall_mem_cons.mpr ⟨lw_p31, fun _ h => absurd h List.not_mem_nil⟩⟩⟩⟩⟩⟩⟩⟩⟩⟩⟩⟩⟩⟩⟩⟩
theorem lw_p32 : lw_okq (⟨"ThreeCompactorsModel", "make", "(II)I"⟩, 12) := ⟨⟨by decide +kernel, by decide +kernel⟩, List.mem_of_getElem? (i := 402) (by decide +kernel), List.mem_of_getElem? (i := 500) (by decide +kernel), List.mem_of_getElem? (i := 501) (by decide +kernel)⟩
theorem lw_p33 : lw_okq (⟨"ThreeCompactorsModel", "bar", "(II)I"⟩, 12) := ⟨⟨by decide +kernel, by decide +kernel⟩, List.mem_of_getElem? (i := 402) (by decide +kernel), List.mem_of_getElem? (i := 520) (by decide +kernel), List.mem_of_getElem? (i := 521) (by decide +kernel)⟩
theorem lw_p34 : lw_okq (⟨"ThreeCompactorsModel", "set", "(IIII)V"⟩, 12) := ⟨⟨by decide +kernel, by decide +kernel⟩, List.mem_of_getElem? (i := 402) (by decide +kernel), List.mem_of_getElem? (i := 524) (by decide +kernel), List.mem_of_getElem? (i := 525) (by decide +kernel)⟩
theorem lw_p35 : lw_okq (⟨"ThreeCompactorsModel", "addressOf", "(I)I"⟩, 12) := ⟨⟨by decide +kernel, by decide +kernel⟩, List.mem_of_getElem? (i := 402) (by decide +kernel), List.mem_of_getElem? (i := 548) (by decide +kernel), List.mem_of_getElem? (i := 549) (by decide +kernel)⟩
theorem lw_p36 : lw_okq (⟨"ThreeCompactorsModel", "wordOf", "(II)I"⟩, 12) := ⟨⟨by decide +kernel, by decide +kernel⟩, List.mem_of_getElem? (i := 402) (by decide +kernel), List.mem_of_getElem? (i := 556) (by decide +kernel), List.mem_of_getElem? (i := 557) (by decide +kernel)⟩
def lw_privs_3 : List (MethodName × Nat) := [(⟨"ThreeCompactorsModel", "make", "(II)I"⟩, 12), (⟨"ThreeCompactorsModel", "bar", "(II)I"⟩, 12), (⟨"ThreeCompactorsModel", "set", "(IIII)V"⟩, 12), (⟨"ThreeCompactorsModel", "addressOf", "(I)I"⟩, 12), (⟨"ThreeCompactorsModel", "wordOf", "(II)I"⟩, 12)]
theorem lw_r3 : ∀ q ∈ lw_privs_3, lw_okq q := List.forall_mem_cons.mpr ⟨lw_p32, List.forall_mem_cons.mpr ⟨lw_p33, List.forall_mem_cons.mpr ⟨lw_p34, List.forall_mem_cons.mpr ⟨lw_p35, List.forall_mem_cons.mpr ⟨lw_p36, fun _ h => absurd h List.not_mem_nil⟩⟩⟩⟩⟩
def lw_privs : List (MethodName × Nat) := lw_privs_1 ++ (lw_privs_2 ++ (lw_privs_3))
def lw_tbl : List Cond := k2_sels lw_privs ++ tables_1
theorem lw_privs_ok : ∀ q ∈ lw_privs, lw_okq q := by
  show ∀ q ∈ lw_privs_1 ++ (lw_privs_2 ++ (lw_privs_3)), lw_okq q
  exact List.forall_mem_append.mpr ⟨lw_r1, List.forall_mem_append.mpr ⟨lw_r2, lw_r3⟩⟩
end
section
/-! ===== BEGIN words of one list among another's, by their places ===== -/
theorem goodIn_r {big : List Cond} (ws : List Cond) (ps : List Nat) (hp : ws = ps.filterMap (fun i => big[i]?)) (h : ws.all goodWord = true) : GoodIn big ws := by
  intro w hw
  have h1 := List.all_eq_true.mp h w hw
  rw [hp] at hw
  obtain ⟨i, -, hi⟩ := List.mem_filterMap.mp hw
  have hm : w ∈ big := by first | exact List.mem_of_getElem? hi | exact List.getElem?_mem hi
  exact ⟨hm, good_of_word h1⟩
theorem goodIn_app {big a b : List Cond} (ha : GoodIn big a) (hb : GoodIn big b) : GoodIn big (a ++ b) := fun w h => (List.mem_append.mp h).elim (ha w) (hb w)
theorem goodIn_ca {big a b : List Cond} {c : Cond} (ha : GoodIn big (c :: a)) (hb : GoodIn big b) : GoodIn big (c :: (a ++ b)) := fun w h => (List.mem_cons.mp h).elim (fun e => ha w (List.mem_cons.mpr (Or.inl e))) (fun h => (List.mem_append.mp h).elim (fun h => ha w (List.mem_cons.mpr (Or.inr h))) (hb w))
theorem goodIn_sub {big ws : List Cond} (hm : ∀ w ∈ ws, w ∈ big) (h : ws.all goodWord = true) : GoodIn big ws := fun w hw => ⟨hm w hw, good_of_word (List.all_eq_true.mp h w hw)⟩
/-! ===== END ===== -/

/-! ===== BEGIN exceptions that leave a method, and their catching by the caller (launches without stack traces) ===== -/
section VXA
/-! The laws vx_back, vx_callV, vx_callS, vx_callSW, vx_throw0, vx_throwS follow proofs of the library, with one case more: JvmDerived/Free/Laws.lean (Back.of_free), Shelf42/LK1.lean (callV, callS), Shelf/KitTraced.lean (throwNew0V, throwNewS). -/
/-- where a method has thrown q: the class by its name, the cell, what was written, the world -/
def vx_T (XC : String → State → State → Prop) (st : State) (q : Addr) (t : State) (mc ms : Nat) (free : Addr → Prop) : Prop :=
  ∃ (E : String) (ce : Cell) (L : List Loc), XC E st t ∧ t.heap[q]? = some ce ∧ ce.vm = .none ∧ st.vm.findClass E = some ce.cls ∧ st.WarmedH t.vm ∧ st.sameButNew ({ t with vm := st.vm } : State) L mc ms ∧ ∀ z ∈ L, free z.base
def vx_Q (Qc : Array Value → State → Outcome → State → Prop) (XC : String → State → State → Prop) (mc ms : Nat) (free : Addr → Prop) : Array Value → State → Outcome → State → Prop := fun a st o t =>
  (Qc a st o t ∧ ∃ L, FrameEnd st o t L mc ms ∧ ∀ q ∈ L, free q.base) ∨ ∃ q, o = .threw q ∧ vx_T XC st q t mc ms free
/-- a callee that returns or throws -/
def vx_Met (l : Launch) (y : MethodName) (ws : List Cond) (rm : Room) (Pc : Array Value → State → Prop) (Qc : Array Value → State → Outcome → State → Prop) (XC : String → State → State → Prop) (mc ms : Nat) (free : Addr → Prop) : Prop :=
  MetFree l y (headSpec ws rm) Pc (fun _ _ _ _ _ => True) (vx_Q Qc XC mc ms free)
def vx_Post (XC : String → State → State → Prop) (mc ms : Nat) (free : Addr → Prop) : Pt → Array Value → Addr → Pt → Prop := fun A a q B =>
  ∃ (g : JFrame) (mk : MethodId) (t : State) (L : List Loc) (E : String) (ce : Cell), B.U.heap = t.heap ∧ B.U.vm = t.vm ∧ XC E (A.U.calling g mk a) t ∧ t.heap[q]? = some ce ∧ ce.vm = .none ∧ A.U.vm.findClass E = some ce.cls ∧ B.locs = A.locs ++ L ∧ (∀ z ∈ L, free z.base) ∧ B.cells = A.cells + mc ∧ B.slots = A.slots + ms
def vx_Back (l : Launch) (R : Room) (p : Program) (e : Env) (below : List Frame) (s : State) (sargs : Array Value) (y : MethodName) (len W9 : Nat)
    (Pre : Pt → Array Value → Prop) (Post : Pt → Array Value → Option Value → Pt → Prop) (PostX : Pt → Array Value → Addr → Pt → Prop) : Prop :=
  ∀ (m : MethodId) (meth : Method) (c : Code) (A : Pt) (g : JFrame) (ig : Instr) (mk : MethodId) (a : Array Value),
    Stand p l e R s m sargs below meth c A.U A.locs A.cells A.slots → g.method = m → g.locals.size = c.maxLocals → decode c.code g.pc = .ok (ig, len) →
    2 * g.monitorRoom + (g.stack.map fun v => v.category).sum ≤ W9 → A.U.methodNamed? y = some mk → Pre A a →
    (∃ (v : Option Value) (B : Pt), Stand p l e R s m sargs below meth c B.U B.locs B.cells B.slots ∧ Post A a v B ∧
      Steps p.tables e below (doInvoke e (A.U.setTop g) [] mk a).1 (B.U.setTop { g with pc := g.pc + len, stack := v.toList ++ g.stack })) ∨
    (∃ (q : Addr) (B : Pt), Stand p l e R s m sargs below meth c B.U B.locs B.cells B.slots ∧ PostX A a q B ∧
      Steps p.tables e below (doInvoke e (A.U.setTop g) [] mk a).1 ((B.U.setTop g).pushFrame (.throwing q)))
section Payer
variable {l : Launch} {R : Room} {p : Program} {e : Env} {below : List Frame} {s : State} {sargs : Array Value} {y : MethodName} {len W9 : Nat}
theorem vx_back {ws : List Cond} {rm : Room} {Pc : Array Value → State → Prop} {Qc : Array Value → State → Outcome → State → Prop} {XC : String → State → State → Prop} {mc ms : Nat} {free : Addr → Prop} {bytes : ByteArray} {maxL : Nat} {ret : Option FieldType}
    (hM : vx_Met l y ws rm Pc Qc XC mc ms free) (hblind : FrameBlind Pc) (hrc : rm.cells = mc) (hrs : rm.slots = ms)
    (hframes : rm.frames + 1 ≤ R.frames) (hlocals : W9 + (maxL + 11) + rm.locals ≤ R.locals)
    (hws : ∀ w ∈ ws, ∀ a' U, s.WarmedH U.vm → w.before a' U = true) (hcode : Cond.code y bytes maxL ret ∈ ws) (hinit : ∀ a' U, s.WarmedH U.vm → (Cond.initialized y.cls).before a' U = true) :
    vx_Back l R p e below s sargs y len W9 (PreOf R mc ms Pc) (PostOf Qc mc ms free) (vx_Post XC mc ms free) := by
  intro m meth c A g ig mk a X hg hsize hdg hW hn hp
  have h1 : (headSpec ws rm).pre.before a A.U = true := atoms_intro fun w hw => hws w hw _ _ X.warmed
  have h2 : (Cond.code y bytes maxL ret).before a A.U = true := hws _ hcode _ _ X.warmed
  have h3 : (Cond.initialized y.cls).before a A.U = true := hinit _ _ X.warmed
  have h4 : A.cells + (headSpec ws rm).room.cells ≤ R.cells := by rw [show (headSpec ws rm).room.cells = mc from hrc]; exact hp.1
  have h5 : A.slots + (headSpec ws rm).room.slots ≤ R.slots := by rw [show (headSpec ws rm).room.slots = ms from hrs]; exact hp.2.1
  have hPc : Pc a (A.U.calling g mk a) := hblind _ _ _ _ hp.2.2
  obtain ⟨U, Ls, c0, s0⟩ := A
  dsimp only [Pt.U, Pt.locs, Pt.cells, Pt.slots] at h1 h2 h3 h4 h5 X hn hPc ⊢
  obtain ⟨methY, cY, hmY, hcY, -, hlY, -, -, -, -⟩ := Cond.code_spec hn h2
  obtain ⟨kY, hkY, -⟩ := className_of_methodNamed hn
  have hinitY : kY.init = .initialized := Cond.initialized_spec (findClass_of_methodNamed hn) hkY h3
  have h : At U g.method c below := by rw [hg]; exact X.here
  have hlocals9 : W9 + (maxL + 11) + (headSpec ws rm).room.locals ≤ R.locals := hlocals
  have happ : (headSpec ws rm).appliesLoose y e.platform (U.calling g mk a) = true :=
    Spec.appliesLoose_calling (g := g) h hdg hn hkY hinitY
      (X.room_calling (g := g) (R' := (headSpec ws rm).room) hsize hmY hcY hframes (by rw [hlY]; omega) h4 h5) h1
  obtain ⟨mid, hmid⟩ := h.above
  have hfr : (U.setTop g).frames = (.java g :: mid) ++ below := by rw [State.frames_setTop' g h.top, hmid]; rfl
  obtain ⟨o, s₂, hsteps, -, hend, hq⟩ := Steps.callFree hM p X.admits X.cas X.clock (acts := []) hfr happ hPc trivial
  have hq' : vx_Q Qc XC mc ms free a (U.calling g mk a) o s₂ := hq
  rw [State.frames_setTop' g h.top] at hend
  obtain ⟨g₀, hg0⟩ := Option.isSome_iff_exists.mp h.top
  obtain ⟨r, hr⟩ := State.topJava?_eq_some.mp hg0
  have hr' : (({ U with heap := s₂.heap, slotsUsed := s₂.slotsUsed } : State).setVm s₂.vm).frames = .java g₀ :: r := hr
  rcases hq' with ⟨hqc, L, hfe, hL⟩ | ⟨q, rfl, E, ce, L, hx, hce, hcv, hcl, hW₂, hsm, hL⟩
  · obtain ⟨⟨v, rfl⟩, hW₂, e2, q2, q3, q4, q5, q6⟩ := id hfe
    have e3 : s₂ = ({ (U.calling g mk a).setFrames s₂.frames with heap := s₂.heap, slotsUsed := s₂.slotsUsed } : State).setVm s₂.vm := by
      have : s₂ = ({ s₂ with vm := (U.calling g mk a).vm } : State).setVm s₂.vm := rfl
      rw [e2] at this
      exact this
    obtain ⟨c₂, i₂, len₂, hc₂, hd₂, hf₂⟩ := hend
    have hW' : U.WarmedH s₂.vm := hW₂
    have hcc : c₂ = c := by
      have h1 : s₂.code? g.method = U.code? g.method := by
        rw [State.code?_eq, State.code?_eq, hW'.alike.method?]
      exact Option.some.inj (hc₂.symm.trans (h1.trans h.code))
    subst hcc
    have hlen : len₂ = len := by rw [hdg] at hd₂; cases hd₂; rfl
    subst hlen
    have hs₂ : s₂ = (({ U with heap := s₂.heap, slotsUsed := s₂.slotsUsed } : State).setVm s₂.vm).setTop { g with pc := g.pc + len₂, stack := v.toList ++ g.stack } := by
      refine e3.trans ?_
      rw [hf₂, State.calling_eq h.top, State.setFrames_setFrames, State.setTop_of_frames _ hr', hr]
      rfl
    have hsame : U.sameButNew ({ U with heap := s₂.heap, slotsUsed := s₂.slotsUsed } : State) L mc ms := by
      refine ⟨?_, q2, q3, q4, q5, q6⟩
      obtain ⟨t, ht, -⟩ := State.frames_cons hr
      show ({ U with heap := s₂.heap, slotsUsed := s₂.slotsUsed } : State) = { U.setFrames U.frames with heap := s₂.heap, slotsUsed := s₂.slotsUsed }
      rw [State.setFrames_self ht]
    subst hg
    refine Or.inl ⟨v, ⟨(({ U with heap := s₂.heap, slotsUsed := s₂.slotsUsed } : State).setVm s₂.vm), Ls ++ L, c0 + mc, s0 + ms⟩,
      ⟨X.admits, X.cas, X.clock, X.frames, X.room, X.hears, X.method, X.code, (X.here.setHeapUsed s₂.heap s₂.slotsUsed).setVm hW'.alike, X.tail, State.WarmedH.trans X.warmed hW', X.limits, X.bytes, X.same.trans (hsame.setVm s.vm)⟩,
      ⟨g, mk, s₂, L, rfl, rfl, hqc, rfl, hL, rfl, rfl⟩, ?_⟩
    show Steps p.tables e below _ ((({ U with heap := s₂.heap, slotsUsed := s₂.slotsUsed } : State).setVm s₂.vm).setTop { g with pc := g.pc + len₂, stack := v.toList ++ g.stack })
    rw [← hs₂]
    exact hsteps
  · obtain ⟨e2, q2, q3, q4, q5, q6⟩ := id hsm
    have e3 : s₂ = ({ (U.calling g mk a).setFrames s₂.frames with heap := s₂.heap, slotsUsed := s₂.slotsUsed } : State).setVm s₂.vm := by
      have : s₂ = ({ s₂ with vm := (U.calling g mk a).vm } : State).setVm s₂.vm := rfl
      rw [e2] at this
      exact this
    have hf₂ : s₂.frames = .throwing q :: .java g :: U.frames.tail := hend
    have hW' : U.WarmedH s₂.vm := hW₂
    have hs₂ : s₂ = ((({ U with heap := s₂.heap, slotsUsed := s₂.slotsUsed } : State).setVm s₂.vm).setTop g).pushFrame (.throwing q) := by
      refine e3.trans ?_
      rw [hf₂, State.calling_eq h.top, State.setFrames_setFrames, State.pushFrame, State.frames_setTop _ hr', State.setTop_of_frames _ hr', State.setFrames_setFrames, hr]
      rfl
    have hsame : U.sameButNew ({ U with heap := s₂.heap, slotsUsed := s₂.slotsUsed } : State) L mc ms := by
      refine ⟨?_, q2, q3, q4, q5, q6⟩
      obtain ⟨t, ht, -⟩ := State.frames_cons hr
      show ({ U with heap := s₂.heap, slotsUsed := s₂.slotsUsed } : State) = { U.setFrames U.frames with heap := s₂.heap, slotsUsed := s₂.slotsUsed }
      rw [State.setFrames_self ht]
    subst hg
    refine Or.inr ⟨q, ⟨(({ U with heap := s₂.heap, slotsUsed := s₂.slotsUsed } : State).setVm s₂.vm), Ls ++ L, c0 + mc, s0 + ms⟩,
      ⟨X.admits, X.cas, X.clock, X.frames, X.room, X.hears, X.method, X.code, (X.here.setHeapUsed s₂.heap s₂.slotsUsed).setVm hW'.alike, X.tail, State.WarmedH.trans X.warmed hW', X.limits, X.bytes, X.same.trans (hsame.setVm s.vm)⟩,
      ⟨g, mk, s₂, L, E, ce, rfl, rfl, hx, hce, hcv, hcl, rfl, hL, rfl, rfl⟩, ?_⟩
    show Steps p.tables e below _ (((({ U with heap := s₂.heap, slotsUsed := s₂.slotsUsed } : State).setVm s₂.vm).setTop g).pushFrame (.throwing q))
    rw [← hs₂]
    exact hsteps
end Payer
section Calls
variable {p : Program} {l : Launch} {e : Env} {R : Room} {s : State} {m : MethodId} {args : Array Value} {below : List Frame} {meth : Method} {c : Code} {T : State} {locs : List Loc} {cells slots : Nat}
theorem vx_callV (X : Stand p l e R s m args below meth c T locs cells slots) (hexec : p.tables.exec = Jvm.exec) {own C : String} {index : Nat} {y : MethodName} {bytes : ByteArray} {maxL : Nat} {ret : Option FieldType}
    (hown : s.vm.findClass own = some m.cls) (hlink : (Cond.methodLink own index y).before args s = true) (hinst : (Cond.instanceMethod y).before args s = true) (hsel : (Cond.selects C y y).before args s = true)
    (hcode : (Cond.code y bytes maxL ret).before args s = true) (hy : y.cls ≠ "java/lang/invoke/MethodHandle" ∧ y.cls ≠ "java/lang/invoke/VarHandle")
    {W9 : Nat} {Pre : Pt → Array Value → Prop} {Post : Pt → Array Value → Option Value → Pt → Prop} {PostX : Pt → Array Value → Addr → Pt → Prop} (hK : vx_Back l R p e below s args y 3 W9 Pre Post PostX)
    {b : Addr} {cellB : Cell} (hcell : T.heap[b]? = some cellB) (hobj : cellB.vm.isStatics = false) (hcls : s.vm.findClass C = some cellB.cls)
    {g : JFrame} (hg : g.method = m) (hsize : g.locals.size = c.maxLocals) {argsL rest : List Value} (hlen : ∀ sig, parseMethodDescriptor y.desc = some sig → argsL.length = sig.parameters.length)
    (hstack : g.stack = argsL.reverse ++ .ref b :: rest) (hW : 2 * g.monitorRoom + (rest.map fun v => v.category).sum ≤ W9) (hdg : decode c.code g.pc = .ok (.invokevirtual index, 3))
    (hpre : ∀ vm₁, s.WarmedH vm₁ → Pre ⟨T.setVm vm₁, locs, cells, slots⟩ (Value.ref b :: argsL).toArray) :
    (∃ (v : Option Value) (vm₁ : Vm) (B : Pt), s.WarmedH vm₁ ∧ Stand p l e R s m args below meth c B.U B.locs B.cells B.slots ∧ Post ⟨T.setVm vm₁, locs, cells, slots⟩ (Value.ref b :: argsL).toArray v B ∧
      ∀ target, Steps p.tables e below (B.U.setTop { g with pc := g.pc + 3, stack := v.toList ++ rest }) target → Steps p.tables e below (T.setTop g) target) ∨
    (∃ (q : Addr) (vm₁ : Vm) (B : Pt), s.WarmedH vm₁ ∧ Stand p l e R s m args below meth c B.U B.locs B.cells B.slots ∧ PostX ⟨T.setVm vm₁, locs, cells, slots⟩ (Value.ref b :: argsL).toArray q B ∧
      Steps p.tables e below (T.setTop g) ((B.U.setTop { g with stack := rest }).pushFrame (.throwing q))) := by
  obtain ⟨mk, methM, hnamed, hmethM, hstM, habM⟩ := Cond.instanceMethod_spec hinst
  obtain ⟨methM', cM, hmethM', -, -, -, -, -, -, hsigM⟩ := Cond.code_spec hnamed hcode
  cases hmethM.symm.trans hmethM'
  obtain ⟨c2, r2, m2, q1, q2, q3, q4, kP, hkP, hkPi⟩ := Cond.selects_spec hsel
  cases hcls.symm.trans q1
  cases (State.methodFound?_of_named hnamed hy).symm.trans q2
  cases hnamed.symm.trans q3
  have hselP : selectMethod e.platform s.vm cellB.cls mk = .method mk := by rw [Launch.admits_selectMethod X.admits]; exact q4
  obtain ⟨vm₁, X₁, hstep₁⟩ := X.invokevirtual hexec hown hlink hnamed hmethM hstM hkP hkPi hy (a := b) (cell := cellB) hcell
    (fun z h => by rw [h] at hobj; cases hobj) hselP hmethM habM hkP hkPi (g := g) hg (argsL := argsL) (rest := rest) (hlen _ hsigM) hstack hdg
  rcases hK m meth c ⟨T.setVm vm₁, locs, cells, slots⟩ { g with stack := rest } (.invokevirtual index) mk (Value.ref b :: argsL).toArray X₁ hg hsize hdg hW (X₁.named hnamed) (hpre vm₁ X₁.warmed) with ⟨v, B, X', hpost, hsteps⟩ | ⟨q, B, X', hpost, hsteps⟩
  · exact Or.inl ⟨v, vm₁, B, X₁.warmed, X', hpost, fun target h => hstep₁ _ fun acts => by rw [doInvoke_state]; exact hsteps.trans h⟩
  · exact Or.inr ⟨q, vm₁, B, X₁.warmed, X', hpost, hstep₁ _ fun acts => by rw [doInvoke_state]; exact hsteps⟩
theorem vx_callS (X : Stand p l e R s m args below meth c T locs cells slots) (hexec : p.tables.exec = Jvm.exec) {own : String} {index : Nat} {y : MethodName} {bytes : ByteArray} {maxL : Nat} {ret : Option FieldType}
    (hown : s.vm.findClass own = some m.cls) (hlink : (Cond.methodLink own index y).before args s = true) (hstat : (Cond.static y).before args s = true) (hinit : (Cond.initialized y.cls).before args s = true)
    (hcode : (Cond.code y bytes maxL ret).before args s = true) (hy : y.cls ≠ "java/lang/invoke/MethodHandle" ∧ y.cls ≠ "java/lang/invoke/VarHandle")
    {W9 : Nat} {Pre : Pt → Array Value → Prop} {Post : Pt → Array Value → Option Value → Pt → Prop} {PostX : Pt → Array Value → Addr → Pt → Prop} (hK : vx_Back l R p e below s args y 3 W9 Pre Post PostX)
    {g : JFrame} (hg : g.method = m) (hsize : g.locals.size = c.maxLocals) {argsL rest : List Value} (hlen : ∀ sig, parseMethodDescriptor y.desc = some sig → argsL.length = sig.parameters.length)
    (hstack : g.stack = argsL.reverse ++ rest) (hW : 2 * g.monitorRoom + (rest.map fun v => v.category).sum ≤ W9) (hdg : decode c.code g.pc = .ok (.invokestatic index, 3))
    (hpre : ∀ vm₁, s.WarmedH vm₁ → Pre ⟨T.setVm vm₁, locs, cells, slots⟩ argsL.toArray) :
    (∃ (v : Option Value) (vm₁ : Vm) (B : Pt), s.WarmedH vm₁ ∧ Stand p l e R s m args below meth c B.U B.locs B.cells B.slots ∧ Post ⟨T.setVm vm₁, locs, cells, slots⟩ argsL.toArray v B ∧
      ∀ target, Steps p.tables e below (B.U.setTop { g with pc := g.pc + 3, stack := v.toList ++ rest }) target → Steps p.tables e below (T.setTop g) target) ∨
    (∃ (q : Addr) (vm₁ : Vm) (B : Pt), s.WarmedH vm₁ ∧ Stand p l e R s m args below meth c B.U B.locs B.cells B.slots ∧ PostX ⟨T.setVm vm₁, locs, cells, slots⟩ argsL.toArray q B ∧
      Steps p.tables e below (T.setTop g) ((B.U.setTop { g with stack := rest }).pushFrame (.throwing q))) := by
  obtain ⟨mk, hnamed⟩ := Cond.code_named hcode
  obtain ⟨methM, cM, hmethM, -, -, -, -, -, -, hsigM⟩ := Cond.code_spec hnamed hcode
  have hstatic : methM.isStatic = true := Cond.static_spec hnamed hmethM hstat
  obtain ⟨kP, hkP, -⟩ := className_of_methodNamed hnamed
  have hinitP : kP.init = .initialized := Cond.initialized_spec (findClass_of_methodNamed hnamed) hkP hinit
  obtain ⟨vm₁, X₁, hstep₁⟩ := X.invokestatic hexec hown hlink hnamed hmethM hstatic hkP hinitP hy (g := g) hg (argsL := argsL) (rest := rest) (hlen _ hsigM) hstack hdg
  rcases hK m meth c ⟨T.setVm vm₁, locs, cells, slots⟩ { g with stack := rest } (.invokestatic index) mk argsL.toArray X₁ hg hsize hdg hW (X₁.named hnamed) (hpre vm₁ X₁.warmed) with ⟨v, B, X', hpost, hsteps⟩ | ⟨q, B, X', hpost, hsteps⟩
  · exact Or.inl ⟨v, vm₁, B, X₁.warmed, X', hpost, fun target h => hstep₁ _ fun acts => by rw [doInvoke_state]; exact hsteps.trans h⟩
  · exact Or.inr ⟨q, vm₁, B, X₁.warmed, X', hpost, hstep₁ _ fun acts => by rw [doInvoke_state]; exact hsteps⟩
end Calls
theorem vx_cls {s : State} {T : State} {vm₁ : Vm} {E : String} {k : ClassId} (hW : s.WarmedH vm₁) (h : (T.setVm vm₁).vm.findClass E = some k) : s.vm.findClass E = some k := by
  have h1 : vm₁.findClass E = some k := h
  rw [hW.alike.findClass] at h1
  exact h1
/-- the method's frame g, with q thrown over it -/
def vx_W (p : Program) (l : Launch) (e : Env) (R : Room) (s : State) (m : MethodId) (args : Array Value) (below : List Frame) (meth : Method) (c : Code) (H : Heap) (locs : List Loc) (cells slots : Nat) (Q : State → Prop) (g : JFrame) (q : Addr) : Prop :=
  ∀ T : State, T.heap = H → Stand p l e R s m args below meth c T locs cells slots → ∃ t, Steps p.tables e below ((T.setTop g).pushFrame (.throwing q)) t ∧ Q t
def vx_Run (p : Program) (l : Launch) (e : Env) (R : Room) (s : State) (m : MethodId) (args : Array Value) (below : List Frame) (meth : Method) (c : Code) (H : Heap) (locs : List Loc) (cells slots mc ms : Nat) (g : JFrame) (rest : List Value) (Qa : State → Outcome → State → Prop) (XC : String → State → State → Prop) (free : Addr → Prop) : Prop :=
  ∀ T : State, T.heap = H → Stand p l e R s m args below meth c T locs cells slots →
    (∃ (v : Option Value) (st₀ t T' : State) (L : List Loc), st₀.heap = H ∧ Stand p l e R s m args below meth c T' (locs ++ L) (cells + mc) (slots + ms) ∧ (∀ q ∈ L, free q.base) ∧ T'.heap = t.heap ∧ T'.vm = t.vm ∧ Qa st₀ (.returned v) t ∧
      Goes p e below T g T' { g with pc := g.pc + 3, stack := v.toList ++ rest }) ∨
    (∃ (q : Addr) (st₀ t T' : State) (L : List Loc) (E : String) (ce : Cell), st₀.heap = H ∧ Stand p l e R s m args below meth c T' (locs ++ L) (cells + mc) (slots + ms) ∧ (∀ z ∈ L, free z.base) ∧ T'.heap = t.heap ∧ T'.vm = t.vm ∧ XC E st₀ t ∧ t.heap[q]? = some ce ∧ ce.vm = .none ∧ s.vm.findClass E = some ce.cls ∧
      Steps p.tables e below (T.setTop g) ((T'.setTop { g with stack := rest }).pushFrame (.throwing q)))
def vx_X {S : Type} (px : S → Prop) (B : String → S → State → Prop) (A : Nat → Prop) : String → State → State → Prop := fun E st t => ∃ u : S, px u ∧ B E u t ∧ va_F A st t
section Runs
variable {p : Program} {l : Launch} {e : Env} {R : Room} {s : State} {m : MethodId} {args : Array Value} {below : List Frame} {meth : Method} {c : Code} {H : Heap} {locs : List Loc} {cells slots : Nat}
variable {y : MethodName} {bytes cc : ByteArray} {maxL nL mc ms n index : Nat} {ret : Option FieldType} {ws : List Cond} {rm : Room} {Pc : Array Value → State → Prop} {Qc : Array Value → State → Outcome → State → Prop} {XC : String → State → State → Prop} {free : Addr → Prop} {Ts : List Cond} {own C : String} {b : Addr} {As rest : List Value} {g : JFrame}
theorem vx_callBack (cb : CallB R s args own index y bytes maxL ret ws rm mc ms n) (hM : vx_Met l y ws rm Pc Qc XC mc ms free) (hbl : FrameBlind Pc) : vx_Back l R p e below s args y 3 8 (PreOf R mc ms Pc) (PostOf Qc mc ms free) (vx_Post XC mc ms free) := by
  obtain ⟨hrc, hrs, hfr, hlo, hws, hcw, -, hini, -⟩ := cb
  exact vx_back (bytes := bytes) (maxL := maxL) (ret := ret) hM hbl hrc hrs hfr hlo hws hcw (fun a' U hW => word_at hW (Or.inl (by first | rfl | simp [Cond.onTables, Cond.keeps, Cond.steady])) hini)
theorem vx_runV (S : CallFix p m c cc nL s args Ts own) (hM : vx_Met l y ws rm Pc Qc XC mc ms free) (cw : CallW R s args own C index y bytes maxL ret ws rm mc ms n) (hp : PreV s H C b Pc As)
    (hg : g.method = m) (hn : As.length = n) (hsize : g.locals.size = nL) (hstack : g.stack = As.reverse ++ .ref b :: rest) (hW : 2 * g.monitorRoom + (rest.map fun v => v.category).sum ≤ 8) (hdg : decode cc g.pc = .ok (.invokevirtual index, 3)) (hf : cells + mc ≤ R.cells ∧ slots + ms ≤ R.slots) :
    vx_Run p l e R s m args below meth c H locs cells slots mc ms g rest (Qc (Value.ref b :: As).toArray) XC free := by
  have hK : vx_Back l R p e below s args y 3 8 (PreOf R mc ms Pc) (PostOf Qc mc ms free) (vx_Post XC mc ms free) := vx_callBack cw.1 hM hp.1
  obtain ⟨⟨-, -, -, -, -, -, hcode, -, hy, hlen, hl⟩, hin, hse⟩ := cw
  obtain ⟨hx, hb, hml, ho, -⟩ := S
  obtain ⟨-, ⟨cellB, hcB, hoB, hclB⟩, hPc⟩ := hp
  intro T hT X
  rcases vx_callV X hx (C := C) (bytes := bytes) (maxL := maxL) (ret := ret) ho hl hin hse hcode hy hK (by rw [hT]; exact hcB) hoB hclB hg (hsize.trans hml.symm) (argsL := As) (rest := rest) (fun sig h => hn.trans (hlen sig h)) hstack hW (by rw [hb]; exact hdg)
    (fun vm₁ hW₁ => ⟨hf.1, hf.2, hPc (T.setVm vm₁) hT hW₁⟩) with ⟨v, vm₁, ⟨U', l2, c2, s2⟩, hW₁, X', ⟨g', mk, t, L, e1, e2, hq, h1, hL, h2, h3⟩, st⟩ | ⟨q, vm₁, ⟨U', l2, c2, s2⟩, hW₁, X', ⟨g', mk, t, L, E, ce, e1, e2, hq, hce, hcv, hcl, h1, hL, h2, h3⟩, st⟩
  · dsimp only [Pt.U, Pt.locs, Pt.cells, Pt.slots] at X' e1 e2 h1 h2 h3 st
    subst h1; subst h2; subst h3
    exact Or.inl ⟨v, (T.setVm vm₁).calling g' mk (Value.ref b :: As).toArray, t, U', L, hT, X', hL, e1, e2, hq, st⟩
  · dsimp only [Pt.U, Pt.locs, Pt.cells, Pt.slots] at X' e1 e2 h1 h2 h3 st hcl
    subst h1; subst h2; subst h3
    exact Or.inr ⟨q, (T.setVm vm₁).calling g' mk (Value.ref b :: As).toArray, t, U', L, E, ce, hT, X', hL, e1, e2, hq, hce, hcv, vx_cls hW₁ hcl, st⟩
theorem vx_runS (S : CallFix p m c cc nL s args Ts own) (hM : vx_Met l y ws rm Pc Qc XC mc ms free) (cw : CallB R s args own index y bytes maxL ret ws rm mc ms n ∧ (Cond.static y).before args s = true) (hp : PreS s H Pc As)
    (hg : g.method = m) (hn : As.length = n) (hsize : g.locals.size = nL) (hstack : g.stack = As.reverse ++ rest) (hW : 2 * g.monitorRoom + (rest.map fun v => v.category).sum ≤ 8) (hdg : decode cc g.pc = .ok (.invokestatic index, 3)) (hf : cells + mc ≤ R.cells ∧ slots + ms ≤ R.slots) :
    vx_Run p l e R s m args below meth c H locs cells slots mc ms g rest (Qc As.toArray) XC free := by
  have hK : vx_Back l R p e below s args y 3 8 (PreOf R mc ms Pc) (PostOf Qc mc ms free) (vx_Post XC mc ms free) := vx_callBack cw.1 hM hp.1
  obtain ⟨⟨-, -, -, -, -, -, hcode, hini, hy, hlen, hl⟩, hstt⟩ := cw
  obtain ⟨hx, hb, hml, ho, -⟩ := S
  intro T hT X
  rcases vx_callS X hx (bytes := bytes) (maxL := maxL) (ret := ret) ho hl hstt hini hcode hy hK hg (hsize.trans hml.symm) (argsL := As) (rest := rest) (fun sig h => hn.trans (hlen sig h)) hstack hW (by rw [hb]; exact hdg)
    (fun vm₁ hW₁ => ⟨hf.1, hf.2, hp.2 (T.setVm vm₁) hT hW₁⟩) with ⟨v, vm₁, ⟨U', l2, c2, s2⟩, hW₁, X', ⟨g', mk, t, L, e1, e2, hq, h1, hL, h2, h3⟩, st⟩ | ⟨q, vm₁, ⟨U', l2, c2, s2⟩, hW₁, X', ⟨g', mk, t, L, E, ce, e1, e2, hq, hce, hcv, hcl, h1, hL, h2, h3⟩, st⟩
  · dsimp only [Pt.U, Pt.locs, Pt.cells, Pt.slots] at X' e1 e2 h1 h2 h3 st
    subst h1; subst h2; subst h3
    exact Or.inl ⟨v, (T.setVm vm₁).calling g' mk As.toArray, t, U', L, hT, X', hL, e1, e2, hq, st⟩
  · dsimp only [Pt.U, Pt.locs, Pt.cells, Pt.slots] at X' e1 e2 h1 h2 h3 st hcl
    subst h1; subst h2; subst h3
    exact Or.inr ⟨q, (T.setVm vm₁).calling g' mk As.toArray, t, U', L, E, ce, hT, X', hL, e1, e2, hq, hce, hcv, vx_cls hW₁ hcl, st⟩
end Runs
section Rows
variable {p : Program} {l : Launch} {e : Env} {R : Room} {s : State} {m : MethodId} {args : Array Value} {below : List Frame} {meth : Method} {c : Code} {H : Heap} {locs : List Loc} {cells slots : Nat} {Q : State → Prop}
variable {mc ms : Nat} {free : Addr → Prop} {A0 A1 : Nat → Prop} {H0 : Heap} {a : Array Value} {pc : Nat} {ls : Array Slot} {st0 rest : List Value}
theorem vx_keep {st₀ t T' : State} {L : List Loc} (h0 : st₀.heap = H) (e1 : T'.heap = t.heap) (hS : va_S A0 H0 H locs) (hA : ∀ q, q < H.size → A1 q → A0 q) (hf : ∀ q, free q → A0 q) (hL : ∀ q ∈ L, free q.base) (hF : va_F A1 st₀ t) :
    H.size ≤ T'.heap.size ∧ (∀ q : Nat, q < H.size → ¬ A1 q → T'.heap[q]? = H[q]?) ∧ va_S A0 H0 T'.heap (locs ++ L) := by
  obtain ⟨hz, hk⟩ := hF
  rw [h0] at hz hk
  exact ⟨by rw [e1]; exact hz, fun q h1 h2 => by rw [e1]; exact hk q h1 h2,
    ⟨Nat.le_trans hS.1 (by rw [e1]; exact hz), fun q h1 h2 => by rw [e1, hk q (Nat.lt_of_lt_of_le h1 hS.1) (fun z => h2 (hA q (Nat.lt_of_lt_of_le h1 hS.1) z))]; exact hS.2.1 q h1 h2, fun q hq => by
      rcases List.mem_append.mp hq with h | h
      · exact hS.2.2 q h
      · exact hf _ (hL q h)⟩⟩
theorem vx_calli {S SX : Type} {post : Int32 → S → Prop} {px : SX → Prop} {B : S → State → Prop} {BX : String → SX → State → Prop} {AX : Nat → Prop} (hr : vx_Run p l e R s m args below meth c H locs cells slots mc ms (F0 m pc ls st0) rest (va_Qi post B A1 a) (vx_X px BX AX) free) (hS : va_S A0 H0 H locs) (hA : ∀ q, q < H.size → A1 q → A0 q) (hf : ∀ q, free q → A0 q) (hAX : ∀ q, q < H.size → AX q → A0 q)
    (kx : ∀ (E : String) (ce : Cell) (q9 : Addr) (u : SX) (t : State) (H1 : Heap) (locs1 : List Loc), t.heap = H1 → s.vm.Alike t.vm → px u → BX E u t → H.size ≤ H1.size → (∀ q : Nat, q < H.size → ¬ AX q → H1[q]? = H[q]?) → va_S A0 H0 H1 locs1 → H1[q9]? = some ce → ce.vm = .none → s.vm.findClass E = some ce.cls → vx_W p l e R s m args below meth c H1 locs1 (cells + mc) (slots + ms) Q (F0 m pc ls rest) q9)
    (kk : ∀ (r : Int32) (u : S) (t : State) (H1 : Heap) (locs1 : List Loc), t.heap = H1 → s.vm.Alike t.vm → post r u → B u t → H.size ≤ H1.size → (∀ q : Nat, q < H.size → ¬ A1 q → H1[q]? = H[q]?) → va_S A0 H0 H1 locs1 → W p l e R s m args below meth c H1 locs1 (cells + mc) (slots + ms) Q (F0 m (pc + 3) ls (.int r :: rest))) : W p l e R s m args below meth c H locs cells slots Q (F0 m pc ls st0) := by
  intro T hT X
  rcases hr T hT X with ⟨v, st₀, t, T', L, h0, X', hL, e1, e2, ⟨⟨r, u, hv, hp, hb⟩, hF⟩, st⟩ | ⟨q, st₀, t, T', L, E, ce, h0, X', hL, e1, e2, ⟨u, hp, hb, hF⟩, hce, hcv, hcl, st⟩
  · cases hv
    obtain ⟨k1, k2, k3⟩ := vx_keep h0 e1 hS hA hf hL hF
    obtain ⟨t2, a1, b1⟩ := kk r u t T'.heap (locs ++ L) e1.symm (by rw [← e2]; exact X'.warmed.alike) hp hb k1 k2 k3 T' rfl X'
    exact ⟨t2, st t2 a1, b1⟩
  · obtain ⟨k1, k2, k3⟩ := vx_keep h0 e1 hS hAX hf hL hF
    obtain ⟨t2, a1, b1⟩ := kx E ce q u t T'.heap (locs ++ L) e1.symm (by rw [← e2]; exact X'.warmed.alike) hp hb k1 k2 k3 (by rw [e1]; exact hce) hcv hcl T' rfl X'
    exact ⟨t2, st.trans a1, b1⟩
theorem vx_calll {S SX : Type} {post : Int64 → S → Prop} {px : SX → Prop} {B : S → State → Prop} {BX : String → SX → State → Prop} {AX : Nat → Prop} (hr : vx_Run p l e R s m args below meth c H locs cells slots mc ms (F0 m pc ls st0) rest (va_Ql post B A1 a) (vx_X px BX AX) free) (hS : va_S A0 H0 H locs) (hA : ∀ q, q < H.size → A1 q → A0 q) (hf : ∀ q, free q → A0 q) (hAX : ∀ q, q < H.size → AX q → A0 q)
    (kx : ∀ (E : String) (ce : Cell) (q9 : Addr) (u : SX) (t : State) (H1 : Heap) (locs1 : List Loc), t.heap = H1 → s.vm.Alike t.vm → px u → BX E u t → H.size ≤ H1.size → (∀ q : Nat, q < H.size → ¬ AX q → H1[q]? = H[q]?) → va_S A0 H0 H1 locs1 → H1[q9]? = some ce → ce.vm = .none → s.vm.findClass E = some ce.cls → vx_W p l e R s m args below meth c H1 locs1 (cells + mc) (slots + ms) Q (F0 m pc ls rest) q9)
    (kk : ∀ (r : Int64) (u : S) (t : State) (H1 : Heap) (locs1 : List Loc), t.heap = H1 → s.vm.Alike t.vm → post r u → B u t → H.size ≤ H1.size → (∀ q : Nat, q < H.size → ¬ A1 q → H1[q]? = H[q]?) → va_S A0 H0 H1 locs1 → W p l e R s m args below meth c H1 locs1 (cells + mc) (slots + ms) Q (F0 m (pc + 3) ls (.long r :: rest))) : W p l e R s m args below meth c H locs cells slots Q (F0 m pc ls st0) := by
  intro T hT X
  rcases hr T hT X with ⟨v, st₀, t, T', L, h0, X', hL, e1, e2, ⟨⟨r, u, hv, hp, hb⟩, hF⟩, st⟩ | ⟨q, st₀, t, T', L, E, ce, h0, X', hL, e1, e2, ⟨u, hp, hb, hF⟩, hce, hcv, hcl, st⟩
  · cases hv
    obtain ⟨k1, k2, k3⟩ := vx_keep h0 e1 hS hA hf hL hF
    obtain ⟨t2, a1, b1⟩ := kk r u t T'.heap (locs ++ L) e1.symm (by rw [← e2]; exact X'.warmed.alike) hp hb k1 k2 k3 T' rfl X'
    exact ⟨t2, st t2 a1, b1⟩
  · obtain ⟨k1, k2, k3⟩ := vx_keep h0 e1 hS hAX hf hL hF
    obtain ⟨t2, a1, b1⟩ := kx E ce q u t T'.heap (locs ++ L) e1.symm (by rw [← e2]; exact X'.warmed.alike) hp hb k1 k2 k3 (by rw [e1]; exact hce) hcv hcl T' rfl X'
    exact ⟨t2, st.trans a1, b1⟩
theorem vx_callf {S SX : Type} {post : UInt32 → S → Prop} {px : SX → Prop} {B : S → State → Prop} {BX : String → SX → State → Prop} {AX : Nat → Prop} (hr : vx_Run p l e R s m args below meth c H locs cells slots mc ms (F0 m pc ls st0) rest (va_Qf post B A1 a) (vx_X px BX AX) free) (hS : va_S A0 H0 H locs) (hA : ∀ q, q < H.size → A1 q → A0 q) (hf : ∀ q, free q → A0 q) (hAX : ∀ q, q < H.size → AX q → A0 q)
    (kx : ∀ (E : String) (ce : Cell) (q9 : Addr) (u : SX) (t : State) (H1 : Heap) (locs1 : List Loc), t.heap = H1 → s.vm.Alike t.vm → px u → BX E u t → H.size ≤ H1.size → (∀ q : Nat, q < H.size → ¬ AX q → H1[q]? = H[q]?) → va_S A0 H0 H1 locs1 → H1[q9]? = some ce → ce.vm = .none → s.vm.findClass E = some ce.cls → vx_W p l e R s m args below meth c H1 locs1 (cells + mc) (slots + ms) Q (F0 m pc ls rest) q9)
    (kk : ∀ (r : UInt32) (u : S) (t : State) (H1 : Heap) (locs1 : List Loc), t.heap = H1 → s.vm.Alike t.vm → post r u → B u t → H.size ≤ H1.size → (∀ q : Nat, q < H.size → ¬ A1 q → H1[q]? = H[q]?) → va_S A0 H0 H1 locs1 → W p l e R s m args below meth c H1 locs1 (cells + mc) (slots + ms) Q (F0 m (pc + 3) ls (.float r :: rest))) : W p l e R s m args below meth c H locs cells slots Q (F0 m pc ls st0) := by
  intro T hT X
  rcases hr T hT X with ⟨v, st₀, t, T', L, h0, X', hL, e1, e2, ⟨⟨r, u, hv, hp, hb⟩, hF⟩, st⟩ | ⟨q, st₀, t, T', L, E, ce, h0, X', hL, e1, e2, ⟨u, hp, hb, hF⟩, hce, hcv, hcl, st⟩
  · cases hv
    obtain ⟨k1, k2, k3⟩ := vx_keep h0 e1 hS hA hf hL hF
    obtain ⟨t2, a1, b1⟩ := kk r u t T'.heap (locs ++ L) e1.symm (by rw [← e2]; exact X'.warmed.alike) hp hb k1 k2 k3 T' rfl X'
    exact ⟨t2, st t2 a1, b1⟩
  · obtain ⟨k1, k2, k3⟩ := vx_keep h0 e1 hS hAX hf hL hF
    obtain ⟨t2, a1, b1⟩ := kx E ce q u t T'.heap (locs ++ L) e1.symm (by rw [← e2]; exact X'.warmed.alike) hp hb k1 k2 k3 (by rw [e1]; exact hce) hcv hcl T' rfl X'
    exact ⟨t2, st.trans a1, b1⟩
theorem vx_calld {S SX : Type} {post : UInt64 → S → Prop} {px : SX → Prop} {B : S → State → Prop} {BX : String → SX → State → Prop} {AX : Nat → Prop} (hr : vx_Run p l e R s m args below meth c H locs cells slots mc ms (F0 m pc ls st0) rest (va_Qd post B A1 a) (vx_X px BX AX) free) (hS : va_S A0 H0 H locs) (hA : ∀ q, q < H.size → A1 q → A0 q) (hf : ∀ q, free q → A0 q) (hAX : ∀ q, q < H.size → AX q → A0 q)
    (kx : ∀ (E : String) (ce : Cell) (q9 : Addr) (u : SX) (t : State) (H1 : Heap) (locs1 : List Loc), t.heap = H1 → s.vm.Alike t.vm → px u → BX E u t → H.size ≤ H1.size → (∀ q : Nat, q < H.size → ¬ AX q → H1[q]? = H[q]?) → va_S A0 H0 H1 locs1 → H1[q9]? = some ce → ce.vm = .none → s.vm.findClass E = some ce.cls → vx_W p l e R s m args below meth c H1 locs1 (cells + mc) (slots + ms) Q (F0 m pc ls rest) q9)
    (kk : ∀ (r : UInt64) (u : S) (t : State) (H1 : Heap) (locs1 : List Loc), t.heap = H1 → s.vm.Alike t.vm → post r u → B u t → H.size ≤ H1.size → (∀ q : Nat, q < H.size → ¬ A1 q → H1[q]? = H[q]?) → va_S A0 H0 H1 locs1 → W p l e R s m args below meth c H1 locs1 (cells + mc) (slots + ms) Q (F0 m (pc + 3) ls (.double r :: rest))) : W p l e R s m args below meth c H locs cells slots Q (F0 m pc ls st0) := by
  intro T hT X
  rcases hr T hT X with ⟨v, st₀, t, T', L, h0, X', hL, e1, e2, ⟨⟨r, u, hv, hp, hb⟩, hF⟩, st⟩ | ⟨q, st₀, t, T', L, E, ce, h0, X', hL, e1, e2, ⟨u, hp, hb, hF⟩, hce, hcv, hcl, st⟩
  · cases hv
    obtain ⟨k1, k2, k3⟩ := vx_keep h0 e1 hS hA hf hL hF
    obtain ⟨t2, a1, b1⟩ := kk r u t T'.heap (locs ++ L) e1.symm (by rw [← e2]; exact X'.warmed.alike) hp hb k1 k2 k3 T' rfl X'
    exact ⟨t2, st t2 a1, b1⟩
  · obtain ⟨k1, k2, k3⟩ := vx_keep h0 e1 hS hAX hf hL hF
    obtain ⟨t2, a1, b1⟩ := kx E ce q u t T'.heap (locs ++ L) e1.symm (by rw [← e2]; exact X'.warmed.alike) hp hb k1 k2 k3 (by rw [e1]; exact hce) hcv hcl T' rfl X'
    exact ⟨t2, st.trans a1, b1⟩
theorem vx_callv {S SX : Type} {post : S → Prop} {px : SX → Prop} {B : S → State → Prop} {BX : String → SX → State → Prop} {AX : Nat → Prop} (hr : vx_Run p l e R s m args below meth c H locs cells slots mc ms (F0 m pc ls st0) rest (va_Qv post B A1 a) (vx_X px BX AX) free) (hS : va_S A0 H0 H locs) (hA : ∀ q, q < H.size → A1 q → A0 q) (hf : ∀ q, free q → A0 q) (hAX : ∀ q, q < H.size → AX q → A0 q)
    (kx : ∀ (E : String) (ce : Cell) (q9 : Addr) (u : SX) (t : State) (H1 : Heap) (locs1 : List Loc), t.heap = H1 → s.vm.Alike t.vm → px u → BX E u t → H.size ≤ H1.size → (∀ q : Nat, q < H.size → ¬ AX q → H1[q]? = H[q]?) → va_S A0 H0 H1 locs1 → H1[q9]? = some ce → ce.vm = .none → s.vm.findClass E = some ce.cls → vx_W p l e R s m args below meth c H1 locs1 (cells + mc) (slots + ms) Q (F0 m pc ls rest) q9)
    (kk : ∀ (u : S) (t : State) (H1 : Heap) (locs1 : List Loc), t.heap = H1 → s.vm.Alike t.vm → post u → B u t → H.size ≤ H1.size → (∀ q : Nat, q < H.size → ¬ A1 q → H1[q]? = H[q]?) → va_S A0 H0 H1 locs1 → W p l e R s m args below meth c H1 locs1 (cells + mc) (slots + ms) Q (F0 m (pc + 3) ls (rest))) : W p l e R s m args below meth c H locs cells slots Q (F0 m pc ls st0) := by
  intro T hT X
  rcases hr T hT X with ⟨v, st₀, t, T', L, h0, X', hL, e1, e2, ⟨⟨u, hv, hp, hb⟩, hF⟩, st⟩ | ⟨q, st₀, t, T', L, E, ce, h0, X', hL, e1, e2, ⟨u, hp, hb, hF⟩, hce, hcv, hcl, st⟩
  · cases hv
    obtain ⟨k1, k2, k3⟩ := vx_keep h0 e1 hS hA hf hL hF
    obtain ⟨t2, a1, b1⟩ := kk u t T'.heap (locs ++ L) e1.symm (by rw [← e2]; exact X'.warmed.alike) hp hb k1 k2 k3 T' rfl X'
    exact ⟨t2, st t2 a1, b1⟩
  · obtain ⟨k1, k2, k3⟩ := vx_keep h0 e1 hS hAX hf hL hF
    obtain ⟨t2, a1, b1⟩ := kx E ce q u t T'.heap (locs ++ L) e1.symm (by rw [← e2]; exact X'.warmed.alike) hp hb k1 k2 k3 (by rw [e1]; exact hce) hcv hcl T' rfl X'
    exact ⟨t2, st.trans a1, b1⟩
/-- caught by the row x of this method's table; the rows ahead don't take it -/
theorem vx_catch {own name : String} {E : String} {ce : Cell} {q : Addr} (hown : s.vm.findClass own = some m.cls) (pre : List ExceptionTableEntry) (x : ExceptionTableEntry) (suf : List ExceptionTableEntry) (hsplit : c.exceptionTable.toList = pre ++ x :: suf)
    (hpass : ∀ z ∈ pre, covers z pc = false ∨ (z.catchType ≠ 0 ∧ ∃ nm : String, (Cond.classLink own z.catchType nm).before args s = true ∧ va_Nc E nm s)) (hx : covers x pc = true) (h0 : x.catchType ≠ 0)
    (hlink : (Cond.classLink own x.catchType name).before args s = true) (hcast : (Cond.castable E name).before args s = true) (hcell : H[q]? = some ce) (hv : ce.vm = .none) (hcl : s.vm.findClass E = some ce.cls)
    (kk : W p l e R s m args below meth c H locs cells slots Q (F0 m x.handlerPc ls [.ref q])) : vx_W p l e R s m args below meth c H locs cells slots Q (F0 m pc ls rest) q := by
  intro T hT X
  have hpl : e.platform.magicAccessors = ({} : Platform).magicAccessors := by rw [X.admits.platform]
  obtain ⟨c3, c4, hc3, hc4, hasg⟩ := Cond.castable_spec hcast
  cases Option.some.inj (hc3.symm.trans hcl)
  obtain ⟨c5, hc5, hcl5⟩ := Cond.classLink_spec hown hlink e.platform hpl
  cases Option.some.inj (hc4.symm.trans hc5)
  obtain ⟨vm', X', st⟩ := X.thenCaughtThrough q (g := F0 m pc ls rest) rfl (Steps.refl _) (by rw [hT]; exact hcell) (by rw [hv]; rfl) (by obtain ⟨k9, h9, -⟩ := Vm.findClass_spec hcl; exact ⟨k9, h9⟩) pre x suf hsplit
    (fun z hz => by
      rcases hpass z hz with h | ⟨hz0, nm, hl1, hn1⟩
      · exact Or.inl h
      · obtain ⟨c6, hc6, hcl6⟩ := Cond.classLink_spec hown hl1 e.platform hpl
        obtain ⟨a8, b8, h1, h2, h3⟩ := hn1
        cases Option.some.inj (h1.symm.trans hcl)
        cases Option.some.inj (h2.symm.trans hc6)
        exact Or.inr ⟨hz0, _, hcl6, h3⟩) hx (Or.inr ⟨h0, c4, hcl5, hasg⟩)
  obtain ⟨t, a1, b1⟩ := kk (T.setVm vm') hT X'
  exact ⟨t, st.trans a1, b1⟩
end Rows
section Ends
variable {p : Program} {l : Launch} {e : Env} {R : Room} {s : State} {m : MethodId} {args : Array Value} {below : List Frame} {meth : Method} {c : Code} {H : Heap} {locs : List Loc} {cells slots : Nat} {Q : State → Prop}
variable {mc ms : Nat} {free : Addr → Prop} {A0 A1 : Nat → Prop} {H0 : Heap} {a : Array Value} {ls : Array Slot} {st0 rest : List Value}
variable {Qc : Array Value → State → Outcome → State → Prop} {XC : String → State → State → Prop}
/-- what a body that may throw owes at its end -/
def vx_MQ (below : List Frame) (Qc : Array Value → State → Outcome → State → Prop) (XC : String → State → State → Prop) (a : Array Value) (s : State) (mc ms : Nat) (free : Addr → Prop) : State → Prop := fun t =>
  ∃ o, t.status = .running ∧ Ended t below o ∧ vx_Q Qc XC mc ms free a s o t
theorem vx_ret {g : JFrame} {mc ms : Nat} (k : W p l e R s m args below meth c H locs cells slots (MQ below Qc args s mc ms free) g) : W p l e R s m args below meth c H locs cells slots (vx_MQ below Qc XC args s mc ms free) g := by
  intro T hT X
  obtain ⟨t, a1, o, b1, b2, b3, b4⟩ := k T hT X
  exact ⟨t, a1, o, b1, b2, Or.inl ⟨b3, b4⟩⟩
/-- not caught here: it goes on to the caller -/
theorem vx_widen {g : JFrame} {q : Addr} {k n : Nat} (h1 : cells ≤ k) (h2 : slots ≤ n) (kk : vx_W p l e R s m args below meth c H locs k n Q g q) : vx_W p l e R s m args below meth c H locs cells slots Q g q := fun T hT X => kk T hT (stand_widen X h1 h2)
theorem vx_out {pc : Nat} {E : String} {ce : Cell} {q : Addr} {mc ms : Nat} (hout : ∀ x ∈ c.exceptionTable.toList, covers x pc = false) (hlocks : meth.locks = false) (hcell : H[q]? = some ce) (hv : ce.vm = .none) (hcl : s.vm.findClass E = some ce.cls)
    (hx : ∀ t : State, t.heap = H → s.vm.Alike t.vm → XC E s t) (hf : ∀ z ∈ locs, free z.base) (hc : cells ≤ mc) (hs : slots ≤ ms) :
    vx_W p l e R s m args below meth c H locs cells slots (vx_MQ below Qc XC args s mc ms free) (F0 m pc ls rest) q := by
  intro T hT X
  obtain ⟨st1, hrun, hend, hW, hsm⟩ := X.leaveThrown q (g := F0 m pc ls rest) rfl rfl rfl hout hlocks
  have hcell9 : (T.setFrames (.throwing q :: below)).heap[q]? = some ce := by
    show T.heap[q]? = some ce
    rw [hT]; exact hcell
  exact ⟨_, st1, .threw q, hrun, hend, Or.inr ⟨q, rfl, E, ce, locs, hx _ hT hW.alike, hcell9, hv, hcl, hW, hsm.mono hc hs, hf⟩⟩
theorem vx_frame {U : State} {k n : Nat} (h : s.sameButNew ({ U with vm := s.vm } : State) locs k n) : s.heap.size ≤ U.heap.size ∧ ∀ q : Nat, q < s.heap.size → (∀ z ∈ locs, z.base ≠ q) → U.heap[q]? = s.heap[q]? := by
  obtain ⟨-, h2, -, -, -, h6⟩ := h
  refine ⟨h2, fun q hq hz => ?_⟩
  obtain ⟨c9, e1, e2, e3, e4⟩ := h6 q _ (Array.getElem?_eq_getElem hq)
  have hs : c9.slots = (s.heap[q]).slots := Array.ext_getElem? fun i => e4 i fun hm => hz _ hm rfl
  have h9 : c9 = s.heap[q] := by
    rw [hs] at e2
    exact e2
  have e5 : U.heap[q]? = some c9 := e1
  rw [e5, h9, Array.getElem?_eq_getElem hq]
/-- the words of a throw but the four that speak of the heap -/
def vx_no (w : Cond) : Bool := decide (w ≠ .isRef (.static Bundle.tN "UNASSIGNED_STACK" Bundle.steD)) && decide (w ≠ .isRef (.static Bundle.tN "SUPPRESSED_SENTINEL" Bundle.listD)) && decide (w ≠ .laysStatic Bundle.tN "UNASSIGNED_STACK" Bundle.steD) && decide (w ≠ .laysStatic Bundle.tN "SUPPRESSED_SENTINEL" Bundle.listD)
def vx_at0 (own : String) (ic : Nat) (X : String) (names : List String) : List Cond := (Bundle.ownAtoms0 own ic X names).filter vx_no
def vx_atS (own : String) (ic : Nat) (X : String) (names : List String) : List Cond := (Bundle.ownAtoms own ic X names).filter vx_no
/-- a word that the tables alone decide, or a good one -/
def vx_ot (w : Cond) : Bool := w.onTables || goodWord w
theorem vx_ot_at {args a' : Array Value} {s U : State} {w : Cond} (hW : s.WarmedH U.vm) (hvm : s.vm = U.vm) (hg : vx_ot w = true) (h : w.before args s = true) : w.before a' U = true := by
  simp only [vx_ot, Bool.or_eq_true] at hg
  rcases hg with hg | hg
  · exact va_tabs hg hvm h
  · exact word_at hW (good_of_word hg) h
/-- a list's words: the good ones out of the method's own list, the others by premises of their own -/
theorem vx_hat {args : Array Value} {s : State} {L B : List Cond} (h1 : ∀ w ∈ L.filter goodWord, w.before args s = true) (h2 : ∀ w ∈ L.filter (fun w => !goodWord w), w ∈ B) (h3 : ∀ w ∈ B, w.before args s = true) : ∀ w ∈ L, w.before args s = true := by
  intro w hw
  by_cases g : goodWord w = true
  · exact h1 w (List.mem_filter.mpr ⟨hw, g⟩)
  · refine h3 w (h2 w (List.mem_filter.mpr ⟨hw, ?_⟩))
    show (!goodWord w) = true
    cases hgw : goodWord w
    · rfl
    · exact absurd hgw g
theorem vx_c {args : Array Value} {s : State} {w : Cond} {B : List Cond} (h : w.before args s = true) (t : ∀ w ∈ B, w.before args s = true) : ∀ w' ∈ w :: B, w'.before args s = true := fun w' h' => (List.mem_cons.mp h').elim (fun e => by rw [e]; exact h) (t w')
theorem vx_n {args : Array Value} {s : State} : ∀ w ∈ ([] : List Cond), w.before args s = true := fun _ h => nomatch h
theorem vx_own {args : Array Value} {s : State} {L : List Cond} (h1 : ∀ w ∈ L.filter vx_no, w.before args s = true)
    (hU : (Cond.isRef (.static Bundle.tN "UNASSIGNED_STACK" Bundle.steD)).before args s = true) (hN : (Cond.isRef (.static Bundle.tN "SUPPRESSED_SENTINEL" Bundle.listD)).before args s = true)
    (lU : (Cond.laysStatic Bundle.tN "UNASSIGNED_STACK" Bundle.steD).before args s = true) (lN : (Cond.laysStatic Bundle.tN "SUPPRESSED_SENTINEL" Bundle.listD).before args s = true) : ∀ w ∈ L, w.before args s = true := by
  intro w hw
  by_cases e1 : w = .isRef (.static Bundle.tN "UNASSIGNED_STACK" Bundle.steD)
  · rw [e1]; exact hU
  · by_cases e2 : w = .isRef (.static Bundle.tN "SUPPRESSED_SENTINEL" Bundle.listD)
    · rw [e2]; exact hN
    · by_cases e3 : w = .laysStatic Bundle.tN "UNASSIGNED_STACK" Bundle.steD
      · rw [e3]; exact lU
      · by_cases e4 : w = .laysStatic Bundle.tN "SUPPRESSED_SENTINEL" Bundle.listD
        · rw [e4]; exact lN
        · exact h1 w (List.mem_filter.mpr ⟨hw, by unfold vx_no; rw [decide_eq_true e1, decide_eq_true e2, decide_eq_true e3, decide_eq_true e4]; rfl⟩)
/-- where a static field lies, its class's statics cell in H -/
def vx_L (C n d : String) (A : Nat → Prop) (U : State) (H : Heap) : Prop := ∃ (c : ClassId) (k : Class) (i : Nat) (f : Field) (a : Nat) (cell : Cell), U.vm.findClass C = some c ∧ U.fieldFound? C n d = some (c, k, i, f) ∧ f.isStatic = true ∧ k.statics = some a ∧ H[a]? = some cell ∧ cell.vm.isStatics = true ∧ cell.cls = c ∧ f.slot < cell.slots.size ∧ k.staticTypes[f.slot]? = some f.type ∧ ¬ A a
theorem vx_L.moved {C n d : String} {A : Nat → Prop} {u U : State} {H : Heap} (hvm : u.vm.Alike U.vm) (h : vx_L C n d A u H) : vx_L C n d A U H := by
  obtain ⟨c, k, i, f, a, cell, h1, h2, h3, h4, h5, h6, h7, h8, h9, h10⟩ := h
  obtain ⟨k', hi', he⟩ := State.fieldFound?_setVm hvm h2
  exact ⟨c, k', i, f, a, cell, by rw [hvm.findClass]; exact h1, hi', h3, by rw [he]; exact h4, h5, h6, h7, h8, by rw [he]; exact h9, h10⟩
theorem vx_L.kept {C n d : String} {A : Nat → Prop} {U : State} {H H1 : Heap} (h : vx_L C n d A U H) (hq : ∀ a : Nat, a < H.size → ¬ A a → H1[a]? = H[a]?) : vx_L C n d A U H1 := by
  obtain ⟨c, k, i, f, a, cell, h1, h2, h3, h4, h5, h6, h7, h8, h9, h10⟩ := h
  exact ⟨c, k, i, f, a, cell, h1, h2, h3, h4, by rw [hq a (Array.getElem?_eq_some_iff.mp h5).1 h10]; exact h5, h6, h7, h8, h9, h10⟩
theorem vx_L.narrow {C n d : String} {A B : Nat → Prop} {U : State} {H : Heap} (h : vx_L C n d A U H) (hAB : ∀ q, B q → A q) : vx_L C n d B U H := by
  obtain ⟨c, k, i, f, a, cell, h1, h2, h3, h4, h5, h6, h7, h8, h9, h10⟩ := h
  exact ⟨c, k, i, f, a, cell, h1, h2, h3, h4, h5, h6, h7, h8, h9, fun z => h10 (hAB _ z)⟩
theorem vx_L.word {C n d : String} {A : Nat → Prop} {s : State} {args : Array Value} (h : vx_L C n d A s s.heap) : (Cond.laysStatic C n d).before args s = true := by
  obtain ⟨c, k, i, f, a, cell, h1, h2, h3, h4, h5, h6, h7, h8, h9, -⟩ := h
  show (Cond.laysStatic C n d).holds args s none s [] = true
  exact Cond.laysStatic_of h1 h2 h3 h4 h5 h6 h7 h8 h9
/-- .. and what it holds: null or some reference -/
def vx_Zq (C n d : String) (A : Nat → Prop) (U : State) (H : Heap) : Prop := va_Zq C n d A U H ∧ vx_L C n d A U H
theorem vx_Zq.moved {C n d : String} {A : Nat → Prop} {u U : State} {H : Heap} (hvm : u.vm.Alike U.vm) (h : vx_Zq C n d A u H) : vx_Zq C n d A U H := ⟨va_Zq.moved hvm h.1, vx_L.moved hvm h.2⟩
theorem vx_Zq.kept {C n d : String} {A : Nat → Prop} {U : State} {H H1 : Heap} (h : vx_Zq C n d A U H) (hq : ∀ a : Nat, a < H.size → ¬ A a → H1[a]? = H[a]?) : vx_Zq C n d A U H1 := ⟨va_Zq.kept h.1 hq, vx_L.kept h.2 hq⟩
theorem vx_Zq.narrow {C n d : String} {A B : Nat → Prop} {U : State} {H : Heap} (h : vx_Zq C n d A U H) (hAB : ∀ q, B q → A q) : vx_Zq C n d B U H := ⟨va_Zq.narrow h.1 hAB, vx_L.narrow h.2 hAB⟩
theorem vx_Zqof {args : Array Value} {s : State} {C n d : String} {A : Nat → Prop} (hl : (Cond.laysStatic C n d).before args s = true) (hini : (Cond.initialized C).before args s = true) (h : (Cond.isRef (.static C n d)).before args s = true) (hA : ∀ a : Nat, a < s.heap.size → ¬ A a) : vx_Zq C n d A s s.heap := by
  refine ⟨va_Zqof hl hini h hA, ?_⟩
  obtain ⟨c, k, i, f, a, cell, h1, h2, h3, h4, h5, h6, h7, h8, h9⟩ := Cond.laysStatic_spec hl
  exact ⟨c, k, i, f, a, cell, h1, h2, h3, h4, h5, h6, h7, h8, h9, hA a (Array.getElem?_eq_some_iff.mp h5).1⟩
theorem vx_isRef {C n d : String} {v : Value} {A : Nat → Prop} {s : State} {args : Array Value} (h : va_Z C n d v A s s.heap) (hv : v.isRef = true) : (Cond.isRef (.static C n d)).before args s = true := by
  obtain ⟨cf, kf, fi, f, a, cell, h1, h2, h3, h4, h5, h6, h7, -⟩ := h
  have he : (Term.static C n d).eval args s none [] s = some v := by
    simp [Term.eval, State.fieldNamed?, h1, h2, h4, h5, h6, h7]
  simp only [Cond.before, Cond.holds, Cond.value, he]
  cases v <;> simp_all [Value.isRef]
theorem vx_isRefq {C n d : String} {A : Nat → Prop} {s : State} {args : Array Value} (h : va_Zq C n d A s s.heap) : (Cond.isRef (.static C n d)).before args s = true := by
  rcases h with h | ⟨t, h⟩
  · exact vx_isRef h rfl
  · exact vx_isRef h rfl
/-- the same frame, seen from here: as if the method were called anew in this heap -/
theorem vx_rebase {T : State} (X : Stand p l e R s m args below meth c T locs cells slots) {R' : Room} (hf : R'.frames ≤ R.frames) (hl : R'.locals ≤ R.locals) (hc : cells + R'.cells ≤ R.cells) (hs : slots + R'.slots ≤ R.slots) :
    Stand p l e R' ((T.setVm s.vm).setFrames (.invoking m args :: below)) m args below meth c T [] 0 0 := by
  have htop : (T.setVm s.vm).topJava?.isSome := X.here.top
  have hF : ((T.setVm s.vm).setFrames (.invoking m args :: below)).frames = .invoking m args :: below := State.frames_setFrames _ (State.cur_lt_of_top htop)
  obtain ⟨g₀, hg0⟩ := Option.isSome_iff_exists.mp htop
  obtain ⟨r, hr⟩ := State.topJava?_eq_some.mp hg0
  have hl9 : e.platform.stackLimits (T.setVm s.vm).me = e.platform.stackLimits s.me := X.limits
  have hb9 : (T.setVm s.vm).me.stackBytes = s.me.stackBytes := X.bytes
  refine ⟨X.admits, X.cas, X.clock, hF, ?_, X.hears, X.method, X.code, X.here, X.tail, X.warmed, ?_, ?_, ?_⟩
  · have h := X.room
    have hU : ((T.setVm s.vm).setFrames (.invoking m args :: below)).localsInUse = s.localsInUse := by
      rw [State.localsInUse_invoking hF (meth := meth) (c := c) X.method X.code, State.localsInUse_invoking X.frames X.method X.code]
    simp only [State.hasRoom, Bool.and_eq_true, decide_eq_true_eq] at h ⊢
    obtain ⟨⟨⟨⟨h1, h2, h3, h4, h5, h6⟩, h7⟩, h8⟩, h9⟩ := h
    rw [X.frames, List.length_cons] at h2 h3
    have q1 := X.heapSize
    have q2 := X.used
    simp only [hF, hU, List.length_cons, State.stackLimits_setFrames, State.stackBytes_setFrames, hl9, hb9]
    refine ⟨⟨⟨⟨by omega, by omega, by omega, by omega, by omega, h6⟩, ?_⟩, ?_⟩, X.book⟩
    · show T.heap.size + R'.cells ≤ e.platform.maxCells
      omega
    · show T.slotsUsed + R'.slots ≤ e.platform.maxSlots
      omega
  · rw [State.stackLimits_setFrames]; rfl
  · rw [State.stackBytes_setFrames]; rfl
  · refine ⟨?_, Nat.le_refl _, Nat.le_refl _, ?_, ?_, fun a c9 h9 => ⟨c9, h9, rfl, rfl, fun _ _ => rfl⟩⟩
    · obtain ⟨t, ht, -⟩ := State.frames_cons hr
      show T.setVm s.vm = { ((T.setVm s.vm).setFrames (.invoking m args :: below)).setFrames (T.setVm s.vm).frames with heap := T.heap, slotsUsed := T.slotsUsed }
      rw [State.setFrames_setFrames, State.setFrames_self ht]
      rfl
    · show T.slotsUsed = T.slotsUsed + ((T.heap.toList.drop T.heap.size).map (·.slots.size)).sum
      rw [List.drop_eq_nil_of_le (Nat.le_of_eq Array.length_toList)]
      rfl
    · show ((T.heap.toList.drop T.heap.size).map (·.slots.size)).sum ≤ 0
      rw [List.drop_eq_nil_of_le (Nat.le_of_eq Array.length_toList)]
      exact Nat.le_refl _
/-- 'throw new E()': new; dup; invokespecial; athrow -/
theorem vx_throw0 {cc : ByteArray} {pc : Nat} (hexec : p.tables.exec = Jvm.exec) (hb : c.code = cc) (hl : l.stackTraces = false) {own cls : String} {names : List String} {ik ic mc ms : Nat} {A : Nat → Prop}
    (hown : s.vm.findClass own = some m.cls) (hcls : Bundle.fit cls = true) (hnames : ∀ n ∈ names, Bundle.fit n = true)
    (hk : (Cond.classLink own ik cls).before args s = true) (hini : (Cond.initialized cls).before args s = true) (hat : ∀ w ∈ vx_at0 own ic cls names, w.before args s = true)
    (hgood : ∀ w ∈ Cond.classLink own ik cls :: Cond.initialized cls :: vx_at0 own ic cls names, vx_ot w = true)
    (hU : vx_Zq Bundle.tN "UNASSIGNED_STACK" Bundle.steD A s s.heap) (hN : vx_Zq Bundle.tN "SUPPRESSED_SENTINEL" Bundle.listD A s s.heap) (hS : va_S A s.heap H locs) (hsize : ls.size = c.maxLocals)
    (d0 : decode cc pc = .ok (.new ik, 3)) (d3 : decode cc (pc + 3) = .ok (.dup, 1)) (d4 : decode cc (pc + 4) = .ok (.invokespecial ic, 3)) (d7 : decode cc (pc + 7) = .ok (.athrow, 1))
    (hout : ∀ x ∈ c.exceptionTable.toList, covers x (pc + 7) = false)
    (hRframes : names.length + 3 < R.frames) (hRlocals : (rest.map fun v => v.category).sum + (13 * (names.length + 1) + 42) ≤ R.locals) (hRcells : cells + 1 ≤ R.cells) (hRslots : slots + 6 ≤ R.slots) (hlocks : meth.locks = false)
    (hx : ∀ t : State, s.vm.Alike t.vm → H.size ≤ t.heap.size → (∀ q : Nat, q < H.size → t.heap[q]? = H[q]?) → XC cls s t)
    (hf : ∀ z ∈ locs, free z.base) (hc : cells + 1 ≤ mc) (hs : slots + 6 ≤ ms) :
    W p l e R s m args below meth c H locs cells slots (vx_MQ below Qc XC args s mc ms free) (F0 m pc ls rest) := by
  intro T hT X
  have htr : e.platform.stackTraces = false := (show e.platform.stackTraces = l.stackTraces by rw [X.admits.platform]).trans hl
  have Y := vx_rebase X (R' := { frames := R.frames, locals := R.locals, cells := 1, slots := 6 }) (Nat.le_refl _) (Nat.le_refl _) hRcells hRslots
  obtain ⟨s', hA⟩ : ∃ z, z = (T.setVm s.vm).setFrames (.invoking m args :: below) := ⟨_, rfl⟩
  rw [← hA] at Y
  have hvm : s'.vm = s.vm := by rw [hA]; rfl
  have hhp : s'.heap = H := by rw [hA]; exact hT
  have hW0 : s.WarmedH s'.vm := by rw [hvm]; exact State.WarmedH.refl s
  have hat' : ∀ w ∈ vx_at0 own ic cls names, w.before args s' = true := fun w hw => vx_ot_at hW0 hvm.symm (hgood w (List.mem_cons_of_mem _ (List.mem_cons_of_mem _ hw))) (hat w hw)
  have hk' : (Cond.classLink own ik cls).before args s' = true := vx_ot_at hW0 hvm.symm (hgood _ List.mem_cons_self) hk
  have hini' : (Cond.initialized cls).before args s' = true := vx_ot_at hW0 hvm.symm (hgood _ (List.mem_cons_of_mem _ List.mem_cons_self)) hini
  have hU' : vx_Zq Bundle.tN "UNASSIGNED_STACK" Bundle.steD A s' s'.heap := by rw [hhp]; exact vx_Zq.moved hW0.alike (hU.kept hS.2.1)
  have hN' : vx_Zq Bundle.tN "SUPPRESSED_SENTINEL" Bundle.listD A s' s'.heap := by rw [hhp]; exact vx_Zq.moved hW0.alike (hN.kept hS.2.1)
  have h : ∀ w ∈ Bundle.ownAtoms0 own ic cls names, w.before args s' = true := vx_own hat' (vx_isRefq hU'.1) (vx_isRefq hN'.1) hU'.2.word hN'.2.word
  have hown' : s'.vm.findClass own = some m.cls := by rw [hvm]; exact hown
  have hins : (Cond.instantiable cls 6).before args s' = true := h _ (by simp [Bundle.ownAtoms0])
  obtain ⟨vm₁, cX, kX, hfX, hkX, -, -, X₁, st1⟩ := Y.newCold hexec (own := own) (C := cls) (index := ik) (n := 6) hown' hk' hins hini'
    (g := F0 m pc ls rest) rfl (by rw [hb]; exact d0) (Nat.le_refl _) (Nat.le_refl _)
  generalize hT1 : (T.setVm vm₁).pushCell { cls := cX, slots := kX.instanceTypes.map defaultValue, vm := .none } = T1 at X₁ st1
  have hcat : (Value.ref T.heap.size).category = 1 := rfl
  have hcellA : T1.heap[T.heap.size]? = some (freshCell cX kX) := by rw [← hT1]; exact State.heap_pushCell_size _ _
  have d3' : decode c.code (pc + 3) = .ok (.dup, 1) := by rw [hb]; exact d3
  obtain ⟨U, hsteps, hrun, hend, hW, hsame, ce, hce, hO⟩ := X₁.ctorThrow0 hexec htr (own := own) (cls := cls) (names := names) (ic := ic) hown' hcls hnames h (fun x hx => nomatch hx) hfX hkX hcellA (by rw [hhp, hT]; exact Nat.le_refl _)
    (g := { method := m, pc := pc + 4, locals := ls, stack := .ref T.heap.size :: .ref T.heap.size :: rest, locked := none }) rfl hsize rfl rfl (rest := rest) rfl
    (by rw [hb]; exact d4) (by rw [hb]; exact d7) hout hRframes (by simp only [List.map_cons, List.sum_cons, hcat]; omega) hlocks
  obtain ⟨f1, f2⟩ := vx_frame hsame
  rw [hhp] at f1 f2
  have hWs : s.WarmedH U.vm := State.WarmedH.trans hW0 hW
  have hcl : s.vm.findClass cls = some ce.cls := by
    have h9 := hO.cls
    rw [hvm] at h9
    exact h9
  have hall : s.sameButNew ({ U with vm := s.vm } : State) locs mc ms := by
    subst hA
    obtain ⟨e1, e2⟩ := hsame
    rw [State.setFrames_setFrames] at e1
    have h2 : (T.setVm s.vm).sameButNew ({ U with vm := s.vm } : State) [] (0 + 1) (0 + 6) := ⟨e1, e2⟩
    have h3 := X.same.trans h2
    rw [List.append_nil] at h3
    exact h3.mono hc hs
  refine ⟨U, ?_, .threw T.heap.size, hrun, hend, Or.inr ⟨T.heap.size, rfl, cls, ce, locs, hx U hWs.alike f1 (fun q hq => f2 q hq (fun z hz => nomatch hz)), hce, hO.vm, hcl, hWs, hall, hf⟩⟩
  refine st1 _ ?_
  show Steps p.tables e below (T1.setTop { method := m, pc := pc + 3, locals := ls, stack := .ref T.heap.size :: rest, locked := none }) _
  jvm_step X₁.here [X₁.here.top, hexec, d3', Value.category]
  exact hsteps
/-- 'throw new E("text")': new; dup; ldc; invokespecial; athrow -/
theorem vx_throwS {cc : ByteArray} {pc : Nat} (hexec : p.tables.exec = Jvm.exec) (hb : c.code = cc) (hl : l.stackTraces = false) {own cls text : String} {names : List String} {ik is ic mc ms sa : Nat} {A : Nat → Prop}
    (hown : s.vm.findClass own = some m.cls) (hcls : Bundle.fit cls = true) (hnames : ∀ n ∈ names, Bundle.fit n = true)
    (hk : (Cond.classLink own ik cls).before args s = true) (hini : (Cond.initialized cls).before args s = true) (hstr : vk_R own is text sa s) (hat : ∀ w ∈ vx_atS own ic cls names, w.before args s = true)
    (hgood : ∀ w ∈ Cond.classLink own ik cls :: Cond.initialized cls :: vx_atS own ic cls names, vx_ot w = true)
    (hU : vx_Zq Bundle.tN "UNASSIGNED_STACK" Bundle.steD A s s.heap) (hN : vx_Zq Bundle.tN "SUPPRESSED_SENTINEL" Bundle.listD A s s.heap) (hS : va_S A s.heap H locs) (hsize : ls.size = c.maxLocals)
    (d0 : decode cc pc = .ok (.new ik, 3)) (d3 : decode cc (pc + 3) = .ok (.dup, 1)) (d4 : decode cc (pc + 4) = .ok (.ldc is, 2)) (d6 : decode cc (pc + 6) = .ok (.invokespecial ic, 3)) (d9 : decode cc (pc + 9) = .ok (.athrow, 1))
    (hout : ∀ x ∈ c.exceptionTable.toList, covers x (pc + 9) = false)
    (hRframes : names.length + 3 < R.frames) (hRlocals : (rest.map fun v => v.category).sum + (13 * (names.length + 1) + 43) ≤ R.locals) (hRcells : cells + 1 ≤ R.cells) (hRslots : slots + 6 ≤ R.slots) (hlocks : meth.locks = false)
    (hx : ∀ t : State, s.vm.Alike t.vm → H.size ≤ t.heap.size → (∀ q : Nat, q < H.size → t.heap[q]? = H[q]?) → XC cls s t)
    (hf : ∀ z ∈ locs, free z.base) (hc : cells + 1 ≤ mc) (hs : slots + 6 ≤ ms) :
    W p l e R s m args below meth c H locs cells slots (vx_MQ below Qc XC args s mc ms free) (F0 m pc ls rest) := by
  intro T hT X
  have htr : e.platform.stackTraces = false := (show e.platform.stackTraces = l.stackTraces by rw [X.admits.platform]).trans hl
  have Y := vx_rebase X (R' := { frames := R.frames, locals := R.locals, cells := 1, slots := 6 }) (Nat.le_refl _) (Nat.le_refl _) hRcells hRslots
  obtain ⟨s', hA⟩ : ∃ z, z = (T.setVm s.vm).setFrames (.invoking m args :: below) := ⟨_, rfl⟩
  rw [← hA] at Y
  have hvm : s'.vm = s.vm := by rw [hA]; rfl
  have hhp : s'.heap = H := by rw [hA]; exact hT
  have hW0 : s.WarmedH s'.vm := by rw [hvm]; exact State.WarmedH.refl s
  have hat' : ∀ w ∈ vx_atS own ic cls names, w.before args s' = true := fun w hw => vx_ot_at hW0 hvm.symm (hgood w (List.mem_cons_of_mem _ (List.mem_cons_of_mem _ hw))) (hat w hw)
  have hk' : (Cond.classLink own ik cls).before args s' = true := vx_ot_at hW0 hvm.symm (hgood _ List.mem_cons_self) hk
  have hini' : (Cond.initialized cls).before args s' = true := vx_ot_at hW0 hvm.symm (hgood _ (List.mem_cons_of_mem _ List.mem_cons_self)) hini
  have hU' : vx_Zq Bundle.tN "UNASSIGNED_STACK" Bundle.steD A s' s'.heap := by rw [hhp]; exact vx_Zq.moved hW0.alike (hU.kept hS.2.1)
  have hN' : vx_Zq Bundle.tN "SUPPRESSED_SENTINEL" Bundle.listD A s' s'.heap := by rw [hhp]; exact vx_Zq.moved hW0.alike (hN.kept hS.2.1)
  have h : ∀ w ∈ Bundle.ownAtoms own ic cls names, w.before args s' = true := vx_own hat' (vx_isRefq hU'.1) (vx_isRefq hN'.1) hU'.2.word hN'.2.word
  have hown' : s'.vm.findClass own = some m.cls := by rw [hvm]; exact hown
  have hins : (Cond.instantiable cls 6).before args s' = true := h _ (by simp [Bundle.ownAtoms])
  obtain ⟨vm₁, cX, kX, hfX, hkX, -, -, X₁, st1⟩ := Y.newCold hexec (own := own) (C := cls) (index := ik) (n := 6) hown' hk' hins hini'
    (g := F0 m pc ls rest) rfl (by rw [hb]; exact d0) (Nat.le_refl _) (Nat.le_refl _)
  generalize hT1 : (T.setVm vm₁).pushCell { cls := cX, slots := kX.instanceTypes.map defaultValue, vm := .none } = T1 at X₁ st1
  have hcat : (Value.ref T.heap.size).category = 1 := rfl
  have hcellA : T1.heap[T.heap.size]? = some (freshCell cX kX) := by rw [← hT1]; exact State.heap_pushCell_size _ _
  have d3' : decode c.code (pc + 3) = .ok (.dup, 1) := by rw [hb]; exact d3
  have d4' : decode c.code (pc + 4) = .ok (.ldc is, 2) := by rw [hb]; exact d4
  have hstr' : vk_R own is text sa s' := vk_R.warm hW0 hstr
  obtain ⟨U, hsteps, hrun, hend, hW, hsame, ce, hce, hO⟩ := X₁.ctorThrowS hexec htr (own := own) (cls := cls) (names := names) (ic := ic) hown' hcls hnames h (fun x hx => nomatch hx) hfX hkX hcellA (by rw [hhp, hT]; exact Nat.le_refl _) (msg := .ref sa) rfl
    (g := { method := m, pc := pc + 6, locals := ls, stack := .ref sa :: .ref T.heap.size :: .ref T.heap.size :: rest, locked := none }) rfl hsize rfl rfl (rest := rest) rfl
    (by rw [hb]; exact d6) (by rw [hb]; exact d9) hout hRframes (by simp only [List.map_cons, List.sum_cons, hcat]; omega) hlocks
  obtain ⟨f1, f2⟩ := vx_frame hsame
  rw [hhp] at f1 f2
  have hWs : s.WarmedH U.vm := State.WarmedH.trans hW0 hW
  have hcl : s.vm.findClass cls = some ce.cls := by
    have h9 := hO.cls
    rw [hvm] at h9
    exact h9
  have hall : s.sameButNew ({ U with vm := s.vm } : State) locs mc ms := by
    subst hA
    obtain ⟨e1, e2⟩ := hsame
    rw [State.setFrames_setFrames] at e1
    have h2 : (T.setVm s.vm).sameButNew ({ U with vm := s.vm } : State) [] (0 + 1) (0 + 6) := ⟨e1, e2⟩
    have h3 := X.same.trans h2
    rw [List.append_nil] at h3
    exact h3.mono hc hs
  refine ⟨U, ?_, .threw T.heap.size, hrun, hend, Or.inr ⟨T.heap.size, rfl, cls, ce, locs, hx U hWs.alike f1 (fun q hq => f2 q hq (fun z hz => nomatch hz)), hce, hO.vm, hcl, hWs, hall, hf⟩⟩
  refine st1 _ ?_
  show Steps p.tables e below (T1.setTop { method := m, pc := pc + 3, locals := ls, stack := .ref T.heap.size :: rest, locked := none }) _
  jvm_step X₁.here [X₁.here.top, hexec, d3', Value.category]
  exact X₁.ldcString hexec (own := own) (text := text) (index := is) (a := sa) hown' hstr'.1 hstr'.2
    (g := { method := m, pc := pc + 4, locals := ls, stack := .ref T.heap.size :: .ref T.heap.size :: rest, locked := none }) rfl d4' _ hsteps
/-- 'throw new E("text")', the text by a wide index -/
theorem vx_throwSW {cc : ByteArray} {pc : Nat} (hexec : p.tables.exec = Jvm.exec) (hb : c.code = cc) (hl : l.stackTraces = false) {own cls text : String} {names : List String} {ik is ic mc ms sa : Nat} {A : Nat → Prop}
    (hown : s.vm.findClass own = some m.cls) (hcls : Bundle.fit cls = true) (hnames : ∀ n ∈ names, Bundle.fit n = true)
    (hk : (Cond.classLink own ik cls).before args s = true) (hini : (Cond.initialized cls).before args s = true) (hstr : vk_R own is text sa s) (hat : ∀ w ∈ vx_atS own ic cls names, w.before args s = true)
    (hgood : ∀ w ∈ Cond.classLink own ik cls :: Cond.initialized cls :: vx_atS own ic cls names, vx_ot w = true)
    (hU : vx_Zq Bundle.tN "UNASSIGNED_STACK" Bundle.steD A s s.heap) (hN : vx_Zq Bundle.tN "SUPPRESSED_SENTINEL" Bundle.listD A s s.heap) (hS : va_S A s.heap H locs) (hsize : ls.size = c.maxLocals)
    (d0 : decode cc pc = .ok (.new ik, 3)) (d3 : decode cc (pc + 3) = .ok (.dup, 1)) (d4 : decode cc (pc + 4) = .ok (.ldc_w is, 3)) (d7 : decode cc (pc + 7) = .ok (.invokespecial ic, 3)) (d10 : decode cc (pc + 10) = .ok (.athrow, 1))
    (hout : ∀ x ∈ c.exceptionTable.toList, covers x (pc + 10) = false)
    (hRframes : names.length + 3 < R.frames) (hRlocals : (rest.map fun v => v.category).sum + (13 * (names.length + 1) + 43) ≤ R.locals) (hRcells : cells + 1 ≤ R.cells) (hRslots : slots + 6 ≤ R.slots) (hlocks : meth.locks = false)
    (hx : ∀ t : State, s.vm.Alike t.vm → H.size ≤ t.heap.size → (∀ q : Nat, q < H.size → t.heap[q]? = H[q]?) → XC cls s t)
    (hf : ∀ z ∈ locs, free z.base) (hc : cells + 1 ≤ mc) (hs : slots + 6 ≤ ms) :
    W p l e R s m args below meth c H locs cells slots (vx_MQ below Qc XC args s mc ms free) (F0 m pc ls rest) := by
  intro T hT X
  have htr : e.platform.stackTraces = false := (show e.platform.stackTraces = l.stackTraces by rw [X.admits.platform]).trans hl
  have Y := vx_rebase X (R' := { frames := R.frames, locals := R.locals, cells := 1, slots := 6 }) (Nat.le_refl _) (Nat.le_refl _) hRcells hRslots
  obtain ⟨s', hA⟩ : ∃ z, z = (T.setVm s.vm).setFrames (.invoking m args :: below) := ⟨_, rfl⟩
  rw [← hA] at Y
  have hvm : s'.vm = s.vm := by rw [hA]; rfl
  have hhp : s'.heap = H := by rw [hA]; exact hT
  have hW0 : s.WarmedH s'.vm := by rw [hvm]; exact State.WarmedH.refl s
  have hat' : ∀ w ∈ vx_atS own ic cls names, w.before args s' = true := fun w hw => vx_ot_at hW0 hvm.symm (hgood w (List.mem_cons_of_mem _ (List.mem_cons_of_mem _ hw))) (hat w hw)
  have hk' : (Cond.classLink own ik cls).before args s' = true := vx_ot_at hW0 hvm.symm (hgood _ List.mem_cons_self) hk
  have hini' : (Cond.initialized cls).before args s' = true := vx_ot_at hW0 hvm.symm (hgood _ (List.mem_cons_of_mem _ List.mem_cons_self)) hini
  have hU' : vx_Zq Bundle.tN "UNASSIGNED_STACK" Bundle.steD A s' s'.heap := by rw [hhp]; exact vx_Zq.moved hW0.alike (hU.kept hS.2.1)
  have hN' : vx_Zq Bundle.tN "SUPPRESSED_SENTINEL" Bundle.listD A s' s'.heap := by rw [hhp]; exact vx_Zq.moved hW0.alike (hN.kept hS.2.1)
  have h : ∀ w ∈ Bundle.ownAtoms own ic cls names, w.before args s' = true := vx_own hat' (vx_isRefq hU'.1) (vx_isRefq hN'.1) hU'.2.word hN'.2.word
  have hown' : s'.vm.findClass own = some m.cls := by rw [hvm]; exact hown
  have hins : (Cond.instantiable cls 6).before args s' = true := h _ (by simp [Bundle.ownAtoms])
  obtain ⟨vm₁, cX, kX, hfX, hkX, -, -, X₁, st1⟩ := Y.newCold hexec (own := own) (C := cls) (index := ik) (n := 6) hown' hk' hins hini'
    (g := F0 m pc ls rest) rfl (by rw [hb]; exact d0) (Nat.le_refl _) (Nat.le_refl _)
  generalize hT1 : (T.setVm vm₁).pushCell { cls := cX, slots := kX.instanceTypes.map defaultValue, vm := .none } = T1 at X₁ st1
  have hcat : (Value.ref T.heap.size).category = 1 := rfl
  have hcellA : T1.heap[T.heap.size]? = some (freshCell cX kX) := by rw [← hT1]; exact State.heap_pushCell_size _ _
  have d3' : decode c.code (pc + 3) = .ok (.dup, 1) := by rw [hb]; exact d3
  have d4' : decode c.code (pc + 4) = .ok (.ldc_w is, 3) := by rw [hb]; exact d4
  have hstr' : vk_R own is text sa s' := vk_R.warm hW0 hstr
  obtain ⟨U, hsteps, hrun, hend, hW, hsame, ce, hce, hO⟩ := X₁.ctorThrowS hexec htr (own := own) (cls := cls) (names := names) (ic := ic) hown' hcls hnames h (fun x hx => nomatch hx) hfX hkX hcellA (by rw [hhp, hT]; exact Nat.le_refl _) (msg := .ref sa) rfl
    (g := { method := m, pc := pc + 7, locals := ls, stack := .ref sa :: .ref T.heap.size :: .ref T.heap.size :: rest, locked := none }) rfl hsize rfl rfl (rest := rest) rfl
    (by rw [hb]; exact d7) (by rw [hb]; exact d10) hout hRframes (by simp only [List.map_cons, List.sum_cons, hcat]; omega) hlocks
  obtain ⟨f1, f2⟩ := vx_frame hsame
  rw [hhp] at f1 f2
  have hWs : s.WarmedH U.vm := State.WarmedH.trans hW0 hW
  have hcl : s.vm.findClass cls = some ce.cls := by
    have h9 := hO.cls
    rw [hvm] at h9
    exact h9
  have hall : s.sameButNew ({ U with vm := s.vm } : State) locs mc ms := by
    subst hA
    obtain ⟨e1, e2⟩ := hsame
    rw [State.setFrames_setFrames] at e1
    have h2 : (T.setVm s.vm).sameButNew ({ U with vm := s.vm } : State) [] (0 + 1) (0 + 6) := ⟨e1, e2⟩
    have h3 := X.same.trans h2
    rw [List.append_nil] at h3
    exact h3.mono hc hs
  refine ⟨U, ?_, .threw T.heap.size, hrun, hend, Or.inr ⟨T.heap.size, rfl, cls, ce, locs, hx U hWs.alike f1 (fun q hq => f2 q hq (fun z hz => nomatch hz)), hce, hO.vm, hcl, hWs, hall, hf⟩⟩
  refine st1 _ ?_
  show Steps p.tables e below (T1.setTop { method := m, pc := pc + 3, locals := ls, stack := .ref T.heap.size :: rest, locked := none }) _
  jvm_step X₁.here [X₁.here.top, hexec, d3', Value.category]
  exact X₁.ldcStringW hexec (own := own) (text := text) (index := is) (a := sa) hown' hstr'.1 hstr'.2
    (g := { method := m, pc := pc + 4, locals := ls, stack := .ref T.heap.size :: .ref T.heap.size :: rest, locked := none }) rfl d4' _ hsteps
end Ends
section Bodies
variable {l : Launch}
theorem vx_ofW {y : MethodName} {ws ws' : List Cond} {rm : Room} {Pc : Array Value → State → Prop} {Qc : Array Value → State → Outcome → State → Prop} {XC : String → State → State → Prop} {mc ms : Nat} {free : Addr → Prop} {cc : ByteArray} {maxL : Nat} {ret : Option FieldType}
    (hy : plainName y.cls = true) (hw : ws = Cond.code y cc maxL ret :: ws')
    (body : ∀ p e s m args below meth c s₁, BodyLoose p l y (headSpec ws rm) cc maxL ret e s m args below meth c s₁ → c.maxLocals = maxL → (∀ x ∈ c.exceptionTable.toList, False) → Pc args s →
      W p l e (headSpec ws rm).room s m args below meth c s.heap [] 0 0 (vx_MQ below Qc XC args s mc ms free) (entryFrame m args maxL)) : vx_Met l y ws rm Pc Qc XC mc ms free := by
  refine MetFree.of_bodyS (code := cc) (maxLocals := maxL) (ret := ret) hy ?_ ?_
  · intro args s m h hn
    obtain ⟨meth, c, h1, h2, h3, h4, h5, h6, -, -⟩ := Cond.code_spec hn (atoms_spec (ws := ws) h _ (by rw [hw]; exact List.mem_cons_self))
    exact ⟨meth, c, h1, h2, h3, h4, h5, h6⟩
  · intro p e s m args below meth c s₁ B hml hP _
    have hh0 : s₁.heap = s.heap := by rw [B.state]; rfl
    have ht : ∀ x ∈ c.exceptionTable.toList, False := by
      obtain ⟨meth9, c9, h1, h2, -, -, -, -, h7, -⟩ := Cond.code_spec B.named (atoms_spec (ws := ws) B.pre _ (by rw [hw]; exact List.mem_cons_self))
      cases Option.some.inj (h1.symm.trans B.method)
      cases Option.some.inj (h2.symm.trans (Stand.of_body B).code)
      intro x hx
      rw [Array.isEmpty_iff.mp h7] at hx
      cases hx
    obtain ⟨t, a1, o, b1, b2, b3⟩ := body p e s m args below meth c s₁ B hml ht hP s₁ hh0 (Stand.of_body B)
    exact ⟨t, o, a1, b1, b2, b3⟩
/-- the table of a body with handlers -/
theorem vx_table {p : Program} {x y : MethodName} {S : Spec} {cc bytes : ByteArray} {maxL maxL' : Nat} {ret ret' : Option FieldType} {e : Env} {s s₁ : State} {m : MethodId} {args : Array Value} {below : List Frame} {meth : Method} {c : Code} {hh : List (Nat × Nat × Nat × Nat)}
    (B : BodyLoose p l y S cc maxL ret e s m args below meth c s₁) (h : (Cond.codeWith y bytes maxL' ret' hh).before args s = true) : c.exceptionTable.toList = tableOf hh := by
  obtain ⟨m9, meth9, c9, hn9, h1, h2, -, -, h6, -⟩ := Cond.codeWith_spec h
  cases Option.some.inj (hn9.symm.trans B.named)
  cases Option.some.inj (h1.symm.trans B.method)
  cases Option.some.inj (h2.symm.trans (Stand.of_body B).code)
  rw [← h6, table_eq]
end Bodies
end VXA
/-! ===== END ===== -/
/-! ===== BEGIN a static call of a method with an exception table ===== -/
section VXS
variable {p : Program} {l : Launch} {e : Env} {R : Room} {s : State} {m : MethodId} {args : Array Value} {below : List Frame} {meth : Method} {c : Code} {T : State} {H : Heap} {locs : List Loc} {cells slots : Nat}
abbrev vx_CSW (R : Room) (s : State) (args : Array Value) (own : String) (index : Nat) (y : MethodName) (bytes : ByteArray) (maxL : Nat) (ret : Option FieldType) (hh : List (Nat × Nat × Nat × Nat)) (ws : List Cond) (rm : Room) (mc ms n : Nat) : Prop :=
  (rm.cells = mc ∧ rm.slots = ms ∧ rm.frames + 1 ≤ R.frames ∧ 8 + (maxL + 11) + rm.locals ≤ R.locals ∧ (∀ w ∈ ws, ∀ (a' : Array Value) (U : State), s.WarmedH U.vm → w.before a' U = true) ∧ Cond.codeWith y bytes maxL ret hh ∈ ws) ∧
  (Cond.codeWith y bytes maxL ret hh).before args s = true ∧ (Cond.initialized y.cls).before args s = true ∧ (y.cls ≠ "java/lang/invoke/MethodHandle" ∧ y.cls ≠ "java/lang/invoke/VarHandle") ∧
  (∀ sig, parseMethodDescriptor y.desc = some sig → n = sig.parameters.length) ∧ (Cond.methodLink own index y).before args s = true ∧ (Cond.static y).before args s = true
theorem vx_cwSW {own : String} {index maxL mc ms : Nat} {y : MethodName} {bytes : ByteArray} {ret : Option FieldType} {hh : List (Nat × Nat × Nat × Nat)} {Ts ws ws' : List Cond} {rm : Room} (n : Nat) (ht : ∀ w ∈ Ts, w.before args s = true) (hT : GoodIn Ts (va_wsS own index y ws)) (hw : ws = Cond.codeWith y bytes maxL ret hh :: ws') (hrc : rm.cells = mc) (hrs : rm.slots = ms)
    (hd : y.cls ≠ "java/lang/invoke/MethodHandle" ∧ y.cls ≠ "java/lang/invoke/VarHandle" ∧ (parseMethodDescriptor y.desc).map (fun d => d.parameters.length) = some n) (hR : rm.frames + 1 ≤ R.frames ∧ 8 + (maxL + 11) + rm.locals ≤ R.locals) :
    vx_CSW R s args own index y bytes maxL ret hh ws rm mc ms n := by
  have ok : ∀ w ∈ va_wsS own index y ws, w.before args s = true := fun w h => ht w (hT w h).1
  have hG : GoodIn Ts ws := fun w h => hT w (by unfold va_wsS; exact List.mem_append_right _ h)
  have hc : Cond.codeWith y bytes maxL ret hh ∈ ws := by rw [hw]; exact List.mem_cons_self
  refine ⟨⟨hrc, hrs, hR.1, hR.2, pay_in ht hG, hc⟩, ht _ (hG _ hc).1, ok _ (by simp [va_wsS]), ⟨hd.1, hd.2.1⟩, fun sig h => ?_, ok _ (by simp [va_wsS]), ok _ (by simp [va_wsS])⟩
  have h2 := hd.2.2
  rw [h] at h2
  exact (Option.some.inj h2).symm
theorem vx_callSW (X : Stand p l e R s m args below meth c T locs cells slots) (hexec : p.tables.exec = Jvm.exec) {own : String} {index : Nat} {y : MethodName} {bytes : ByteArray} {maxL : Nat} {ret : Option FieldType} {hh : List (Nat × Nat × Nat × Nat)}
    (hown : s.vm.findClass own = some m.cls) (hlink : (Cond.methodLink own index y).before args s = true) (hstat : (Cond.static y).before args s = true) (hinit : (Cond.initialized y.cls).before args s = true)
    (hcode : (Cond.codeWith y bytes maxL ret hh).before args s = true) (hy : y.cls ≠ "java/lang/invoke/MethodHandle" ∧ y.cls ≠ "java/lang/invoke/VarHandle")
    {W9 : Nat} {Pre : Pt → Array Value → Prop} {Post : Pt → Array Value → Option Value → Pt → Prop} (hK : Back l R p e below s args y 3 W9 Pre Post)
    {g : JFrame} (hg : g.method = m) (hsize : g.locals.size = c.maxLocals) {argsL rest : List Value} (hlen : ∀ sig, parseMethodDescriptor y.desc = some sig → argsL.length = sig.parameters.length)
    (hstack : g.stack = argsL.reverse ++ rest) (hW : 2 * g.monitorRoom + (rest.map fun v => v.category).sum ≤ W9) (hdg : decode c.code g.pc = .ok (.invokestatic index, 3))
    (hpre : ∀ vm₁, s.WarmedH vm₁ → Pre ⟨T.setVm vm₁, locs, cells, slots⟩ argsL.toArray) :
    ∃ (v : Option Value) (vm₁ : Vm) (B : Pt), s.WarmedH vm₁ ∧ Stand p l e R s m args below meth c B.U B.locs B.cells B.slots ∧ Post ⟨T.setVm vm₁, locs, cells, slots⟩ argsL.toArray v B ∧
      ∀ target, Steps p.tables e below (B.U.setTop { g with pc := g.pc + 3, stack := v.toList ++ rest }) target → Steps p.tables e below (T.setTop g) target := by
  obtain ⟨mk, methM, cM, hnamed, hmethM, -, -, -, -, -, -, hsigM⟩ := Cond.codeWith_spec hcode
  have hstatic : methM.isStatic = true := Cond.static_spec hnamed hmethM hstat
  obtain ⟨kP, hkP, -⟩ := className_of_methodNamed hnamed
  have hinitP : kP.init = .initialized := Cond.initialized_spec (findClass_of_methodNamed hnamed) hkP hinit
  obtain ⟨vm₁, X₁, hstep₁⟩ := X.invokestatic hexec hown hlink hnamed hmethM hstatic hkP hinitP hy (g := g) hg (argsL := argsL) (rest := rest) (hlen _ hsigM) hstack hdg
  obtain ⟨v, B, X', hpost, hsteps⟩ := hK m meth c ⟨T.setVm vm₁, locs, cells, slots⟩ { g with stack := rest } (.invokestatic index) mk argsL.toArray X₁ hg hsize hdg hW (X₁.named hnamed) (hpre vm₁ X₁.warmed)
  exact ⟨v, vm₁, B, X₁.warmed, X', hpost, fun target h => hstep₁ _ fun acts => by rw [doInvoke_state]; exact hsteps.trans h⟩
theorem vx_runSW {y : MethodName} {bytes cc : ByteArray} {maxL nL mc ms n index : Nat} {ret : Option FieldType} {hh : List (Nat × Nat × Nat × Nat)} {ws : List Cond} {rm : Room} {Pc : Array Value → State → Prop} {Qc : Array Value → State → Outcome → State → Prop} {free : Addr → Prop} {Ts : List Cond} {own : String} {As rest : List Value} {g : JFrame}
    (S : CallFix p m c cc nL s args Ts own) (hM : Met l y ws rm Pc Qc mc ms free) (cw : vx_CSW R s args own index y bytes maxL ret hh ws rm mc ms n) (hp : PreS s H Pc As)
    (hg : g.method = m) (hn : As.length = n) (hsize : g.locals.size = nL) (hstack : g.stack = As.reverse ++ rest) (hW : 2 * g.monitorRoom + (rest.map fun v => v.category).sum ≤ 8) (hdg : decode cc g.pc = .ok (.invokestatic index, 3)) (hf : cells + mc ≤ R.cells ∧ slots + ms ≤ R.slots) :
    va_Run p l e R s m args below meth c H locs cells slots mc ms g rest (Qc As.toArray) (free) := by
  obtain ⟨⟨hrc, hrs, hfr, hlo, hws, hcw⟩, hcode, hini, hy, hlen, hl, hstt⟩ := cw
  have hK : Back l R p e below s args y 3 8 (PreOf R mc ms Pc) (PostOf Qc mc ms free) := va_backW (hh := hh) (bytes := bytes) (maxL := maxL) (ret := ret) hM hp.1 hrc hrs hfr hlo hws hcw (fun a' U hW => word_at hW (Or.inl (by first | rfl | simp [Cond.onTables, Cond.keeps, Cond.steady])) hini)
  obtain ⟨hx, hb, hml, ho, -⟩ := S
  intro T hT X
  obtain ⟨v, vm₁, ⟨U', l2, c2, s2⟩, hW₁, X', ⟨g', mk, t, L, e1, e2, hq, h1, hL, h2, h3⟩, st⟩ := vx_callSW X hx (hh := hh) (bytes := bytes) (maxL := maxL) (ret := ret) ho hl hstt hini hcode hy hK hg (hsize.trans hml.symm) (argsL := As) (rest := rest) (fun sig h => hn.trans (hlen sig h)) hstack hW (by rw [hb]; exact hdg)
    (fun vm₁ hW₁ => ⟨hf.1, hf.2, hp.2 (T.setVm vm₁) hT hW₁⟩)
  dsimp only [Pt.U, Pt.locs, Pt.cells, Pt.slots] at X' e1 e2 h1 h2 h3 st
  subst h1; subst h2; subst h3
  exact ⟨v, (T.setVm vm₁).calling g' mk As.toArray, t, U', L, hT, X', hL, e1, e2, hq, st⟩
/-- not caught here, past rows that name other classes: it goes on to the caller -/
theorem vx_outP {p : Program} {l : Launch} {e : Env} {R : Room} {s : State} {m : MethodId} {args : Array Value} {below : List Frame} {meth : Method} {c : Code} {H : Heap} {locs : List Loc} {cells slots : Nat} {free : Addr → Prop} {ls : Array Slot} {rest : List Value} {Qc : Array Value → State → Outcome → State → Prop} {XC : String → State → State → Prop}
    {pc : Nat} {own E : String} {ce : Cell} {q : Addr} {mc ms : Nat} (hown : s.vm.findClass own = some m.cls) (hlocks : meth.locks = false)
    (hpass : ∀ z ∈ c.exceptionTable.toList, covers z pc = false ∨ (z.catchType ≠ 0 ∧ ∃ nm : String, (Cond.classLink own z.catchType nm).before args s = true ∧ va_Nc E nm s)) (hcell : H[q]? = some ce) (hv : ce.vm = .none) (hcl : s.vm.findClass E = some ce.cls)
    (hx : ∀ t : State, t.heap = H → s.vm.Alike t.vm → XC E s t) (hf : ∀ z ∈ locs, free z.base) (hc : cells ≤ mc) (hs : slots ≤ ms) :
    vx_W p l e R s m args below meth c H locs cells slots (vx_MQ below Qc XC args s mc ms free) (F0 m pc ls rest) q := by
  intro T hT X
  have hpl : e.platform.magicAccessors = ({} : Platform).magicAccessors := by rw [X.admits.platform]
  obtain ⟨vm', hW', X', st⟩ := X.outThrough hlocks q (g := F0 m pc ls rest) rfl rfl rfl (cell := ce) (by rw [hT]; exact hcell) (by rw [hv]; rfl)
    (by obtain ⟨k9, h9, -⟩ := Vm.findClass_spec hcl; exact ⟨k9, h9⟩) (fun z hz => by
      rcases hpass z hz with h | ⟨hz0, nm, hl1, hn1⟩
      · exact Or.inl h
      · obtain ⟨c6, hc6, hcl6⟩ := Cond.classLink_spec hown hl1 e.platform hpl
        obtain ⟨a8, b8, h1, h2, h3⟩ := hn1
        cases Option.some.inj (h1.symm.trans hcl)
        cases Option.some.inj (h2.symm.trans hc6)
        exact Or.inr ⟨hz0, _, hcl6, h3⟩)
  obtain ⟨g₀, hfr⟩ := X'.frames_eq
  have hcell9 : ((T.setVm vm').setFrames (.throwing q :: below)).heap[q]? = some ce := by
    show T.heap[q]? = some ce
    rw [hT]; exact hcell
  have hend : Ended ((T.setVm vm').setFrames (.throwing q :: below)) below (.threw q) := State.frames_setFrames _ (State.cur_lt_of_frames hfr)
  refine ⟨(T.setVm vm').setFrames (.throwing q :: below), ?_, .threw q, X'.here.running, hend, Or.inr ⟨q, rfl, E, ce, locs, hx _ hT (X'.ends _).1.alike, hcell9, hv, hcl, (X'.ends _).1, (X'.ends _).2.mono hc hs, hf⟩⟩
  rw [X.pushThrowing_eq]
  exact st
/-- a thing of a world lies in the heap -/
theorem vx_lt {D : va_G} {cl : List vw_C} {ws : va_W} {H1 : Heap} (h : va_P D cl ws H1) {k : Nat} {q : Nat × va_E} (hk : ws[k]? = some q) : q.1 < H1.size := (h k q hk).lt
end VXS
/-! ===== END ===== -/
/-! ===== BEGIN methods with a table of their own: called by a name, returning or throwing ===== -/
section VXH
/-! vx_backW, vx_callVX, vx_callSX, vx_callVW, vx_runVW, vx_runVX, vx_runSX, vx_ofWH follow the same proofs as their sisters above (Free/Laws.lean, Shelf42/LK1.lean); vx_outP calls Shelf42/NT130.lean (outThrough). -/
section
variable {l : Launch} {R : Room} {p : Program} {e : Env} {below : List Frame} {s : State} {sargs : Array Value} {y : MethodName} {len W9 : Nat}
theorem vx_backW {ws : List Cond} {rm : Room} {Pc : Array Value → State → Prop} {Qc : Array Value → State → Outcome → State → Prop} {XC : String → State → State → Prop} {mc ms : Nat} {free : Addr → Prop} {bytes : ByteArray} {maxL : Nat} {ret : Option FieldType} {hh : List (Nat × Nat × Nat × Nat)}
    (hM : vx_Met l y ws rm Pc Qc XC mc ms free) (hblind : FrameBlind Pc) (hrc : rm.cells = mc) (hrs : rm.slots = ms)
    (hframes : rm.frames + 1 ≤ R.frames) (hlocals : W9 + (maxL + 11) + rm.locals ≤ R.locals)
    (hws : ∀ w ∈ ws, ∀ a' U, s.WarmedH U.vm → w.before a' U = true) (hcode : Cond.codeWith y bytes maxL ret hh ∈ ws) (hinit : ∀ a' U, s.WarmedH U.vm → (Cond.initialized y.cls).before a' U = true) :
    vx_Back l R p e below s sargs y len W9 (PreOf R mc ms Pc) (PostOf Qc mc ms free) (vx_Post XC mc ms free) := by
  intro m meth c A g ig mk a X hg hsize hdg hW hn hp
  have h1 : (headSpec ws rm).pre.before a A.U = true := atoms_intro fun w hw => hws w hw _ _ X.warmed
  have h2 : (Cond.codeWith y bytes maxL ret hh).before a A.U = true := hws _ hcode _ _ X.warmed
  have h3 : (Cond.initialized y.cls).before a A.U = true := hinit _ _ X.warmed
  have h4 : A.cells + (headSpec ws rm).room.cells ≤ R.cells := by rw [show (headSpec ws rm).room.cells = mc from hrc]; exact hp.1
  have h5 : A.slots + (headSpec ws rm).room.slots ≤ R.slots := by rw [show (headSpec ws rm).room.slots = ms from hrs]; exact hp.2.1
  have hPc : Pc a (A.U.calling g mk a) := hblind _ _ _ _ hp.2.2
  obtain ⟨U, Ls, c0, s0⟩ := A
  dsimp only [Pt.U, Pt.locs, Pt.cells, Pt.slots] at h1 h2 h3 h4 h5 X hn hPc ⊢
  obtain ⟨m9, methY, cY, hn9, hmY, hcY, -, hlY, -⟩ := Cond.codeWith_spec h2
  cases Option.some.inj (hn9.symm.trans hn)
  obtain ⟨kY, hkY, -⟩ := className_of_methodNamed hn
  have hinitY : kY.init = .initialized := Cond.initialized_spec (findClass_of_methodNamed hn) hkY h3
  have h : At U g.method c below := by rw [hg]; exact X.here
  have hlocals9 : W9 + (maxL + 11) + (headSpec ws rm).room.locals ≤ R.locals := hlocals
  have happ : (headSpec ws rm).appliesLoose y e.platform (U.calling g mk a) = true :=
    Spec.appliesLoose_calling (g := g) h hdg hn hkY hinitY
      (X.room_calling (g := g) (R' := (headSpec ws rm).room) hsize hmY hcY hframes (by rw [hlY]; omega) h4 h5) h1
  obtain ⟨mid, hmid⟩ := h.above
  have hfr : (U.setTop g).frames = (.java g :: mid) ++ below := by rw [State.frames_setTop' g h.top, hmid]; rfl
  obtain ⟨o, s₂, hsteps, -, hend, hq⟩ := Steps.callFree hM p X.admits X.cas X.clock (acts := []) hfr happ hPc trivial
  have hq' : vx_Q Qc XC mc ms free a (U.calling g mk a) o s₂ := hq
  rw [State.frames_setTop' g h.top] at hend
  obtain ⟨g₀, hg0⟩ := Option.isSome_iff_exists.mp h.top
  obtain ⟨r, hr⟩ := State.topJava?_eq_some.mp hg0
  have hr' : (({ U with heap := s₂.heap, slotsUsed := s₂.slotsUsed } : State).setVm s₂.vm).frames = .java g₀ :: r := hr
  rcases hq' with ⟨hqc, L, hfe, hL⟩ | ⟨q, rfl, E, ce, L, hx, hce, hcv, hcl, hW₂, hsm, hL⟩
  · obtain ⟨⟨v, rfl⟩, hW₂, e2, q2, q3, q4, q5, q6⟩ := id hfe
    have e3 : s₂ = ({ (U.calling g mk a).setFrames s₂.frames with heap := s₂.heap, slotsUsed := s₂.slotsUsed } : State).setVm s₂.vm := by
      have : s₂ = ({ s₂ with vm := (U.calling g mk a).vm } : State).setVm s₂.vm := rfl
      rw [e2] at this
      exact this
    obtain ⟨c₂, i₂, len₂, hc₂, hd₂, hf₂⟩ := hend
    have hW' : U.WarmedH s₂.vm := hW₂
    have hcc : c₂ = c := by
      have h1 : s₂.code? g.method = U.code? g.method := by
        rw [State.code?_eq, State.code?_eq, hW'.alike.method?]
      exact Option.some.inj (hc₂.symm.trans (h1.trans h.code))
    subst hcc
    have hlen : len₂ = len := by rw [hdg] at hd₂; cases hd₂; rfl
    subst hlen
    have hs₂ : s₂ = (({ U with heap := s₂.heap, slotsUsed := s₂.slotsUsed } : State).setVm s₂.vm).setTop { g with pc := g.pc + len₂, stack := v.toList ++ g.stack } := by
      refine e3.trans ?_
      rw [hf₂, State.calling_eq h.top, State.setFrames_setFrames, State.setTop_of_frames _ hr', hr]
      rfl
    have hsame : U.sameButNew ({ U with heap := s₂.heap, slotsUsed := s₂.slotsUsed } : State) L mc ms := by
      refine ⟨?_, q2, q3, q4, q5, q6⟩
      obtain ⟨t, ht, -⟩ := State.frames_cons hr
      show ({ U with heap := s₂.heap, slotsUsed := s₂.slotsUsed } : State) = { U.setFrames U.frames with heap := s₂.heap, slotsUsed := s₂.slotsUsed }
      rw [State.setFrames_self ht]
    subst hg
    refine Or.inl ⟨v, ⟨(({ U with heap := s₂.heap, slotsUsed := s₂.slotsUsed } : State).setVm s₂.vm), Ls ++ L, c0 + mc, s0 + ms⟩,
      ⟨X.admits, X.cas, X.clock, X.frames, X.room, X.hears, X.method, X.code, (X.here.setHeapUsed s₂.heap s₂.slotsUsed).setVm hW'.alike, X.tail, State.WarmedH.trans X.warmed hW', X.limits, X.bytes, X.same.trans (hsame.setVm s.vm)⟩,
      ⟨g, mk, s₂, L, rfl, rfl, hqc, rfl, hL, rfl, rfl⟩, ?_⟩
    show Steps p.tables e below _ ((({ U with heap := s₂.heap, slotsUsed := s₂.slotsUsed } : State).setVm s₂.vm).setTop { g with pc := g.pc + len₂, stack := v.toList ++ g.stack })
    rw [← hs₂]
    exact hsteps
  · obtain ⟨e2, q2, q3, q4, q5, q6⟩ := id hsm
    have e3 : s₂ = ({ (U.calling g mk a).setFrames s₂.frames with heap := s₂.heap, slotsUsed := s₂.slotsUsed } : State).setVm s₂.vm := by
      have : s₂ = ({ s₂ with vm := (U.calling g mk a).vm } : State).setVm s₂.vm := rfl
      rw [e2] at this
      exact this
    have hf₂ : s₂.frames = .throwing q :: .java g :: U.frames.tail := hend
    have hW' : U.WarmedH s₂.vm := hW₂
    have hs₂ : s₂ = ((({ U with heap := s₂.heap, slotsUsed := s₂.slotsUsed } : State).setVm s₂.vm).setTop g).pushFrame (.throwing q) := by
      refine e3.trans ?_
      rw [hf₂, State.calling_eq h.top, State.setFrames_setFrames, State.pushFrame, State.frames_setTop _ hr', State.setTop_of_frames _ hr', State.setFrames_setFrames, hr]
      rfl
    have hsame : U.sameButNew ({ U with heap := s₂.heap, slotsUsed := s₂.slotsUsed } : State) L mc ms := by
      refine ⟨?_, q2, q3, q4, q5, q6⟩
      obtain ⟨t, ht, -⟩ := State.frames_cons hr
      show ({ U with heap := s₂.heap, slotsUsed := s₂.slotsUsed } : State) = { U.setFrames U.frames with heap := s₂.heap, slotsUsed := s₂.slotsUsed }
      rw [State.setFrames_self ht]
    subst hg
    refine Or.inr ⟨q, ⟨(({ U with heap := s₂.heap, slotsUsed := s₂.slotsUsed } : State).setVm s₂.vm), Ls ++ L, c0 + mc, s0 + ms⟩,
      ⟨X.admits, X.cas, X.clock, X.frames, X.room, X.hears, X.method, X.code, (X.here.setHeapUsed s₂.heap s₂.slotsUsed).setVm hW'.alike, X.tail, State.WarmedH.trans X.warmed hW', X.limits, X.bytes, X.same.trans (hsame.setVm s.vm)⟩,
      ⟨g, mk, s₂, L, E, ce, rfl, rfl, hx, hce, hcv, hcl, rfl, hL, rfl, rfl⟩, ?_⟩
    show Steps p.tables e below _ (((({ U with heap := s₂.heap, slotsUsed := s₂.slotsUsed } : State).setVm s₂.vm).setTop g).pushFrame (.throwing q))
    rw [← hs₂]
    exact hsteps
end
variable {p : Program} {l : Launch} {e : Env} {R : Room} {s : State} {m : MethodId} {args : Array Value} {below : List Frame} {meth : Method} {c : Code} {T : State} {H : Heap} {locs : List Loc} {cells slots : Nat}
theorem vx_callVX (X : Stand p l e R s m args below meth c T locs cells slots) (hexec : p.tables.exec = Jvm.exec) {own C : String} {index : Nat} {y : MethodName} {bytes : ByteArray} {maxL : Nat} {ret : Option FieldType} {hh : List (Nat × Nat × Nat × Nat)}
    (hown : s.vm.findClass own = some m.cls) (hlink : (Cond.methodLink own index y).before args s = true) (hinst : (Cond.instanceMethod y).before args s = true) (hsel : (Cond.selects C y y).before args s = true)
    (hcode : (Cond.codeWith y bytes maxL ret hh).before args s = true) (hy : y.cls ≠ "java/lang/invoke/MethodHandle" ∧ y.cls ≠ "java/lang/invoke/VarHandle")
    {W9 : Nat} {Pre : Pt → Array Value → Prop} {Post : Pt → Array Value → Option Value → Pt → Prop} {PostX : Pt → Array Value → Addr → Pt → Prop} (hK : vx_Back l R p e below s args y 3 W9 Pre Post PostX)
    {b : Addr} {cellB : Cell} (hcell : T.heap[b]? = some cellB) (hobj : cellB.vm.isStatics = false) (hcls : s.vm.findClass C = some cellB.cls)
    {g : JFrame} (hg : g.method = m) (hsize : g.locals.size = c.maxLocals) {argsL rest : List Value} (hlen : ∀ sig, parseMethodDescriptor y.desc = some sig → argsL.length = sig.parameters.length)
    (hstack : g.stack = argsL.reverse ++ .ref b :: rest) (hW : 2 * g.monitorRoom + (rest.map fun v => v.category).sum ≤ W9) (hdg : decode c.code g.pc = .ok (.invokevirtual index, 3))
    (hpre : ∀ vm₁, s.WarmedH vm₁ → Pre ⟨T.setVm vm₁, locs, cells, slots⟩ (Value.ref b :: argsL).toArray) :
    (∃ (v : Option Value) (vm₁ : Vm) (B : Pt), s.WarmedH vm₁ ∧ Stand p l e R s m args below meth c B.U B.locs B.cells B.slots ∧ Post ⟨T.setVm vm₁, locs, cells, slots⟩ (Value.ref b :: argsL).toArray v B ∧
      ∀ target, Steps p.tables e below (B.U.setTop { g with pc := g.pc + 3, stack := v.toList ++ rest }) target → Steps p.tables e below (T.setTop g) target) ∨
    (∃ (q : Addr) (vm₁ : Vm) (B : Pt), s.WarmedH vm₁ ∧ Stand p l e R s m args below meth c B.U B.locs B.cells B.slots ∧ PostX ⟨T.setVm vm₁, locs, cells, slots⟩ (Value.ref b :: argsL).toArray q B ∧
      Steps p.tables e below (T.setTop g) ((B.U.setTop { g with stack := rest }).pushFrame (.throwing q))) := by
  obtain ⟨mk, methM, hnamed, hmethM, hstM, habM⟩ := Cond.instanceMethod_spec hinst
  obtain ⟨m8, methM', cM, hn8, hmethM', -, -, -, -, -, -, hsigM⟩ := Cond.codeWith_spec hcode
  cases Option.some.inj (hn8.symm.trans hnamed)
  cases hmethM.symm.trans hmethM'
  obtain ⟨c2, r2, m2, q1, q2, q3, q4, kP, hkP, hkPi⟩ := Cond.selects_spec hsel
  cases hcls.symm.trans q1
  cases (State.methodFound?_of_named hnamed hy).symm.trans q2
  cases hnamed.symm.trans q3
  have hselP : selectMethod e.platform s.vm cellB.cls mk = .method mk := by rw [Launch.admits_selectMethod X.admits]; exact q4
  obtain ⟨vm₁, X₁, hstep₁⟩ := X.invokevirtual hexec hown hlink hnamed hmethM hstM hkP hkPi hy (a := b) (cell := cellB) hcell
    (fun z h => by rw [h] at hobj; cases hobj) hselP hmethM habM hkP hkPi (g := g) hg (argsL := argsL) (rest := rest) (hlen _ hsigM) hstack hdg
  rcases hK m meth c ⟨T.setVm vm₁, locs, cells, slots⟩ { g with stack := rest } (.invokevirtual index) mk (Value.ref b :: argsL).toArray X₁ hg hsize hdg hW (X₁.named hnamed) (hpre vm₁ X₁.warmed) with ⟨v, B, X', hpost, hsteps⟩ | ⟨q, B, X', hpost, hsteps⟩
  · exact Or.inl ⟨v, vm₁, B, X₁.warmed, X', hpost, fun target h => hstep₁ _ fun acts => by rw [doInvoke_state]; exact hsteps.trans h⟩
  · exact Or.inr ⟨q, vm₁, B, X₁.warmed, X', hpost, hstep₁ _ fun acts => by rw [doInvoke_state]; exact hsteps⟩
theorem vx_callSX (X : Stand p l e R s m args below meth c T locs cells slots) (hexec : p.tables.exec = Jvm.exec) {own : String} {index : Nat} {y : MethodName} {bytes : ByteArray} {maxL : Nat} {ret : Option FieldType} {hh : List (Nat × Nat × Nat × Nat)}
    (hown : s.vm.findClass own = some m.cls) (hlink : (Cond.methodLink own index y).before args s = true) (hstat : (Cond.static y).before args s = true) (hinit : (Cond.initialized y.cls).before args s = true)
    (hcode : (Cond.codeWith y bytes maxL ret hh).before args s = true) (hy : y.cls ≠ "java/lang/invoke/MethodHandle" ∧ y.cls ≠ "java/lang/invoke/VarHandle")
    {W9 : Nat} {Pre : Pt → Array Value → Prop} {Post : Pt → Array Value → Option Value → Pt → Prop} {PostX : Pt → Array Value → Addr → Pt → Prop} (hK : vx_Back l R p e below s args y 3 W9 Pre Post PostX)
    {g : JFrame} (hg : g.method = m) (hsize : g.locals.size = c.maxLocals) {argsL rest : List Value} (hlen : ∀ sig, parseMethodDescriptor y.desc = some sig → argsL.length = sig.parameters.length)
    (hstack : g.stack = argsL.reverse ++ rest) (hW : 2 * g.monitorRoom + (rest.map fun v => v.category).sum ≤ W9) (hdg : decode c.code g.pc = .ok (.invokestatic index, 3))
    (hpre : ∀ vm₁, s.WarmedH vm₁ → Pre ⟨T.setVm vm₁, locs, cells, slots⟩ argsL.toArray) :
    (∃ (v : Option Value) (vm₁ : Vm) (B : Pt), s.WarmedH vm₁ ∧ Stand p l e R s m args below meth c B.U B.locs B.cells B.slots ∧ Post ⟨T.setVm vm₁, locs, cells, slots⟩ argsL.toArray v B ∧
      ∀ target, Steps p.tables e below (B.U.setTop { g with pc := g.pc + 3, stack := v.toList ++ rest }) target → Steps p.tables e below (T.setTop g) target) ∨
    (∃ (q : Addr) (vm₁ : Vm) (B : Pt), s.WarmedH vm₁ ∧ Stand p l e R s m args below meth c B.U B.locs B.cells B.slots ∧ PostX ⟨T.setVm vm₁, locs, cells, slots⟩ argsL.toArray q B ∧
      Steps p.tables e below (T.setTop g) ((B.U.setTop { g with stack := rest }).pushFrame (.throwing q))) := by
  obtain ⟨mk, methM, cM, hnamed, hmethM, -, -, -, -, -, -, hsigM⟩ := Cond.codeWith_spec hcode
  have hstatic : methM.isStatic = true := Cond.static_spec hnamed hmethM hstat
  obtain ⟨kP, hkP, -⟩ := className_of_methodNamed hnamed
  have hinitP : kP.init = .initialized := Cond.initialized_spec (findClass_of_methodNamed hnamed) hkP hinit
  obtain ⟨vm₁, X₁, hstep₁⟩ := X.invokestatic hexec hown hlink hnamed hmethM hstatic hkP hinitP hy (g := g) hg (argsL := argsL) (rest := rest) (hlen _ hsigM) hstack hdg
  rcases hK m meth c ⟨T.setVm vm₁, locs, cells, slots⟩ { g with stack := rest } (.invokestatic index) mk argsL.toArray X₁ hg hsize hdg hW (X₁.named hnamed) (hpre vm₁ X₁.warmed) with ⟨v, B, X', hpost, hsteps⟩ | ⟨q, B, X', hpost, hsteps⟩
  · exact Or.inl ⟨v, vm₁, B, X₁.warmed, X', hpost, fun target h => hstep₁ _ fun acts => by rw [doInvoke_state]; exact hsteps.trans h⟩
  · exact Or.inr ⟨q, vm₁, B, X₁.warmed, X', hpost, hstep₁ _ fun acts => by rw [doInvoke_state]; exact hsteps⟩
theorem vx_callVW (X : Stand p l e R s m args below meth c T locs cells slots) (hexec : p.tables.exec = Jvm.exec) {own C : String} {index : Nat} {y : MethodName} {bytes : ByteArray} {maxL : Nat} {ret : Option FieldType} {hh : List (Nat × Nat × Nat × Nat)}
    (hown : s.vm.findClass own = some m.cls) (hlink : (Cond.methodLink own index y).before args s = true) (hinst : (Cond.instanceMethod y).before args s = true) (hsel : (Cond.selects C y y).before args s = true)
    (hcode : (Cond.codeWith y bytes maxL ret hh).before args s = true) (hy : y.cls ≠ "java/lang/invoke/MethodHandle" ∧ y.cls ≠ "java/lang/invoke/VarHandle")
    {W9 : Nat} {Pre : Pt → Array Value → Prop} {Post : Pt → Array Value → Option Value → Pt → Prop} (hK : Back l R p e below s args y 3 W9 Pre Post)
    {b : Addr} {cellB : Cell} (hcell : T.heap[b]? = some cellB) (hobj : cellB.vm.isStatics = false) (hcls : s.vm.findClass C = some cellB.cls)
    {g : JFrame} (hg : g.method = m) (hsize : g.locals.size = c.maxLocals) {argsL rest : List Value} (hlen : ∀ sig, parseMethodDescriptor y.desc = some sig → argsL.length = sig.parameters.length)
    (hstack : g.stack = argsL.reverse ++ .ref b :: rest) (hW : 2 * g.monitorRoom + (rest.map fun v => v.category).sum ≤ W9) (hdg : decode c.code g.pc = .ok (.invokevirtual index, 3))
    (hpre : ∀ vm₁, s.WarmedH vm₁ → Pre ⟨T.setVm vm₁, locs, cells, slots⟩ (Value.ref b :: argsL).toArray) :
    ∃ (v : Option Value) (vm₁ : Vm) (B : Pt), s.WarmedH vm₁ ∧ Stand p l e R s m args below meth c B.U B.locs B.cells B.slots ∧ Post ⟨T.setVm vm₁, locs, cells, slots⟩ (Value.ref b :: argsL).toArray v B ∧
      ∀ target, Steps p.tables e below (B.U.setTop { g with pc := g.pc + 3, stack := v.toList ++ rest }) target → Steps p.tables e below (T.setTop g) target := by
  obtain ⟨mk, methM, hnamed, hmethM, hstM, habM⟩ := Cond.instanceMethod_spec hinst
  obtain ⟨m8, methM', cM, hn8, hmethM', -, -, -, -, -, -, hsigM⟩ := Cond.codeWith_spec hcode
  cases Option.some.inj (hn8.symm.trans hnamed)
  cases hmethM.symm.trans hmethM'
  obtain ⟨c2, r2, m2, q1, q2, q3, q4, kP, hkP, hkPi⟩ := Cond.selects_spec hsel
  cases hcls.symm.trans q1
  cases (State.methodFound?_of_named hnamed hy).symm.trans q2
  cases hnamed.symm.trans q3
  have hselP : selectMethod e.platform s.vm cellB.cls mk = .method mk := by rw [Launch.admits_selectMethod X.admits]; exact q4
  obtain ⟨vm₁, X₁, hstep₁⟩ := X.invokevirtual hexec hown hlink hnamed hmethM hstM hkP hkPi hy (a := b) (cell := cellB) hcell
    (fun z h => by rw [h] at hobj; cases hobj) hselP hmethM habM hkP hkPi (g := g) hg (argsL := argsL) (rest := rest) (hlen _ hsigM) hstack hdg
  obtain ⟨v, B, X', hpost, hsteps⟩ := hK m meth c ⟨T.setVm vm₁, locs, cells, slots⟩ { g with stack := rest } (.invokevirtual index) mk (Value.ref b :: argsL).toArray X₁ hg hsize hdg hW (X₁.named hnamed) (hpre vm₁ X₁.warmed)
  exact ⟨v, vm₁, B, X₁.warmed, X', hpost, fun target h => hstep₁ _ fun acts => by rw [doInvoke_state]; exact hsteps.trans h⟩
abbrev vx_CVW (R : Room) (s : State) (args : Array Value) (own C : String) (index : Nat) (y : MethodName) (bytes : ByteArray) (maxL : Nat) (ret : Option FieldType) (hh : List (Nat × Nat × Nat × Nat)) (ws : List Cond) (rm : Room) (mc ms n : Nat) : Prop :=
  (rm.cells = mc ∧ rm.slots = ms ∧ rm.frames + 1 ≤ R.frames ∧ 8 + (maxL + 11) + rm.locals ≤ R.locals ∧ (∀ w ∈ ws, ∀ (a' : Array Value) (U : State), s.WarmedH U.vm → w.before a' U = true) ∧ Cond.codeWith y bytes maxL ret hh ∈ ws) ∧
  (Cond.codeWith y bytes maxL ret hh).before args s = true ∧ (Cond.initialized y.cls).before args s = true ∧ (y.cls ≠ "java/lang/invoke/MethodHandle" ∧ y.cls ≠ "java/lang/invoke/VarHandle") ∧
  (∀ sig, parseMethodDescriptor y.desc = some sig → n = sig.parameters.length) ∧ (Cond.methodLink own index y).before args s = true ∧ (Cond.instanceMethod y).before args s = true ∧ (Cond.selects C y y).before args s = true
theorem vx_cwVW {own C : String} {index maxL mc ms : Nat} {y : MethodName} {bytes : ByteArray} {ret : Option FieldType} {hh : List (Nat × Nat × Nat × Nat)} {Ts ws ws' : List Cond} {rm : Room} (n : Nat) (ht : ∀ w ∈ Ts, w.before args s = true) (hT : GoodIn Ts (wsV own index C y ws)) (hw : ws = Cond.codeWith y bytes maxL ret hh :: ws') (hrc : rm.cells = mc) (hrs : rm.slots = ms)
    (hd : y.cls = C ∧ y.cls ≠ "java/lang/invoke/MethodHandle" ∧ y.cls ≠ "java/lang/invoke/VarHandle" ∧ (parseMethodDescriptor y.desc).map (fun d => d.parameters.length) = some n) (hR : rm.frames + 1 ≤ R.frames ∧ 8 + (maxL + 11) + rm.locals ≤ R.locals) :
    vx_CVW R s args own C index y bytes maxL ret hh ws rm mc ms n := by
  obtain ⟨hC, hd⟩ := hd
  subst hC
  have ok : ∀ w ∈ wsV own index y.cls y ws, w.before args s = true := fun w h => ht w (hT w h).1
  have hG : GoodIn Ts ws := fun w h => hT w (by unfold wsV; exact List.mem_append_right _ h)
  have hc : Cond.codeWith y bytes maxL ret hh ∈ ws := by rw [hw]; exact List.mem_cons_self
  refine ⟨⟨hrc, hrs, hR.1, hR.2, pay_in ht hG, hc⟩, ht _ (hG _ hc).1, ok _ (by simp [wsV]), ⟨hd.1, hd.2.1⟩, fun sig h => ?_, ok _ (by simp [wsV]), ok _ (by simp [wsV]), ok _ (by simp [wsV])⟩
  have h2 := hd.2.2
  rw [h] at h2
  exact (Option.some.inj h2).symm
theorem vx_runVW {y : MethodName} {bytes cc : ByteArray} {maxL nL mc ms n index : Nat} {ret : Option FieldType} {hh : List (Nat × Nat × Nat × Nat)} {ws : List Cond} {rm : Room} {Pc : Array Value → State → Prop} {Qc : Array Value → State → Outcome → State → Prop} {free : Addr → Prop} {Ts : List Cond} {own C : String} {b : Addr} {As rest : List Value} {g : JFrame}
    (S : CallFix p m c cc nL s args Ts own) (hM : Met l y ws rm Pc Qc mc ms free) (cw : vx_CVW R s args own C index y bytes maxL ret hh ws rm mc ms n) (hp : PreV s H C b Pc As)
    (hg : g.method = m) (hn : As.length = n) (hsize : g.locals.size = nL) (hstack : g.stack = As.reverse ++ .ref b :: rest) (hW : 2 * g.monitorRoom + (rest.map fun v => v.category).sum ≤ 8) (hdg : decode cc g.pc = .ok (.invokevirtual index, 3)) (hf : cells + mc ≤ R.cells ∧ slots + ms ≤ R.slots) :
    va_Run p l e R s m args below meth c H locs cells slots mc ms g rest (Qc (Value.ref b :: As).toArray) free := by
  obtain ⟨⟨hrc, hrs, hfr, hlo, hws, hcw⟩, hcode, hini, hy, hlen, hl, hin, hse⟩ := cw
  have hK : Back l R p e below s args y 3 8 (PreOf R mc ms Pc) (PostOf Qc mc ms free) := va_backW (hh := hh) (bytes := bytes) (maxL := maxL) (ret := ret) hM hp.1 hrc hrs hfr hlo hws hcw (fun a' U hW => word_at hW (Or.inl (by first | rfl | simp [Cond.onTables, Cond.keeps, Cond.steady])) hini)
  obtain ⟨hx, hb, hml, ho, -⟩ := S
  obtain ⟨-, ⟨cellB, hcB, hoB, hclB⟩, hPc⟩ := hp
  intro T hT X
  obtain ⟨v, vm₁, ⟨U', l2, c2, s2⟩, hW₁, X', ⟨g', mk, t, L, e1, e2, hq, h1, hL, h2, h3⟩, st⟩ := vx_callVW X hx (C := C) (hh := hh) (bytes := bytes) (maxL := maxL) (ret := ret) ho hl hin hse hcode hy hK (by rw [hT]; exact hcB) hoB hclB hg (hsize.trans hml.symm) (argsL := As) (rest := rest) (fun sig h => hn.trans (hlen sig h)) hstack hW (by rw [hb]; exact hdg)
    (fun vm₁ hW₁ => ⟨hf.1, hf.2, hPc (T.setVm vm₁) hT hW₁⟩)
  dsimp only [Pt.U, Pt.locs, Pt.cells, Pt.slots] at X' e1 e2 h1 h2 h3 st
  subst h1; subst h2; subst h3
  exact ⟨v, (T.setVm vm₁).calling g' mk (Value.ref b :: As).toArray, t, U', L, hT, X', hL, e1, e2, hq, st⟩
section
variable {y : MethodName} {bytes cc : ByteArray} {maxL nL mc ms n index : Nat} {ret : Option FieldType} {ws : List Cond} {rm : Room} {Pc : Array Value → State → Prop} {Qc : Array Value → State → Outcome → State → Prop} {XC : String → State → State → Prop} {free : Addr → Prop} {Ts : List Cond} {own C : String} {b : Addr} {As rest : List Value} {g : JFrame}
theorem vx_runVX {hh : List (Nat × Nat × Nat × Nat)} (S : CallFix p m c cc nL s args Ts own) (hM : vx_Met l y ws rm Pc Qc XC mc ms free) (cw : vx_CVW R s args own C index y bytes maxL ret hh ws rm mc ms n) (hp : PreV s H C b Pc As)
    (hg : g.method = m) (hn : As.length = n) (hsize : g.locals.size = nL) (hstack : g.stack = As.reverse ++ .ref b :: rest) (hW : 2 * g.monitorRoom + (rest.map fun v => v.category).sum ≤ 8) (hdg : decode cc g.pc = .ok (.invokevirtual index, 3)) (hf : cells + mc ≤ R.cells ∧ slots + ms ≤ R.slots) :
    vx_Run p l e R s m args below meth c H locs cells slots mc ms g rest (Qc (Value.ref b :: As).toArray) XC free := by
  obtain ⟨⟨hrc, hrs, hfr, hlo, hws, hcw⟩, hcode, hini, hy, hlen, hl, hin, hse⟩ := cw
  have hK : vx_Back l R p e below s args y 3 8 (PreOf R mc ms Pc) (PostOf Qc mc ms free) (vx_Post XC mc ms free) := vx_backW (hh := hh) (bytes := bytes) (maxL := maxL) (ret := ret) hM hp.1 hrc hrs hfr hlo hws hcw (fun a' U hW => word_at hW (Or.inl (by first | rfl | simp [Cond.onTables, Cond.keeps, Cond.steady])) hini)
  obtain ⟨hx, hb, hml, ho, -⟩ := S
  obtain ⟨-, ⟨cellB, hcB, hoB, hclB⟩, hPc⟩ := hp
  intro T hT X
  rcases vx_callVX X hx (C := C) (hh := hh) (bytes := bytes) (maxL := maxL) (ret := ret) ho hl hin hse hcode hy hK (by rw [hT]; exact hcB) hoB hclB hg (hsize.trans hml.symm) (argsL := As) (rest := rest) (fun sig h => hn.trans (hlen sig h)) hstack hW (by rw [hb]; exact hdg)
    (fun vm₁ hW₁ => ⟨hf.1, hf.2, hPc (T.setVm vm₁) hT hW₁⟩) with ⟨v, vm₁, ⟨U', l2, c2, s2⟩, hW₁, X', ⟨g', mk, t, L, e1, e2, hq, h1, hL, h2, h3⟩, st⟩ | ⟨q, vm₁, ⟨U', l2, c2, s2⟩, hW₁, X', ⟨g', mk, t, L, E, ce, e1, e2, hq, hce, hcv, hcl, h1, hL, h2, h3⟩, st⟩
  · dsimp only [Pt.U, Pt.locs, Pt.cells, Pt.slots] at X' e1 e2 h1 h2 h3 st
    subst h1; subst h2; subst h3
    exact Or.inl ⟨v, (T.setVm vm₁).calling g' mk (Value.ref b :: As).toArray, t, U', L, hT, X', hL, e1, e2, hq, st⟩
  · dsimp only [Pt.U, Pt.locs, Pt.cells, Pt.slots] at X' e1 e2 h1 h2 h3 st hcl
    subst h1; subst h2; subst h3
    exact Or.inr ⟨q, (T.setVm vm₁).calling g' mk (Value.ref b :: As).toArray, t, U', L, E, ce, hT, X', hL, e1, e2, hq, hce, hcv, vx_cls hW₁ hcl, st⟩
theorem vx_runSX {hh : List (Nat × Nat × Nat × Nat)} (S : CallFix p m c cc nL s args Ts own) (hM : vx_Met l y ws rm Pc Qc XC mc ms free) (cw : vx_CSW R s args own index y bytes maxL ret hh ws rm mc ms n) (hp : PreS s H Pc As)
    (hg : g.method = m) (hn : As.length = n) (hsize : g.locals.size = nL) (hstack : g.stack = As.reverse ++ rest) (hW : 2 * g.monitorRoom + (rest.map fun v => v.category).sum ≤ 8) (hdg : decode cc g.pc = .ok (.invokestatic index, 3)) (hf : cells + mc ≤ R.cells ∧ slots + ms ≤ R.slots) :
    vx_Run p l e R s m args below meth c H locs cells slots mc ms g rest (Qc As.toArray) XC free := by
  obtain ⟨⟨hrc, hrs, hfr, hlo, hws, hcw⟩, hcode, hini, hy, hlen, hl, hstt⟩ := cw
  have hK : vx_Back l R p e below s args y 3 8 (PreOf R mc ms Pc) (PostOf Qc mc ms free) (vx_Post XC mc ms free) := vx_backW (hh := hh) (bytes := bytes) (maxL := maxL) (ret := ret) hM hp.1 hrc hrs hfr hlo hws hcw (fun a' U hW => word_at hW (Or.inl (by first | rfl | simp [Cond.onTables, Cond.keeps, Cond.steady])) hini)
  obtain ⟨hx, hb, hml, ho, -⟩ := S
  intro T hT X
  rcases vx_callSX X hx (hh := hh) (bytes := bytes) (maxL := maxL) (ret := ret) ho hl hstt hini hcode hy hK hg (hsize.trans hml.symm) (argsL := As) (rest := rest) (fun sig h => hn.trans (hlen sig h)) hstack hW (by rw [hb]; exact hdg)
    (fun vm₁ hW₁ => ⟨hf.1, hf.2, hp.2 (T.setVm vm₁) hT hW₁⟩) with ⟨v, vm₁, ⟨U', l2, c2, s2⟩, hW₁, X', ⟨g', mk, t, L, e1, e2, hq, h1, hL, h2, h3⟩, st⟩ | ⟨q, vm₁, ⟨U', l2, c2, s2⟩, hW₁, X', ⟨g', mk, t, L, E, ce, e1, e2, hq, hce, hcv, hcl, h1, hL, h2, h3⟩, st⟩
  · dsimp only [Pt.U, Pt.locs, Pt.cells, Pt.slots] at X' e1 e2 h1 h2 h3 st
    subst h1; subst h2; subst h3
    exact Or.inl ⟨v, (T.setVm vm₁).calling g' mk As.toArray, t, U', L, hT, X', hL, e1, e2, hq, st⟩
  · dsimp only [Pt.U, Pt.locs, Pt.cells, Pt.slots] at X' e1 e2 h1 h2 h3 st hcl
    subst h1; subst h2; subst h3
    exact Or.inr ⟨q, (T.setVm vm₁).calling g' mk As.toArray, t, U', L, E, ce, hT, X', hL, e1, e2, hq, hce, hcv, vx_cls hW₁ hcl, st⟩
end
end VXH
theorem vx_ofWH {l : Launch} {y : MethodName} {ws ws' : List Cond} {rm : Room} {Pc : Array Value → State → Prop} {Qc : Array Value → State → Outcome → State → Prop} {XC : String → State → State → Prop} {mc ms : Nat} {free : Addr → Prop} {cc : ByteArray} {maxL : Nat} {ret : Option FieldType} {hh : List (Nat × Nat × Nat × Nat)}
    (hy : plainName y.cls = true) (hw : ws = Cond.codeWith y cc maxL ret hh :: ws')
    (body : ∀ p e s m args below meth c s₁, BodyLoose p l y (headSpec ws rm) cc maxL ret e s m args below meth c s₁ → c.maxLocals = maxL → Pc args s →
      W p l e (headSpec ws rm).room s m args below meth c s.heap [] 0 0 (vx_MQ below Qc XC args s mc ms free) (entryFrame m args maxL)) : vx_Met l y ws rm Pc Qc XC mc ms free := by
  refine MetFree.of_bodyS (code := cc) (maxLocals := maxL) (ret := ret) hy ?_ ?_
  · intro args s m h hn
    obtain ⟨m9, meth, c, hn9, h1, h2, h3, h4, -, h5, h6, -⟩ := Cond.codeWith_spec (atoms_spec (ws := ws) h _ (by rw [hw]; exact List.mem_cons_self))
    cases hn.symm.trans hn9
    exact ⟨meth, c, h1, h2, h3, h4, h5, h6⟩
  · intro p e s m args below meth c s₁ B hml hP _
    have hh0 : s₁.heap = s.heap := by rw [B.state]; rfl
    obtain ⟨t, a1, o, b1, b2, b3⟩ := body p e s m args below meth c s₁ B hml hP s₁ hh0 (Stand.of_body B)
    exact ⟨t, o, a1, b1, b2, b3⟩
/-! ===== END ===== -/
end
section
/-! names: written by my program wip/gen/build.py out of claim/Statement.lean and claim/JAVAP.txt (field tables of the class out of claim/NAMES.whole.lean.txt) -/
abbrev RX0 : String := "ThreeCompactors"
def TX0 : u_T := fun k => match k with
  | 0 => ("ThreeCompactors", "words", "[I", true)
  | 1 => ("ThreeCompactors", "roots", "[I", true)
  | 2 => ("ThreeCompactors", "starts", "[I", true)
  | 3 => ("ThreeCompactors", "reached", "[I", true)
  | 4 => ("ThreeCompactors", "newAddress", "[I", true)
  | 5 => ("ThreeCompactors", "top", "I", false)
  | 6 => ("ThreeCompactors", "objectCount", "I", false)
  | 7 => ("ThreeCompactors", "reachedCount", "I", false)
  | _ => ("ThreeCompactors", "lastSerial", "I", false)
def tyX0 : Nat → FieldType := fun k => match k with
  | 0 => .array .int
  | 1 => .array .int
  | 2 => .array .int
  | 3 => .array .int
  | 4 => .array .int
  | 5 => .int
  | 6 => .int
  | 7 => .int
  | _ => .int
theorem nmX0 : ∀ a, a < 9 → ∀ b, b < 9 → a ≠ b → (TX0 a).2.1 ≠ (TX0 b).2.1 := by decide +kernel
theorem tyX0_ok : ∀ k, k < 9 → parseFieldDescriptor (TX0 k).2.2.1 = some (tyX0 k) := by decide +kernel
abbrev RX1 : String := "ThreeCompactorsModel"
def TX1 : u_T := fun k => match k with
  | 0 => ("ThreeCompactorsModel", "thrown", "I", false)
  | 1 => ("ThreeCompactorsModel", "made", "I", false)
  | 2 => ("ThreeCompactorsModel", "used", "[Z", false)
  | 3 => ("ThreeCompactorsModel", "fields", "[I", false)
  | 4 => ("ThreeCompactorsModel", "serials", "[I", false)
  | 5 => ("ThreeCompactorsModel", "kinds", "[I", false)
  | 6 => ("ThreeCompactorsModel", "values", "[I", false)
  | 7 => ("ThreeCompactorsModel", "lives", "[Z", false)
  | 8 => ("ThreeCompactorsModel", "count", "I", false)
  | 9 => ("ThreeCompactorsModel", "order", "[I", false)
  | 10 => ("ThreeCompactorsModel", "next", "[I", false)
  | _ => ("ThreeCompactorsModel", "roots", "[I", false)
def tyX1 : Nat → FieldType := fun k => match k with
  | 0 => .int
  | 1 => .int
  | 2 => .array .boolean
  | 3 => .array .int
  | 4 => .array .int
  | 5 => .array .int
  | 6 => .array .int
  | 7 => .array .boolean
  | 8 => .int
  | 9 => .array .int
  | 10 => .array .int
  | _ => .array .int
theorem nmX1 : ∀ a, a < 12 → ∀ b, b < 12 → a ≠ b → (TX1 a).2.1 ≠ (TX1 b).2.1 := by decide +kernel
theorem tyX1_ok : ∀ k, k < 12 → parseFieldDescriptor (TX1 k).2.2.1 = some (tyX1 k) := by decide +kernel
abbrev RA : String := "java/util/Arrays"
abbrev RL : String := "ThreeCompactorsLaw"
abbrev vwCl : List vw_C := [(RX0, TX0, 9), (RX1, TX1, 12)]
abbrev tyA (cI cZ cL : ClassId) : List (ClassId × FieldType) := [(cI, .int), (cZ, .boolean), (cL, .long)]
abbrev wX (cI : ClassId) (h a1 a2 a3 a4 a5 : Nat) (w r st rc na : Nat → Int32) (tp cn rh sr : Int32) : va_W := [(h, .inr (0, [.ref a1, .ref a2, .ref a3, .ref a4, .ref a5, .int tp, .int cn, .int rh, .int sr])), (a1, .inl (cI, 256, .inl w)), (a2, .inl (cI, 8, .inl r)), (a3, .inl (cI, 128, .inl st)), (a4, .inl (cI, 128, .inl rc)), (a5, .inl (cI, 256, .inl na))]
abbrev wM (cI cZ : ClassId) (hm b1 b2 b3 b4 b5 b6 b7 b8 b9 : Nat) (th mk : Int32) (us fi se ki va li : Nat → Int32) (ct : Int32) (od ne ro : Nat → Int32) : va_W := [(hm, .inr (1, [.int th, .int mk, .ref b1, .ref b2, .ref b3, .ref b4, .ref b5, .ref b6, .int ct, .ref b7, .ref b8, .ref b9])), (b1, .inl (cZ, 128, .inl us)), (b2, .inl (cI, 128, .inl fi)), (b3, .inl (cI, 128, .inl se)), (b4, .inl (cI, 768, .inl ki)), (b5, .inl (cI, 768, .inl va)), (b6, .inl (cZ, 128, .inl li)), (b7, .inl (cI, 128, .inl od)), (b8, .inl (cI, 128, .inl ne)), (b9, .inl (cI, 8, .inl ro))]
abbrev wA (cI : ClassId) (a k : Nat) (f : Nat → Int32) : va_W := [(a, .inl (cI, k, .inl f))]
/-- every good word of the tables -/
def BG : List Cond := lw_tbl.filter goodWord
theorem BG_in : ∀ w ∈ BG, w ∈ lw_tbl := fun w h => (List.mem_filter.mp h).1
theorem BG_good : ∀ w ∈ BG, goodWord w = true := fun w h => (List.mem_filter.mp h).2
theorem gBG {h : Cond} {y : MethodName} {c : ByteArray} {n : Nat} {r : Option FieldType} (hm : Cond.code y c n r ∈ BG) : GoodIn (h :: BG) (.code y c n r :: BG) := fun w hw => by
  rcases List.mem_cons.mp hw with rfl | hw
  · exact ⟨List.mem_cons_of_mem _ hm, good_of_word (BG_good _ hm)⟩
  · exact ⟨List.mem_cons_of_mem _ hw, good_of_word (BG_good _ hw)⟩
theorem g1 {h : Cond} {w : Cond} {L : List Cond} (hw : w ∈ BG) (hL : GoodIn (h :: BG) L) : GoodIn (h :: BG) (w :: L) := fun x hx => by
  rcases List.mem_cons.mp hx with rfl | hx
  · exact ⟨List.mem_cons_of_mem _ hw, good_of_word (BG_good _ hw)⟩
  · exact hL x hx
theorem gV {h : Cond} {own C : String} {idx : Nat} {y : MethodName} {c : ByteArray} {n : Nat} {r : Option FieldType} (h1 : Cond.methodLink own idx y ∈ BG) (h2 : Cond.instanceMethod y ∈ BG) (h3 : Cond.selects C y y ∈ BG) (h4 : Cond.initialized C ∈ BG) (hm : Cond.code y c n r ∈ BG) : GoodIn (h :: BG) (wsV own idx C y (.code y c n r :: BG)) := g1 h1 (g1 h2 (g1 h3 (g1 h4 (gBG hm))))
theorem gS {h : Cond} {own : String} {idx : Nat} {y : MethodName} {c : ByteArray} {n : Nat} {r : Option FieldType} (h1 : Cond.methodLink own idx y ∈ BG) (h2 : Cond.static y ∈ BG) (h4 : Cond.initialized y.cls ∈ BG) (hm : Cond.code y c n r ∈ BG) : GoodIn (h :: BG) (va_wsS own idx y (.code y c n r :: BG)) := g1 h1 (g1 h2 (g1 h4 (gBG hm)))
set_option maxRecDepth 100000 in
theorem inX0 : ∀ w ∈ u_ws RX0 TX0 9, w ∈ BG := by decide +kernel
set_option maxRecDepth 100000 in
theorem inX1 : ∀ w ∈ u_ws RX1 TX1 12, w ∈ BG := by decide +kernel
end
section
/-! Base rows of mine: a pure reading of a method is a function into Option (none: out of bounds, or out of fuel); these rows tie its steps to the machine's. -/
def FU : Nat := 1024
def ldI (n : Nat) (f : Nat → Int32) (i : Int32) : Option Int32 := if i < 0 ∨ n ≤ i.toNatClampNeg then none else some (f i.toNatClampNeg)
def stI (n : Nat) (f : Nat → Int32) (i x : Int32) : Option (Nat → Int32) := if i < 0 ∨ n ≤ i.toNatClampNeg then none else some (upd f i.toNatClampNeg x)
def stZ (n : Nat) (f : Nat → Int32) (i x : Int32) : Option (Nat → Int32) := if i < 0 ∨ n ≤ i.toNatClampNeg then none else some (upd f i.toNatClampNeg (vp_nar .boolean x))
def ldL (n : Nat) (f : Nat → Int64) (i : Int32) : Option Int64 := if i < 0 ∨ n ≤ i.toNatClampNeg then none else some (f i.toNatClampNeg)
def stL (n : Nat) (f : Nat → Int64) (i : Int32) (x : Int64) : Option (Nat → Int64) := if i < 0 ∨ n ≤ i.toNatClampNeg then none else some (vp_updL f i.toNatClampNeg x)
def cpI (n : Nat) (f : Nat → Int32) (sp dp k : Int32) : Option (Nat → Int32) := if sp < 0 ∨ dp < 0 ∨ k < 0 ∨ n < sp.toNatClampNeg + k.toNatClampNeg ∨ n < dp.toNatClampNeg + k.toNatClampNeg then none else some (va_cpy f f sp.toNatClampNeg dp.toNatClampNeg k.toNatClampNeg)
def rtZ (v : Int32) : Option Int32 := if v = 0 ∨ v = 1 then some v else none
theorem ldI_some {n : Nat} {f : Nat → Int32} {i v : Int32} (h : ldI n f i = some v) : vp_in i n ∧ v = f i.toNatClampNeg := by
  unfold ldI at h
  split at h
  · cases h
  · rename_i hn; cases h; exact ⟨hn, rfl⟩
theorem stI_some {n : Nat} {f g : Nat → Int32} {i x : Int32} (h : stI n f i x = some g) : vp_in i n ∧ g = upd f i.toNatClampNeg x := by
  unfold stI at h
  split at h
  · cases h
  · rename_i hn; cases h; exact ⟨hn, rfl⟩
theorem stZ_some {n : Nat} {f g : Nat → Int32} {i x : Int32} (h : stZ n f i x = some g) : vp_in i n ∧ g = upd f i.toNatClampNeg (vp_nar .boolean x) := by
  unfold stZ at h
  split at h
  · cases h
  · rename_i hn; cases h; exact ⟨hn, rfl⟩
theorem ldL_some {n : Nat} {f : Nat → Int64} {i : Int32} {v : Int64} (h : ldL n f i = some v) : vp_in i n ∧ v = f i.toNatClampNeg := by
  unfold ldL at h
  split at h
  · cases h
  · rename_i hn; cases h; exact ⟨hn, rfl⟩
theorem stL_some {n : Nat} {f g : Nat → Int64} {i : Int32} {x : Int64} (h : stL n f i x = some g) : vp_in i n ∧ g = vp_updL f i.toNatClampNeg x := by
  unfold stL at h
  split at h
  · cases h
  · rename_i hn; cases h; exact ⟨hn, rfl⟩
theorem rtZ_some {v r : Int32} (h : rtZ v = some r) : r = v ∧ narrow .boolean (.int v) = .int v := by
  unfold rtZ at h
  split at h
  · rename_i hn; cases h; rcases hn with rfl | rfl <;> exact ⟨rfl, rfl⟩
  · cases h
theorem bd {α β : Type} {o : Option α} {f : α → Option β} {r : β} (h : o.bind f = some r) : ∃ v, o = some v ∧ f v = some r := by
  cases o with
  | none => cases h
  | some v => exact ⟨v, rfl, h⟩
theorem ift {α : Type} {c : Prop} {d : Decidable c} {a b r : α} (h : c) (e : (@ite α c d a b) = r) : a = r := (if_pos h).symm.trans e
theorem ifn {α : Type} {c : Prop} {d : Decidable c} {a b r : α} (h : ¬ c) (e : (@ite α c d a b) = r) : b = r := (if_neg h).symm.trans e
theorem filt {ws wc : va_W} (isC : List Nat) (h : isC.map (fun i => ws[i]?) = wc.map some) : isC.filterMap (fun i => ws[i]?) = wc := by
  have h2 := congrArg (List.filterMap id) h
  rw [List.filterMap_map, List.filterMap_map] at h2
  have e1 : (id ∘ fun (i : Nat) => ws[i]?) = (fun i => ws[i]?) := rfl
  have e2 : (id ∘ (some : (Nat × va_E) → Option (Nat × va_E))) = some := rfl
  rw [e1, e2, List.filterMap_some] at h2
  exact h2
/-- a method's start, its end: the world W, and what the tables say -/
abbrev q_pre (D : va_G) (cl : List vw_C) (tys : List (ClassId × FieldType)) (sz : Nat) (W : va_W) : State → Prop := fun U => U.heap.size = sz ∧ va_P D cl W U.heap ∧ va_K D cl tys U ∧ va_D (fun _ => True) W
abbrev q_post (D : va_G) (cl : List vw_C) (tys : List (ClassId × FieldType)) (A : Nat → Prop) (W : va_W) : State → Prop := fun t => va_P D cl W t.heap ∧ va_K D cl tys t ∧ va_D A W
section QR
variable {p : Program} {l : Launch} {e : Env} {R : Room} {s : State} {m : MethodId} {args : Array Value} {below : List Frame} {meth : Method} {c : Code} {H : Heap} {locs : List Loc} {cells slots : Nat} {Q : State → Prop}
variable {cc : ByteArray} {pc : Nat} {ls : Array Slot} {rest st0 : List Value} {D : va_G} {cl : List vw_C} {A : Nat → Prop} {a : Nat} {tys : List (ClassId × FieldType)} {ws wc wr w1 : va_W} {H0 : Heap} {aa : Array Value}
theorem q_ild (hexec : p.tables.exec = Jvm.exec) (hb : c.code = cc) (hK : va_K D cl tys s) (hP : va_P D cl ws H) (q0 t0 : Nat) {cA : ClassId} {n : Nat} {f : Nat → Int32} (ha : ws[q0]? = some (a, .inl (cA, n, .inl f))) (ht : tys[t0]? = some (cA, .int)) {i v : Int32} (hv : ldI n f i = some v) (hdg : decode cc pc = .ok (.iaload, 1))
    (kk : W p l e R s m args below meth c H locs cells slots Q (F0 m (pc + 1) ls (.int v :: rest))) : W p l e R s m args below meth c H locs cells slots Q (F0 m pc ls (.int i :: .ref a :: rest)) := by
  obtain ⟨h1, rfl⟩ := ldI_some hv
  exact va_iald hexec hb hK hP q0 t0 ha ht h1 hdg kk
theorem q_zld (hexec : p.tables.exec = Jvm.exec) (hb : c.code = cc) (hK : va_K D cl tys s) (hP : va_P D cl ws H) (q0 t0 : Nat) {cA : ClassId} {n : Nat} {f : Nat → Int32} (ha : ws[q0]? = some (a, .inl (cA, n, .inl f))) (ht : tys[t0]? = some (cA, .boolean)) {i v : Int32} (hv : ldI n f i = some v) (hdg : decode cc pc = .ok (.baload, 1))
    (kk : W p l e R s m args below meth c H locs cells slots Q (F0 m (pc + 1) ls (.int v :: rest))) : W p l e R s m args below meth c H locs cells slots Q (F0 m pc ls (.int i :: .ref a :: rest)) := by
  obtain ⟨h1, rfl⟩ := ldI_some hv
  exact va_zald hexec hb hK hP q0 t0 ha ht h1 hdg kk
theorem q_lld (hexec : p.tables.exec = Jvm.exec) (hb : c.code = cc) (hK : va_K D cl tys s) (hP : va_P D cl ws H) (q0 t0 : Nat) {cA : ClassId} {n : Nat} {f : Nat → Int64} (ha : ws[q0]? = some (a, .inl (cA, n, .inr (.inl f)))) (ht : tys[t0]? = some (cA, .long)) {i : Int32} {v : Int64} (hv : ldL n f i = some v) (hdg : decode cc pc = .ok (.laload, 1))
    (kk : W p l e R s m args below meth c H locs cells slots Q (F0 m (pc + 1) ls (.long v :: rest))) : W p l e R s m args below meth c H locs cells slots Q (F0 m pc ls (.int i :: .ref a :: rest)) := by
  obtain ⟨h1, rfl⟩ := ldL_some hv
  exact va_lald hexec hb hK hP q0 t0 ha ht h1 hdg kk
theorem q_ist (hexec : p.tables.exec = Jvm.exec) (hb : c.code = cc) (hK : va_K D cl tys s) (hP : va_P D cl ws H) (hD : va_D A ws) (hS : va_S A H0 H locs) (q0 t0 : Nat) {cA : ClassId} {n : Nat} {f g : Nat → Int32} (ha : ws[q0]? = some (a, .inl (cA, n, .inl f))) (ht : tys[t0]? = some (cA, .int)) {i x : Int32} (hv : stI n f i x = some g) (hdg : decode cc pc = .ok (.iastore, 1))
    (kk : ∀ (H1 : Heap) (locs1 : List Loc), va_P D cl (ws.set q0 (a, .inl (cA, n, .inl g))) H1 → va_D A (ws.set q0 (a, .inl (cA, n, .inl g))) → va_S A H0 H1 locs1 → W p l e R s m args below meth c H1 locs1 cells slots Q (F0 m (pc + 1) ls rest)) : W p l e R s m args below meth c H locs cells slots Q (F0 m pc ls (.int x :: .int i :: .ref a :: rest)) := by
  obtain ⟨h1, rfl⟩ := stI_some hv
  exact va_iast hexec hb hK hP hD hS q0 t0 ha ht h1 hdg kk
theorem q_zst (hexec : p.tables.exec = Jvm.exec) (hb : c.code = cc) (hK : va_K D cl tys s) (hP : va_P D cl ws H) (hD : va_D A ws) (hS : va_S A H0 H locs) (q0 t0 : Nat) {cA : ClassId} {n : Nat} {f g : Nat → Int32} (ha : ws[q0]? = some (a, .inl (cA, n, .inl f))) (ht : tys[t0]? = some (cA, .boolean)) {i x : Int32} (hv : stZ n f i x = some g) (hdg : decode cc pc = .ok (.bastore, 1))
    (kk : ∀ (H1 : Heap) (locs1 : List Loc), va_P D cl (ws.set q0 (a, .inl (cA, n, .inl g))) H1 → va_D A (ws.set q0 (a, .inl (cA, n, .inl g))) → va_S A H0 H1 locs1 → W p l e R s m args below meth c H1 locs1 cells slots Q (F0 m (pc + 1) ls rest)) : W p l e R s m args below meth c H locs cells slots Q (F0 m pc ls (.int x :: .int i :: .ref a :: rest)) := by
  obtain ⟨h1, rfl⟩ := stZ_some hv
  exact va_zast hexec hb hK hP hD hS q0 t0 ha ht h1 hdg kk
theorem q_lst (hexec : p.tables.exec = Jvm.exec) (hb : c.code = cc) (hK : va_K D cl tys s) (hP : va_P D cl ws H) (hD : va_D A ws) (hS : va_S A H0 H locs) (q0 t0 : Nat) {cA : ClassId} {n : Nat} {f g : Nat → Int64} (ha : ws[q0]? = some (a, .inl (cA, n, .inr (.inl f)))) (ht : tys[t0]? = some (cA, .long)) {i : Int32} {x : Int64} (hv : stL n f i x = some g) (hdg : decode cc pc = .ok (.lastore, 1))
    (kk : ∀ (H1 : Heap) (locs1 : List Loc), va_P D cl (ws.set q0 (a, .inl (cA, n, .inr (.inl g)))) H1 → va_D A (ws.set q0 (a, .inl (cA, n, .inr (.inl g)))) → va_S A H0 H1 locs1 → W p l e R s m args below meth c H1 locs1 cells slots Q (F0 m (pc + 1) ls rest)) : W p l e R s m args below meth c H locs cells slots Q (F0 m pc ls (.long x :: .int i :: .ref a :: rest)) := by
  obtain ⟨h1, rfl⟩ := stL_some hv
  exact va_last hexec hb hK hP hD hS q0 t0 ha ht h1 hdg kk
/-- before a call: the callee's cells are at the places isC of the caller's world -/
theorem q_blind {av : List Value} {sz : Nat} : FrameBlind (va_Pc av (q_pre D cl tys sz wc)) := fun a U g mk q => by
  obtain ⟨q0, q1, qP, qK, qD⟩ := q
  exact ⟨q0, q1, qP, va_K.moved (u := U) (U := U.calling g mk a) (Vm.Alike.refl U.vm) qK, qD⟩
theorem q_preS (av : List Value) (hK : va_K D cl tys s) (hP : va_P D cl ws H) (hD : va_D A ws) (isC : List Nat) (hn : va_nd isC = true) (hC : isC.map (fun i => ws[i]?) = wc.map some) : PreS s H (va_Pc av (q_pre D cl tys H.size wc)) av :=
  ⟨q_blind, fun U hU hW => ⟨rfl, by rw [hU], by rw [hU]; exact hP.sub isC (filt isC hC), va_K.moved hW.alike hK, (hD.sub isC hn hC).weaken (fun _ _ _ _ => trivial)⟩⟩
theorem q_preV (As : List Value) (hK : va_K D cl tys s) (hP : va_P D cl ws H) (hD : va_D A ws) (isC : List Nat) (hn : va_nd isC = true) (hC : isC.map (fun i => ws[i]?) = wc.map some) {ci b : Nat} {q : vw_C} {fs : List Value} (hc : cl[ci]? = some q) (he : wc[0]? = some (b, .inr (ci, fs))) : PreV s H q.1 b (va_Pc (.ref b :: As) (q_pre D cl tys H.size wc)) As :=
  ⟨q_blind, va_recv hK (hP.sub isC (filt isC hC)) hc he, fun U hU hW => ⟨rfl, by rw [hU], by rw [hU]; exact hP.sub isC (filt isC hC), va_K.moved hW.alike hK, (hD.sub isC hn hC).weaken (fun _ _ _ _ => trivial)⟩⟩
/-- behind a call that answers an int, or nothing -/
theorem q_ci {res : Int32} (hr : va_Run p l e R s m args below meth c H locs cells slots 0 0 (F0 m pc ls st0) rest (va_Qi (fun r (_ : Unit) => r = res) (fun _ => q_post D cl tys (va_A wc H.size) w1) (va_A wc H.size) aa) (va_A wc H.size)) (hP : va_P D cl ws H) (hD : va_D A ws) (hS : va_S A s.heap H locs) (hA : ∀ q, s.heap.size ≤ q → A q) (isC isR : List Nat) (hC : isC.map (fun i => ws[i]?) = wc.map some) (hR : isR.map (fun i => ws[i]?) = wr.map some) (hn : va_nd isR = true) (hdis : ∀ i ∈ isR, i ∉ isC)
    (kk : ∀ (H1 : Heap) (locs1 : List Loc), va_P D cl (wr ++ w1) H1 → va_D A (wr ++ w1) → va_S A s.heap H1 locs1 → W p l e R s m args below meth c H1 locs1 cells slots Q (F0 m (pc + 3) ls (.int res :: rest))) : W p l e R s m args below meth c H locs cells slots Q (F0 m pc ls st0) := by
  have hFc := va_free (wc := wc) hD hS hA isC hC
  refine va_calli hr hS (fun q _ h => hFc q h) hFc (fun r u t H1 locs1 ht hvm hw hB hz1 hk1 hS1 => ?_)
  obtain ⟨hP1, hK1, hD1⟩ := hB
  rw [ht] at hP1
  subst hw
  obtain ⟨hP2, hD2⟩ := va_join hP hD isC isR hC hR hn hdis hk1 hFc hP1 hD1
  exact kk H1 locs1 hP2 hD2 hS1
theorem q_cv (hr : va_Run p l e R s m args below meth c H locs cells slots 0 0 (F0 m pc ls st0) rest (va_Qv (fun (_ : Unit) => True) (fun _ => q_post D cl tys (va_A wc H.size) w1) (va_A wc H.size) aa) (va_A wc H.size)) (hP : va_P D cl ws H) (hD : va_D A ws) (hS : va_S A s.heap H locs) (hA : ∀ q, s.heap.size ≤ q → A q) (isC isR : List Nat) (hC : isC.map (fun i => ws[i]?) = wc.map some) (hR : isR.map (fun i => ws[i]?) = wr.map some) (hn : va_nd isR = true) (hdis : ∀ i ∈ isR, i ∉ isC)
    (kk : ∀ (H1 : Heap) (locs1 : List Loc), va_P D cl (wr ++ w1) H1 → va_D A (wr ++ w1) → va_S A s.heap H1 locs1 → W p l e R s m args below meth c H1 locs1 cells slots Q (F0 m (pc + 3) ls rest)) : W p l e R s m args below meth c H locs cells slots Q (F0 m pc ls st0) := by
  have hFc := va_free (wc := wc) hD hS hA isC hC
  refine va_callv hr hS (fun q _ h => hFc q h) hFc (fun u t H1 locs1 ht hvm hw hB hz1 hk1 hS1 => ?_)
  obtain ⟨hP1, hK1, hD1⟩ := hB
  rw [ht] at hP1
  obtain ⟨hP2, hD2⟩ := va_join hP hD isC isR hC hR hn hdis hk1 hFc hP1 hD1
  exact kk H1 locs1 hP2 hD2 hS1
end QR
/-! exceptions: 'e' of a pure reading is 0 (it returned) or a number of q_E -/
def q_E (k : Nat) : String := match k with
  | 1 => "java/lang/IndexOutOfBoundsException"
  | 2 => "java/lang/IllegalArgumentException"
  | 3 => "java/lang/IllegalStateException"
  | 4 => "java/lang/UnsupportedOperationException"
  | 5 => "java/util/NoSuchElementException"
  | _ => ""
abbrev q_Z (A : Nat → Prop) (U : State) (H : Heap) : Prop := vx_Zq Bundle.tN "UNASSIGNED_STACK" Bundle.steD A U H ∧ vx_Zq Bundle.tN "SUPPRESSED_SENTINEL" Bundle.listD A U H
/-- the class's texts, each by its number in the pool -/
def q_T (own : String) (tx : List (Nat × String)) (U : State) : Prop := ∀ q ∈ tx, ∃ a, vk_R own q.1 q.2 a U
theorem q_T.same {own : String} {tx : List (Nat × String)} {u U : State} (hv : U.vm = u.vm) (h : q_T own tx u) : q_T own tx U := fun q hq => by
  obtain ⟨a, ha⟩ := h q hq
  exact ⟨a, ha.same hv⟩
theorem q_T.warm {own : String} {tx : List (Nat × String)} {s U : State} (hW : s.WarmedH U.vm) (h : q_T own tx s) : q_T own tx U := fun q hq => by
  obtain ⟨a, ha⟩ := h q hq
  exact ⟨a, ha.warm hW⟩
def q_mc (e : Nat) : Nat := if e = 0 then 0 else 1
def q_ms (e : Nat) : Nat := if e = 0 then 0 else 6
theorem q_le0 (x : Nat) : 0 + q_mc 0 ≤ x ∧ 0 + q_ms 0 ≤ x := ⟨Nat.zero_le _, Nat.zero_le _⟩
def q_dec : List MethodName := [Bundle.initS "java/lang/RuntimeException", Bundle.initS "java/lang/Exception", Bundle.initS Bundle.tN]
def q_cs : List String := ["java/lang/IndexOutOfBoundsException", "java/lang/IllegalArgumentException", "java/lang/IllegalStateException", "java/lang/UnsupportedOperationException", "java/util/NoSuchElementException"]
def q_N (U : State) : Prop := (∀ x ∈ q_dec, va_Nw (.declares x) U) ∧ ∀ X ∈ q_cs, va_Nw (.castable X X) U
theorem q_N.warm {s U : State} (hW : s.WarmedH U.vm) (h : q_N s) : q_N U := ⟨fun x hx => va_Nw.warmD hW (h.1 x hx), fun X hX => va_Nw.warmC hW (h.2 X hX)⟩
theorem q_N.same {u U : State} (hv : u.vm = U.vm) (h : q_N u) : q_N U := ⟨fun x hx => va_Nw.same rfl hv (h.1 x hx), fun X hX => va_Nw.same rfl hv (h.2 X hX)⟩
def q_B (X : String) : List Cond := q_dec.map Cond.declares ++ [.castable X X]
theorem q_hat {args : Array Value} {s : State} (h : q_N s) {X : String} (hX : X ∈ q_cs) : ∀ w ∈ q_B X, w.before args s = true := fun w hw => by
  rcases List.mem_append.mp hw with h1 | h1
  · obtain ⟨x, hx, rfl⟩ := List.mem_map.mp h1
    exact va_Nw.use rfl (h.1 x hx)
  · rw [List.mem_singleton] at h1
    subst h1
    exact va_Nw.use rfl (h.2 X hX)
abbrev q_preX (D : va_G) (cl : List vw_C) (tys : List (ClassId × FieldType)) (own : String) (tx : List (Nat × String)) (sz : Nat) (W : va_W) : State → Prop := fun U => U.heap.size = sz ∧ va_P D cl W U.heap ∧ va_K D cl tys U ∧ va_D (fun _ => True) W ∧ q_Z (va_A W sz) U U.heap ∧ q_T own tx U ∧ q_N U
section QX
variable {p : Program} {l : Launch} {e : Env} {R : Room} {s : State} {m : MethodId} {args : Array Value} {below : List Frame} {meth : Method} {c : Code} {H : Heap} {locs : List Loc} {cells slots mc ms : Nat} {Q : State → Prop}
variable {cc : ByteArray} {pc : Nat} {ls : Array Slot} {rest st0 : List Value} {D : va_G} {cl : List vw_C} {A : Nat → Prop} {a : Nat} {tys : List (ClassId × FieldType)} {ws wc wr w1 : va_W} {aa : Array Value} {own : String} {tx : List (Nat × String)}
theorem q_Z.to {U : State} (hZ : q_Z A s s.heap) (hD : va_D A ws) (hS : va_S A s.heap H locs) (hA : ∀ q, s.heap.size ≤ q → A q) (isC : List Nat) (hC : isC.map (fun i => ws[i]?) = wc.map some) (hU : U.heap = H) (hW : s.vm.Alike U.vm) : q_Z (va_A wc H.size) U U.heap := by
  have hFc := va_free (wc := wc) hD hS hA isC hC
  rw [hU]
  exact ⟨(((hZ.1.kept hS.2.1).narrow hFc).moved hW), (((hZ.2.kept hS.2.1).narrow hFc).moved hW)⟩
theorem q_blindX {av : List Value} {sz : Nat} : FrameBlind (va_Pc av (q_preX D cl tys own tx sz wc)) := fun a U g mk q => by
  obtain ⟨q0, q1, qP, qK, qD, qZ, qT, qN⟩ := q
  exact ⟨q0, q1, qP, va_K.moved (u := U) (U := U.calling g mk a) (Vm.Alike.refl U.vm) qK, qD, ⟨qZ.1.moved (U := U.calling g mk a) (Vm.Alike.refl U.vm), qZ.2.moved (U := U.calling g mk a) (Vm.Alike.refl U.vm)⟩, qT.same rfl, qN.same rfl⟩
theorem q_preXS (av : List Value) (hK : va_K D cl tys s) (hP : va_P D cl ws H) (hD : va_D A ws) (hS : va_S A s.heap H locs) (hA : ∀ q, s.heap.size ≤ q → A q) (hZ : q_Z A s s.heap) (hT : q_T own tx s) (hN : q_N s) (isC : List Nat) (hn : va_nd isC = true) (hC : isC.map (fun i => ws[i]?) = wc.map some) : PreS s H (va_Pc av (q_preX D cl tys own tx H.size wc)) av :=
  ⟨q_blindX, fun U hU hW => ⟨rfl, by rw [hU], by rw [hU]; exact hP.sub isC (filt isC hC), va_K.moved hW.alike hK, (hD.sub isC hn hC).weaken (fun _ _ _ _ => trivial), q_Z.to hZ hD hS hA isC hC hU hW.alike, hT.warm hW, hN.warm hW⟩⟩
theorem q_preXV (As : List Value) (hK : va_K D cl tys s) (hP : va_P D cl ws H) (hD : va_D A ws) (hS : va_S A s.heap H locs) (hA : ∀ q, s.heap.size ≤ q → A q) (hZ : q_Z A s s.heap) (hT : q_T own tx s) (hN : q_N s) (isC : List Nat) (hn : va_nd isC = true) (hC : isC.map (fun i => ws[i]?) = wc.map some) {ci b : Nat} {q : vw_C} {fs : List Value} (hc : cl[ci]? = some q) (he : wc[0]? = some (b, .inr (ci, fs))) : PreV s H q.1 b (va_Pc (.ref b :: As) (q_preX D cl tys own tx H.size wc)) As :=
  ⟨q_blindX, va_recv hK (hP.sub isC (filt isC hC)) hc he, fun U hU hW => ⟨rfl, by rw [hU], by rw [hU]; exact hP.sub isC (filt isC hC), va_K.moved hW.alike hK, (hD.sub isC hn hC).weaken (fun _ _ _ _ => trivial), q_Z.to hZ hD hS hA isC hC hU hW.alike, hT.warm hW, hN.warm hW⟩⟩
/-- behind a call that may throw -/
theorem q_xi {ef : Nat} {res : Int32} (hr : vx_Run p l e R s m args below meth c H locs cells slots mc ms (F0 m pc ls st0) rest (va_Qi (fun r (_ : Unit) => ef = 0 ∧ r = res) (fun _ => q_post D cl tys (va_A wc H.size) w1) (va_A wc H.size) aa) (vx_X (fun (_ : Unit) => ¬ ef = 0) (fun E _ t => E = q_E ef ∧ q_post D cl tys (va_A wc H.size) w1 t) (va_A wc H.size)) (va_A wc H.size)) (hP : va_P D cl ws H) (hD : va_D A ws) (hS : va_S A s.heap H locs) (hA : ∀ q, s.heap.size ≤ q → A q) (isC isR : List Nat) (hC : isC.map (fun i => ws[i]?) = wc.map some) (hR : isR.map (fun i => ws[i]?) = wr.map some) (hn : va_nd isR = true) (hdis : ∀ i ∈ isR, i ∉ isC)
    (kx : ¬ ef = 0 → ∀ (ce : Cell) (q9 : Addr) (H1 : Heap) (locs1 : List Loc), va_P D cl (wr ++ w1) H1 → va_D A (wr ++ w1) → va_S A s.heap H1 locs1 → H1[q9]? = some ce → ce.vm = .none → s.vm.findClass (q_E ef) = some ce.cls → vx_W p l e R s m args below meth c H1 locs1 (cells + mc) (slots + ms) Q (F0 m pc ls rest) q9)
    (kk : ef = 0 → ∀ (H1 : Heap) (locs1 : List Loc), va_P D cl (wr ++ w1) H1 → va_D A (wr ++ w1) → va_S A s.heap H1 locs1 → W p l e R s m args below meth c H1 locs1 (cells + mc) (slots + ms) Q (F0 m (pc + 3) ls (.int res :: rest))) : W p l e R s m args below meth c H locs cells slots Q (F0 m pc ls st0) := by
  have hFc := va_free (wc := wc) hD hS hA isC hC
  refine vx_calli hr hS (fun q _ h => hFc q h) hFc (fun q _ h => hFc q h) (fun E ce q9 u t H1 locs1 ht hvm hw hB hz1 hk1 hS1 hc1 hc2 hc3 => ?_) (fun r u t H1 locs1 ht hvm hw hB hz1 hk1 hS1 => ?_)
  · obtain ⟨rfl, hP1, hK1, hD1⟩ := hB
    rw [ht] at hP1
    obtain ⟨hP2, hD2⟩ := va_join hP hD isC isR hC hR hn hdis hk1 hFc hP1 hD1
    exact kx hw ce q9 H1 locs1 hP2 hD2 hS1 hc1 hc2 hc3
  · obtain ⟨hP1, hK1, hD1⟩ := hB
    rw [ht] at hP1
    obtain ⟨hw1, rfl⟩ := hw
    obtain ⟨hP2, hD2⟩ := va_join hP hD isC isR hC hR hn hdis hk1 hFc hP1 hD1
    exact kk hw1 H1 locs1 hP2 hD2 hS1
theorem q_xv {ef : Nat} (hr : vx_Run p l e R s m args below meth c H locs cells slots mc ms (F0 m pc ls st0) rest (va_Qv (fun (_ : Unit) => ef = 0) (fun _ => q_post D cl tys (va_A wc H.size) w1) (va_A wc H.size) aa) (vx_X (fun (_ : Unit) => ¬ ef = 0) (fun E _ t => E = q_E ef ∧ q_post D cl tys (va_A wc H.size) w1 t) (va_A wc H.size)) (va_A wc H.size)) (hP : va_P D cl ws H) (hD : va_D A ws) (hS : va_S A s.heap H locs) (hA : ∀ q, s.heap.size ≤ q → A q) (isC isR : List Nat) (hC : isC.map (fun i => ws[i]?) = wc.map some) (hR : isR.map (fun i => ws[i]?) = wr.map some) (hn : va_nd isR = true) (hdis : ∀ i ∈ isR, i ∉ isC)
    (kx : ¬ ef = 0 → ∀ (ce : Cell) (q9 : Addr) (H1 : Heap) (locs1 : List Loc), va_P D cl (wr ++ w1) H1 → va_D A (wr ++ w1) → va_S A s.heap H1 locs1 → H1[q9]? = some ce → ce.vm = .none → s.vm.findClass (q_E ef) = some ce.cls → vx_W p l e R s m args below meth c H1 locs1 (cells + mc) (slots + ms) Q (F0 m pc ls rest) q9)
    (kk : ef = 0 → ∀ (H1 : Heap) (locs1 : List Loc), va_P D cl (wr ++ w1) H1 → va_D A (wr ++ w1) → va_S A s.heap H1 locs1 → W p l e R s m args below meth c H1 locs1 (cells + mc) (slots + ms) Q (F0 m (pc + 3) ls rest)) : W p l e R s m args below meth c H locs cells slots Q (F0 m pc ls st0) := by
  have hFc := va_free (wc := wc) hD hS hA isC hC
  refine vx_callv hr hS (fun q _ h => hFc q h) hFc (fun q _ h => hFc q h) (fun E ce q9 u t H1 locs1 ht hvm hw hB hz1 hk1 hS1 hc1 hc2 hc3 => ?_) (fun u t H1 locs1 ht hvm hw hB hz1 hk1 hS1 => ?_)
  · obtain ⟨rfl, hP1, hK1, hD1⟩ := hB
    rw [ht] at hP1
    obtain ⟨hP2, hD2⟩ := va_join hP hD isC isR hC hR hn hdis hk1 hFc hP1 hD1
    exact kx hw ce q9 H1 locs1 hP2 hD2 hS1 hc1 hc2 hc3
  · obtain ⟨hP1, hK1, hD1⟩ := hB
    rw [ht] at hP1
    obtain ⟨hP2, hD2⟩ := va_join hP hD isC isR hC hR hn hdis hk1 hFc hP1 hD1
    exact kk hw H1 locs1 hP2 hD2 hS1
theorem q_ni {res : Int32} (hr : vx_Run p l e R s m args below meth c H locs cells slots (q_mc 0) (q_ms 0) (F0 m pc ls st0) rest (va_Qi (fun r (_ : Unit) => (0 : Nat) = 0 ∧ r = res) (fun _ => q_post D cl tys (va_A wc H.size) w1) (va_A wc H.size) aa) (vx_X (fun (_ : Unit) => ¬ (0 : Nat) = 0) (fun E _ t => E = q_E (0 : Nat) ∧ q_post D cl tys (va_A wc H.size) w1 t) (va_A wc H.size)) (va_A wc H.size)) (hP : va_P D cl ws H) (hD : va_D A ws) (hS : va_S A s.heap H locs) (hA : ∀ q, s.heap.size ≤ q → A q) (isC isR : List Nat) (hC : isC.map (fun i => ws[i]?) = wc.map some) (hR : isR.map (fun i => ws[i]?) = wr.map some) (hn : va_nd isR = true) (hdis : ∀ i ∈ isR, i ∉ isC)
    (kk : ∀ (H1 : Heap) (locs1 : List Loc), va_P D cl (wr ++ w1) H1 → va_D A (wr ++ w1) → va_S A s.heap H1 locs1 → W p l e R s m args below meth c H1 locs1 cells slots Q (F0 m (pc + 3) ls (.int res :: rest))) : W p l e R s m args below meth c H locs cells slots Q (F0 m pc ls st0) :=
  q_xi hr hP hD hS hA isC isR hC hR hn hdis (fun h => absurd rfl h) (fun _ H1 locs1 a1 a2 a3 => kk H1 locs1 a1 a2 a3)
theorem q_ti {ef : Nat} {res : Int32} (he : ¬ ef = 0) (hr : vx_Run p l e R s m args below meth c H locs cells slots mc ms (F0 m pc ls st0) rest (va_Qi (fun r (_ : Unit) => ef = 0 ∧ r = res) (fun _ => q_post D cl tys (va_A wc H.size) w1) (va_A wc H.size) aa) (vx_X (fun (_ : Unit) => ¬ ef = 0) (fun E _ t => E = q_E ef ∧ q_post D cl tys (va_A wc H.size) w1 t) (va_A wc H.size)) (va_A wc H.size)) (hP : va_P D cl ws H) (hD : va_D A ws) (hS : va_S A s.heap H locs) (hA : ∀ q, s.heap.size ≤ q → A q) (isC isR : List Nat) (hC : isC.map (fun i => ws[i]?) = wc.map some) (hR : isR.map (fun i => ws[i]?) = wr.map some) (hn : va_nd isR = true) (hdis : ∀ i ∈ isR, i ∉ isC)
    (kx : ∀ (ce : Cell) (q9 : Addr) (H1 : Heap) (locs1 : List Loc), va_P D cl (wr ++ w1) H1 → va_D A (wr ++ w1) → va_S A s.heap H1 locs1 → H1[q9]? = some ce → ce.vm = .none → s.vm.findClass (q_E ef) = some ce.cls → vx_W p l e R s m args below meth c H1 locs1 (cells + mc) (slots + ms) Q (F0 m pc ls rest) q9) : W p l e R s m args below meth c H locs cells slots Q (F0 m pc ls st0) :=
  q_xi hr hP hD hS hA isC isR hC hR hn hdis (fun _ => kx) (fun h => absurd h he)
theorem q_nv (hr : vx_Run p l e R s m args below meth c H locs cells slots (q_mc 0) (q_ms 0) (F0 m pc ls st0) rest (va_Qv (fun (_ : Unit) => (0 : Nat) = 0) (fun _ => q_post D cl tys (va_A wc H.size) w1) (va_A wc H.size) aa) (vx_X (fun (_ : Unit) => ¬ (0 : Nat) = 0) (fun E _ t => E = q_E (0 : Nat) ∧ q_post D cl tys (va_A wc H.size) w1 t) (va_A wc H.size)) (va_A wc H.size)) (hP : va_P D cl ws H) (hD : va_D A ws) (hS : va_S A s.heap H locs) (hA : ∀ q, s.heap.size ≤ q → A q) (isC isR : List Nat) (hC : isC.map (fun i => ws[i]?) = wc.map some) (hR : isR.map (fun i => ws[i]?) = wr.map some) (hn : va_nd isR = true) (hdis : ∀ i ∈ isR, i ∉ isC)
    (kk : ∀ (H1 : Heap) (locs1 : List Loc), va_P D cl (wr ++ w1) H1 → va_D A (wr ++ w1) → va_S A s.heap H1 locs1 → W p l e R s m args below meth c H1 locs1 cells slots Q (F0 m (pc + 3) ls rest)) : W p l e R s m args below meth c H locs cells slots Q (F0 m pc ls st0) :=
  q_xv hr hP hD hS hA isC isR hC hR hn hdis (fun h => absurd rfl h) (fun _ H1 locs1 a1 a2 a3 => kk H1 locs1 a1 a2 a3)
theorem q_tv {ef : Nat} (he : ¬ ef = 0) (hr : vx_Run p l e R s m args below meth c H locs cells slots mc ms (F0 m pc ls st0) rest (va_Qv (fun (_ : Unit) => ef = 0) (fun _ => q_post D cl tys (va_A wc H.size) w1) (va_A wc H.size) aa) (vx_X (fun (_ : Unit) => ¬ ef = 0) (fun E _ t => E = q_E ef ∧ q_post D cl tys (va_A wc H.size) w1 t) (va_A wc H.size)) (va_A wc H.size)) (hP : va_P D cl ws H) (hD : va_D A ws) (hS : va_S A s.heap H locs) (hA : ∀ q, s.heap.size ≤ q → A q) (isC isR : List Nat) (hC : isC.map (fun i => ws[i]?) = wc.map some) (hR : isR.map (fun i => ws[i]?) = wr.map some) (hn : va_nd isR = true) (hdis : ∀ i ∈ isR, i ∉ isC)
    (kx : ∀ (ce : Cell) (q9 : Addr) (H1 : Heap) (locs1 : List Loc), va_P D cl (wr ++ w1) H1 → va_D A (wr ++ w1) → va_S A s.heap H1 locs1 → H1[q9]? = some ce → ce.vm = .none → s.vm.findClass (q_E ef) = some ce.cls → vx_W p l e R s m args below meth c H1 locs1 (cells + mc) (slots + ms) Q (F0 m pc ls rest) q9) : W p l e R s m args below meth c H locs cells slots Q (F0 m pc ls st0) :=
  q_xv hr hP hD hS hA isC isR hC hR hn hdis (fun _ => kx) (fun h => absurd h he)
end QX
section QT
variable {p : Program} {l : Launch} {e : Env} {R : Room} {s : State} {m : MethodId} {args : Array Value} {below : List Frame} {meth : Method} {c : Code} {H : Heap} {locs : List Loc} {cells slots mc ms : Nat} {Q : State → Prop}
variable {cc : ByteArray} {pc : Nat} {ls : Array Slot} {rest : List Value} {D : va_G} {cl : List vw_C} {A : Nat → Prop} {tys : List (ClassId × FieldType)} {ws : va_W} {own cls text : String} {tx : List (Nat × String)} {Qc : Array Value → State → Outcome → State → Prop}
/-- 'throw new E("text")' -/
theorem q_throw (hexec : p.tables.exec = Jvm.exec) (hb : c.code = cc) (hl : l.stackTraces = false) {names : List String} {ik is ic ef : Nat}
    (hown : s.vm.findClass own = some m.cls) (hcls : Bundle.fit cls = true) (hnames : ∀ n ∈ names, Bundle.fit n = true)
    (hk : (Cond.classLink own ik cls).before args s = true) (hini : (Cond.initialized cls).before args s = true) (hT : q_T own tx s) (htx : (is, text) ∈ tx) {BW : List Cond} (hts : ∀ w ∈ BW, w.before args s = true) (hat1 : ∀ w ∈ (vx_atS own ic cls names).filter goodWord, w ∈ BW) (hN : q_N s) (hcs : cls ∈ q_cs) (hat2 : ∀ w ∈ (vx_atS own ic cls names).filter (fun w => !goodWord w), w ∈ q_B cls)
    (hgood : ∀ w ∈ Cond.classLink own ik cls :: Cond.initialized cls :: vx_atS own ic cls names, vx_ot w = true)
    (hZ : q_Z A s s.heap) (hS : va_S A s.heap H locs) (hsize : ls.size = c.maxLocals)
    (d0 : decode cc pc = .ok (.new ik, 3)) (d3 : decode cc (pc + 3) = .ok (.dup, 1)) (d4 : decode cc (pc + 4) = .ok (.ldc is, 2)) (d6 : decode cc (pc + 6) = .ok (.invokespecial ic, 3)) (d9 : decode cc (pc + 9) = .ok (.athrow, 1))
    (hno : ∀ x ∈ c.exceptionTable.toList, False)
    (hRframes : names.length + 3 < R.frames) (hRlocals : (rest.map fun v => v.category).sum + (13 * (names.length + 1) + 43) ≤ R.locals) (hRcells : cells + 1 ≤ R.cells) (hRslots : slots + 6 ≤ R.slots) (hlocks : meth.locks = false)
    (hE : cls = q_E ef) (hne : ¬ ef = 0) (hK : va_K D cl tys s) (hP : va_P D cl ws H) (hD : va_D A ws) (hc : cells + 1 ≤ mc) (hs : slots + 6 ≤ ms) :
    W p l e R s m args below meth c H locs cells slots (vx_MQ below Qc (vx_X (fun (_ : Unit) => ¬ ef = 0) (fun E _ t => E = q_E ef ∧ q_post D cl tys A ws t) A) args s mc ms A) (F0 m pc ls rest) := by
  obtain ⟨sa, hsa⟩ := hT (is, text) htx
  exact vx_throwS hexec hb hl hown hcls hnames hk hini hsa (vx_hat (fun w hw => hts w (hat1 w hw)) hat2 (q_hat hN hcs)) hgood hZ.1 hZ.2 hS hsize d0 d3 d4 d6 d9 (fun x hx => (hno x hx).elim) hRframes hRlocals hRcells hRslots hlocks
    (fun t hvm h1 h2 => ⟨(), hne, ⟨hE, hP.kept (fun k q hq => h2 q.1 (hP k q hq).lt), va_K.moved hvm hK, hD⟩, ⟨Nat.le_trans hS.1 h1, fun q hq hn => (h2 q (Nat.lt_of_lt_of_le hq hS.1)).trans (hS.2.1 q hq hn)⟩⟩) hS.2.2 hc hs
end QT
section QC
variable {p : Program} {l : Launch} {e : Env} {R : Room} {s : State} {m : MethodId} {args : Array Value} {below : List Frame} {meth : Method} {c : Code} {H : Heap} {locs : List Loc} {cells slots : Nat} {Q : State → Prop}
variable {cc : ByteArray} {pc : Nat} {ls : Array Slot} {rest : List Value} {D : va_G} {cl : List vw_C} {A : Nat → Prop} {a : Nat} {tys : List (ClassId × FieldType)} {ws : va_W} {H0 : Heap}
/-- System.arraycopy inside one int array -/
theorem q_cp (hexec : p.tables.exec = Jvm.exec) (hb : c.code = cc) (hml : c.maxLocals = ls.size) {own : String} {index : Nat} (hown : s.vm.findClass own = some m.cls) (hlink : (Cond.methodLink own index arraycopyName).before args s = true) (hnat : (Cond.native arraycopyName).before args s = true) (hstat : (Cond.static arraycopyName).before args s = true) (hini : (Cond.initialized "java/lang/System").before args s = true)
    (hK : va_K D cl tys s) (hP : va_P D cl ws H) (hD : va_D A ws) (hS : va_S A H0 H locs) (q0 t0 : Nat) {c0 : ClassId} {n0 : Nat} {f g : Nat → Int32} (ha0 : ws[q0]? = some (a, .inl (c0, n0, .inl f))) (ht0 : tys[t0]? = some (c0, .int))
    {sp dp n : Int32} (hv : cpI n0 f sp dp n = some g)
    (hframes : 1 ≤ R.frames) (hlocals : (rest.map fun v => v.category).sum + (nativeFrameWords "java/lang/System" "arraycopy" 5 + 11) ≤ R.locals) (hdg : decode cc pc = .ok (.invokestatic index, 3))
    (kk : ∀ (H1 : Heap) (locs1 : List Loc), va_P D cl (ws.set q0 (a, .inl (c0, n0, .inl g))) H1 → va_D A (ws.set q0 (a, .inl (c0, n0, .inl g))) → va_S A H0 H1 locs1 → W p l e R s m args below meth c H1 locs1 cells slots Q (F0 m (pc + 3) ls rest)) : W p l e R s m args below meth c H locs cells slots Q (F0 m pc ls (.int n :: .int dp :: .ref a :: .int sp :: .ref a :: rest)) := by
  unfold cpI at hv
  split at hv
  · cases hv
  · rename_i hn
    cases hv
    exact va_copyi hexec hb hml hown hlink hnat hstat hini hK hP hD hS q0 q0 t0 t0 ha0 ha0 ht0 ht0 rfl (fun h => hn (Or.inl h)) (fun h => hn (Or.inr (Or.inl h))) (fun h => hn (Or.inr (Or.inr (Or.inl h)))) (Nat.le_of_not_lt (fun h => hn (Or.inr (Or.inr (Or.inr (Or.inl h)))))) (Nat.le_of_not_lt (fun h => hn (Or.inr (Or.inr (Or.inr (Or.inr h)))))) (fun i hi => rfl) hframes hlocals hdg kk
end QC
end
section
def q_tx : List (Nat × String) := [(95, "no such root"), (99, "an object has 0 to 6 fields"), (106, "the object doesn't fit"), (102, "the ways are 0 to 2"), (115, "way 1 is for objects of one size"), (120, "the root has nothing"), (127, "no such field"), (129, "the field has a number"), (81, "no such address")]
set_option maxRecDepth 100000 in
theorem at_1 : ∀ w ∈ (vx_atS "ThreeCompactors" 83 "java/lang/IndexOutOfBoundsException" ["java/lang/RuntimeException", "java/lang/Exception"]).filter goodWord, w ∈ BG := by decide +kernel
set_option maxRecDepth 100000 in
theorem at_2 : ∀ w ∈ (vx_atS "ThreeCompactors" 101 "java/lang/IllegalArgumentException" ["java/lang/RuntimeException", "java/lang/Exception"]).filter goodWord, w ∈ BG := by decide +kernel
set_option maxRecDepth 100000 in
theorem at_3 : ∀ w ∈ (vx_atS "ThreeCompactors" 108 "java/lang/IllegalStateException" ["java/lang/RuntimeException", "java/lang/Exception"]).filter goodWord, w ∈ BG := by decide +kernel
set_option maxRecDepth 100000 in
theorem at_4 : ∀ w ∈ (vx_atS "ThreeCompactors" 117 "java/lang/UnsupportedOperationException" ["java/lang/RuntimeException", "java/lang/Exception"]).filter goodWord, w ∈ BG := by decide +kernel
abbrev cXA_rangeCheck : ByteArray := prog_13_method_30_code
abbrev yXA_rangeCheck : MethodName := ⟨"java/util/Arrays", "rangeCheck", "(III)V"⟩
abbrev wsXA_rangeCheck : List Cond := .code yXA_rangeCheck cXA_rangeCheck 3 (none) :: BG
abbrev rmXA_rangeCheck : Room := { frames := 0, cells := 0, slots := 0, locals := 0 }
abbrev cXA_fill : ByteArray := prog_13_method_103_code
abbrev yXA_fill : MethodName := ⟨"java/util/Arrays", "fill", "([II)V"⟩
abbrev wsXA_fill : List Cond := .code yXA_fill cXA_fill 4 (none) :: BG
abbrev rmXA_fill : Room := { frames := 0, cells := 0, slots := 0, locals := 0 }
abbrev cXB_fill : ByteArray := prog_13_method_104_code
abbrev yXB_fill : MethodName := ⟨"java/util/Arrays", "fill", "([IIII)V"⟩
abbrev wsXB_fill : List Cond := .code yXB_fill cXB_fill 5 (none) :: BG
abbrev rmXB_fill : Room := { frames := 1, cells := 0, slots := 0, locals := 22 }
abbrev cX0_requireRoot : ByteArray := prog_1_method_17_code
abbrev yX0_requireRoot : MethodName := ⟨"ThreeCompactors", "requireRoot", "(I)V"⟩
abbrev wsX0_requireRoot : List Cond := .code yX0_requireRoot cX0_requireRoot 1 (none) :: BG
abbrev rmX0_requireRoot (e : Nat) : Room := { frames := 7, cells := q_mc e, slots := q_ms e, locals := 90 }
abbrev cX0_requireFieldCount : ByteArray := prog_1_method_18_code
abbrev yX0_requireFieldCount : MethodName := ⟨"ThreeCompactors", "requireFieldCount", "(I)V"⟩
abbrev wsX0_requireFieldCount : List Cond := .code yX0_requireFieldCount cX0_requireFieldCount 1 (none) :: BG
abbrev rmX0_requireFieldCount (e : Nat) : Room := { frames := 7, cells := q_mc e, slots := q_ms e, locals := 90 }
abbrev cX0_requireWay : ByteArray := prog_1_method_19_code
abbrev yX0_requireWay : MethodName := ⟨"ThreeCompactors", "requireWay", "(I)V"⟩
abbrev wsX0_requireWay : List Cond := .code yX0_requireWay cX0_requireWay 1 (none) :: BG
abbrev rmX0_requireWay (e : Nat) : Room := { frames := 7, cells := q_mc e, slots := q_ms e, locals := 90 }
abbrev cX0_fieldAddress : ByteArray := prog_1_method_29_code
abbrev yX0_fieldAddress : MethodName := ⟨"ThreeCompactors", "fieldAddress", "(II)I"⟩
abbrev wsX0_fieldAddress : List Cond := .code yX0_fieldAddress cX0_fieldAddress 2 (some .int) :: BG
abbrev rmX0_fieldAddress : Room := { frames := 0, cells := 0, slots := 0, locals := 0 }
abbrev cX0_hasRoom : ByteArray := prog_1_method_24_code
abbrev yX0_hasRoom : MethodName := ⟨"ThreeCompactors", "hasRoom", "(I)Z"⟩
abbrev wsX0_hasRoom : List Cond := .code yX0_hasRoom cX0_hasRoom 2 (some .boolean) :: BG
abbrev rmX0_hasRoom : Room := { frames := 0, cells := 0, slots := 0, locals := 0 }
abbrev cX0_fieldCount : ByteArray := prog_1_method_27_code
abbrev yX0_fieldCount : MethodName := ⟨"ThreeCompactors", "fieldCount", "(I)I"⟩
abbrev wsX0_fieldCount : List Cond := .code yX0_fieldCount cX0_fieldCount 2 (some .int) :: BG
abbrev rmX0_fieldCount : Room := { frames := 0, cells := 0, slots := 0, locals := 0 }
abbrev cX0_sizeOf : ByteArray := prog_1_method_28_code
abbrev yX0_sizeOf : MethodName := ⟨"ThreeCompactors", "sizeOf", "(I)I"⟩
abbrev wsX0_sizeOf : List Cond := .code yX0_sizeOf cX0_sizeOf 2 (some .int) :: BG
abbrev rmX0_sizeOf : Room := { frames := 1, cells := 0, slots := 0, locals := 21 }
abbrev cX0_fieldKind : ByteArray := prog_1_method_30_code
abbrev yX0_fieldKind : MethodName := ⟨"ThreeCompactors", "fieldKind", "(II)I"⟩
abbrev wsX0_fieldKind : List Cond := .code yX0_fieldKind cX0_fieldKind 4 (some .int) :: BG
abbrev rmX0_fieldKind : Room := { frames := 0, cells := 0, slots := 0, locals := 0 }
abbrev cX0_setField : ByteArray := prog_1_method_31_code
abbrev yX0_setField : MethodName := ⟨"ThreeCompactors", "setField", "(IIII)V"⟩
abbrev wsX0_setField : List Cond := .code yX0_setField cX0_setField 8 (none) :: BG
abbrev rmX0_setField : Room := { frames := 1, cells := 0, slots := 0, locals := 21 }
abbrev cX0_makeObject : ByteArray := prog_1_method_26_code
abbrev yX0_makeObject : MethodName := ⟨"ThreeCompactors", "makeObject", "(II)I"⟩
abbrev wsX0_makeObject : List Cond := .code yX0_makeObject cX0_makeObject 3 (some .int) :: BG
abbrev rmX0_makeObject : Room := { frames := 0, cells := 0, slots := 0, locals := 0 }
abbrev cX0_reach : ByteArray := prog_1_method_33_code
abbrev yX0_reach : MethodName := ⟨"ThreeCompactors", "reach", "(I)V"⟩
abbrev wsX0_reach : List Cond := .code yX0_reach cX0_reach 2 (none) :: BG
abbrev rmX0_reach : Room := { frames := 0, cells := 0, slots := 0, locals := 0 }
abbrev cX0_reachFrom : ByteArray := prog_1_method_34_code
abbrev yX0_reachFrom : MethodName := ⟨"ThreeCompactors", "reachFrom", "(I)V"⟩
abbrev wsX0_reachFrom : List Cond := .code yX0_reachFrom cX0_reachFrom 4 (none) :: BG
abbrev rmX0_reachFrom : Room := { frames := 1, cells := 0, slots := 0, locals := 23 }
abbrev cX0_findAlive : ByteArray := prog_1_method_32_code
abbrev yX0_findAlive : MethodName := ⟨"ThreeCompactors", "findAlive", "()V"⟩
abbrev wsX0_findAlive : List Cond := .code yX0_findAlive cX0_findAlive 2 (none) :: BG
abbrev rmX0_findAlive : Room := { frames := 2, cells := 0, slots := 0, locals := 46 }
abbrev cX0_addressAfterMove : ByteArray := prog_1_method_40_code
abbrev yX0_addressAfterMove : MethodName := ⟨"ThreeCompactors", "addressAfterMove", "(I)I"⟩
abbrev wsX0_addressAfterMove : List Cond := .code yX0_addressAfterMove cX0_addressAfterMove 2 (some .int) :: BG
abbrev rmX0_addressAfterMove : Room := { frames := 0, cells := 0, slots := 0, locals := 0 }
abbrev cX0_isOneSize : ByteArray := prog_1_method_25_code
abbrev yX0_isOneSize : MethodName := ⟨"ThreeCompactors", "isOneSize", "()Z"⟩
abbrev wsX0_isOneSize : List Cond := .code yX0_isOneSize cX0_isOneSize 2 (some .boolean) :: BG
abbrev rmX0_isOneSize : Room := { frames := 1, cells := 0, slots := 0, locals := 21 }
abbrev cX0_planSlide : ByteArray := prog_1_method_36_code
abbrev yX0_planSlide : MethodName := ⟨"ThreeCompactors", "planSlide", "()V"⟩
abbrev wsX0_planSlide : List Cond := .code yX0_planSlide cX0_planSlide 4 (none) :: BG
abbrev rmX0_planSlide : Room := { frames := 2, cells := 0, slots := 0, locals := 42 }
abbrev cX0_planTwoFingers : ByteArray := prog_1_method_37_code
abbrev yX0_planTwoFingers : MethodName := ⟨"ThreeCompactors", "planTwoFingers", "()V"⟩
abbrev wsX0_planTwoFingers : List Cond := .code yX0_planTwoFingers cX0_planTwoFingers 3 (none) :: BG
abbrev rmX0_planTwoFingers : Room := { frames := 0, cells := 0, slots := 0, locals := 0 }
abbrev cX0_redirectRoots : ByteArray := prog_1_method_38_code
abbrev yX0_redirectRoots : MethodName := ⟨"ThreeCompactors", "redirectRoots", "()V"⟩
abbrev wsX0_redirectRoots : List Cond := .code yX0_redirectRoots cX0_redirectRoots 2 (none) :: BG
abbrev rmX0_redirectRoots : Room := { frames := 1, cells := 0, slots := 0, locals := 21 }
abbrev cX0_redirectFields : ByteArray := prog_1_method_39_code
abbrev yX0_redirectFields : MethodName := ⟨"ThreeCompactors", "redirectFields", "(I)V"⟩
abbrev wsX0_redirectFields : List Cond := .code yX0_redirectFields cX0_redirectFields 5 (none) :: BG
abbrev rmX0_redirectFields : Room := { frames := 1, cells := 0, slots := 0, locals := 23 }
abbrev cX0_moveObjects : ByteArray := prog_1_method_41_code
abbrev yX0_moveObjects : MethodName := ⟨"ThreeCompactors", "moveObjects", "()V"⟩
abbrev wsX0_moveObjects : List Cond := .code yX0_moveObjects cX0_moveObjects 3 (none) :: BG
abbrev rmX0_moveObjects : Room := { frames := 2, cells := 0, slots := 0, locals := 60 }
abbrev cX0_listObjects : ByteArray := prog_1_method_42_code
abbrev yX0_listObjects : MethodName := ⟨"ThreeCompactors", "listObjects", "()V"⟩
abbrev wsX0_listObjects : List Cond := .code yX0_listObjects cX0_listObjects 3 (none) :: BG
abbrev rmX0_listObjects : Room := { frames := 2, cells := 0, slots := 0, locals := 46 }
abbrev cX0_moveTogether : ByteArray := prog_1_method_35_code
abbrev yX0_moveTogether : MethodName := ⟨"ThreeCompactors", "moveTogether", "(I)V"⟩
abbrev wsX0_moveTogether : List Cond := .code yX0_moveTogether cX0_moveTogether 3 (none) :: BG
abbrev rmX0_moveTogether : Room := { frames := 3, cells := 0, slots := 0, locals := 82 }
abbrev cX0_requireRoom : ByteArray := prog_1_method_20_code
abbrev yX0_requireRoom : MethodName := ⟨"ThreeCompactors", "requireRoom", "(I)V"⟩
abbrev wsX0_requireRoom : List Cond := .code yX0_requireRoom cX0_requireRoom 2 (none) :: BG
abbrev rmX0_requireRoom (e : Nat) : Room := { frames := 7, cells := q_mc e, slots := q_ms e, locals := 90 }
abbrev cX0_requireSizesFor : ByteArray := prog_1_method_21_code
abbrev yX0_requireSizesFor : MethodName := ⟨"ThreeCompactors", "requireSizesFor", "(I)V"⟩
abbrev wsX0_requireSizesFor : List Cond := .code yX0_requireSizesFor cX0_requireSizesFor 2 (none) :: BG
abbrev rmX0_requireSizesFor (e : Nat) : Room := { frames := 7, cells := q_mc e, slots := q_ms e, locals := 90 }
abbrev cX0_requireObjectWithField : ByteArray := prog_1_method_22_code
abbrev yX0_requireObjectWithField : MethodName := ⟨"ThreeCompactors", "requireObjectWithField", "(II)V"⟩
abbrev wsX0_requireObjectWithField : List Cond := .code yX0_requireObjectWithField cX0_requireObjectWithField 3 (none) :: BG
abbrev rmX0_requireObjectWithField (e : Nat) : Room := { frames := 7, cells := q_mc e, slots := q_ms e, locals := 90 }
abbrev cX0_requireReference : ByteArray := prog_1_method_23_code
abbrev yX0_requireReference : MethodName := ⟨"ThreeCompactors", "requireReference", "(II)V"⟩
abbrev wsX0_requireReference : List Cond := .code yX0_requireReference cX0_requireReference 3 (none) :: BG
abbrev rmX0_requireReference (e : Nat) : Room := { frames := 7, cells := q_mc e, slots := q_ms e, locals := 90 }
abbrev cX0_allocate : ByteArray := prog_1_method_2_code
abbrev yX0_allocate : MethodName := ⟨"ThreeCompactors", "allocate", "(II)I"⟩
abbrev wsX0_allocate : List Cond := .code yX0_allocate cX0_allocate 3 (some .int) :: BG
abbrev rmX0_allocate (e : Nat) : Room := { frames := 8, cells := q_mc e, slots := q_ms e, locals := 111 }
abbrev cX0_claim : ByteArray := prog_1_method_3_code
abbrev yX0_claim : MethodName := ⟨"ThreeCompactors", "claim", "(III)I"⟩
abbrev wsX0_claim : List Cond := .code yX0_claim cX0_claim 4 (some .int) :: BG
abbrev rmX0_claim (e : Nat) : Room := { frames := 8, cells := q_mc e, slots := q_ms e, locals := 111 }
abbrev cX0_compact : ByteArray := prog_1_method_4_code
abbrev yX0_compact : MethodName := ⟨"ThreeCompactors", "compact", "(I)I"⟩
abbrev wsX0_compact : List Cond := .code yX0_compact cX0_compact 3 (some .int) :: BG
abbrev rmX0_compact (e : Nat) : Room := { frames := 8, cells := q_mc e, slots := q_ms e, locals := 111 }
abbrev cX0_copy : ByteArray := prog_1_method_5_code
abbrev yX0_copy : MethodName := ⟨"ThreeCompactors", "copy", "(II)V"⟩
abbrev wsX0_copy : List Cond := .code yX0_copy cX0_copy 3 (none) :: BG
abbrev rmX0_copy (e : Nat) : Room := { frames := 8, cells := q_mc e, slots := q_ms e, locals := 110 }
abbrev cX0_clear : ByteArray := prog_1_method_6_code
abbrev yX0_clear : MethodName := ⟨"ThreeCompactors", "clear", "(I)V"⟩
abbrev wsX0_clear : List Cond := .code yX0_clear cX0_clear 2 (none) :: BG
abbrev rmX0_clear (e : Nat) : Room := { frames := 8, cells := q_mc e, slots := q_ms e, locals := 110 }
abbrev cX0_put : ByteArray := prog_1_method_7_code
abbrev yX0_put : MethodName := ⟨"ThreeCompactors", "put", "(III)V"⟩
abbrev wsX0_put : List Cond := .code yX0_put cX0_put 4 (none) :: BG
abbrev rmX0_put (e : Nat) : Room := { frames := 8, cells := q_mc e, slots := q_ms e, locals := 112 }
abbrev cX0_refer : ByteArray := prog_1_method_8_code
abbrev yX0_refer : MethodName := ⟨"ThreeCompactors", "refer", "(IIIZ)V"⟩
abbrev wsX0_refer : List Cond := .code yX0_refer cX0_refer 5 (none) :: BG
abbrev rmX0_refer (e : Nat) : Room := { frames := 8, cells := q_mc e, slots := q_ms e, locals := 112 }
abbrev cX0_follow : ByteArray := prog_1_method_9_code
abbrev yX0_follow : MethodName := ⟨"ThreeCompactors", "follow", "(III)Z"⟩
abbrev wsX0_follow : List Cond := .code yX0_follow cX0_follow 4 (some .boolean) :: BG
abbrev rmX0_follow (e : Nat) : Room := { frames := 8, cells := q_mc e, slots := q_ms e, locals := 112 }
abbrev cX0_kind : ByteArray := prog_1_method_10_code
abbrev yX0_kind : MethodName := ⟨"ThreeCompactors", "kind", "(II)I"⟩
abbrev wsX0_kind : List Cond := .code yX0_kind cX0_kind 3 (some .int) :: BG
abbrev rmX0_kind (e : Nat) : Room := { frames := 8, cells := q_mc e, slots := q_ms e, locals := 112 }
abbrev cX0_serial : ByteArray := prog_1_method_11_code
abbrev yX0_serial : MethodName := ⟨"ThreeCompactors", "serial", "(I)I"⟩
abbrev wsX0_serial : List Cond := .code yX0_serial cX0_serial 2 (some .int) :: BG
abbrev rmX0_serial (e : Nat) : Room := { frames := 8, cells := q_mc e, slots := q_ms e, locals := 110 }
abbrev cX0_address : ByteArray := prog_1_method_12_code
abbrev yX0_address : MethodName := ⟨"ThreeCompactors", "address", "(I)I"⟩
abbrev wsX0_address : List Cond := .code yX0_address cX0_address 2 (some .int) :: BG
abbrev rmX0_address (e : Nat) : Room := { frames := 8, cells := q_mc e, slots := q_ms e, locals := 110 }
abbrev cX0_word : ByteArray := prog_1_method_13_code
abbrev yX0_word : MethodName := ⟨"ThreeCompactors", "word", "(I)I"⟩
abbrev wsX0_word : List Cond := .code yX0_word cX0_word 2 (some .int) :: BG
abbrev rmX0_word (e : Nat) : Room := { frames := 7, cells := q_mc e, slots := q_ms e, locals := 90 }
abbrev cX0_top : ByteArray := prog_1_method_14_code
abbrev yX0_top : MethodName := ⟨"ThreeCompactors", "top", "()I"⟩
abbrev wsX0_top : List Cond := .code yX0_top cX0_top 1 (some .int) :: BG
abbrev rmX0_top : Room := { frames := 0, cells := 0, slots := 0, locals := 0 }
abbrev cX0_objects : ByteArray := prog_1_method_15_code
abbrev yX0_objects : MethodName := ⟨"ThreeCompactors", "objects", "()I"⟩
abbrev wsX0_objects : List Cond := .code yX0_objects cX0_objects 1 (some .int) :: BG
abbrev rmX0_objects : Room := { frames := 0, cells := 0, slots := 0, locals := 0 }
abbrev cX0_alive : ByteArray := prog_1_method_16_code
abbrev yX0_alive : MethodName := ⟨"ThreeCompactors", "alive", "()I"⟩
abbrev wsX0_alive : List Cond := .code yX0_alive cX0_alive 1 (some .int) :: BG
abbrev rmX0_alive : Room := { frames := 3, cells := 0, slots := 0, locals := 67 }
abbrev cX1_thrown : ByteArray := prog_3_method_2_code
abbrev yX1_thrown : MethodName := ⟨"ThreeCompactorsModel", "thrown", "()I"⟩
abbrev wsX1_thrown : List Cond := .code yX1_thrown cX1_thrown 1 (some .int) :: BG
abbrev rmX1_thrown : Room := { frames := 0, cells := 0, slots := 0, locals := 0 }
abbrev cX1_topNow : ByteArray := prog_3_method_3_code
abbrev yX1_topNow : MethodName := ⟨"ThreeCompactorsModel", "topNow", "()I"⟩
abbrev wsX1_topNow : List Cond := .code yX1_topNow cX1_topNow 3 (some .int) :: BG
abbrev rmX1_topNow : Room := { frames := 0, cells := 0, slots := 0, locals := 0 }
abbrev cX1_addressOf : ByteArray := prog_3_method_4_code
abbrev yX1_addressOf : MethodName := ⟨"ThreeCompactorsModel", "addressOf", "(I)I"⟩
abbrev wsX1_addressOf : List Cond := .code yX1_addressOf cX1_addressOf 4 (some .int) :: BG
abbrev rmX1_addressOf : Room := { frames := 0, cells := 0, slots := 0, locals := 0 }
abbrev cX1_enliven : ByteArray := prog_3_method_5_code
abbrev yX1_enliven : MethodName := ⟨"ThreeCompactorsModel", "enliven", "(I)Z"⟩
abbrev wsX1_enliven : List Cond := .code yX1_enliven cX1_enliven 3 (some .boolean) :: BG
abbrev rmX1_enliven : Room := { frames := 0, cells := 0, slots := 0, locals := 0 }
abbrev cX1_findAlive : ByteArray := prog_3_method_6_code
abbrev yX1_findAlive : MethodName := ⟨"ThreeCompactorsModel", "findAlive", "()V"⟩
abbrev wsX1_findAlive : List Cond := .code yX1_findAlive cX1_findAlive 5 (none) :: BG
abbrev rmX1_findAlive : Room := { frames := 1, cells := 0, slots := 0, locals := 22 }
abbrev cX1_countAlive : ByteArray := prog_3_method_7_code
abbrev yX1_countAlive : MethodName := ⟨"ThreeCompactorsModel", "countAlive", "()I"⟩
abbrev wsX1_countAlive : List Cond := .code yX1_countAlive cX1_countAlive 3 (some .int) :: BG
abbrev rmX1_countAlive : Room := { frames := 0, cells := 0, slots := 0, locals := 0 }
abbrev cX1_oneSize : ByteArray := prog_3_method_8_code
abbrev yX1_oneSize : MethodName := ⟨"ThreeCompactorsModel", "oneSize", "()Z"⟩
abbrev wsX1_oneSize : List Cond := .code yX1_oneSize cX1_oneSize 3 (some .boolean) :: BG
abbrev rmX1_oneSize : Room := { frames := 0, cells := 0, slots := 0, locals := 0 }
abbrev cX1_keepOrder : ByteArray := prog_3_method_9_code
abbrev yX1_keepOrder : MethodName := ⟨"ThreeCompactorsModel", "keepOrder", "()V"⟩
abbrev wsX1_keepOrder : List Cond := .code yX1_keepOrder cX1_keepOrder 3 (none) :: BG
abbrev rmX1_keepOrder : Room := { frames := 0, cells := 0, slots := 0, locals := 0 }
abbrev cX1_fillGaps : ByteArray := prog_3_method_10_code
abbrev yX1_fillGaps : MethodName := ⟨"ThreeCompactorsModel", "fillGaps", "()V"⟩
abbrev wsX1_fillGaps : List Cond := .code yX1_fillGaps cX1_fillGaps 4 (none) :: BG
abbrev rmX1_fillGaps : Room := { frames := 1, cells := 0, slots := 0, locals := 22 }
abbrev cX1_press : ByteArray := prog_3_method_11_code
abbrev yX1_press : MethodName := ⟨"ThreeCompactorsModel", "press", "(I)V"⟩
abbrev wsX1_press : List Cond := .code yX1_press cX1_press 6 (none) :: BG
abbrev rmX1_press : Room := { frames := 2, cells := 0, slots := 0, locals := 46 }
abbrev cX1_make : ByteArray := prog_3_method_13_code
abbrev yX1_make : MethodName := ⟨"ThreeCompactorsModel", "make", "(II)I"⟩
abbrev wsX1_make : List Cond := .code yX1_make cX1_make 5 (some .int) :: BG
abbrev rmX1_make : Room := { frames := 0, cells := 0, slots := 0, locals := 0 }
abbrev cX1_isRoot : ByteArray := prog_3_method_14_code
abbrev yX1_isRoot : MethodName := ⟨"ThreeCompactorsModel", "isRoot", "(I)Z"⟩
abbrev wsX1_isRoot : List Cond := .code yX1_isRoot cX1_isRoot 1 (some .boolean) :: BG
abbrev rmX1_isRoot : Room := { frames := 0, cells := 0, slots := 0, locals := 0 }
abbrev cX1_isFields : ByteArray := prog_3_method_15_code
abbrev yX1_isFields : MethodName := ⟨"ThreeCompactorsModel", "isFields", "(I)Z"⟩
abbrev wsX1_isFields : List Cond := .code yX1_isFields cX1_isFields 1 (some .boolean) :: BG
abbrev rmX1_isFields : Room := { frames := 0, cells := 0, slots := 0, locals := 0 }
abbrev cX1_fits : ByteArray := prog_3_method_16_code
abbrev yX1_fits : MethodName := ⟨"ThreeCompactorsModel", "fits", "(I)Z"⟩
abbrev wsX1_fits : List Cond := .code yX1_fits cX1_fits 2 (some .boolean) :: BG
abbrev rmX1_fits : Room := { frames := 1, cells := 0, slots := 0, locals := 22 }
abbrev cX1_compact : ByteArray := prog_3_method_12_code
abbrev yX1_compact : MethodName := ⟨"ThreeCompactorsModel", "compact", "(I)I"⟩
abbrev wsX1_compact : List Cond := .code yX1_compact cX1_compact 3 (some .int) :: BG
abbrev rmX1_compact : Room := { frames := 3, cells := 0, slots := 0, locals := 71 }
abbrev cX1_allocate : ByteArray := prog_3_method_17_code
abbrev yX1_allocate : MethodName := ⟨"ThreeCompactorsModel", "allocate", "(II)I"⟩
abbrev wsX1_allocate : List Cond := .code yX1_allocate cX1_allocate 3 (some .int) :: BG
abbrev rmX1_allocate : Room := { frames := 2, cells := 0, slots := 0, locals := 43 }
abbrev cX1_claim : ByteArray := prog_3_method_18_code
abbrev yX1_claim : MethodName := ⟨"ThreeCompactorsModel", "claim", "(III)I"⟩
abbrev wsX1_claim : List Cond := .code yX1_claim cX1_claim 4 (some .int) :: BG
abbrev rmX1_claim : Room := { frames := 3, cells := 0, slots := 0, locals := 71 }
abbrev cX1_copy : ByteArray := prog_3_method_19_code
abbrev yX1_copy : MethodName := ⟨"ThreeCompactorsModel", "copy", "(II)V"⟩
abbrev wsX1_copy : List Cond := .code yX1_copy cX1_copy 3 (none) :: BG
abbrev rmX1_copy : Room := { frames := 1, cells := 0, slots := 0, locals := 20 }
abbrev cX1_clear : ByteArray := prog_3_method_20_code
abbrev yX1_clear : MethodName := ⟨"ThreeCompactorsModel", "clear", "(I)V"⟩
abbrev wsX1_clear : List Cond := .code yX1_clear cX1_clear 2 (none) :: BG
abbrev rmX1_clear : Room := { frames := 1, cells := 0, slots := 0, locals := 20 }
abbrev cX1_bar : ByteArray := prog_3_method_21_code
abbrev yX1_bar : MethodName := ⟨"ThreeCompactorsModel", "bar", "(II)I"⟩
abbrev wsX1_bar : List Cond := .code yX1_bar cX1_bar 3 (some .int) :: BG
abbrev rmX1_bar : Room := { frames := 1, cells := 0, slots := 0, locals := 20 }
abbrev cX1_set : ByteArray := prog_3_method_22_code
abbrev yX1_set : MethodName := ⟨"ThreeCompactorsModel", "set", "(IIII)V"⟩
abbrev wsX1_set : List Cond := .code yX1_set cX1_set 5 (none) :: BG
abbrev rmX1_set : Room := { frames := 0, cells := 0, slots := 0, locals := 0 }
abbrev cX1_put : ByteArray := prog_3_method_23_code
abbrev yX1_put : MethodName := ⟨"ThreeCompactorsModel", "put", "(III)V"⟩
abbrev wsX1_put : List Cond := .code yX1_put cX1_put 4 (none) :: BG
abbrev rmX1_put : Room := { frames := 2, cells := 0, slots := 0, locals := 42 }
abbrev cX1_refer : ByteArray := prog_3_method_24_code
abbrev yX1_refer : MethodName := ⟨"ThreeCompactorsModel", "refer", "(IIIZ)V"⟩
abbrev wsX1_refer : List Cond := .code yX1_refer cX1_refer 5 (none) :: BG
abbrev rmX1_refer : Room := { frames := 2, cells := 0, slots := 0, locals := 42 }
abbrev cX1_follow : ByteArray := prog_3_method_25_code
abbrev yX1_follow : MethodName := ⟨"ThreeCompactorsModel", "follow", "(III)Z"⟩
abbrev wsX1_follow : List Cond := .code yX1_follow cX1_follow 4 (some .boolean) :: BG
abbrev rmX1_follow : Room := { frames := 2, cells := 0, slots := 0, locals := 42 }
abbrev cX1_kind : ByteArray := prog_3_method_26_code
abbrev yX1_kind : MethodName := ⟨"ThreeCompactorsModel", "kind", "(II)I"⟩
abbrev wsX1_kind : List Cond := .code yX1_kind cX1_kind 3 (some .int) :: BG
abbrev rmX1_kind : Room := { frames := 2, cells := 0, slots := 0, locals := 42 }
abbrev cX1_serial : ByteArray := prog_3_method_27_code
abbrev yX1_serial : MethodName := ⟨"ThreeCompactorsModel", "serial", "(I)I"⟩
abbrev wsX1_serial : List Cond := .code yX1_serial cX1_serial 2 (some .int) :: BG
abbrev rmX1_serial : Room := { frames := 1, cells := 0, slots := 0, locals := 20 }
abbrev cX1_address : ByteArray := prog_3_method_28_code
abbrev yX1_address : MethodName := ⟨"ThreeCompactorsModel", "address", "(I)I"⟩
abbrev wsX1_address : List Cond := .code yX1_address cX1_address 2 (some .int) :: BG
abbrev rmX1_address : Room := { frames := 1, cells := 0, slots := 0, locals := 23 }
abbrev cX1_wordOf : ByteArray := prog_3_method_29_code
abbrev yX1_wordOf : MethodName := ⟨"ThreeCompactorsModel", "wordOf", "(II)I"⟩
abbrev wsX1_wordOf : List Cond := .code yX1_wordOf cX1_wordOf 6 (some .int) :: BG
abbrev rmX1_wordOf : Room := { frames := 1, cells := 0, slots := 0, locals := 23 }
abbrev cX1_word : ByteArray := prog_3_method_30_code
abbrev yX1_word : MethodName := ⟨"ThreeCompactorsModel", "word", "(I)I"⟩
abbrev wsX1_word : List Cond := .code yX1_word cX1_word 5 (some .int) :: BG
abbrev rmX1_word : Room := { frames := 2, cells := 0, slots := 0, locals := 48 }
abbrev cX1_top : ByteArray := prog_3_method_31_code
abbrev yX1_top : MethodName := ⟨"ThreeCompactorsModel", "top", "()I"⟩
abbrev wsX1_top : List Cond := .code yX1_top cX1_top 1 (some .int) :: BG
abbrev rmX1_top : Room := { frames := 1, cells := 0, slots := 0, locals := 22 }
abbrev cX1_objects : ByteArray := prog_3_method_32_code
abbrev yX1_objects : MethodName := ⟨"ThreeCompactorsModel", "objects", "()I"⟩
abbrev wsX1_objects : List Cond := .code yX1_objects cX1_objects 1 (some .int) :: BG
abbrev rmX1_objects : Room := { frames := 0, cells := 0, slots := 0, locals := 0 }
abbrev cX1_alive : ByteArray := prog_3_method_33_code
abbrev yX1_alive : MethodName := ⟨"ThreeCompactorsModel", "alive", "()I"⟩
abbrev wsX1_alive : List Cond := .code yX1_alive cX1_alive 1 (some .int) :: BG
abbrev rmX1_alive : Room := { frames := 2, cells := 0, slots := 0, locals := 46 }
theorem mw_0 : (Jvm.Cond.selects "ThreeCompactors" ({ cls := "ThreeCompactors", name := "findAlive", desc := "()V" } : Jvm.MethodName) ({ cls := "ThreeCompactors", name := "findAlive", desc := "()V" } : Jvm.MethodName)) ∈ BG := List.mem_filter.mpr ⟨List.mem_of_getElem? (i := 0) (by decide +kernel), by decide +kernel⟩
theorem mw_1 : (Jvm.Cond.selects "ThreeCompactors" ({ cls := "ThreeCompactors", name := "reach", desc := "(I)V" } : Jvm.MethodName) ({ cls := "ThreeCompactors", name := "reach", desc := "(I)V" } : Jvm.MethodName)) ∈ BG := List.mem_filter.mpr ⟨List.mem_of_getElem? (i := 1) (by decide +kernel), by decide +kernel⟩
theorem mw_2 : (Jvm.Cond.selects "ThreeCompactors" ({ cls := "ThreeCompactors", name := "reachFrom", desc := "(I)V" } : Jvm.MethodName) ({ cls := "ThreeCompactors", name := "reachFrom", desc := "(I)V" } : Jvm.MethodName)) ∈ BG := List.mem_filter.mpr ⟨List.mem_of_getElem? (i := 2) (by decide +kernel), by decide +kernel⟩
theorem mw_3 : (Jvm.Cond.selects "ThreeCompactors" ({ cls := "ThreeCompactors", name := "fieldCount", desc := "(I)I" } : Jvm.MethodName) ({ cls := "ThreeCompactors", name := "fieldCount", desc := "(I)I" } : Jvm.MethodName)) ∈ BG := List.mem_filter.mpr ⟨List.mem_of_getElem? (i := 3) (by decide +kernel), by decide +kernel⟩
theorem mw_4 : (Jvm.Cond.selects "ThreeCompactors" ({ cls := "ThreeCompactors", name := "fieldKind", desc := "(II)I" } : Jvm.MethodName) ({ cls := "ThreeCompactors", name := "fieldKind", desc := "(II)I" } : Jvm.MethodName)) ∈ BG := List.mem_filter.mpr ⟨List.mem_of_getElem? (i := 4) (by decide +kernel), by decide +kernel⟩
theorem mw_6 : (Jvm.Cond.selects "ThreeCompactors" ({ cls := "ThreeCompactors", name := "requireRoom", desc := "(I)V" } : Jvm.MethodName) ({ cls := "ThreeCompactors", name := "requireRoom", desc := "(I)V" } : Jvm.MethodName)) ∈ BG := List.mem_filter.mpr ⟨List.mem_of_getElem? (i := 6) (by decide +kernel), by decide +kernel⟩
theorem mw_7 : (Jvm.Cond.selects "ThreeCompactors" ({ cls := "ThreeCompactors", name := "hasRoom", desc := "(I)Z" } : Jvm.MethodName) ({ cls := "ThreeCompactors", name := "hasRoom", desc := "(I)Z" } : Jvm.MethodName)) ∈ BG := List.mem_filter.mpr ⟨List.mem_of_getElem? (i := 7) (by decide +kernel), by decide +kernel⟩
theorem mw_8 : (Jvm.Cond.selects "ThreeCompactors" ({ cls := "ThreeCompactors", name := "makeObject", desc := "(II)I" } : Jvm.MethodName) ({ cls := "ThreeCompactors", name := "makeObject", desc := "(II)I" } : Jvm.MethodName)) ∈ BG := List.mem_filter.mpr ⟨List.mem_of_getElem? (i := 8) (by decide +kernel), by decide +kernel⟩
theorem mw_9 : (Jvm.Cond.selects "ThreeCompactors" ({ cls := "ThreeCompactors", name := "requireSizesFor", desc := "(I)V" } : Jvm.MethodName) ({ cls := "ThreeCompactors", name := "requireSizesFor", desc := "(I)V" } : Jvm.MethodName)) ∈ BG := List.mem_filter.mpr ⟨List.mem_of_getElem? (i := 9) (by decide +kernel), by decide +kernel⟩
theorem mw_10 : (Jvm.Cond.selects "ThreeCompactors" ({ cls := "ThreeCompactors", name := "isOneSize", desc := "()Z" } : Jvm.MethodName) ({ cls := "ThreeCompactors", name := "isOneSize", desc := "()Z" } : Jvm.MethodName)) ∈ BG := List.mem_filter.mpr ⟨List.mem_of_getElem? (i := 10) (by decide +kernel), by decide +kernel⟩
theorem mw_11 : (Jvm.Cond.selects "ThreeCompactors" ({ cls := "ThreeCompactors", name := "moveTogether", desc := "(I)V" } : Jvm.MethodName) ({ cls := "ThreeCompactors", name := "moveTogether", desc := "(I)V" } : Jvm.MethodName)) ∈ BG := List.mem_filter.mpr ⟨List.mem_of_getElem? (i := 11) (by decide +kernel), by decide +kernel⟩
theorem mw_12 : (Jvm.Cond.selects "ThreeCompactors" ({ cls := "ThreeCompactors", name := "planTwoFingers", desc := "()V" } : Jvm.MethodName) ({ cls := "ThreeCompactors", name := "planTwoFingers", desc := "()V" } : Jvm.MethodName)) ∈ BG := List.mem_filter.mpr ⟨List.mem_of_getElem? (i := 12) (by decide +kernel), by decide +kernel⟩
theorem mw_13 : (Jvm.Cond.selects "ThreeCompactors" ({ cls := "ThreeCompactors", name := "planSlide", desc := "()V" } : Jvm.MethodName) ({ cls := "ThreeCompactors", name := "planSlide", desc := "()V" } : Jvm.MethodName)) ∈ BG := List.mem_filter.mpr ⟨List.mem_of_getElem? (i := 13) (by decide +kernel), by decide +kernel⟩
theorem mw_14 : (Jvm.Cond.selects "ThreeCompactors" ({ cls := "ThreeCompactors", name := "sizeOf", desc := "(I)I" } : Jvm.MethodName) ({ cls := "ThreeCompactors", name := "sizeOf", desc := "(I)I" } : Jvm.MethodName)) ∈ BG := List.mem_filter.mpr ⟨List.mem_of_getElem? (i := 14) (by decide +kernel), by decide +kernel⟩
theorem mw_15 : (Jvm.Cond.selects "ThreeCompactors" ({ cls := "ThreeCompactors", name := "redirectRoots", desc := "()V" } : Jvm.MethodName) ({ cls := "ThreeCompactors", name := "redirectRoots", desc := "()V" } : Jvm.MethodName)) ∈ BG := List.mem_filter.mpr ⟨List.mem_of_getElem? (i := 15) (by decide +kernel), by decide +kernel⟩
theorem mw_16 : (Jvm.Cond.selects "ThreeCompactors" ({ cls := "ThreeCompactors", name := "addressAfterMove", desc := "(I)I" } : Jvm.MethodName) ({ cls := "ThreeCompactors", name := "addressAfterMove", desc := "(I)I" } : Jvm.MethodName)) ∈ BG := List.mem_filter.mpr ⟨List.mem_of_getElem? (i := 16) (by decide +kernel), by decide +kernel⟩
theorem mw_17 : (Jvm.Cond.selects "ThreeCompactors" ({ cls := "ThreeCompactors", name := "redirectFields", desc := "(I)V" } : Jvm.MethodName) ({ cls := "ThreeCompactors", name := "redirectFields", desc := "(I)V" } : Jvm.MethodName)) ∈ BG := List.mem_filter.mpr ⟨List.mem_of_getElem? (i := 17) (by decide +kernel), by decide +kernel⟩
theorem mw_18 : (Jvm.Cond.selects "ThreeCompactors" ({ cls := "ThreeCompactors", name := "moveObjects", desc := "()V" } : Jvm.MethodName) ({ cls := "ThreeCompactors", name := "moveObjects", desc := "()V" } : Jvm.MethodName)) ∈ BG := List.mem_filter.mpr ⟨List.mem_of_getElem? (i := 18) (by decide +kernel), by decide +kernel⟩
theorem mw_19 : (Jvm.Cond.selects "ThreeCompactors" ({ cls := "ThreeCompactors", name := "listObjects", desc := "()V" } : Jvm.MethodName) ({ cls := "ThreeCompactors", name := "listObjects", desc := "()V" } : Jvm.MethodName)) ∈ BG := List.mem_filter.mpr ⟨List.mem_of_getElem? (i := 19) (by decide +kernel), by decide +kernel⟩
theorem mw_20 : (Jvm.Cond.selects "ThreeCompactors" ({ cls := "ThreeCompactors", name := "requireObjectWithField", desc := "(II)V" } : Jvm.MethodName) ({ cls := "ThreeCompactors", name := "requireObjectWithField", desc := "(II)V" } : Jvm.MethodName)) ∈ BG := List.mem_filter.mpr ⟨List.mem_of_getElem? (i := 20) (by decide +kernel), by decide +kernel⟩
theorem mw_21 : (Jvm.Cond.selects "ThreeCompactors" ({ cls := "ThreeCompactors", name := "setField", desc := "(IIII)V" } : Jvm.MethodName) ({ cls := "ThreeCompactors", name := "setField", desc := "(IIII)V" } : Jvm.MethodName)) ∈ BG := List.mem_filter.mpr ⟨List.mem_of_getElem? (i := 21) (by decide +kernel), by decide +kernel⟩
theorem mw_22 : (Jvm.Cond.selects "ThreeCompactors" ({ cls := "ThreeCompactors", name := "requireReference", desc := "(II)V" } : Jvm.MethodName) ({ cls := "ThreeCompactors", name := "requireReference", desc := "(II)V" } : Jvm.MethodName)) ∈ BG := List.mem_filter.mpr ⟨List.mem_of_getElem? (i := 22) (by decide +kernel), by decide +kernel⟩
theorem mw_23 : (Jvm.Cond.selects "ThreeCompactorsModel" ({ cls := "ThreeCompactorsModel", name := "oneSize", desc := "()Z" } : Jvm.MethodName) ({ cls := "ThreeCompactorsModel", name := "oneSize", desc := "()Z" } : Jvm.MethodName)) ∈ BG := List.mem_filter.mpr ⟨List.mem_of_getElem? (i := 23) (by decide +kernel), by decide +kernel⟩
theorem mw_24 : (Jvm.Cond.selects "ThreeCompactorsModel" ({ cls := "ThreeCompactorsModel", name := "topNow", desc := "()I" } : Jvm.MethodName) ({ cls := "ThreeCompactorsModel", name := "topNow", desc := "()I" } : Jvm.MethodName)) ∈ BG := List.mem_filter.mpr ⟨List.mem_of_getElem? (i := 24) (by decide +kernel), by decide +kernel⟩
theorem mw_25 : (Jvm.Cond.selects "ThreeCompactorsModel" ({ cls := "ThreeCompactorsModel", name := "press", desc := "(I)V" } : Jvm.MethodName) ({ cls := "ThreeCompactorsModel", name := "press", desc := "(I)V" } : Jvm.MethodName)) ∈ BG := List.mem_filter.mpr ⟨List.mem_of_getElem? (i := 25) (by decide +kernel), by decide +kernel⟩
theorem mw_26 : (Jvm.Cond.selects "ThreeCompactorsModel" ({ cls := "ThreeCompactorsModel", name := "findAlive", desc := "()V" } : Jvm.MethodName) ({ cls := "ThreeCompactorsModel", name := "findAlive", desc := "()V" } : Jvm.MethodName)) ∈ BG := List.mem_filter.mpr ⟨List.mem_of_getElem? (i := 26) (by decide +kernel), by decide +kernel⟩
theorem mw_27 : (Jvm.Cond.selects "ThreeCompactorsModel" ({ cls := "ThreeCompactorsModel", name := "enliven", desc := "(I)Z" } : Jvm.MethodName) ({ cls := "ThreeCompactorsModel", name := "enliven", desc := "(I)Z" } : Jvm.MethodName)) ∈ BG := List.mem_filter.mpr ⟨List.mem_of_getElem? (i := 27) (by decide +kernel), by decide +kernel⟩
theorem mw_28 : (Jvm.Cond.selects "ThreeCompactorsModel" ({ cls := "ThreeCompactorsModel", name := "countAlive", desc := "()I" } : Jvm.MethodName) ({ cls := "ThreeCompactorsModel", name := "countAlive", desc := "()I" } : Jvm.MethodName)) ∈ BG := List.mem_filter.mpr ⟨List.mem_of_getElem? (i := 28) (by decide +kernel), by decide +kernel⟩
theorem mw_29 : (Jvm.Cond.selects "ThreeCompactorsModel" ({ cls := "ThreeCompactorsModel", name := "fillGaps", desc := "()V" } : Jvm.MethodName) ({ cls := "ThreeCompactorsModel", name := "fillGaps", desc := "()V" } : Jvm.MethodName)) ∈ BG := List.mem_filter.mpr ⟨List.mem_of_getElem? (i := 29) (by decide +kernel), by decide +kernel⟩
theorem mw_30 : (Jvm.Cond.selects "ThreeCompactorsModel" ({ cls := "ThreeCompactorsModel", name := "keepOrder", desc := "()V" } : Jvm.MethodName) ({ cls := "ThreeCompactorsModel", name := "keepOrder", desc := "()V" } : Jvm.MethodName)) ∈ BG := List.mem_filter.mpr ⟨List.mem_of_getElem? (i := 30) (by decide +kernel), by decide +kernel⟩
theorem mw_31 : (Jvm.Cond.selects "ThreeCompactorsModel" ({ cls := "ThreeCompactorsModel", name := "fits", desc := "(I)Z" } : Jvm.MethodName) ({ cls := "ThreeCompactorsModel", name := "fits", desc := "(I)Z" } : Jvm.MethodName)) ∈ BG := List.mem_filter.mpr ⟨List.mem_of_getElem? (i := 31) (by decide +kernel), by decide +kernel⟩
theorem mw_32 : (Jvm.Cond.selects "ThreeCompactorsModel" ({ cls := "ThreeCompactorsModel", name := "make", desc := "(II)I" } : Jvm.MethodName) ({ cls := "ThreeCompactorsModel", name := "make", desc := "(II)I" } : Jvm.MethodName)) ∈ BG := List.mem_filter.mpr ⟨List.mem_of_getElem? (i := 32) (by decide +kernel), by decide +kernel⟩
theorem mw_33 : (Jvm.Cond.selects "ThreeCompactorsModel" ({ cls := "ThreeCompactorsModel", name := "bar", desc := "(II)I" } : Jvm.MethodName) ({ cls := "ThreeCompactorsModel", name := "bar", desc := "(II)I" } : Jvm.MethodName)) ∈ BG := List.mem_filter.mpr ⟨List.mem_of_getElem? (i := 33) (by decide +kernel), by decide +kernel⟩
theorem mw_34 : (Jvm.Cond.selects "ThreeCompactorsModel" ({ cls := "ThreeCompactorsModel", name := "set", desc := "(IIII)V" } : Jvm.MethodName) ({ cls := "ThreeCompactorsModel", name := "set", desc := "(IIII)V" } : Jvm.MethodName)) ∈ BG := List.mem_filter.mpr ⟨List.mem_of_getElem? (i := 34) (by decide +kernel), by decide +kernel⟩
theorem mw_35 : (Jvm.Cond.selects "ThreeCompactorsModel" ({ cls := "ThreeCompactorsModel", name := "addressOf", desc := "(I)I" } : Jvm.MethodName) ({ cls := "ThreeCompactorsModel", name := "addressOf", desc := "(I)I" } : Jvm.MethodName)) ∈ BG := List.mem_filter.mpr ⟨List.mem_of_getElem? (i := 35) (by decide +kernel), by decide +kernel⟩
theorem mw_36 : (Jvm.Cond.selects "ThreeCompactorsModel" ({ cls := "ThreeCompactorsModel", name := "wordOf", desc := "(II)I" } : Jvm.MethodName) ({ cls := "ThreeCompactorsModel", name := "wordOf", desc := "(II)I" } : Jvm.MethodName)) ∈ BG := List.mem_filter.mpr ⟨List.mem_of_getElem? (i := 36) (by decide +kernel), by decide +kernel⟩
theorem mw_38 : (Jvm.Cond.initialized "ThreeCompactors") ∈ BG := List.mem_filter.mpr ⟨List.mem_of_getElem? (i := 38) (by decide +kernel), by decide +kernel⟩
theorem mw_39 : (Jvm.Cond.initialized "java/util/Arrays") ∈ BG := List.mem_filter.mpr ⟨List.mem_of_getElem? (i := 39) (by decide +kernel), by decide +kernel⟩
theorem mw_40 : (Jvm.Cond.initialized "ThreeCompactorsModel") ∈ BG := List.mem_filter.mpr ⟨List.mem_of_getElem? (i := 40) (by decide +kernel), by decide +kernel⟩
theorem mw_44 : (Jvm.Cond.initialized "java/lang/IndexOutOfBoundsException") ∈ BG := List.mem_filter.mpr ⟨List.mem_of_getElem? (i := 44) (by decide +kernel), by decide +kernel⟩
theorem mw_45 : (Jvm.Cond.initialized "java/lang/IllegalArgumentException") ∈ BG := List.mem_filter.mpr ⟨List.mem_of_getElem? (i := 45) (by decide +kernel), by decide +kernel⟩
theorem mw_46 : (Jvm.Cond.initialized "java/lang/IllegalStateException") ∈ BG := List.mem_filter.mpr ⟨List.mem_of_getElem? (i := 46) (by decide +kernel), by decide +kernel⟩
theorem mw_47 : (Jvm.Cond.initialized "java/lang/UnsupportedOperationException") ∈ BG := List.mem_filter.mpr ⟨List.mem_of_getElem? (i := 47) (by decide +kernel), by decide +kernel⟩
theorem mw_48 : (Jvm.Cond.initialized "java/lang/System") ∈ BG := List.mem_filter.mpr ⟨List.mem_of_getElem? (i := 48) (by decide +kernel), by decide +kernel⟩
theorem mw_49 : (Jvm.Cond.initialized "java/util/NoSuchElementException") ∈ BG := List.mem_filter.mpr ⟨List.mem_of_getElem? (i := 49) (by decide +kernel), by decide +kernel⟩
theorem mw_58 : (Jvm.Cond.methodLink "ThreeCompactors" (25 : Nat) ({ cls := "java/util/Arrays", name := "fill", desc := "([II)V" } : Jvm.MethodName)) ∈ BG := List.mem_filter.mpr ⟨List.mem_of_getElem? (i := 58) (by decide +kernel), by decide +kernel⟩
theorem mw_59 : (Jvm.Cond.static ({ cls := "java/util/Arrays", name := "fill", desc := "([II)V" } : Jvm.MethodName)) ∈ BG := List.mem_filter.mpr ⟨List.mem_of_getElem? (i := 59) (by decide +kernel), by decide +kernel⟩
theorem mw_60 : (Jvm.Cond.code ({ cls := "java/util/Arrays", name := "fill", desc := "([II)V" } : Jvm.MethodName) prog_13_method_103_code (4 : Nat) (Option.none : Option Jvm.ClassFile.FieldType)) ∈ BG := List.mem_filter.mpr ⟨List.mem_of_getElem? (i := 60) (by decide +kernel), by decide +kernel⟩
theorem mw_61 : (Jvm.Cond.fieldLink "ThreeCompactors" (9 : Nat) "ThreeCompactors" "words" "[I") ∈ BG := List.mem_filter.mpr ⟨List.mem_of_getElem? (i := 61) (by decide +kernel), by decide +kernel⟩
theorem mw_62 : (Jvm.Cond.fieldLink "ThreeCompactors" (13 : Nat) "ThreeCompactors" "roots" "[I") ∈ BG := List.mem_filter.mpr ⟨List.mem_of_getElem? (i := 62) (by decide +kernel), by decide +kernel⟩
theorem mw_63 : (Jvm.Cond.fieldLink "ThreeCompactors" (16 : Nat) "ThreeCompactors" "starts" "[I") ∈ BG := List.mem_filter.mpr ⟨List.mem_of_getElem? (i := 63) (by decide +kernel), by decide +kernel⟩
theorem mw_64 : (Jvm.Cond.fieldLink "ThreeCompactors" (19 : Nat) "ThreeCompactors" "reached" "[I") ∈ BG := List.mem_filter.mpr ⟨List.mem_of_getElem? (i := 64) (by decide +kernel), by decide +kernel⟩
theorem mw_65 : (Jvm.Cond.fieldLink "ThreeCompactors" (22 : Nat) "ThreeCompactors" "newAddress" "[I") ∈ BG := List.mem_filter.mpr ⟨List.mem_of_getElem? (i := 65) (by decide +kernel), by decide +kernel⟩
theorem mw_66 : (Jvm.Cond.fieldLink "ThreeCompactors" (58 : Nat) "ThreeCompactors" "top" "I") ∈ BG := List.mem_filter.mpr ⟨List.mem_of_getElem? (i := 66) (by decide +kernel), by decide +kernel⟩
theorem mw_67 : (Jvm.Cond.fieldLink "ThreeCompactors" (86 : Nat) "ThreeCompactors" "objectCount" "I") ∈ BG := List.mem_filter.mpr ⟨List.mem_of_getElem? (i := 67) (by decide +kernel), by decide +kernel⟩
theorem mw_68 : (Jvm.Cond.fieldLink "ThreeCompactors" (92 : Nat) "ThreeCompactors" "reachedCount" "I") ∈ BG := List.mem_filter.mpr ⟨List.mem_of_getElem? (i := 68) (by decide +kernel), by decide +kernel⟩
theorem mw_69 : (Jvm.Cond.fieldLink "ThreeCompactors" (131 : Nat) "ThreeCompactors" "lastSerial" "I") ∈ BG := List.mem_filter.mpr ⟨List.mem_of_getElem? (i := 69) (by decide +kernel), by decide +kernel⟩
theorem mw_102 : (Jvm.Cond.methodLink "ThreeCompactors" (89 : Nat) ({ cls := "ThreeCompactors", name := "findAlive", desc := "()V" } : Jvm.MethodName)) ∈ BG := List.mem_filter.mpr ⟨List.mem_of_getElem? (i := 102) (by decide +kernel), by decide +kernel⟩
theorem mw_104 : (Jvm.Cond.instanceMethod ({ cls := "ThreeCompactors", name := "findAlive", desc := "()V" } : Jvm.MethodName)) ∈ BG := List.mem_filter.mpr ⟨List.mem_of_getElem? (i := 104) (by decide +kernel), by decide +kernel⟩
theorem mw_105 : (Jvm.Cond.code ({ cls := "ThreeCompactors", name := "findAlive", desc := "()V" } : Jvm.MethodName) prog_1_method_32_code (2 : Nat) (Option.none : Option Jvm.ClassFile.FieldType)) ∈ BG := List.mem_filter.mpr ⟨List.mem_of_getElem? (i := 105) (by decide +kernel), by decide +kernel⟩
theorem mw_106 : (Jvm.Cond.methodLink "ThreeCompactors" (134 : Nat) ({ cls := "ThreeCompactors", name := "reach", desc := "(I)V" } : Jvm.MethodName)) ∈ BG := List.mem_filter.mpr ⟨List.mem_of_getElem? (i := 106) (by decide +kernel), by decide +kernel⟩
theorem mw_108 : (Jvm.Cond.instanceMethod ({ cls := "ThreeCompactors", name := "reach", desc := "(I)V" } : Jvm.MethodName)) ∈ BG := List.mem_filter.mpr ⟨List.mem_of_getElem? (i := 108) (by decide +kernel), by decide +kernel⟩
theorem mw_109 : (Jvm.Cond.code ({ cls := "ThreeCompactors", name := "reach", desc := "(I)V" } : Jvm.MethodName) prog_1_method_33_code (2 : Nat) (Option.none : Option Jvm.ClassFile.FieldType)) ∈ BG := List.mem_filter.mpr ⟨List.mem_of_getElem? (i := 109) (by decide +kernel), by decide +kernel⟩
theorem mw_110 : (Jvm.Cond.methodLink "ThreeCompactors" (137 : Nat) ({ cls := "ThreeCompactors", name := "reachFrom", desc := "(I)V" } : Jvm.MethodName)) ∈ BG := List.mem_filter.mpr ⟨List.mem_of_getElem? (i := 110) (by decide +kernel), by decide +kernel⟩
theorem mw_112 : (Jvm.Cond.instanceMethod ({ cls := "ThreeCompactors", name := "reachFrom", desc := "(I)V" } : Jvm.MethodName)) ∈ BG := List.mem_filter.mpr ⟨List.mem_of_getElem? (i := 112) (by decide +kernel), by decide +kernel⟩
theorem mw_113 : (Jvm.Cond.code ({ cls := "ThreeCompactors", name := "reachFrom", desc := "(I)V" } : Jvm.MethodName) prog_1_method_34_code (4 : Nat) (Option.none : Option Jvm.ClassFile.FieldType)) ∈ BG := List.mem_filter.mpr ⟨List.mem_of_getElem? (i := 113) (by decide +kernel), by decide +kernel⟩
theorem mw_114 : (Jvm.Cond.methodLink "ThreeCompactors" (123 : Nat) ({ cls := "ThreeCompactors", name := "fieldCount", desc := "(I)I" } : Jvm.MethodName)) ∈ BG := List.mem_filter.mpr ⟨List.mem_of_getElem? (i := 114) (by decide +kernel), by decide +kernel⟩
theorem mw_116 : (Jvm.Cond.instanceMethod ({ cls := "ThreeCompactors", name := "fieldCount", desc := "(I)I" } : Jvm.MethodName)) ∈ BG := List.mem_filter.mpr ⟨List.mem_of_getElem? (i := 116) (by decide +kernel), by decide +kernel⟩
theorem mw_117 : (Jvm.Cond.code ({ cls := "ThreeCompactors", name := "fieldCount", desc := "(I)I" } : Jvm.MethodName) prog_1_method_27_code (2 : Nat) (Option.some Jvm.ClassFile.FieldType.int)) ∈ BG := List.mem_filter.mpr ⟨List.mem_of_getElem? (i := 117) (by decide +kernel), by decide +kernel⟩
theorem mw_118 : (Jvm.Cond.methodLink "ThreeCompactors" (76 : Nat) ({ cls := "ThreeCompactors", name := "fieldKind", desc := "(II)I" } : Jvm.MethodName)) ∈ BG := List.mem_filter.mpr ⟨List.mem_of_getElem? (i := 118) (by decide +kernel), by decide +kernel⟩
theorem mw_120 : (Jvm.Cond.instanceMethod ({ cls := "ThreeCompactors", name := "fieldKind", desc := "(II)I" } : Jvm.MethodName)) ∈ BG := List.mem_filter.mpr ⟨List.mem_of_getElem? (i := 120) (by decide +kernel), by decide +kernel⟩
theorem mw_121 : (Jvm.Cond.code ({ cls := "ThreeCompactors", name := "fieldKind", desc := "(II)I" } : Jvm.MethodName) prog_1_method_30_code (4 : Nat) (Option.some Jvm.ClassFile.FieldType.int)) ∈ BG := List.mem_filter.mpr ⟨List.mem_of_getElem? (i := 121) (by decide +kernel), by decide +kernel⟩
theorem mw_122 : (Jvm.Cond.methodLink "ThreeCompactors" (73 : Nat) ({ cls := "ThreeCompactors", name := "fieldAddress", desc := "(II)I" } : Jvm.MethodName)) ∈ BG := List.mem_filter.mpr ⟨List.mem_of_getElem? (i := 122) (by decide +kernel), by decide +kernel⟩
theorem mw_123 : (Jvm.Cond.static ({ cls := "ThreeCompactors", name := "fieldAddress", desc := "(II)I" } : Jvm.MethodName)) ∈ BG := List.mem_filter.mpr ⟨List.mem_of_getElem? (i := 123) (by decide +kernel), by decide +kernel⟩
theorem mw_124 : (Jvm.Cond.code ({ cls := "ThreeCompactors", name := "fieldAddress", desc := "(II)I" } : Jvm.MethodName) prog_1_method_29_code (2 : Nat) (Option.some Jvm.ClassFile.FieldType.int)) ∈ BG := List.mem_filter.mpr ⟨List.mem_of_getElem? (i := 124) (by decide +kernel), by decide +kernel⟩
theorem mw_135 : (Jvm.Cond.methodLink "ThreeCompactors" (31 : Nat) ({ cls := "ThreeCompactors", name := "requireRoot", desc := "(I)V" } : Jvm.MethodName)) ∈ BG := List.mem_filter.mpr ⟨List.mem_of_getElem? (i := 135) (by decide +kernel), by decide +kernel⟩
theorem mw_136 : (Jvm.Cond.static ({ cls := "ThreeCompactors", name := "requireRoot", desc := "(I)V" } : Jvm.MethodName)) ∈ BG := List.mem_filter.mpr ⟨List.mem_of_getElem? (i := 136) (by decide +kernel), by decide +kernel⟩
theorem mw_137 : (Jvm.Cond.code ({ cls := "ThreeCompactors", name := "requireRoot", desc := "(I)V" } : Jvm.MethodName) prog_1_method_17_code (1 : Nat) (Option.none : Option Jvm.ClassFile.FieldType)) ∈ BG := List.mem_filter.mpr ⟨List.mem_of_getElem? (i := 137) (by decide +kernel), by decide +kernel⟩
theorem mw_138 : (Jvm.Cond.classLink "ThreeCompactors" (79 : Nat) "java/lang/IndexOutOfBoundsException") ∈ BG := List.mem_filter.mpr ⟨List.mem_of_getElem? (i := 138) (by decide +kernel), by decide +kernel⟩
theorem mw_208 : (Jvm.Cond.methodLink "ThreeCompactors" (35 : Nat) ({ cls := "ThreeCompactors", name := "requireFieldCount", desc := "(I)V" } : Jvm.MethodName)) ∈ BG := List.mem_filter.mpr ⟨List.mem_of_getElem? (i := 208) (by decide +kernel), by decide +kernel⟩
theorem mw_209 : (Jvm.Cond.static ({ cls := "ThreeCompactors", name := "requireFieldCount", desc := "(I)V" } : Jvm.MethodName)) ∈ BG := List.mem_filter.mpr ⟨List.mem_of_getElem? (i := 209) (by decide +kernel), by decide +kernel⟩
theorem mw_210 : (Jvm.Cond.code ({ cls := "ThreeCompactors", name := "requireFieldCount", desc := "(I)V" } : Jvm.MethodName) prog_1_method_18_code (1 : Nat) (Option.none : Option Jvm.ClassFile.FieldType)) ∈ BG := List.mem_filter.mpr ⟨List.mem_of_getElem? (i := 210) (by decide +kernel), by decide +kernel⟩
theorem mw_211 : (Jvm.Cond.classLink "ThreeCompactors" (97 : Nat) "java/lang/IllegalArgumentException") ∈ BG := List.mem_filter.mpr ⟨List.mem_of_getElem? (i := 211) (by decide +kernel), by decide +kernel⟩
theorem mw_227 : (Jvm.Cond.methodLink "ThreeCompactors" (38 : Nat) ({ cls := "ThreeCompactors", name := "requireRoom", desc := "(I)V" } : Jvm.MethodName)) ∈ BG := List.mem_filter.mpr ⟨List.mem_of_getElem? (i := 227) (by decide +kernel), by decide +kernel⟩
theorem mw_229 : (Jvm.Cond.instanceMethod ({ cls := "ThreeCompactors", name := "requireRoom", desc := "(I)V" } : Jvm.MethodName)) ∈ BG := List.mem_filter.mpr ⟨List.mem_of_getElem? (i := 229) (by decide +kernel), by decide +kernel⟩
theorem mw_230 : (Jvm.Cond.code ({ cls := "ThreeCompactors", name := "requireRoom", desc := "(I)V" } : Jvm.MethodName) prog_1_method_20_code (2 : Nat) (Option.none : Option Jvm.ClassFile.FieldType)) ∈ BG := List.mem_filter.mpr ⟨List.mem_of_getElem? (i := 230) (by decide +kernel), by decide +kernel⟩
theorem mw_231 : (Jvm.Cond.methodLink "ThreeCompactors" (48 : Nat) ({ cls := "ThreeCompactors", name := "hasRoom", desc := "(I)Z" } : Jvm.MethodName)) ∈ BG := List.mem_filter.mpr ⟨List.mem_of_getElem? (i := 231) (by decide +kernel), by decide +kernel⟩
theorem mw_233 : (Jvm.Cond.instanceMethod ({ cls := "ThreeCompactors", name := "hasRoom", desc := "(I)Z" } : Jvm.MethodName)) ∈ BG := List.mem_filter.mpr ⟨List.mem_of_getElem? (i := 233) (by decide +kernel), by decide +kernel⟩
theorem mw_234 : (Jvm.Cond.code ({ cls := "ThreeCompactors", name := "hasRoom", desc := "(I)Z" } : Jvm.MethodName) prog_1_method_24_code (2 : Nat) (Option.some Jvm.ClassFile.FieldType.boolean)) ∈ BG := List.mem_filter.mpr ⟨List.mem_of_getElem? (i := 234) (by decide +kernel), by decide +kernel⟩
theorem mw_235 : (Jvm.Cond.classLink "ThreeCompactors" (104 : Nat) "java/lang/IllegalStateException") ∈ BG := List.mem_filter.mpr ⟨List.mem_of_getElem? (i := 235) (by decide +kernel), by decide +kernel⟩
theorem mw_251 : (Jvm.Cond.methodLink "ThreeCompactors" (41 : Nat) ({ cls := "ThreeCompactors", name := "makeObject", desc := "(II)I" } : Jvm.MethodName)) ∈ BG := List.mem_filter.mpr ⟨List.mem_of_getElem? (i := 251) (by decide +kernel), by decide +kernel⟩
theorem mw_253 : (Jvm.Cond.instanceMethod ({ cls := "ThreeCompactors", name := "makeObject", desc := "(II)I" } : Jvm.MethodName)) ∈ BG := List.mem_filter.mpr ⟨List.mem_of_getElem? (i := 253) (by decide +kernel), by decide +kernel⟩
theorem mw_254 : (Jvm.Cond.code ({ cls := "ThreeCompactors", name := "makeObject", desc := "(II)I" } : Jvm.MethodName) prog_1_method_26_code (3 : Nat) (Option.some Jvm.ClassFile.FieldType.int)) ∈ BG := List.mem_filter.mpr ⟨List.mem_of_getElem? (i := 254) (by decide +kernel), by decide +kernel⟩
theorem mw_263 : (Jvm.Cond.methodLink "ThreeCompactors" (45 : Nat) ({ cls := "ThreeCompactors", name := "requireWay", desc := "(I)V" } : Jvm.MethodName)) ∈ BG := List.mem_filter.mpr ⟨List.mem_of_getElem? (i := 263) (by decide +kernel), by decide +kernel⟩
theorem mw_264 : (Jvm.Cond.static ({ cls := "ThreeCompactors", name := "requireWay", desc := "(I)V" } : Jvm.MethodName)) ∈ BG := List.mem_filter.mpr ⟨List.mem_of_getElem? (i := 264) (by decide +kernel), by decide +kernel⟩
theorem mw_265 : (Jvm.Cond.code ({ cls := "ThreeCompactors", name := "requireWay", desc := "(I)V" } : Jvm.MethodName) prog_1_method_19_code (1 : Nat) (Option.none : Option Jvm.ClassFile.FieldType)) ∈ BG := List.mem_filter.mpr ⟨List.mem_of_getElem? (i := 265) (by decide +kernel), by decide +kernel⟩
theorem mw_267 : (Jvm.Cond.methodLink "ThreeCompactors" (52 : Nat) ({ cls := "ThreeCompactors", name := "requireSizesFor", desc := "(I)V" } : Jvm.MethodName)) ∈ BG := List.mem_filter.mpr ⟨List.mem_of_getElem? (i := 267) (by decide +kernel), by decide +kernel⟩
theorem mw_269 : (Jvm.Cond.instanceMethod ({ cls := "ThreeCompactors", name := "requireSizesFor", desc := "(I)V" } : Jvm.MethodName)) ∈ BG := List.mem_filter.mpr ⟨List.mem_of_getElem? (i := 269) (by decide +kernel), by decide +kernel⟩
theorem mw_270 : (Jvm.Cond.code ({ cls := "ThreeCompactors", name := "requireSizesFor", desc := "(I)V" } : Jvm.MethodName) prog_1_method_21_code (2 : Nat) (Option.none : Option Jvm.ClassFile.FieldType)) ∈ BG := List.mem_filter.mpr ⟨List.mem_of_getElem? (i := 270) (by decide +kernel), by decide +kernel⟩
theorem mw_271 : (Jvm.Cond.methodLink "ThreeCompactors" (109 : Nat) ({ cls := "ThreeCompactors", name := "isOneSize", desc := "()Z" } : Jvm.MethodName)) ∈ BG := List.mem_filter.mpr ⟨List.mem_of_getElem? (i := 271) (by decide +kernel), by decide +kernel⟩
theorem mw_273 : (Jvm.Cond.instanceMethod ({ cls := "ThreeCompactors", name := "isOneSize", desc := "()Z" } : Jvm.MethodName)) ∈ BG := List.mem_filter.mpr ⟨List.mem_of_getElem? (i := 273) (by decide +kernel), by decide +kernel⟩
theorem mw_274 : (Jvm.Cond.code ({ cls := "ThreeCompactors", name := "isOneSize", desc := "()Z" } : Jvm.MethodName) prog_1_method_25_code (2 : Nat) (Option.some Jvm.ClassFile.FieldType.boolean)) ∈ BG := List.mem_filter.mpr ⟨List.mem_of_getElem? (i := 274) (by decide +kernel), by decide +kernel⟩
theorem mw_275 : (Jvm.Cond.classLink "ThreeCompactors" (113 : Nat) "java/lang/UnsupportedOperationException") ∈ BG := List.mem_filter.mpr ⟨List.mem_of_getElem? (i := 275) (by decide +kernel), by decide +kernel⟩
theorem mw_291 : (Jvm.Cond.methodLink "ThreeCompactors" (55 : Nat) ({ cls := "ThreeCompactors", name := "moveTogether", desc := "(I)V" } : Jvm.MethodName)) ∈ BG := List.mem_filter.mpr ⟨List.mem_of_getElem? (i := 291) (by decide +kernel), by decide +kernel⟩
theorem mw_293 : (Jvm.Cond.instanceMethod ({ cls := "ThreeCompactors", name := "moveTogether", desc := "(I)V" } : Jvm.MethodName)) ∈ BG := List.mem_filter.mpr ⟨List.mem_of_getElem? (i := 293) (by decide +kernel), by decide +kernel⟩
theorem mw_294 : (Jvm.Cond.code ({ cls := "ThreeCompactors", name := "moveTogether", desc := "(I)V" } : Jvm.MethodName) prog_1_method_35_code (3 : Nat) (Option.none : Option Jvm.ClassFile.FieldType)) ∈ BG := List.mem_filter.mpr ⟨List.mem_of_getElem? (i := 294) (by decide +kernel), by decide +kernel⟩
theorem mw_295 : (Jvm.Cond.methodLink "ThreeCompactors" (140 : Nat) ({ cls := "ThreeCompactors", name := "planTwoFingers", desc := "()V" } : Jvm.MethodName)) ∈ BG := List.mem_filter.mpr ⟨List.mem_of_getElem? (i := 295) (by decide +kernel), by decide +kernel⟩
theorem mw_297 : (Jvm.Cond.instanceMethod ({ cls := "ThreeCompactors", name := "planTwoFingers", desc := "()V" } : Jvm.MethodName)) ∈ BG := List.mem_filter.mpr ⟨List.mem_of_getElem? (i := 297) (by decide +kernel), by decide +kernel⟩
theorem mw_298 : (Jvm.Cond.code ({ cls := "ThreeCompactors", name := "planTwoFingers", desc := "()V" } : Jvm.MethodName) prog_1_method_37_code (3 : Nat) (Option.none : Option Jvm.ClassFile.FieldType)) ∈ BG := List.mem_filter.mpr ⟨List.mem_of_getElem? (i := 298) (by decide +kernel), by decide +kernel⟩
theorem mw_299 : (Jvm.Cond.methodLink "ThreeCompactors" (143 : Nat) ({ cls := "ThreeCompactors", name := "planSlide", desc := "()V" } : Jvm.MethodName)) ∈ BG := List.mem_filter.mpr ⟨List.mem_of_getElem? (i := 299) (by decide +kernel), by decide +kernel⟩
theorem mw_301 : (Jvm.Cond.instanceMethod ({ cls := "ThreeCompactors", name := "planSlide", desc := "()V" } : Jvm.MethodName)) ∈ BG := List.mem_filter.mpr ⟨List.mem_of_getElem? (i := 301) (by decide +kernel), by decide +kernel⟩
theorem mw_302 : (Jvm.Cond.code ({ cls := "ThreeCompactors", name := "planSlide", desc := "()V" } : Jvm.MethodName) prog_1_method_36_code (4 : Nat) (Option.none : Option Jvm.ClassFile.FieldType)) ∈ BG := List.mem_filter.mpr ⟨List.mem_of_getElem? (i := 302) (by decide +kernel), by decide +kernel⟩
theorem mw_303 : (Jvm.Cond.methodLink "ThreeCompactors" (158 : Nat) ({ cls := "ThreeCompactors", name := "sizeOf", desc := "(I)I" } : Jvm.MethodName)) ∈ BG := List.mem_filter.mpr ⟨List.mem_of_getElem? (i := 303) (by decide +kernel), by decide +kernel⟩
theorem mw_305 : (Jvm.Cond.instanceMethod ({ cls := "ThreeCompactors", name := "sizeOf", desc := "(I)I" } : Jvm.MethodName)) ∈ BG := List.mem_filter.mpr ⟨List.mem_of_getElem? (i := 305) (by decide +kernel), by decide +kernel⟩
theorem mw_306 : (Jvm.Cond.code ({ cls := "ThreeCompactors", name := "sizeOf", desc := "(I)I" } : Jvm.MethodName) prog_1_method_28_code (2 : Nat) (Option.some Jvm.ClassFile.FieldType.int)) ∈ BG := List.mem_filter.mpr ⟨List.mem_of_getElem? (i := 306) (by decide +kernel), by decide +kernel⟩
theorem mw_307 : (Jvm.Cond.methodLink "ThreeCompactors" (146 : Nat) ({ cls := "ThreeCompactors", name := "redirectRoots", desc := "()V" } : Jvm.MethodName)) ∈ BG := List.mem_filter.mpr ⟨List.mem_of_getElem? (i := 307) (by decide +kernel), by decide +kernel⟩
theorem mw_309 : (Jvm.Cond.instanceMethod ({ cls := "ThreeCompactors", name := "redirectRoots", desc := "()V" } : Jvm.MethodName)) ∈ BG := List.mem_filter.mpr ⟨List.mem_of_getElem? (i := 309) (by decide +kernel), by decide +kernel⟩
theorem mw_310 : (Jvm.Cond.code ({ cls := "ThreeCompactors", name := "redirectRoots", desc := "()V" } : Jvm.MethodName) prog_1_method_38_code (2 : Nat) (Option.none : Option Jvm.ClassFile.FieldType)) ∈ BG := List.mem_filter.mpr ⟨List.mem_of_getElem? (i := 310) (by decide +kernel), by decide +kernel⟩
theorem mw_311 : (Jvm.Cond.methodLink "ThreeCompactors" (161 : Nat) ({ cls := "ThreeCompactors", name := "addressAfterMove", desc := "(I)I" } : Jvm.MethodName)) ∈ BG := List.mem_filter.mpr ⟨List.mem_of_getElem? (i := 311) (by decide +kernel), by decide +kernel⟩
theorem mw_313 : (Jvm.Cond.instanceMethod ({ cls := "ThreeCompactors", name := "addressAfterMove", desc := "(I)I" } : Jvm.MethodName)) ∈ BG := List.mem_filter.mpr ⟨List.mem_of_getElem? (i := 313) (by decide +kernel), by decide +kernel⟩
theorem mw_314 : (Jvm.Cond.code ({ cls := "ThreeCompactors", name := "addressAfterMove", desc := "(I)I" } : Jvm.MethodName) prog_1_method_40_code (2 : Nat) (Option.some Jvm.ClassFile.FieldType.int)) ∈ BG := List.mem_filter.mpr ⟨List.mem_of_getElem? (i := 314) (by decide +kernel), by decide +kernel⟩
theorem mw_315 : (Jvm.Cond.methodLink "ThreeCompactors" (149 : Nat) ({ cls := "ThreeCompactors", name := "redirectFields", desc := "(I)V" } : Jvm.MethodName)) ∈ BG := List.mem_filter.mpr ⟨List.mem_of_getElem? (i := 315) (by decide +kernel), by decide +kernel⟩
theorem mw_317 : (Jvm.Cond.instanceMethod ({ cls := "ThreeCompactors", name := "redirectFields", desc := "(I)V" } : Jvm.MethodName)) ∈ BG := List.mem_filter.mpr ⟨List.mem_of_getElem? (i := 317) (by decide +kernel), by decide +kernel⟩
theorem mw_318 : (Jvm.Cond.code ({ cls := "ThreeCompactors", name := "redirectFields", desc := "(I)V" } : Jvm.MethodName) prog_1_method_39_code (5 : Nat) (Option.none : Option Jvm.ClassFile.FieldType)) ∈ BG := List.mem_filter.mpr ⟨List.mem_of_getElem? (i := 318) (by decide +kernel), by decide +kernel⟩
theorem mw_319 : (Jvm.Cond.methodLink "ThreeCompactors" (152 : Nat) ({ cls := "ThreeCompactors", name := "moveObjects", desc := "()V" } : Jvm.MethodName)) ∈ BG := List.mem_filter.mpr ⟨List.mem_of_getElem? (i := 319) (by decide +kernel), by decide +kernel⟩
theorem mw_321 : (Jvm.Cond.instanceMethod ({ cls := "ThreeCompactors", name := "moveObjects", desc := "()V" } : Jvm.MethodName)) ∈ BG := List.mem_filter.mpr ⟨List.mem_of_getElem? (i := 321) (by decide +kernel), by decide +kernel⟩
theorem mw_322 : (Jvm.Cond.code ({ cls := "ThreeCompactors", name := "moveObjects", desc := "()V" } : Jvm.MethodName) prog_1_method_41_code (3 : Nat) (Option.none : Option Jvm.ClassFile.FieldType)) ∈ BG := List.mem_filter.mpr ⟨List.mem_of_getElem? (i := 322) (by decide +kernel), by decide +kernel⟩
theorem mw_323 : (Jvm.Cond.methodLink "ThreeCompactors" (164 : Nat) ({ cls := "java/lang/System", name := "arraycopy", desc := "(Ljava/lang/Object;ILjava/lang/Object;II)V" } : Jvm.MethodName)) ∈ BG := List.mem_filter.mpr ⟨List.mem_of_getElem? (i := 323) (by decide +kernel), by decide +kernel⟩
theorem mw_324 : (Jvm.Cond.static ({ cls := "java/lang/System", name := "arraycopy", desc := "(Ljava/lang/Object;ILjava/lang/Object;II)V" } : Jvm.MethodName)) ∈ BG := List.mem_filter.mpr ⟨List.mem_of_getElem? (i := 324) (by decide +kernel), by decide +kernel⟩
theorem mw_325 : (Jvm.Cond.native ({ cls := "java/lang/System", name := "arraycopy", desc := "(Ljava/lang/Object;ILjava/lang/Object;II)V" } : Jvm.MethodName)) ∈ BG := List.mem_filter.mpr ⟨List.mem_of_getElem? (i := 325) (by decide +kernel), by decide +kernel⟩
theorem mw_326 : (Jvm.Cond.methodLink "ThreeCompactors" (155 : Nat) ({ cls := "ThreeCompactors", name := "listObjects", desc := "()V" } : Jvm.MethodName)) ∈ BG := List.mem_filter.mpr ⟨List.mem_of_getElem? (i := 326) (by decide +kernel), by decide +kernel⟩
theorem mw_328 : (Jvm.Cond.instanceMethod ({ cls := "ThreeCompactors", name := "listObjects", desc := "()V" } : Jvm.MethodName)) ∈ BG := List.mem_filter.mpr ⟨List.mem_of_getElem? (i := 328) (by decide +kernel), by decide +kernel⟩
theorem mw_329 : (Jvm.Cond.code ({ cls := "ThreeCompactors", name := "listObjects", desc := "()V" } : Jvm.MethodName) prog_1_method_42_code (3 : Nat) (Option.none : Option Jvm.ClassFile.FieldType)) ∈ BG := List.mem_filter.mpr ⟨List.mem_of_getElem? (i := 329) (by decide +kernel), by decide +kernel⟩
theorem mw_330 : (Jvm.Cond.methodLink "ThreeCompactors" (170 : Nat) ({ cls := "java/util/Arrays", name := "fill", desc := "([IIII)V" } : Jvm.MethodName)) ∈ BG := List.mem_filter.mpr ⟨List.mem_of_getElem? (i := 330) (by decide +kernel), by decide +kernel⟩
theorem mw_331 : (Jvm.Cond.static ({ cls := "java/util/Arrays", name := "fill", desc := "([IIII)V" } : Jvm.MethodName)) ∈ BG := List.mem_filter.mpr ⟨List.mem_of_getElem? (i := 331) (by decide +kernel), by decide +kernel⟩
theorem mw_332 : (Jvm.Cond.code ({ cls := "java/util/Arrays", name := "fill", desc := "([IIII)V" } : Jvm.MethodName) prog_13_method_104_code (5 : Nat) (Option.none : Option Jvm.ClassFile.FieldType)) ∈ BG := List.mem_filter.mpr ⟨List.mem_of_getElem? (i := 332) (by decide +kernel), by decide +kernel⟩
theorem mw_333 : (Jvm.Cond.methodLink "java/util/Arrays" (13 : Nat) ({ cls := "java/util/Arrays", name := "rangeCheck", desc := "(III)V" } : Jvm.MethodName)) ∈ BG := List.mem_filter.mpr ⟨List.mem_of_getElem? (i := 333) (by decide +kernel), by decide +kernel⟩
theorem mw_334 : (Jvm.Cond.static ({ cls := "java/util/Arrays", name := "rangeCheck", desc := "(III)V" } : Jvm.MethodName)) ∈ BG := List.mem_filter.mpr ⟨List.mem_of_getElem? (i := 334) (by decide +kernel), by decide +kernel⟩
theorem mw_335 : (Jvm.Cond.code ({ cls := "java/util/Arrays", name := "rangeCheck", desc := "(III)V" } : Jvm.MethodName) prog_13_method_30_code (3 : Nat) (Option.none : Option Jvm.ClassFile.FieldType)) ∈ BG := List.mem_filter.mpr ⟨List.mem_of_getElem? (i := 335) (by decide +kernel), by decide +kernel⟩
theorem mw_365 : (Jvm.Cond.methodLink "ThreeCompactors" (62 : Nat) ({ cls := "ThreeCompactors", name := "requireObjectWithField", desc := "(II)V" } : Jvm.MethodName)) ∈ BG := List.mem_filter.mpr ⟨List.mem_of_getElem? (i := 365) (by decide +kernel), by decide +kernel⟩
theorem mw_367 : (Jvm.Cond.instanceMethod ({ cls := "ThreeCompactors", name := "requireObjectWithField", desc := "(II)V" } : Jvm.MethodName)) ∈ BG := List.mem_filter.mpr ⟨List.mem_of_getElem? (i := 367) (by decide +kernel), by decide +kernel⟩
theorem mw_368 : (Jvm.Cond.code ({ cls := "ThreeCompactors", name := "requireObjectWithField", desc := "(II)V" } : Jvm.MethodName) prog_1_method_22_code (3 : Nat) (Option.none : Option Jvm.ClassFile.FieldType)) ∈ BG := List.mem_filter.mpr ⟨List.mem_of_getElem? (i := 368) (by decide +kernel), by decide +kernel⟩
theorem mw_369 : (Jvm.Cond.classLink "ThreeCompactors" (118 : Nat) "java/util/NoSuchElementException") ∈ BG := List.mem_filter.mpr ⟨List.mem_of_getElem? (i := 369) (by decide +kernel), by decide +kernel⟩
theorem mw_386 : (Jvm.Cond.methodLink "ThreeCompactors" (66 : Nat) ({ cls := "ThreeCompactors", name := "setField", desc := "(IIII)V" } : Jvm.MethodName)) ∈ BG := List.mem_filter.mpr ⟨List.mem_of_getElem? (i := 386) (by decide +kernel), by decide +kernel⟩
theorem mw_388 : (Jvm.Cond.instanceMethod ({ cls := "ThreeCompactors", name := "setField", desc := "(IIII)V" } : Jvm.MethodName)) ∈ BG := List.mem_filter.mpr ⟨List.mem_of_getElem? (i := 388) (by decide +kernel), by decide +kernel⟩
theorem mw_389 : (Jvm.Cond.code ({ cls := "ThreeCompactors", name := "setField", desc := "(IIII)V" } : Jvm.MethodName) prog_1_method_31_code (8 : Nat) (Option.none : Option Jvm.ClassFile.FieldType)) ∈ BG := List.mem_filter.mpr ⟨List.mem_of_getElem? (i := 389) (by decide +kernel), by decide +kernel⟩
theorem mw_404 : (Jvm.Cond.methodLink "ThreeCompactors" (70 : Nat) ({ cls := "ThreeCompactors", name := "requireReference", desc := "(II)V" } : Jvm.MethodName)) ∈ BG := List.mem_filter.mpr ⟨List.mem_of_getElem? (i := 404) (by decide +kernel), by decide +kernel⟩
theorem mw_406 : (Jvm.Cond.instanceMethod ({ cls := "ThreeCompactors", name := "requireReference", desc := "(II)V" } : Jvm.MethodName)) ∈ BG := List.mem_filter.mpr ⟨List.mem_of_getElem? (i := 406) (by decide +kernel), by decide +kernel⟩
theorem mw_407 : (Jvm.Cond.code ({ cls := "ThreeCompactors", name := "requireReference", desc := "(II)V" } : Jvm.MethodName) prog_1_method_23_code (3 : Nat) (Option.none : Option Jvm.ClassFile.FieldType)) ∈ BG := List.mem_filter.mpr ⟨List.mem_of_getElem? (i := 407) (by decide +kernel), by decide +kernel⟩
theorem mw_444 : (Jvm.Cond.fieldLink "ThreeCompactorsModel" (38 : Nat) "ThreeCompactorsModel" "thrown" "I") ∈ BG := List.mem_filter.mpr ⟨List.mem_of_getElem? (i := 444) (by decide +kernel), by decide +kernel⟩
theorem mw_445 : (Jvm.Cond.fieldLink "ThreeCompactorsModel" (73 : Nat) "ThreeCompactorsModel" "made" "I") ∈ BG := List.mem_filter.mpr ⟨List.mem_of_getElem? (i := 445) (by decide +kernel), by decide +kernel⟩
theorem mw_446 : (Jvm.Cond.fieldLink "ThreeCompactorsModel" (7 : Nat) "ThreeCompactorsModel" "used" "[Z") ∈ BG := List.mem_filter.mpr ⟨List.mem_of_getElem? (i := 446) (by decide +kernel), by decide +kernel⟩
theorem mw_447 : (Jvm.Cond.fieldLink "ThreeCompactorsModel" (13 : Nat) "ThreeCompactorsModel" "fields" "[I") ∈ BG := List.mem_filter.mpr ⟨List.mem_of_getElem? (i := 447) (by decide +kernel), by decide +kernel⟩
theorem mw_448 : (Jvm.Cond.fieldLink "ThreeCompactorsModel" (17 : Nat) "ThreeCompactorsModel" "serials" "[I") ∈ BG := List.mem_filter.mpr ⟨List.mem_of_getElem? (i := 448) (by decide +kernel), by decide +kernel⟩
theorem mw_449 : (Jvm.Cond.fieldLink "ThreeCompactorsModel" (20 : Nat) "ThreeCompactorsModel" "kinds" "[I") ∈ BG := List.mem_filter.mpr ⟨List.mem_of_getElem? (i := 449) (by decide +kernel), by decide +kernel⟩
theorem mw_450 : (Jvm.Cond.fieldLink "ThreeCompactorsModel" (23 : Nat) "ThreeCompactorsModel" "values" "[I") ∈ BG := List.mem_filter.mpr ⟨List.mem_of_getElem? (i := 450) (by decide +kernel), by decide +kernel⟩
theorem mw_451 : (Jvm.Cond.fieldLink "ThreeCompactorsModel" (26 : Nat) "ThreeCompactorsModel" "lives" "[Z") ∈ BG := List.mem_filter.mpr ⟨List.mem_of_getElem? (i := 451) (by decide +kernel), by decide +kernel⟩
theorem mw_452 : (Jvm.Cond.fieldLink "ThreeCompactorsModel" (42 : Nat) "ThreeCompactorsModel" "count" "I") ∈ BG := List.mem_filter.mpr ⟨List.mem_of_getElem? (i := 452) (by decide +kernel), by decide +kernel⟩
theorem mw_453 : (Jvm.Cond.fieldLink "ThreeCompactorsModel" (29 : Nat) "ThreeCompactorsModel" "order" "[I") ∈ BG := List.mem_filter.mpr ⟨List.mem_of_getElem? (i := 453) (by decide +kernel), by decide +kernel⟩
theorem mw_454 : (Jvm.Cond.fieldLink "ThreeCompactorsModel" (32 : Nat) "ThreeCompactorsModel" "next" "[I") ∈ BG := List.mem_filter.mpr ⟨List.mem_of_getElem? (i := 454) (by decide +kernel), by decide +kernel⟩
theorem mw_455 : (Jvm.Cond.fieldLink "ThreeCompactorsModel" (35 : Nat) "ThreeCompactorsModel" "roots" "[I") ∈ BG := List.mem_filter.mpr ⟨List.mem_of_getElem? (i := 455) (by decide +kernel), by decide +kernel⟩
theorem mw_490 : (Jvm.Cond.methodLink "ThreeCompactorsModel" (62 : Nat) ({ cls := "ThreeCompactorsModel", name := "oneSize", desc := "()Z" } : Jvm.MethodName)) ∈ BG := List.mem_filter.mpr ⟨List.mem_of_getElem? (i := 490) (by decide +kernel), by decide +kernel⟩
theorem mw_492 : (Jvm.Cond.instanceMethod ({ cls := "ThreeCompactorsModel", name := "oneSize", desc := "()Z" } : Jvm.MethodName)) ∈ BG := List.mem_filter.mpr ⟨List.mem_of_getElem? (i := 492) (by decide +kernel), by decide +kernel⟩
theorem mw_493 : (Jvm.Cond.code ({ cls := "ThreeCompactorsModel", name := "oneSize", desc := "()Z" } : Jvm.MethodName) prog_3_method_8_code (3 : Nat) (Option.some Jvm.ClassFile.FieldType.boolean)) ∈ BG := List.mem_filter.mpr ⟨List.mem_of_getElem? (i := 493) (by decide +kernel), by decide +kernel⟩
theorem mw_494 : (Jvm.Cond.methodLink "ThreeCompactorsModel" (66 : Nat) ({ cls := "ThreeCompactorsModel", name := "topNow", desc := "()I" } : Jvm.MethodName)) ∈ BG := List.mem_filter.mpr ⟨List.mem_of_getElem? (i := 494) (by decide +kernel), by decide +kernel⟩
theorem mw_496 : (Jvm.Cond.instanceMethod ({ cls := "ThreeCompactorsModel", name := "topNow", desc := "()I" } : Jvm.MethodName)) ∈ BG := List.mem_filter.mpr ⟨List.mem_of_getElem? (i := 496) (by decide +kernel), by decide +kernel⟩
theorem mw_497 : (Jvm.Cond.code ({ cls := "ThreeCompactorsModel", name := "topNow", desc := "()I" } : Jvm.MethodName) prog_3_method_3_code (3 : Nat) (Option.some Jvm.ClassFile.FieldType.int)) ∈ BG := List.mem_filter.mpr ⟨List.mem_of_getElem? (i := 497) (by decide +kernel), by decide +kernel⟩
theorem mw_498 : (Jvm.Cond.methodLink "ThreeCompactorsModel" (69 : Nat) ({ cls := "ThreeCompactorsModel", name := "press", desc := "(I)V" } : Jvm.MethodName)) ∈ BG := List.mem_filter.mpr ⟨List.mem_of_getElem? (i := 498) (by decide +kernel), by decide +kernel⟩
theorem mw_500 : (Jvm.Cond.instanceMethod ({ cls := "ThreeCompactorsModel", name := "press", desc := "(I)V" } : Jvm.MethodName)) ∈ BG := List.mem_filter.mpr ⟨List.mem_of_getElem? (i := 500) (by decide +kernel), by decide +kernel⟩
theorem mw_501 : (Jvm.Cond.code ({ cls := "ThreeCompactorsModel", name := "press", desc := "(I)V" } : Jvm.MethodName) prog_3_method_11_code (6 : Nat) (Option.none : Option Jvm.ClassFile.FieldType)) ∈ BG := List.mem_filter.mpr ⟨List.mem_of_getElem? (i := 501) (by decide +kernel), by decide +kernel⟩
theorem mw_502 : (Jvm.Cond.methodLink "ThreeCompactorsModel" (53 : Nat) ({ cls := "ThreeCompactorsModel", name := "findAlive", desc := "()V" } : Jvm.MethodName)) ∈ BG := List.mem_filter.mpr ⟨List.mem_of_getElem? (i := 502) (by decide +kernel), by decide +kernel⟩
theorem mw_504 : (Jvm.Cond.instanceMethod ({ cls := "ThreeCompactorsModel", name := "findAlive", desc := "()V" } : Jvm.MethodName)) ∈ BG := List.mem_filter.mpr ⟨List.mem_of_getElem? (i := 504) (by decide +kernel), by decide +kernel⟩
theorem mw_505 : (Jvm.Cond.code ({ cls := "ThreeCompactorsModel", name := "findAlive", desc := "()V" } : Jvm.MethodName) prog_3_method_6_code (5 : Nat) (Option.none : Option Jvm.ClassFile.FieldType)) ∈ BG := List.mem_filter.mpr ⟨List.mem_of_getElem? (i := 505) (by decide +kernel), by decide +kernel⟩
theorem mw_506 : (Jvm.Cond.methodLink "ThreeCompactorsModel" (45 : Nat) ({ cls := "ThreeCompactorsModel", name := "enliven", desc := "(I)Z" } : Jvm.MethodName)) ∈ BG := List.mem_filter.mpr ⟨List.mem_of_getElem? (i := 506) (by decide +kernel), by decide +kernel⟩
theorem mw_508 : (Jvm.Cond.instanceMethod ({ cls := "ThreeCompactorsModel", name := "enliven", desc := "(I)Z" } : Jvm.MethodName)) ∈ BG := List.mem_filter.mpr ⟨List.mem_of_getElem? (i := 508) (by decide +kernel), by decide +kernel⟩
theorem mw_509 : (Jvm.Cond.code ({ cls := "ThreeCompactorsModel", name := "enliven", desc := "(I)Z" } : Jvm.MethodName) prog_3_method_5_code (3 : Nat) (Option.some Jvm.ClassFile.FieldType.boolean)) ∈ BG := List.mem_filter.mpr ⟨List.mem_of_getElem? (i := 509) (by decide +kernel), by decide +kernel⟩
theorem mw_510 : (Jvm.Cond.methodLink "ThreeCompactorsModel" (49 : Nat) ({ cls := "ThreeCompactorsModel", name := "countAlive", desc := "()I" } : Jvm.MethodName)) ∈ BG := List.mem_filter.mpr ⟨List.mem_of_getElem? (i := 510) (by decide +kernel), by decide +kernel⟩
theorem mw_512 : (Jvm.Cond.instanceMethod ({ cls := "ThreeCompactorsModel", name := "countAlive", desc := "()I" } : Jvm.MethodName)) ∈ BG := List.mem_filter.mpr ⟨List.mem_of_getElem? (i := 512) (by decide +kernel), by decide +kernel⟩
theorem mw_513 : (Jvm.Cond.code ({ cls := "ThreeCompactorsModel", name := "countAlive", desc := "()I" } : Jvm.MethodName) prog_3_method_7_code (3 : Nat) (Option.some Jvm.ClassFile.FieldType.int)) ∈ BG := List.mem_filter.mpr ⟨List.mem_of_getElem? (i := 513) (by decide +kernel), by decide +kernel⟩
theorem mw_514 : (Jvm.Cond.methodLink "ThreeCompactorsModel" (56 : Nat) ({ cls := "ThreeCompactorsModel", name := "fillGaps", desc := "()V" } : Jvm.MethodName)) ∈ BG := List.mem_filter.mpr ⟨List.mem_of_getElem? (i := 514) (by decide +kernel), by decide +kernel⟩
theorem mw_516 : (Jvm.Cond.instanceMethod ({ cls := "ThreeCompactorsModel", name := "fillGaps", desc := "()V" } : Jvm.MethodName)) ∈ BG := List.mem_filter.mpr ⟨List.mem_of_getElem? (i := 516) (by decide +kernel), by decide +kernel⟩
theorem mw_517 : (Jvm.Cond.code ({ cls := "ThreeCompactorsModel", name := "fillGaps", desc := "()V" } : Jvm.MethodName) prog_3_method_10_code (4 : Nat) (Option.none : Option Jvm.ClassFile.FieldType)) ∈ BG := List.mem_filter.mpr ⟨List.mem_of_getElem? (i := 517) (by decide +kernel), by decide +kernel⟩
theorem mw_518 : (Jvm.Cond.methodLink "ThreeCompactorsModel" (59 : Nat) ({ cls := "ThreeCompactorsModel", name := "keepOrder", desc := "()V" } : Jvm.MethodName)) ∈ BG := List.mem_filter.mpr ⟨List.mem_of_getElem? (i := 518) (by decide +kernel), by decide +kernel⟩
theorem mw_520 : (Jvm.Cond.instanceMethod ({ cls := "ThreeCompactorsModel", name := "keepOrder", desc := "()V" } : Jvm.MethodName)) ∈ BG := List.mem_filter.mpr ⟨List.mem_of_getElem? (i := 520) (by decide +kernel), by decide +kernel⟩
theorem mw_521 : (Jvm.Cond.code ({ cls := "ThreeCompactorsModel", name := "keepOrder", desc := "()V" } : Jvm.MethodName) prog_3_method_9_code (3 : Nat) (Option.none : Option Jvm.ClassFile.FieldType)) ∈ BG := List.mem_filter.mpr ⟨List.mem_of_getElem? (i := 521) (by decide +kernel), by decide +kernel⟩
theorem mw_526 : (Jvm.Cond.methodLink "ThreeCompactorsModel" (76 : Nat) ({ cls := "ThreeCompactorsModel", name := "isRoot", desc := "(I)Z" } : Jvm.MethodName)) ∈ BG := List.mem_filter.mpr ⟨List.mem_of_getElem? (i := 526) (by decide +kernel), by decide +kernel⟩
theorem mw_527 : (Jvm.Cond.static ({ cls := "ThreeCompactorsModel", name := "isRoot", desc := "(I)Z" } : Jvm.MethodName)) ∈ BG := List.mem_filter.mpr ⟨List.mem_of_getElem? (i := 527) (by decide +kernel), by decide +kernel⟩
theorem mw_528 : (Jvm.Cond.code ({ cls := "ThreeCompactorsModel", name := "isRoot", desc := "(I)Z" } : Jvm.MethodName) prog_3_method_14_code (1 : Nat) (Option.some Jvm.ClassFile.FieldType.boolean)) ∈ BG := List.mem_filter.mpr ⟨List.mem_of_getElem? (i := 528) (by decide +kernel), by decide +kernel⟩
theorem mw_529 : (Jvm.Cond.methodLink "ThreeCompactorsModel" (79 : Nat) ({ cls := "ThreeCompactorsModel", name := "isFields", desc := "(I)Z" } : Jvm.MethodName)) ∈ BG := List.mem_filter.mpr ⟨List.mem_of_getElem? (i := 529) (by decide +kernel), by decide +kernel⟩
theorem mw_530 : (Jvm.Cond.static ({ cls := "ThreeCompactorsModel", name := "isFields", desc := "(I)Z" } : Jvm.MethodName)) ∈ BG := List.mem_filter.mpr ⟨List.mem_of_getElem? (i := 530) (by decide +kernel), by decide +kernel⟩
theorem mw_531 : (Jvm.Cond.code ({ cls := "ThreeCompactorsModel", name := "isFields", desc := "(I)Z" } : Jvm.MethodName) prog_3_method_15_code (1 : Nat) (Option.some Jvm.ClassFile.FieldType.boolean)) ∈ BG := List.mem_filter.mpr ⟨List.mem_of_getElem? (i := 531) (by decide +kernel), by decide +kernel⟩
theorem mw_532 : (Jvm.Cond.methodLink "ThreeCompactorsModel" (82 : Nat) ({ cls := "ThreeCompactorsModel", name := "fits", desc := "(I)Z" } : Jvm.MethodName)) ∈ BG := List.mem_filter.mpr ⟨List.mem_of_getElem? (i := 532) (by decide +kernel), by decide +kernel⟩
theorem mw_534 : (Jvm.Cond.instanceMethod ({ cls := "ThreeCompactorsModel", name := "fits", desc := "(I)Z" } : Jvm.MethodName)) ∈ BG := List.mem_filter.mpr ⟨List.mem_of_getElem? (i := 534) (by decide +kernel), by decide +kernel⟩
theorem mw_535 : (Jvm.Cond.code ({ cls := "ThreeCompactorsModel", name := "fits", desc := "(I)Z" } : Jvm.MethodName) prog_3_method_16_code (2 : Nat) (Option.some Jvm.ClassFile.FieldType.boolean)) ∈ BG := List.mem_filter.mpr ⟨List.mem_of_getElem? (i := 535) (by decide +kernel), by decide +kernel⟩
theorem mw_536 : (Jvm.Cond.methodLink "ThreeCompactorsModel" (85 : Nat) ({ cls := "ThreeCompactorsModel", name := "make", desc := "(II)I" } : Jvm.MethodName)) ∈ BG := List.mem_filter.mpr ⟨List.mem_of_getElem? (i := 536) (by decide +kernel), by decide +kernel⟩
theorem mw_538 : (Jvm.Cond.instanceMethod ({ cls := "ThreeCompactorsModel", name := "make", desc := "(II)I" } : Jvm.MethodName)) ∈ BG := List.mem_filter.mpr ⟨List.mem_of_getElem? (i := 538) (by decide +kernel), by decide +kernel⟩
theorem mw_539 : (Jvm.Cond.code ({ cls := "ThreeCompactorsModel", name := "make", desc := "(II)I" } : Jvm.MethodName) prog_3_method_13_code (5 : Nat) (Option.some Jvm.ClassFile.FieldType.int)) ∈ BG := List.mem_filter.mpr ⟨List.mem_of_getElem? (i := 539) (by decide +kernel), by decide +kernel⟩
theorem mw_556 : (Jvm.Cond.methodLink "ThreeCompactorsModel" (89 : Nat) ({ cls := "ThreeCompactorsModel", name := "bar", desc := "(II)I" } : Jvm.MethodName)) ∈ BG := List.mem_filter.mpr ⟨List.mem_of_getElem? (i := 556) (by decide +kernel), by decide +kernel⟩
theorem mw_558 : (Jvm.Cond.instanceMethod ({ cls := "ThreeCompactorsModel", name := "bar", desc := "(II)I" } : Jvm.MethodName)) ∈ BG := List.mem_filter.mpr ⟨List.mem_of_getElem? (i := 558) (by decide +kernel), by decide +kernel⟩
theorem mw_559 : (Jvm.Cond.code ({ cls := "ThreeCompactorsModel", name := "bar", desc := "(II)I" } : Jvm.MethodName) prog_3_method_21_code (3 : Nat) (Option.some Jvm.ClassFile.FieldType.int)) ∈ BG := List.mem_filter.mpr ⟨List.mem_of_getElem? (i := 559) (by decide +kernel), by decide +kernel⟩
theorem mw_560 : (Jvm.Cond.methodLink "ThreeCompactorsModel" (92 : Nat) ({ cls := "ThreeCompactorsModel", name := "set", desc := "(IIII)V" } : Jvm.MethodName)) ∈ BG := List.mem_filter.mpr ⟨List.mem_of_getElem? (i := 560) (by decide +kernel), by decide +kernel⟩
theorem mw_562 : (Jvm.Cond.instanceMethod ({ cls := "ThreeCompactorsModel", name := "set", desc := "(IIII)V" } : Jvm.MethodName)) ∈ BG := List.mem_filter.mpr ⟨List.mem_of_getElem? (i := 562) (by decide +kernel), by decide +kernel⟩
theorem mw_563 : (Jvm.Cond.code ({ cls := "ThreeCompactorsModel", name := "set", desc := "(IIII)V" } : Jvm.MethodName) prog_3_method_22_code (5 : Nat) (Option.none : Option Jvm.ClassFile.FieldType)) ∈ BG := List.mem_filter.mpr ⟨List.mem_of_getElem? (i := 563) (by decide +kernel), by decide +kernel⟩
theorem mw_584 : (Jvm.Cond.methodLink "ThreeCompactorsModel" (96 : Nat) ({ cls := "ThreeCompactorsModel", name := "addressOf", desc := "(I)I" } : Jvm.MethodName)) ∈ BG := List.mem_filter.mpr ⟨List.mem_of_getElem? (i := 584) (by decide +kernel), by decide +kernel⟩
theorem mw_586 : (Jvm.Cond.instanceMethod ({ cls := "ThreeCompactorsModel", name := "addressOf", desc := "(I)I" } : Jvm.MethodName)) ∈ BG := List.mem_filter.mpr ⟨List.mem_of_getElem? (i := 586) (by decide +kernel), by decide +kernel⟩
theorem mw_587 : (Jvm.Cond.code ({ cls := "ThreeCompactorsModel", name := "addressOf", desc := "(I)I" } : Jvm.MethodName) prog_3_method_4_code (4 : Nat) (Option.some Jvm.ClassFile.FieldType.int)) ∈ BG := List.mem_filter.mpr ⟨List.mem_of_getElem? (i := 587) (by decide +kernel), by decide +kernel⟩
theorem mw_592 : (Jvm.Cond.methodLink "ThreeCompactorsModel" (100 : Nat) ({ cls := "ThreeCompactorsModel", name := "wordOf", desc := "(II)I" } : Jvm.MethodName)) ∈ BG := List.mem_filter.mpr ⟨List.mem_of_getElem? (i := 592) (by decide +kernel), by decide +kernel⟩
theorem mw_594 : (Jvm.Cond.instanceMethod ({ cls := "ThreeCompactorsModel", name := "wordOf", desc := "(II)I" } : Jvm.MethodName)) ∈ BG := List.mem_filter.mpr ⟨List.mem_of_getElem? (i := 594) (by decide +kernel), by decide +kernel⟩
theorem mw_595 : (Jvm.Cond.code ({ cls := "ThreeCompactorsModel", name := "wordOf", desc := "(II)I" } : Jvm.MethodName) prog_3_method_29_code (6 : Nat) (Option.some Jvm.ClassFile.FieldType.int)) ∈ BG := List.mem_filter.mpr ⟨List.mem_of_getElem? (i := 595) (by decide +kernel), by decide +kernel⟩
end
section
theorem dXA_rangeCheck_0 : decode cXA_rangeCheck 0 = .ok (.iload_n 1, 1) := by decide +kernel
theorem dXA_rangeCheck_1 : decode cXA_rangeCheck 1 = .ok (.iload_n 2, 1) := by decide +kernel
theorem dXA_rangeCheck_2 : decode cXA_rangeCheck 2 = .ok (.if_icmp .le 44, 3) := by decide +kernel
theorem dXA_rangeCheck_5 : decode cXA_rangeCheck 5 = .ok (.new 43, 3) := by decide +kernel
theorem dXA_rangeCheck_8 : decode cXA_rangeCheck 8 = .ok (.dup, 1) := by decide +kernel
theorem dXA_rangeCheck_9 : decode cXA_rangeCheck 9 = .ok (.new 45, 3) := by decide +kernel
theorem dXA_rangeCheck_12 : decode cXA_rangeCheck 12 = .ok (.dup, 1) := by decide +kernel
theorem dXA_rangeCheck_13 : decode cXA_rangeCheck 13 = .ok (.invokespecial 47, 3) := by decide +kernel
theorem dXA_rangeCheck_16 : decode cXA_rangeCheck 16 = .ok (.ldc 48, 2) := by decide +kernel
theorem dXA_rangeCheck_18 : decode cXA_rangeCheck 18 = .ok (.invokevirtual 50, 3) := by decide +kernel
theorem dXA_rangeCheck_21 : decode cXA_rangeCheck 21 = .ok (.iload_n 1, 1) := by decide +kernel
theorem dXA_rangeCheck_22 : decode cXA_rangeCheck 22 = .ok (.invokevirtual 54, 3) := by decide +kernel
theorem dXA_rangeCheck_25 : decode cXA_rangeCheck 25 = .ok (.ldc 57, 2) := by decide +kernel
theorem dXA_rangeCheck_27 : decode cXA_rangeCheck 27 = .ok (.invokevirtual 50, 3) := by decide +kernel
theorem dXA_rangeCheck_30 : decode cXA_rangeCheck 30 = .ok (.iload_n 2, 1) := by decide +kernel
theorem dXA_rangeCheck_31 : decode cXA_rangeCheck 31 = .ok (.invokevirtual 54, 3) := by decide +kernel
theorem dXA_rangeCheck_34 : decode cXA_rangeCheck 34 = .ok (.ldc 59, 2) := by decide +kernel
theorem dXA_rangeCheck_36 : decode cXA_rangeCheck 36 = .ok (.invokevirtual 50, 3) := by decide +kernel
theorem dXA_rangeCheck_39 : decode cXA_rangeCheck 39 = .ok (.invokevirtual 61, 3) := by decide +kernel
theorem dXA_rangeCheck_42 : decode cXA_rangeCheck 42 = .ok (.invokespecial 65, 3) := by decide +kernel
theorem dXA_rangeCheck_45 : decode cXA_rangeCheck 45 = .ok (.athrow, 1) := by decide +kernel
theorem dXA_rangeCheck_46 : decode cXA_rangeCheck 46 = .ok (.iload_n 1, 1) := by decide +kernel
theorem dXA_rangeCheck_47 : decode cXA_rangeCheck 47 = .ok (.ifCond .ge 12, 3) := by decide +kernel
theorem dXA_rangeCheck_50 : decode cXA_rangeCheck 50 = .ok (.new 68, 3) := by decide +kernel
theorem dXA_rangeCheck_53 : decode cXA_rangeCheck 53 = .ok (.dup, 1) := by decide +kernel
theorem dXA_rangeCheck_54 : decode cXA_rangeCheck 54 = .ok (.iload_n 1, 1) := by decide +kernel
theorem dXA_rangeCheck_55 : decode cXA_rangeCheck 55 = .ok (.invokespecial 70, 3) := by decide +kernel
theorem dXA_rangeCheck_58 : decode cXA_rangeCheck 58 = .ok (.athrow, 1) := by decide +kernel
theorem dXA_rangeCheck_59 : decode cXA_rangeCheck 59 = .ok (.iload_n 2, 1) := by decide +kernel
theorem dXA_rangeCheck_60 : decode cXA_rangeCheck 60 = .ok (.iload_n 0, 1) := by decide +kernel
theorem dXA_rangeCheck_61 : decode cXA_rangeCheck 61 = .ok (.if_icmp .le 12, 3) := by decide +kernel
theorem dXA_rangeCheck_64 : decode cXA_rangeCheck 64 = .ok (.new 68, 3) := by decide +kernel
theorem dXA_rangeCheck_67 : decode cXA_rangeCheck 67 = .ok (.dup, 1) := by decide +kernel
theorem dXA_rangeCheck_68 : decode cXA_rangeCheck 68 = .ok (.iload_n 2, 1) := by decide +kernel
theorem dXA_rangeCheck_69 : decode cXA_rangeCheck 69 = .ok (.invokespecial 70, 3) := by decide +kernel
theorem dXA_rangeCheck_72 : decode cXA_rangeCheck 72 = .ok (.athrow, 1) := by decide +kernel
theorem dXA_rangeCheck_73 : decode cXA_rangeCheck 73 = .ok (.return_, 1) := by decide +kernel
theorem dXA_fill_0 : decode cXA_fill 0 = .ok (.iconst 0, 1) := by decide +kernel
theorem dXA_fill_1 : decode cXA_fill 1 = .ok (.istore_n 2, 1) := by decide +kernel
theorem dXA_fill_2 : decode cXA_fill 2 = .ok (.aload_n 0, 1) := by decide +kernel
theorem dXA_fill_3 : decode cXA_fill 3 = .ok (.arraylength, 1) := by decide +kernel
theorem dXA_fill_4 : decode cXA_fill 4 = .ok (.istore_n 3, 1) := by decide +kernel
theorem dXA_fill_5 : decode cXA_fill 5 = .ok (.iload_n 2, 1) := by decide +kernel
theorem dXA_fill_6 : decode cXA_fill 6 = .ok (.iload_n 3, 1) := by decide +kernel
theorem dXA_fill_7 : decode cXA_fill 7 = .ok (.if_icmp .ge 13, 3) := by decide +kernel
theorem dXA_fill_10 : decode cXA_fill 10 = .ok (.aload_n 0, 1) := by decide +kernel
theorem dXA_fill_11 : decode cXA_fill 11 = .ok (.iload_n 2, 1) := by decide +kernel
theorem dXA_fill_12 : decode cXA_fill 12 = .ok (.iload_n 1, 1) := by decide +kernel
theorem dXA_fill_13 : decode cXA_fill 13 = .ok (.iastore, 1) := by decide +kernel
theorem dXA_fill_14 : decode cXA_fill 14 = .ok (.iinc 2 1, 3) := by decide +kernel
theorem dXA_fill_17 : decode cXA_fill 17 = .ok (.goto (-12), 3) := by decide +kernel
theorem dXA_fill_20 : decode cXA_fill 20 = .ok (.return_, 1) := by decide +kernel
theorem dXB_fill_0 : decode cXB_fill 0 = .ok (.aload_n 0, 1) := by decide +kernel
theorem dXB_fill_1 : decode cXB_fill 1 = .ok (.arraylength, 1) := by decide +kernel
theorem dXB_fill_2 : decode cXB_fill 2 = .ok (.iload_n 1, 1) := by decide +kernel
theorem dXB_fill_3 : decode cXB_fill 3 = .ok (.iload_n 2, 1) := by decide +kernel
theorem dXB_fill_4 : decode cXB_fill 4 = .ok (.invokestatic 13, 3) := by decide +kernel
theorem dXB_fill_7 : decode cXB_fill 7 = .ok (.iload_n 1, 1) := by decide +kernel
theorem dXB_fill_8 : decode cXB_fill 8 = .ok (.istore 4, 2) := by decide +kernel
theorem dXB_fill_10 : decode cXB_fill 10 = .ok (.iload 4, 2) := by decide +kernel
theorem dXB_fill_12 : decode cXB_fill 12 = .ok (.iload_n 2, 1) := by decide +kernel
theorem dXB_fill_13 : decode cXB_fill 13 = .ok (.if_icmp .ge 14, 3) := by decide +kernel
theorem dXB_fill_16 : decode cXB_fill 16 = .ok (.aload_n 0, 1) := by decide +kernel
theorem dXB_fill_17 : decode cXB_fill 17 = .ok (.iload 4, 2) := by decide +kernel
theorem dXB_fill_19 : decode cXB_fill 19 = .ok (.iload_n 3, 1) := by decide +kernel
theorem dXB_fill_20 : decode cXB_fill 20 = .ok (.iastore, 1) := by decide +kernel
theorem dXB_fill_21 : decode cXB_fill 21 = .ok (.iinc 4 1, 3) := by decide +kernel
theorem dXB_fill_24 : decode cXB_fill 24 = .ok (.goto (-14), 3) := by decide +kernel
theorem dXB_fill_27 : decode cXB_fill 27 = .ok (.return_, 1) := by decide +kernel
theorem dX0_requireRoot_0 : decode cX0_requireRoot 0 = .ok (.iload_n 0, 1) := by decide +kernel
theorem dX0_requireRoot_1 : decode cX0_requireRoot 1 = .ok (.ifCond .lt 9, 3) := by decide +kernel
theorem dX0_requireRoot_4 : decode cX0_requireRoot 4 = .ok (.iload_n 0, 1) := by decide +kernel
theorem dX0_requireRoot_5 : decode cX0_requireRoot 5 = .ok (.bipush 8, 2) := by decide +kernel
theorem dX0_requireRoot_7 : decode cX0_requireRoot 7 = .ok (.if_icmp .lt 13, 3) := by decide +kernel
theorem dX0_requireRoot_10 : decode cX0_requireRoot 10 = .ok (.new 79, 3) := by decide +kernel
theorem dX0_requireRoot_13 : decode cX0_requireRoot 13 = .ok (.dup, 1) := by decide +kernel
theorem dX0_requireRoot_14 : decode cX0_requireRoot 14 = .ok (.ldc 95, 2) := by decide +kernel
theorem dX0_requireRoot_16 : decode cX0_requireRoot 16 = .ok (.invokespecial 83, 3) := by decide +kernel
theorem dX0_requireRoot_19 : decode cX0_requireRoot 19 = .ok (.athrow, 1) := by decide +kernel
theorem dX0_requireRoot_20 : decode cX0_requireRoot 20 = .ok (.return_, 1) := by decide +kernel
theorem dX0_requireFieldCount_0 : decode cX0_requireFieldCount 0 = .ok (.iload_n 0, 1) := by decide +kernel
theorem dX0_requireFieldCount_1 : decode cX0_requireFieldCount 1 = .ok (.ifCond .lt 9, 3) := by decide +kernel
theorem dX0_requireFieldCount_4 : decode cX0_requireFieldCount 4 = .ok (.iload_n 0, 1) := by decide +kernel
theorem dX0_requireFieldCount_5 : decode cX0_requireFieldCount 5 = .ok (.bipush 6, 2) := by decide +kernel
theorem dX0_requireFieldCount_7 : decode cX0_requireFieldCount 7 = .ok (.if_icmp .le 13, 3) := by decide +kernel
theorem dX0_requireFieldCount_10 : decode cX0_requireFieldCount 10 = .ok (.new 97, 3) := by decide +kernel
theorem dX0_requireFieldCount_13 : decode cX0_requireFieldCount 13 = .ok (.dup, 1) := by decide +kernel
theorem dX0_requireFieldCount_14 : decode cX0_requireFieldCount 14 = .ok (.ldc 99, 2) := by decide +kernel
theorem dX0_requireFieldCount_16 : decode cX0_requireFieldCount 16 = .ok (.invokespecial 101, 3) := by decide +kernel
theorem dX0_requireFieldCount_19 : decode cX0_requireFieldCount 19 = .ok (.athrow, 1) := by decide +kernel
theorem dX0_requireFieldCount_20 : decode cX0_requireFieldCount 20 = .ok (.return_, 1) := by decide +kernel
theorem dX0_requireWay_0 : decode cX0_requireWay 0 = .ok (.iload_n 0, 1) := by decide +kernel
theorem dX0_requireWay_1 : decode cX0_requireWay 1 = .ok (.ifCond .lt 8, 3) := by decide +kernel
theorem dX0_requireWay_4 : decode cX0_requireWay 4 = .ok (.iload_n 0, 1) := by decide +kernel
theorem dX0_requireWay_5 : decode cX0_requireWay 5 = .ok (.iconst 2, 1) := by decide +kernel
theorem dX0_requireWay_6 : decode cX0_requireWay 6 = .ok (.if_icmp .le 13, 3) := by decide +kernel
theorem dX0_requireWay_9 : decode cX0_requireWay 9 = .ok (.new 97, 3) := by decide +kernel
theorem dX0_requireWay_12 : decode cX0_requireWay 12 = .ok (.dup, 1) := by decide +kernel
theorem dX0_requireWay_13 : decode cX0_requireWay 13 = .ok (.ldc 102, 2) := by decide +kernel
theorem dX0_requireWay_15 : decode cX0_requireWay 15 = .ok (.invokespecial 101, 3) := by decide +kernel
theorem dX0_requireWay_18 : decode cX0_requireWay 18 = .ok (.athrow, 1) := by decide +kernel
theorem dX0_requireWay_19 : decode cX0_requireWay 19 = .ok (.return_, 1) := by decide +kernel
theorem dX0_fieldAddress_0 : decode cX0_fieldAddress 0 = .ok (.iload_n 0, 1) := by decide +kernel
theorem dX0_fieldAddress_1 : decode cX0_fieldAddress 1 = .ok (.iconst 2, 1) := by decide +kernel
theorem dX0_fieldAddress_2 : decode cX0_fieldAddress 2 = .ok (.iadd, 1) := by decide +kernel
theorem dX0_fieldAddress_3 : decode cX0_fieldAddress 3 = .ok (.iload_n 1, 1) := by decide +kernel
theorem dX0_fieldAddress_4 : decode cX0_fieldAddress 4 = .ok (.iadd, 1) := by decide +kernel
theorem dX0_fieldAddress_5 : decode cX0_fieldAddress 5 = .ok (.ireturn, 1) := by decide +kernel
theorem dX0_hasRoom_0 : decode cX0_hasRoom 0 = .ok (.aload_n 0, 1) := by decide +kernel
theorem dX0_hasRoom_1 : decode cX0_hasRoom 1 = .ok (.getfield 58, 3) := by decide +kernel
theorem dX0_hasRoom_4 : decode cX0_hasRoom 4 = .ok (.iconst 2, 1) := by decide +kernel
theorem dX0_hasRoom_5 : decode cX0_hasRoom 5 = .ok (.iadd, 1) := by decide +kernel
theorem dX0_hasRoom_6 : decode cX0_hasRoom 6 = .ok (.iload_n 1, 1) := by decide +kernel
theorem dX0_hasRoom_7 : decode cX0_hasRoom 7 = .ok (.iadd, 1) := by decide +kernel
theorem dX0_hasRoom_8 : decode cX0_hasRoom 8 = .ok (.sipush 256, 3) := by decide +kernel
theorem dX0_hasRoom_11 : decode cX0_hasRoom 11 = .ok (.if_icmp .gt 7, 3) := by decide +kernel
theorem dX0_hasRoom_14 : decode cX0_hasRoom 14 = .ok (.iconst 1, 1) := by decide +kernel
theorem dX0_hasRoom_15 : decode cX0_hasRoom 15 = .ok (.goto 4, 3) := by decide +kernel
theorem dX0_hasRoom_18 : decode cX0_hasRoom 18 = .ok (.iconst 0, 1) := by decide +kernel
theorem dX0_hasRoom_19 : decode cX0_hasRoom 19 = .ok (.ireturn, 1) := by decide +kernel
theorem dX0_fieldCount_0 : decode cX0_fieldCount 0 = .ok (.aload_n 0, 1) := by decide +kernel
theorem dX0_fieldCount_1 : decode cX0_fieldCount 1 = .ok (.getfield 9, 3) := by decide +kernel
theorem dX0_fieldCount_4 : decode cX0_fieldCount 4 = .ok (.iload_n 1, 1) := by decide +kernel
theorem dX0_fieldCount_5 : decode cX0_fieldCount 5 = .ok (.iaload, 1) := by decide +kernel
theorem dX0_fieldCount_6 : decode cX0_fieldCount 6 = .ok (.bipush 15, 2) := by decide +kernel
theorem dX0_fieldCount_8 : decode cX0_fieldCount 8 = .ok (.iand, 1) := by decide +kernel
theorem dX0_fieldCount_9 : decode cX0_fieldCount 9 = .ok (.ireturn, 1) := by decide +kernel
theorem dX0_sizeOf_0 : decode cX0_sizeOf 0 = .ok (.iconst 2, 1) := by decide +kernel
theorem dX0_sizeOf_1 : decode cX0_sizeOf 1 = .ok (.aload_n 0, 1) := by decide +kernel
theorem dX0_sizeOf_2 : decode cX0_sizeOf 2 = .ok (.iload_n 1, 1) := by decide +kernel
theorem dX0_sizeOf_3 : decode cX0_sizeOf 3 = .ok (.invokevirtual 123, 3) := by decide +kernel
theorem dX0_sizeOf_6 : decode cX0_sizeOf 6 = .ok (.iadd, 1) := by decide +kernel
theorem dX0_sizeOf_7 : decode cX0_sizeOf 7 = .ok (.ireturn, 1) := by decide +kernel
theorem dX0_fieldKind_0 : decode cX0_fieldKind 0 = .ok (.aload_n 0, 1) := by decide +kernel
theorem dX0_fieldKind_1 : decode cX0_fieldKind 1 = .ok (.getfield 9, 3) := by decide +kernel
theorem dX0_fieldKind_4 : decode cX0_fieldKind 4 = .ok (.iload_n 1, 1) := by decide +kernel
theorem dX0_fieldKind_5 : decode cX0_fieldKind 5 = .ok (.iaload, 1) := by decide +kernel
theorem dX0_fieldKind_6 : decode cX0_fieldKind 6 = .ok (.istore_n 3, 1) := by decide +kernel
theorem dX0_fieldKind_7 : decode cX0_fieldKind 7 = .ok (.iload_n 3, 1) := by decide +kernel
theorem dX0_fieldKind_8 : decode cX0_fieldKind 8 = .ok (.bipush 16, 2) := by decide +kernel
theorem dX0_fieldKind_10 : decode cX0_fieldKind 10 = .ok (.iload_n 2, 1) := by decide +kernel
theorem dX0_fieldKind_11 : decode cX0_fieldKind 11 = .ok (.ishl, 1) := by decide +kernel
theorem dX0_fieldKind_12 : decode cX0_fieldKind 12 = .ok (.iand, 1) := by decide +kernel
theorem dX0_fieldKind_13 : decode cX0_fieldKind 13 = .ok (.ifCond .eq 5, 3) := by decide +kernel
theorem dX0_fieldKind_16 : decode cX0_fieldKind 16 = .ok (.iconst 1, 1) := by decide +kernel
theorem dX0_fieldKind_17 : decode cX0_fieldKind 17 = .ok (.ireturn, 1) := by decide +kernel
theorem dX0_fieldKind_18 : decode cX0_fieldKind 18 = .ok (.iload_n 3, 1) := by decide +kernel
theorem dX0_fieldKind_19 : decode cX0_fieldKind 19 = .ok (.sipush 1024, 3) := by decide +kernel
theorem dX0_fieldKind_22 : decode cX0_fieldKind 22 = .ok (.iload_n 2, 1) := by decide +kernel
theorem dX0_fieldKind_23 : decode cX0_fieldKind 23 = .ok (.ishl, 1) := by decide +kernel
theorem dX0_fieldKind_24 : decode cX0_fieldKind 24 = .ok (.iand, 1) := by decide +kernel
theorem dX0_fieldKind_25 : decode cX0_fieldKind 25 = .ok (.ifCond .eq 7, 3) := by decide +kernel
theorem dX0_fieldKind_28 : decode cX0_fieldKind 28 = .ok (.iconst 2, 1) := by decide +kernel
theorem dX0_fieldKind_29 : decode cX0_fieldKind 29 = .ok (.goto 4, 3) := by decide +kernel
theorem dX0_fieldKind_32 : decode cX0_fieldKind 32 = .ok (.iconst 0, 1) := by decide +kernel
theorem dX0_fieldKind_33 : decode cX0_fieldKind 33 = .ok (.ireturn, 1) := by decide +kernel
theorem dX0_setField_0 : decode cX0_setField 0 = .ok (.bipush 16, 2) := by decide +kernel
theorem dX0_setField_2 : decode cX0_setField 2 = .ok (.iload_n 2, 1) := by decide +kernel
theorem dX0_setField_3 : decode cX0_setField 3 = .ok (.ishl, 1) := by decide +kernel
theorem dX0_setField_4 : decode cX0_setField 4 = .ok (.istore 5, 2) := by decide +kernel
theorem dX0_setField_6 : decode cX0_setField 6 = .ok (.sipush 1024, 3) := by decide +kernel
theorem dX0_setField_9 : decode cX0_setField 9 = .ok (.iload_n 2, 1) := by decide +kernel
theorem dX0_setField_10 : decode cX0_setField 10 = .ok (.ishl, 1) := by decide +kernel
theorem dX0_setField_11 : decode cX0_setField 11 = .ok (.istore 6, 2) := by decide +kernel
theorem dX0_setField_13 : decode cX0_setField 13 = .ok (.aload_n 0, 1) := by decide +kernel
theorem dX0_setField_14 : decode cX0_setField 14 = .ok (.getfield 9, 3) := by decide +kernel
theorem dX0_setField_17 : decode cX0_setField 17 = .ok (.iload_n 1, 1) := by decide +kernel
theorem dX0_setField_18 : decode cX0_setField 18 = .ok (.iaload, 1) := by decide +kernel
theorem dX0_setField_19 : decode cX0_setField 19 = .ok (.iload 5, 2) := by decide +kernel
theorem dX0_setField_21 : decode cX0_setField 21 = .ok (.iload 6, 2) := by decide +kernel
theorem dX0_setField_23 : decode cX0_setField 23 = .ok (.ior, 1) := by decide +kernel
theorem dX0_setField_24 : decode cX0_setField 24 = .ok (.iconst (-1), 1) := by decide +kernel
theorem dX0_setField_25 : decode cX0_setField 25 = .ok (.ixor, 1) := by decide +kernel
theorem dX0_setField_26 : decode cX0_setField 26 = .ok (.iand, 1) := by decide +kernel
theorem dX0_setField_27 : decode cX0_setField 27 = .ok (.istore 7, 2) := by decide +kernel
theorem dX0_setField_29 : decode cX0_setField 29 = .ok (.iload_n 3, 1) := by decide +kernel
theorem dX0_setField_30 : decode cX0_setField 30 = .ok (.iconst 1, 1) := by decide +kernel
theorem dX0_setField_31 : decode cX0_setField 31 = .ok (.if_icmp .ne 13, 3) := by decide +kernel
theorem dX0_setField_34 : decode cX0_setField 34 = .ok (.iload 7, 2) := by decide +kernel
theorem dX0_setField_36 : decode cX0_setField 36 = .ok (.iload 5, 2) := by decide +kernel
theorem dX0_setField_38 : decode cX0_setField 38 = .ok (.ior, 1) := by decide +kernel
theorem dX0_setField_39 : decode cX0_setField 39 = .ok (.istore 7, 2) := by decide +kernel
theorem dX0_setField_41 : decode cX0_setField 41 = .ok (.goto 15, 3) := by decide +kernel
theorem dX0_setField_44 : decode cX0_setField 44 = .ok (.iload_n 3, 1) := by decide +kernel
theorem dX0_setField_45 : decode cX0_setField 45 = .ok (.iconst 2, 1) := by decide +kernel
theorem dX0_setField_46 : decode cX0_setField 46 = .ok (.if_icmp .ne 10, 3) := by decide +kernel
theorem dX0_setField_49 : decode cX0_setField 49 = .ok (.iload 7, 2) := by decide +kernel
theorem dX0_setField_51 : decode cX0_setField 51 = .ok (.iload 6, 2) := by decide +kernel
theorem dX0_setField_53 : decode cX0_setField 53 = .ok (.ior, 1) := by decide +kernel
theorem dX0_setField_54 : decode cX0_setField 54 = .ok (.istore 7, 2) := by decide +kernel
theorem dX0_setField_56 : decode cX0_setField 56 = .ok (.aload_n 0, 1) := by decide +kernel
theorem dX0_setField_57 : decode cX0_setField 57 = .ok (.getfield 9, 3) := by decide +kernel
theorem dX0_setField_60 : decode cX0_setField 60 = .ok (.iload_n 1, 1) := by decide +kernel
theorem dX0_setField_61 : decode cX0_setField 61 = .ok (.iload 7, 2) := by decide +kernel
theorem dX0_setField_63 : decode cX0_setField 63 = .ok (.iastore, 1) := by decide +kernel
theorem dX0_setField_64 : decode cX0_setField 64 = .ok (.aload_n 0, 1) := by decide +kernel
theorem dX0_setField_65 : decode cX0_setField 65 = .ok (.getfield 9, 3) := by decide +kernel
theorem dX0_setField_68 : decode cX0_setField 68 = .ok (.iload_n 1, 1) := by decide +kernel
theorem dX0_setField_69 : decode cX0_setField 69 = .ok (.iload_n 2, 1) := by decide +kernel
theorem dX0_setField_70 : decode cX0_setField 70 = .ok (.invokestatic 73, 3) := by decide +kernel
theorem dX0_setField_73 : decode cX0_setField 73 = .ok (.iload 4, 2) := by decide +kernel
theorem dX0_setField_75 : decode cX0_setField 75 = .ok (.iastore, 1) := by decide +kernel
theorem dX0_setField_76 : decode cX0_setField 76 = .ok (.return_, 1) := by decide +kernel
theorem dX0_makeObject_0 : decode cX0_makeObject 0 = .ok (.aload_n 0, 1) := by decide +kernel
theorem dX0_makeObject_1 : decode cX0_makeObject 1 = .ok (.dup, 1) := by decide +kernel
theorem dX0_makeObject_2 : decode cX0_makeObject 2 = .ok (.getfield 131, 3) := by decide +kernel
theorem dX0_makeObject_5 : decode cX0_makeObject 5 = .ok (.iconst 1, 1) := by decide +kernel
theorem dX0_makeObject_6 : decode cX0_makeObject 6 = .ok (.iadd, 1) := by decide +kernel
theorem dX0_makeObject_7 : decode cX0_makeObject 7 = .ok (.putfield 131, 3) := by decide +kernel
theorem dX0_makeObject_10 : decode cX0_makeObject 10 = .ok (.aload_n 0, 1) := by decide +kernel
theorem dX0_makeObject_11 : decode cX0_makeObject 11 = .ok (.getfield 9, 3) := by decide +kernel
theorem dX0_makeObject_14 : decode cX0_makeObject 14 = .ok (.aload_n 0, 1) := by decide +kernel
theorem dX0_makeObject_15 : decode cX0_makeObject 15 = .ok (.getfield 58, 3) := by decide +kernel
theorem dX0_makeObject_18 : decode cX0_makeObject 18 = .ok (.iload_n 2, 1) := by decide +kernel
theorem dX0_makeObject_19 : decode cX0_makeObject 19 = .ok (.iastore, 1) := by decide +kernel
theorem dX0_makeObject_20 : decode cX0_makeObject 20 = .ok (.aload_n 0, 1) := by decide +kernel
theorem dX0_makeObject_21 : decode cX0_makeObject 21 = .ok (.getfield 9, 3) := by decide +kernel
theorem dX0_makeObject_24 : decode cX0_makeObject 24 = .ok (.aload_n 0, 1) := by decide +kernel
theorem dX0_makeObject_25 : decode cX0_makeObject 25 = .ok (.getfield 58, 3) := by decide +kernel
theorem dX0_makeObject_28 : decode cX0_makeObject 28 = .ok (.iconst 1, 1) := by decide +kernel
theorem dX0_makeObject_29 : decode cX0_makeObject 29 = .ok (.iadd, 1) := by decide +kernel
theorem dX0_makeObject_30 : decode cX0_makeObject 30 = .ok (.aload_n 0, 1) := by decide +kernel
theorem dX0_makeObject_31 : decode cX0_makeObject 31 = .ok (.getfield 131, 3) := by decide +kernel
theorem dX0_makeObject_34 : decode cX0_makeObject 34 = .ok (.iastore, 1) := by decide +kernel
theorem dX0_makeObject_35 : decode cX0_makeObject 35 = .ok (.aload_n 0, 1) := by decide +kernel
theorem dX0_makeObject_36 : decode cX0_makeObject 36 = .ok (.getfield 13, 3) := by decide +kernel
theorem dX0_makeObject_39 : decode cX0_makeObject 39 = .ok (.iload_n 1, 1) := by decide +kernel
theorem dX0_makeObject_40 : decode cX0_makeObject 40 = .ok (.aload_n 0, 1) := by decide +kernel
theorem dX0_makeObject_41 : decode cX0_makeObject 41 = .ok (.getfield 58, 3) := by decide +kernel
theorem dX0_makeObject_44 : decode cX0_makeObject 44 = .ok (.iastore, 1) := by decide +kernel
theorem dX0_makeObject_45 : decode cX0_makeObject 45 = .ok (.aload_n 0, 1) := by decide +kernel
theorem dX0_makeObject_46 : decode cX0_makeObject 46 = .ok (.getfield 16, 3) := by decide +kernel
theorem dX0_makeObject_49 : decode cX0_makeObject 49 = .ok (.aload_n 0, 1) := by decide +kernel
theorem dX0_makeObject_50 : decode cX0_makeObject 50 = .ok (.getfield 86, 3) := by decide +kernel
theorem dX0_makeObject_53 : decode cX0_makeObject 53 = .ok (.aload_n 0, 1) := by decide +kernel
theorem dX0_makeObject_54 : decode cX0_makeObject 54 = .ok (.getfield 58, 3) := by decide +kernel
theorem dX0_makeObject_57 : decode cX0_makeObject 57 = .ok (.iastore, 1) := by decide +kernel
theorem dX0_makeObject_58 : decode cX0_makeObject 58 = .ok (.aload_n 0, 1) := by decide +kernel
theorem dX0_makeObject_59 : decode cX0_makeObject 59 = .ok (.dup, 1) := by decide +kernel
theorem dX0_makeObject_60 : decode cX0_makeObject 60 = .ok (.getfield 86, 3) := by decide +kernel
theorem dX0_makeObject_63 : decode cX0_makeObject 63 = .ok (.iconst 1, 1) := by decide +kernel
theorem dX0_makeObject_64 : decode cX0_makeObject 64 = .ok (.iadd, 1) := by decide +kernel
theorem dX0_makeObject_65 : decode cX0_makeObject 65 = .ok (.putfield 86, 3) := by decide +kernel
theorem dX0_makeObject_68 : decode cX0_makeObject 68 = .ok (.aload_n 0, 1) := by decide +kernel
theorem dX0_makeObject_69 : decode cX0_makeObject 69 = .ok (.dup, 1) := by decide +kernel
theorem dX0_makeObject_70 : decode cX0_makeObject 70 = .ok (.getfield 58, 3) := by decide +kernel
theorem dX0_makeObject_73 : decode cX0_makeObject 73 = .ok (.iconst 2, 1) := by decide +kernel
theorem dX0_makeObject_74 : decode cX0_makeObject 74 = .ok (.iload_n 2, 1) := by decide +kernel
theorem dX0_makeObject_75 : decode cX0_makeObject 75 = .ok (.iadd, 1) := by decide +kernel
theorem dX0_makeObject_76 : decode cX0_makeObject 76 = .ok (.iadd, 1) := by decide +kernel
theorem dX0_makeObject_77 : decode cX0_makeObject 77 = .ok (.putfield 58, 3) := by decide +kernel
theorem dX0_makeObject_80 : decode cX0_makeObject 80 = .ok (.aload_n 0, 1) := by decide +kernel
theorem dX0_makeObject_81 : decode cX0_makeObject 81 = .ok (.getfield 131, 3) := by decide +kernel
theorem dX0_makeObject_84 : decode cX0_makeObject 84 = .ok (.ireturn, 1) := by decide +kernel
theorem dX0_reach_0 : decode cX0_reach 0 = .ok (.iload_n 1, 1) := by decide +kernel
theorem dX0_reach_1 : decode cX0_reach 1 = .ok (.iconst (-1), 1) := by decide +kernel
theorem dX0_reach_2 : decode cX0_reach 2 = .ok (.if_icmp .eq 40, 3) := by decide +kernel
theorem dX0_reach_5 : decode cX0_reach 5 = .ok (.aload_n 0, 1) := by decide +kernel
theorem dX0_reach_6 : decode cX0_reach 6 = .ok (.getfield 22, 3) := by decide +kernel
theorem dX0_reach_9 : decode cX0_reach 9 = .ok (.iload_n 1, 1) := by decide +kernel
theorem dX0_reach_10 : decode cX0_reach 10 = .ok (.iaload, 1) := by decide +kernel
theorem dX0_reach_11 : decode cX0_reach 11 = .ok (.iconst (-1), 1) := by decide +kernel
theorem dX0_reach_12 : decode cX0_reach 12 = .ok (.if_icmp .ne 30, 3) := by decide +kernel
theorem dX0_reach_15 : decode cX0_reach 15 = .ok (.aload_n 0, 1) := by decide +kernel
theorem dX0_reach_16 : decode cX0_reach 16 = .ok (.getfield 22, 3) := by decide +kernel
theorem dX0_reach_19 : decode cX0_reach 19 = .ok (.iload_n 1, 1) := by decide +kernel
theorem dX0_reach_20 : decode cX0_reach 20 = .ok (.iload_n 1, 1) := by decide +kernel
theorem dX0_reach_21 : decode cX0_reach 21 = .ok (.iastore, 1) := by decide +kernel
theorem dX0_reach_22 : decode cX0_reach 22 = .ok (.aload_n 0, 1) := by decide +kernel
theorem dX0_reach_23 : decode cX0_reach 23 = .ok (.getfield 19, 3) := by decide +kernel
theorem dX0_reach_26 : decode cX0_reach 26 = .ok (.aload_n 0, 1) := by decide +kernel
theorem dX0_reach_27 : decode cX0_reach 27 = .ok (.getfield 92, 3) := by decide +kernel
theorem dX0_reach_30 : decode cX0_reach 30 = .ok (.iload_n 1, 1) := by decide +kernel
theorem dX0_reach_31 : decode cX0_reach 31 = .ok (.iastore, 1) := by decide +kernel
theorem dX0_reach_32 : decode cX0_reach 32 = .ok (.aload_n 0, 1) := by decide +kernel
theorem dX0_reach_33 : decode cX0_reach 33 = .ok (.dup, 1) := by decide +kernel
theorem dX0_reach_34 : decode cX0_reach 34 = .ok (.getfield 92, 3) := by decide +kernel
theorem dX0_reach_37 : decode cX0_reach 37 = .ok (.iconst 1, 1) := by decide +kernel
theorem dX0_reach_38 : decode cX0_reach 38 = .ok (.iadd, 1) := by decide +kernel
theorem dX0_reach_39 : decode cX0_reach 39 = .ok (.putfield 92, 3) := by decide +kernel
theorem dX0_reach_42 : decode cX0_reach 42 = .ok (.return_, 1) := by decide +kernel
theorem dX0_reachFrom_0 : decode cX0_reachFrom 0 = .ok (.aload_n 0, 1) := by decide +kernel
theorem dX0_reachFrom_1 : decode cX0_reachFrom 1 = .ok (.iload_n 1, 1) := by decide +kernel
theorem dX0_reachFrom_2 : decode cX0_reachFrom 2 = .ok (.invokevirtual 123, 3) := by decide +kernel
theorem dX0_reachFrom_5 : decode cX0_reachFrom 5 = .ok (.istore_n 2, 1) := by decide +kernel
theorem dX0_reachFrom_6 : decode cX0_reachFrom 6 = .ok (.iconst 0, 1) := by decide +kernel
theorem dX0_reachFrom_7 : decode cX0_reachFrom 7 = .ok (.istore_n 3, 1) := by decide +kernel
theorem dX0_reachFrom_8 : decode cX0_reachFrom 8 = .ok (.iload_n 3, 1) := by decide +kernel
theorem dX0_reachFrom_9 : decode cX0_reachFrom 9 = .ok (.iload_n 2, 1) := by decide +kernel
theorem dX0_reachFrom_10 : decode cX0_reachFrom 10 = .ok (.if_icmp .ge 33, 3) := by decide +kernel
theorem dX0_reachFrom_13 : decode cX0_reachFrom 13 = .ok (.aload_n 0, 1) := by decide +kernel
theorem dX0_reachFrom_14 : decode cX0_reachFrom 14 = .ok (.iload_n 1, 1) := by decide +kernel
theorem dX0_reachFrom_15 : decode cX0_reachFrom 15 = .ok (.iload_n 3, 1) := by decide +kernel
theorem dX0_reachFrom_16 : decode cX0_reachFrom 16 = .ok (.invokevirtual 76, 3) := by decide +kernel
theorem dX0_reachFrom_19 : decode cX0_reachFrom 19 = .ok (.iconst 1, 1) := by decide +kernel
theorem dX0_reachFrom_20 : decode cX0_reachFrom 20 = .ok (.if_icmp .ne 17, 3) := by decide +kernel
theorem dX0_reachFrom_23 : decode cX0_reachFrom 23 = .ok (.aload_n 0, 1) := by decide +kernel
theorem dX0_reachFrom_24 : decode cX0_reachFrom 24 = .ok (.aload_n 0, 1) := by decide +kernel
theorem dX0_reachFrom_25 : decode cX0_reachFrom 25 = .ok (.getfield 9, 3) := by decide +kernel
theorem dX0_reachFrom_28 : decode cX0_reachFrom 28 = .ok (.iload_n 1, 1) := by decide +kernel
theorem dX0_reachFrom_29 : decode cX0_reachFrom 29 = .ok (.iload_n 3, 1) := by decide +kernel
theorem dX0_reachFrom_30 : decode cX0_reachFrom 30 = .ok (.invokestatic 73, 3) := by decide +kernel
theorem dX0_reachFrom_33 : decode cX0_reachFrom 33 = .ok (.iaload, 1) := by decide +kernel
theorem dX0_reachFrom_34 : decode cX0_reachFrom 34 = .ok (.invokevirtual 134, 3) := by decide +kernel
theorem dX0_reachFrom_37 : decode cX0_reachFrom 37 = .ok (.iinc 3 1, 3) := by decide +kernel
theorem dX0_reachFrom_40 : decode cX0_reachFrom 40 = .ok (.goto (-32), 3) := by decide +kernel
theorem dX0_reachFrom_43 : decode cX0_reachFrom 43 = .ok (.return_, 1) := by decide +kernel
theorem dX0_findAlive_0 : decode cX0_findAlive 0 = .ok (.aload_n 0, 1) := by decide +kernel
theorem dX0_findAlive_1 : decode cX0_findAlive 1 = .ok (.getfield 22, 3) := by decide +kernel
theorem dX0_findAlive_4 : decode cX0_findAlive 4 = .ok (.iconst (-1), 1) := by decide +kernel
theorem dX0_findAlive_5 : decode cX0_findAlive 5 = .ok (.invokestatic 25, 3) := by decide +kernel
theorem dX0_findAlive_8 : decode cX0_findAlive 8 = .ok (.aload_n 0, 1) := by decide +kernel
theorem dX0_findAlive_9 : decode cX0_findAlive 9 = .ok (.iconst 0, 1) := by decide +kernel
theorem dX0_findAlive_10 : decode cX0_findAlive 10 = .ok (.putfield 92, 3) := by decide +kernel
theorem dX0_findAlive_13 : decode cX0_findAlive 13 = .ok (.iconst 0, 1) := by decide +kernel
theorem dX0_findAlive_14 : decode cX0_findAlive 14 = .ok (.istore_n 1, 1) := by decide +kernel
theorem dX0_findAlive_15 : decode cX0_findAlive 15 = .ok (.iload_n 1, 1) := by decide +kernel
theorem dX0_findAlive_16 : decode cX0_findAlive 16 = .ok (.bipush 8, 2) := by decide +kernel
theorem dX0_findAlive_18 : decode cX0_findAlive 18 = .ok (.if_icmp .ge 19, 3) := by decide +kernel
theorem dX0_findAlive_21 : decode cX0_findAlive 21 = .ok (.aload_n 0, 1) := by decide +kernel
theorem dX0_findAlive_22 : decode cX0_findAlive 22 = .ok (.aload_n 0, 1) := by decide +kernel
theorem dX0_findAlive_23 : decode cX0_findAlive 23 = .ok (.getfield 13, 3) := by decide +kernel
theorem dX0_findAlive_26 : decode cX0_findAlive 26 = .ok (.iload_n 1, 1) := by decide +kernel
theorem dX0_findAlive_27 : decode cX0_findAlive 27 = .ok (.iaload, 1) := by decide +kernel
theorem dX0_findAlive_28 : decode cX0_findAlive 28 = .ok (.invokevirtual 134, 3) := by decide +kernel
theorem dX0_findAlive_31 : decode cX0_findAlive 31 = .ok (.iinc 1 1, 3) := by decide +kernel
theorem dX0_findAlive_34 : decode cX0_findAlive 34 = .ok (.goto (-19), 3) := by decide +kernel
theorem dX0_findAlive_37 : decode cX0_findAlive 37 = .ok (.iconst 0, 1) := by decide +kernel
theorem dX0_findAlive_38 : decode cX0_findAlive 38 = .ok (.istore_n 1, 1) := by decide +kernel
theorem dX0_findAlive_39 : decode cX0_findAlive 39 = .ok (.iload_n 1, 1) := by decide +kernel
theorem dX0_findAlive_40 : decode cX0_findAlive 40 = .ok (.aload_n 0, 1) := by decide +kernel
theorem dX0_findAlive_41 : decode cX0_findAlive 41 = .ok (.getfield 92, 3) := by decide +kernel
theorem dX0_findAlive_44 : decode cX0_findAlive 44 = .ok (.if_icmp .ge 26, 3) := by decide +kernel
theorem dX0_findAlive_47 : decode cX0_findAlive 47 = .ok (.iload_n 1, 1) := by decide +kernel
theorem dX0_findAlive_48 : decode cX0_findAlive 48 = .ok (.sipush 128, 3) := by decide +kernel
theorem dX0_findAlive_51 : decode cX0_findAlive 51 = .ok (.if_icmp .ge 19, 3) := by decide +kernel
theorem dX0_findAlive_54 : decode cX0_findAlive 54 = .ok (.aload_n 0, 1) := by decide +kernel
theorem dX0_findAlive_55 : decode cX0_findAlive 55 = .ok (.aload_n 0, 1) := by decide +kernel
theorem dX0_findAlive_56 : decode cX0_findAlive 56 = .ok (.getfield 19, 3) := by decide +kernel
theorem dX0_findAlive_59 : decode cX0_findAlive 59 = .ok (.iload_n 1, 1) := by decide +kernel
theorem dX0_findAlive_60 : decode cX0_findAlive 60 = .ok (.iaload, 1) := by decide +kernel
theorem dX0_findAlive_61 : decode cX0_findAlive 61 = .ok (.invokevirtual 137, 3) := by decide +kernel
theorem dX0_findAlive_64 : decode cX0_findAlive 64 = .ok (.iinc 1 1, 3) := by decide +kernel
theorem dX0_findAlive_67 : decode cX0_findAlive 67 = .ok (.goto (-28), 3) := by decide +kernel
theorem dX0_findAlive_70 : decode cX0_findAlive 70 = .ok (.return_, 1) := by decide +kernel
theorem dX0_addressAfterMove_0 : decode cX0_addressAfterMove 0 = .ok (.iload_n 1, 1) := by decide +kernel
theorem dX0_addressAfterMove_1 : decode cX0_addressAfterMove 1 = .ok (.iconst (-1), 1) := by decide +kernel
theorem dX0_addressAfterMove_2 : decode cX0_addressAfterMove 2 = .ok (.if_icmp .ne 7, 3) := by decide +kernel
theorem dX0_addressAfterMove_5 : decode cX0_addressAfterMove 5 = .ok (.iconst (-1), 1) := by decide +kernel
theorem dX0_addressAfterMove_6 : decode cX0_addressAfterMove 6 = .ok (.goto 9, 3) := by decide +kernel
theorem dX0_addressAfterMove_9 : decode cX0_addressAfterMove 9 = .ok (.aload_n 0, 1) := by decide +kernel
theorem dX0_addressAfterMove_10 : decode cX0_addressAfterMove 10 = .ok (.getfield 22, 3) := by decide +kernel
theorem dX0_addressAfterMove_13 : decode cX0_addressAfterMove 13 = .ok (.iload_n 1, 1) := by decide +kernel
theorem dX0_addressAfterMove_14 : decode cX0_addressAfterMove 14 = .ok (.iaload, 1) := by decide +kernel
theorem dX0_addressAfterMove_15 : decode cX0_addressAfterMove 15 = .ok (.ireturn, 1) := by decide +kernel
theorem dX0_isOneSize_0 : decode cX0_isOneSize 0 = .ok (.iconst 1, 1) := by decide +kernel
theorem dX0_isOneSize_1 : decode cX0_isOneSize 1 = .ok (.istore_n 1, 1) := by decide +kernel
theorem dX0_isOneSize_2 : decode cX0_isOneSize 2 = .ok (.iload_n 1, 1) := by decide +kernel
theorem dX0_isOneSize_3 : decode cX0_isOneSize 3 = .ok (.aload_n 0, 1) := by decide +kernel
theorem dX0_isOneSize_4 : decode cX0_isOneSize 4 = .ok (.getfield 86, 3) := by decide +kernel
theorem dX0_isOneSize_7 : decode cX0_isOneSize 7 = .ok (.if_icmp .ge 34, 3) := by decide +kernel
theorem dX0_isOneSize_10 : decode cX0_isOneSize 10 = .ok (.aload_n 0, 1) := by decide +kernel
theorem dX0_isOneSize_11 : decode cX0_isOneSize 11 = .ok (.aload_n 0, 1) := by decide +kernel
theorem dX0_isOneSize_12 : decode cX0_isOneSize 12 = .ok (.getfield 16, 3) := by decide +kernel
theorem dX0_isOneSize_15 : decode cX0_isOneSize 15 = .ok (.iload_n 1, 1) := by decide +kernel
theorem dX0_isOneSize_16 : decode cX0_isOneSize 16 = .ok (.iaload, 1) := by decide +kernel
theorem dX0_isOneSize_17 : decode cX0_isOneSize 17 = .ok (.invokevirtual 123, 3) := by decide +kernel
theorem dX0_isOneSize_20 : decode cX0_isOneSize 20 = .ok (.aload_n 0, 1) := by decide +kernel
theorem dX0_isOneSize_21 : decode cX0_isOneSize 21 = .ok (.aload_n 0, 1) := by decide +kernel
theorem dX0_isOneSize_22 : decode cX0_isOneSize 22 = .ok (.getfield 16, 3) := by decide +kernel
theorem dX0_isOneSize_25 : decode cX0_isOneSize 25 = .ok (.iconst 0, 1) := by decide +kernel
theorem dX0_isOneSize_26 : decode cX0_isOneSize 26 = .ok (.iaload, 1) := by decide +kernel
theorem dX0_isOneSize_27 : decode cX0_isOneSize 27 = .ok (.invokevirtual 123, 3) := by decide +kernel
theorem dX0_isOneSize_30 : decode cX0_isOneSize 30 = .ok (.if_icmp .eq 5, 3) := by decide +kernel
theorem dX0_isOneSize_33 : decode cX0_isOneSize 33 = .ok (.iconst 0, 1) := by decide +kernel
theorem dX0_isOneSize_34 : decode cX0_isOneSize 34 = .ok (.ireturn, 1) := by decide +kernel
theorem dX0_isOneSize_35 : decode cX0_isOneSize 35 = .ok (.iinc 1 1, 3) := by decide +kernel
theorem dX0_isOneSize_38 : decode cX0_isOneSize 38 = .ok (.goto (-36), 3) := by decide +kernel
theorem dX0_isOneSize_41 : decode cX0_isOneSize 41 = .ok (.iconst 1, 1) := by decide +kernel
theorem dX0_isOneSize_42 : decode cX0_isOneSize 42 = .ok (.ireturn, 1) := by decide +kernel
theorem dX0_planSlide_0 : decode cX0_planSlide 0 = .ok (.iconst 0, 1) := by decide +kernel
theorem dX0_planSlide_1 : decode cX0_planSlide 1 = .ok (.istore_n 1, 1) := by decide +kernel
theorem dX0_planSlide_2 : decode cX0_planSlide 2 = .ok (.iconst 0, 1) := by decide +kernel
theorem dX0_planSlide_3 : decode cX0_planSlide 3 = .ok (.istore_n 2, 1) := by decide +kernel
theorem dX0_planSlide_4 : decode cX0_planSlide 4 = .ok (.iload_n 2, 1) := by decide +kernel
theorem dX0_planSlide_5 : decode cX0_planSlide 5 = .ok (.aload_n 0, 1) := by decide +kernel
theorem dX0_planSlide_6 : decode cX0_planSlide 6 = .ok (.getfield 86, 3) := by decide +kernel
theorem dX0_planSlide_9 : decode cX0_planSlide 9 = .ok (.if_icmp .ge 41, 3) := by decide +kernel
theorem dX0_planSlide_12 : decode cX0_planSlide 12 = .ok (.aload_n 0, 1) := by decide +kernel
theorem dX0_planSlide_13 : decode cX0_planSlide 13 = .ok (.getfield 16, 3) := by decide +kernel
theorem dX0_planSlide_16 : decode cX0_planSlide 16 = .ok (.iload_n 2, 1) := by decide +kernel
theorem dX0_planSlide_17 : decode cX0_planSlide 17 = .ok (.iaload, 1) := by decide +kernel
theorem dX0_planSlide_18 : decode cX0_planSlide 18 = .ok (.istore_n 3, 1) := by decide +kernel
theorem dX0_planSlide_19 : decode cX0_planSlide 19 = .ok (.aload_n 0, 1) := by decide +kernel
theorem dX0_planSlide_20 : decode cX0_planSlide 20 = .ok (.getfield 22, 3) := by decide +kernel
theorem dX0_planSlide_23 : decode cX0_planSlide 23 = .ok (.iload_n 3, 1) := by decide +kernel
theorem dX0_planSlide_24 : decode cX0_planSlide 24 = .ok (.iaload, 1) := by decide +kernel
theorem dX0_planSlide_25 : decode cX0_planSlide 25 = .ok (.iconst (-1), 1) := by decide +kernel
theorem dX0_planSlide_26 : decode cX0_planSlide 26 = .ok (.if_icmp .eq 18, 3) := by decide +kernel
theorem dX0_planSlide_29 : decode cX0_planSlide 29 = .ok (.aload_n 0, 1) := by decide +kernel
theorem dX0_planSlide_30 : decode cX0_planSlide 30 = .ok (.getfield 22, 3) := by decide +kernel
theorem dX0_planSlide_33 : decode cX0_planSlide 33 = .ok (.iload_n 3, 1) := by decide +kernel
theorem dX0_planSlide_34 : decode cX0_planSlide 34 = .ok (.iload_n 1, 1) := by decide +kernel
theorem dX0_planSlide_35 : decode cX0_planSlide 35 = .ok (.iastore, 1) := by decide +kernel
theorem dX0_planSlide_36 : decode cX0_planSlide 36 = .ok (.iload_n 1, 1) := by decide +kernel
theorem dX0_planSlide_37 : decode cX0_planSlide 37 = .ok (.aload_n 0, 1) := by decide +kernel
theorem dX0_planSlide_38 : decode cX0_planSlide 38 = .ok (.iload_n 3, 1) := by decide +kernel
theorem dX0_planSlide_39 : decode cX0_planSlide 39 = .ok (.invokevirtual 158, 3) := by decide +kernel
theorem dX0_planSlide_42 : decode cX0_planSlide 42 = .ok (.iadd, 1) := by decide +kernel
theorem dX0_planSlide_43 : decode cX0_planSlide 43 = .ok (.istore_n 1, 1) := by decide +kernel
theorem dX0_planSlide_44 : decode cX0_planSlide 44 = .ok (.iinc 2 1, 3) := by decide +kernel
theorem dX0_planSlide_47 : decode cX0_planSlide 47 = .ok (.goto (-43), 3) := by decide +kernel
theorem dX0_planSlide_50 : decode cX0_planSlide 50 = .ok (.return_, 1) := by decide +kernel
theorem dX0_planTwoFingers_0 : decode cX0_planTwoFingers 0 = .ok (.iconst 0, 1) := by decide +kernel
theorem dX0_planTwoFingers_1 : decode cX0_planTwoFingers 1 = .ok (.istore_n 1, 1) := by decide +kernel
theorem dX0_planTwoFingers_2 : decode cX0_planTwoFingers 2 = .ok (.aload_n 0, 1) := by decide +kernel
theorem dX0_planTwoFingers_3 : decode cX0_planTwoFingers 3 = .ok (.getfield 86, 3) := by decide +kernel
theorem dX0_planTwoFingers_6 : decode cX0_planTwoFingers 6 = .ok (.iconst 1, 1) := by decide +kernel
theorem dX0_planTwoFingers_7 : decode cX0_planTwoFingers 7 = .ok (.isub, 1) := by decide +kernel
theorem dX0_planTwoFingers_8 : decode cX0_planTwoFingers 8 = .ok (.istore_n 2, 1) := by decide +kernel
theorem dX0_planTwoFingers_9 : decode cX0_planTwoFingers 9 = .ok (.iload_n 1, 1) := by decide +kernel
theorem dX0_planTwoFingers_10 : decode cX0_planTwoFingers 10 = .ok (.iload_n 2, 1) := by decide +kernel
theorem dX0_planTwoFingers_11 : decode cX0_planTwoFingers 11 = .ok (.if_icmp .ge 71, 3) := by decide +kernel
theorem dX0_planTwoFingers_14 : decode cX0_planTwoFingers 14 = .ok (.aload_n 0, 1) := by decide +kernel
theorem dX0_planTwoFingers_15 : decode cX0_planTwoFingers 15 = .ok (.getfield 22, 3) := by decide +kernel
theorem dX0_planTwoFingers_18 : decode cX0_planTwoFingers 18 = .ok (.aload_n 0, 1) := by decide +kernel
theorem dX0_planTwoFingers_19 : decode cX0_planTwoFingers 19 = .ok (.getfield 16, 3) := by decide +kernel
theorem dX0_planTwoFingers_22 : decode cX0_planTwoFingers 22 = .ok (.iload_n 1, 1) := by decide +kernel
theorem dX0_planTwoFingers_23 : decode cX0_planTwoFingers 23 = .ok (.iaload, 1) := by decide +kernel
theorem dX0_planTwoFingers_24 : decode cX0_planTwoFingers 24 = .ok (.iaload, 1) := by decide +kernel
theorem dX0_planTwoFingers_25 : decode cX0_planTwoFingers 25 = .ok (.iconst (-1), 1) := by decide +kernel
theorem dX0_planTwoFingers_26 : decode cX0_planTwoFingers 26 = .ok (.if_icmp .eq 9, 3) := by decide +kernel
theorem dX0_planTwoFingers_29 : decode cX0_planTwoFingers 29 = .ok (.iinc 1 1, 3) := by decide +kernel
theorem dX0_planTwoFingers_32 : decode cX0_planTwoFingers 32 = .ok (.goto (-23), 3) := by decide +kernel
theorem dX0_planTwoFingers_35 : decode cX0_planTwoFingers 35 = .ok (.aload_n 0, 1) := by decide +kernel
theorem dX0_planTwoFingers_36 : decode cX0_planTwoFingers 36 = .ok (.getfield 22, 3) := by decide +kernel
theorem dX0_planTwoFingers_39 : decode cX0_planTwoFingers 39 = .ok (.aload_n 0, 1) := by decide +kernel
theorem dX0_planTwoFingers_40 : decode cX0_planTwoFingers 40 = .ok (.getfield 16, 3) := by decide +kernel
theorem dX0_planTwoFingers_43 : decode cX0_planTwoFingers 43 = .ok (.iload_n 2, 1) := by decide +kernel
theorem dX0_planTwoFingers_44 : decode cX0_planTwoFingers 44 = .ok (.iaload, 1) := by decide +kernel
theorem dX0_planTwoFingers_45 : decode cX0_planTwoFingers 45 = .ok (.iaload, 1) := by decide +kernel
theorem dX0_planTwoFingers_46 : decode cX0_planTwoFingers 46 = .ok (.iconst (-1), 1) := by decide +kernel
theorem dX0_planTwoFingers_47 : decode cX0_planTwoFingers 47 = .ok (.if_icmp .ne 9, 3) := by decide +kernel
theorem dX0_planTwoFingers_50 : decode cX0_planTwoFingers 50 = .ok (.iinc 2 (-1), 3) := by decide +kernel
theorem dX0_planTwoFingers_53 : decode cX0_planTwoFingers 53 = .ok (.goto (-44), 3) := by decide +kernel
theorem dX0_planTwoFingers_56 : decode cX0_planTwoFingers 56 = .ok (.aload_n 0, 1) := by decide +kernel
theorem dX0_planTwoFingers_57 : decode cX0_planTwoFingers 57 = .ok (.getfield 22, 3) := by decide +kernel
theorem dX0_planTwoFingers_60 : decode cX0_planTwoFingers 60 = .ok (.aload_n 0, 1) := by decide +kernel
theorem dX0_planTwoFingers_61 : decode cX0_planTwoFingers 61 = .ok (.getfield 16, 3) := by decide +kernel
theorem dX0_planTwoFingers_64 : decode cX0_planTwoFingers 64 = .ok (.iload_n 2, 1) := by decide +kernel
theorem dX0_planTwoFingers_65 : decode cX0_planTwoFingers 65 = .ok (.iaload, 1) := by decide +kernel
theorem dX0_planTwoFingers_66 : decode cX0_planTwoFingers 66 = .ok (.aload_n 0, 1) := by decide +kernel
theorem dX0_planTwoFingers_67 : decode cX0_planTwoFingers 67 = .ok (.getfield 16, 3) := by decide +kernel
theorem dX0_planTwoFingers_70 : decode cX0_planTwoFingers 70 = .ok (.iload_n 1, 1) := by decide +kernel
theorem dX0_planTwoFingers_71 : decode cX0_planTwoFingers 71 = .ok (.iaload, 1) := by decide +kernel
theorem dX0_planTwoFingers_72 : decode cX0_planTwoFingers 72 = .ok (.iastore, 1) := by decide +kernel
theorem dX0_planTwoFingers_73 : decode cX0_planTwoFingers 73 = .ok (.iinc 1 1, 3) := by decide +kernel
theorem dX0_planTwoFingers_76 : decode cX0_planTwoFingers 76 = .ok (.iinc 2 (-1), 3) := by decide +kernel
theorem dX0_planTwoFingers_79 : decode cX0_planTwoFingers 79 = .ok (.goto (-70), 3) := by decide +kernel
theorem dX0_planTwoFingers_82 : decode cX0_planTwoFingers 82 = .ok (.return_, 1) := by decide +kernel
theorem dX0_redirectRoots_0 : decode cX0_redirectRoots 0 = .ok (.iconst 0, 1) := by decide +kernel
theorem dX0_redirectRoots_1 : decode cX0_redirectRoots 1 = .ok (.istore_n 1, 1) := by decide +kernel
theorem dX0_redirectRoots_2 : decode cX0_redirectRoots 2 = .ok (.iload_n 1, 1) := by decide +kernel
theorem dX0_redirectRoots_3 : decode cX0_redirectRoots 3 = .ok (.bipush 8, 2) := by decide +kernel
theorem dX0_redirectRoots_5 : decode cX0_redirectRoots 5 = .ok (.if_icmp .ge 25, 3) := by decide +kernel
theorem dX0_redirectRoots_8 : decode cX0_redirectRoots 8 = .ok (.aload_n 0, 1) := by decide +kernel
theorem dX0_redirectRoots_9 : decode cX0_redirectRoots 9 = .ok (.getfield 13, 3) := by decide +kernel
theorem dX0_redirectRoots_12 : decode cX0_redirectRoots 12 = .ok (.iload_n 1, 1) := by decide +kernel
theorem dX0_redirectRoots_13 : decode cX0_redirectRoots 13 = .ok (.aload_n 0, 1) := by decide +kernel
theorem dX0_redirectRoots_14 : decode cX0_redirectRoots 14 = .ok (.aload_n 0, 1) := by decide +kernel
theorem dX0_redirectRoots_15 : decode cX0_redirectRoots 15 = .ok (.getfield 13, 3) := by decide +kernel
theorem dX0_redirectRoots_18 : decode cX0_redirectRoots 18 = .ok (.iload_n 1, 1) := by decide +kernel
theorem dX0_redirectRoots_19 : decode cX0_redirectRoots 19 = .ok (.iaload, 1) := by decide +kernel
theorem dX0_redirectRoots_20 : decode cX0_redirectRoots 20 = .ok (.invokevirtual 161, 3) := by decide +kernel
theorem dX0_redirectRoots_23 : decode cX0_redirectRoots 23 = .ok (.iastore, 1) := by decide +kernel
theorem dX0_redirectRoots_24 : decode cX0_redirectRoots 24 = .ok (.iinc 1 1, 3) := by decide +kernel
theorem dX0_redirectRoots_27 : decode cX0_redirectRoots 27 = .ok (.goto (-25), 3) := by decide +kernel
theorem dX0_redirectRoots_30 : decode cX0_redirectRoots 30 = .ok (.return_, 1) := by decide +kernel
theorem dX0_redirectFields_0 : decode cX0_redirectFields 0 = .ok (.aload_n 0, 1) := by decide +kernel
theorem dX0_redirectFields_1 : decode cX0_redirectFields 1 = .ok (.iload_n 1, 1) := by decide +kernel
theorem dX0_redirectFields_2 : decode cX0_redirectFields 2 = .ok (.invokevirtual 123, 3) := by decide +kernel
theorem dX0_redirectFields_5 : decode cX0_redirectFields 5 = .ok (.istore_n 2, 1) := by decide +kernel
theorem dX0_redirectFields_6 : decode cX0_redirectFields 6 = .ok (.iconst 0, 1) := by decide +kernel
theorem dX0_redirectFields_7 : decode cX0_redirectFields 7 = .ok (.istore_n 3, 1) := by decide +kernel
theorem dX0_redirectFields_8 : decode cX0_redirectFields 8 = .ok (.iload_n 3, 1) := by decide +kernel
theorem dX0_redirectFields_9 : decode cX0_redirectFields 9 = .ok (.iload_n 2, 1) := by decide +kernel
theorem dX0_redirectFields_10 : decode cX0_redirectFields 10 = .ok (.if_icmp .ge 43, 3) := by decide +kernel
theorem dX0_redirectFields_13 : decode cX0_redirectFields 13 = .ok (.aload_n 0, 1) := by decide +kernel
theorem dX0_redirectFields_14 : decode cX0_redirectFields 14 = .ok (.iload_n 1, 1) := by decide +kernel
theorem dX0_redirectFields_15 : decode cX0_redirectFields 15 = .ok (.iload_n 3, 1) := by decide +kernel
theorem dX0_redirectFields_16 : decode cX0_redirectFields 16 = .ok (.invokevirtual 76, 3) := by decide +kernel
theorem dX0_redirectFields_19 : decode cX0_redirectFields 19 = .ok (.ifCond .eq 28, 3) := by decide +kernel
theorem dX0_redirectFields_22 : decode cX0_redirectFields 22 = .ok (.iload_n 1, 1) := by decide +kernel
theorem dX0_redirectFields_23 : decode cX0_redirectFields 23 = .ok (.iload_n 3, 1) := by decide +kernel
theorem dX0_redirectFields_24 : decode cX0_redirectFields 24 = .ok (.invokestatic 73, 3) := by decide +kernel
theorem dX0_redirectFields_27 : decode cX0_redirectFields 27 = .ok (.istore 4, 2) := by decide +kernel
theorem dX0_redirectFields_29 : decode cX0_redirectFields 29 = .ok (.aload_n 0, 1) := by decide +kernel
theorem dX0_redirectFields_30 : decode cX0_redirectFields 30 = .ok (.getfield 9, 3) := by decide +kernel
theorem dX0_redirectFields_33 : decode cX0_redirectFields 33 = .ok (.iload 4, 2) := by decide +kernel
theorem dX0_redirectFields_35 : decode cX0_redirectFields 35 = .ok (.aload_n 0, 1) := by decide +kernel
theorem dX0_redirectFields_36 : decode cX0_redirectFields 36 = .ok (.aload_n 0, 1) := by decide +kernel
theorem dX0_redirectFields_37 : decode cX0_redirectFields 37 = .ok (.getfield 9, 3) := by decide +kernel
theorem dX0_redirectFields_40 : decode cX0_redirectFields 40 = .ok (.iload 4, 2) := by decide +kernel
theorem dX0_redirectFields_42 : decode cX0_redirectFields 42 = .ok (.iaload, 1) := by decide +kernel
theorem dX0_redirectFields_43 : decode cX0_redirectFields 43 = .ok (.invokevirtual 161, 3) := by decide +kernel
theorem dX0_redirectFields_46 : decode cX0_redirectFields 46 = .ok (.iastore, 1) := by decide +kernel
theorem dX0_redirectFields_47 : decode cX0_redirectFields 47 = .ok (.iinc 3 1, 3) := by decide +kernel
theorem dX0_redirectFields_50 : decode cX0_redirectFields 50 = .ok (.goto (-42), 3) := by decide +kernel
theorem dX0_redirectFields_53 : decode cX0_redirectFields 53 = .ok (.return_, 1) := by decide +kernel
theorem dX0_moveObjects_0 : decode cX0_moveObjects 0 = .ok (.iconst 0, 1) := by decide +kernel
theorem dX0_moveObjects_1 : decode cX0_moveObjects 1 = .ok (.istore_n 1, 1) := by decide +kernel
theorem dX0_moveObjects_2 : decode cX0_moveObjects 2 = .ok (.iload_n 1, 1) := by decide +kernel
theorem dX0_moveObjects_3 : decode cX0_moveObjects 3 = .ok (.aload_n 0, 1) := by decide +kernel
theorem dX0_moveObjects_4 : decode cX0_moveObjects 4 = .ok (.getfield 86, 3) := by decide +kernel
theorem dX0_moveObjects_7 : decode cX0_moveObjects 7 = .ok (.if_icmp .ge 49, 3) := by decide +kernel
theorem dX0_moveObjects_10 : decode cX0_moveObjects 10 = .ok (.aload_n 0, 1) := by decide +kernel
theorem dX0_moveObjects_11 : decode cX0_moveObjects 11 = .ok (.getfield 16, 3) := by decide +kernel
theorem dX0_moveObjects_14 : decode cX0_moveObjects 14 = .ok (.iload_n 1, 1) := by decide +kernel
theorem dX0_moveObjects_15 : decode cX0_moveObjects 15 = .ok (.iaload, 1) := by decide +kernel
theorem dX0_moveObjects_16 : decode cX0_moveObjects 16 = .ok (.istore_n 2, 1) := by decide +kernel
theorem dX0_moveObjects_17 : decode cX0_moveObjects 17 = .ok (.aload_n 0, 1) := by decide +kernel
theorem dX0_moveObjects_18 : decode cX0_moveObjects 18 = .ok (.getfield 22, 3) := by decide +kernel
theorem dX0_moveObjects_21 : decode cX0_moveObjects 21 = .ok (.iload_n 2, 1) := by decide +kernel
theorem dX0_moveObjects_22 : decode cX0_moveObjects 22 = .ok (.iaload, 1) := by decide +kernel
theorem dX0_moveObjects_23 : decode cX0_moveObjects 23 = .ok (.iconst (-1), 1) := by decide +kernel
theorem dX0_moveObjects_24 : decode cX0_moveObjects 24 = .ok (.if_icmp .eq 26, 3) := by decide +kernel
theorem dX0_moveObjects_27 : decode cX0_moveObjects 27 = .ok (.aload_n 0, 1) := by decide +kernel
theorem dX0_moveObjects_28 : decode cX0_moveObjects 28 = .ok (.getfield 9, 3) := by decide +kernel
theorem dX0_moveObjects_31 : decode cX0_moveObjects 31 = .ok (.iload_n 2, 1) := by decide +kernel
theorem dX0_moveObjects_32 : decode cX0_moveObjects 32 = .ok (.aload_n 0, 1) := by decide +kernel
theorem dX0_moveObjects_33 : decode cX0_moveObjects 33 = .ok (.getfield 9, 3) := by decide +kernel
theorem dX0_moveObjects_36 : decode cX0_moveObjects 36 = .ok (.aload_n 0, 1) := by decide +kernel
theorem dX0_moveObjects_37 : decode cX0_moveObjects 37 = .ok (.getfield 22, 3) := by decide +kernel
theorem dX0_moveObjects_40 : decode cX0_moveObjects 40 = .ok (.iload_n 2, 1) := by decide +kernel
theorem dX0_moveObjects_41 : decode cX0_moveObjects 41 = .ok (.iaload, 1) := by decide +kernel
theorem dX0_moveObjects_42 : decode cX0_moveObjects 42 = .ok (.aload_n 0, 1) := by decide +kernel
theorem dX0_moveObjects_43 : decode cX0_moveObjects 43 = .ok (.iload_n 2, 1) := by decide +kernel
theorem dX0_moveObjects_44 : decode cX0_moveObjects 44 = .ok (.invokevirtual 158, 3) := by decide +kernel
theorem dX0_moveObjects_47 : decode cX0_moveObjects 47 = .ok (.invokestatic 164, 3) := by decide +kernel
theorem dX0_moveObjects_50 : decode cX0_moveObjects 50 = .ok (.iinc 1 1, 3) := by decide +kernel
theorem dX0_moveObjects_53 : decode cX0_moveObjects 53 = .ok (.goto (-51), 3) := by decide +kernel
theorem dX0_moveObjects_56 : decode cX0_moveObjects 56 = .ok (.return_, 1) := by decide +kernel
theorem dX0_listObjects_0 : decode cX0_listObjects 0 = .ok (.iconst 0, 1) := by decide +kernel
theorem dX0_listObjects_1 : decode cX0_listObjects 1 = .ok (.istore_n 1, 1) := by decide +kernel
theorem dX0_listObjects_2 : decode cX0_listObjects 2 = .ok (.iconst 0, 1) := by decide +kernel
theorem dX0_listObjects_3 : decode cX0_listObjects 3 = .ok (.istore_n 2, 1) := by decide +kernel
theorem dX0_listObjects_4 : decode cX0_listObjects 4 = .ok (.iload_n 2, 1) := by decide +kernel
theorem dX0_listObjects_5 : decode cX0_listObjects 5 = .ok (.aload_n 0, 1) := by decide +kernel
theorem dX0_listObjects_6 : decode cX0_listObjects 6 = .ok (.getfield 92, 3) := by decide +kernel
theorem dX0_listObjects_9 : decode cX0_listObjects 9 = .ok (.if_icmp .ge 24, 3) := by decide +kernel
theorem dX0_listObjects_12 : decode cX0_listObjects 12 = .ok (.aload_n 0, 1) := by decide +kernel
theorem dX0_listObjects_13 : decode cX0_listObjects 13 = .ok (.getfield 16, 3) := by decide +kernel
theorem dX0_listObjects_16 : decode cX0_listObjects 16 = .ok (.iload_n 2, 1) := by decide +kernel
theorem dX0_listObjects_17 : decode cX0_listObjects 17 = .ok (.iload_n 1, 1) := by decide +kernel
theorem dX0_listObjects_18 : decode cX0_listObjects 18 = .ok (.iastore, 1) := by decide +kernel
theorem dX0_listObjects_19 : decode cX0_listObjects 19 = .ok (.iload_n 1, 1) := by decide +kernel
theorem dX0_listObjects_20 : decode cX0_listObjects 20 = .ok (.aload_n 0, 1) := by decide +kernel
theorem dX0_listObjects_21 : decode cX0_listObjects 21 = .ok (.iload_n 1, 1) := by decide +kernel
theorem dX0_listObjects_22 : decode cX0_listObjects 22 = .ok (.invokevirtual 158, 3) := by decide +kernel
theorem dX0_listObjects_25 : decode cX0_listObjects 25 = .ok (.iadd, 1) := by decide +kernel
theorem dX0_listObjects_26 : decode cX0_listObjects 26 = .ok (.istore_n 1, 1) := by decide +kernel
theorem dX0_listObjects_27 : decode cX0_listObjects 27 = .ok (.iinc 2 1, 3) := by decide +kernel
theorem dX0_listObjects_30 : decode cX0_listObjects 30 = .ok (.goto (-26), 3) := by decide +kernel
theorem dX0_listObjects_33 : decode cX0_listObjects 33 = .ok (.aload_n 0, 1) := by decide +kernel
theorem dX0_listObjects_34 : decode cX0_listObjects 34 = .ok (.aload_n 0, 1) := by decide +kernel
theorem dX0_listObjects_35 : decode cX0_listObjects 35 = .ok (.getfield 92, 3) := by decide +kernel
theorem dX0_listObjects_38 : decode cX0_listObjects 38 = .ok (.putfield 86, 3) := by decide +kernel
theorem dX0_listObjects_41 : decode cX0_listObjects 41 = .ok (.aload_n 0, 1) := by decide +kernel
theorem dX0_listObjects_42 : decode cX0_listObjects 42 = .ok (.getfield 9, 3) := by decide +kernel
theorem dX0_listObjects_45 : decode cX0_listObjects 45 = .ok (.iload_n 1, 1) := by decide +kernel
theorem dX0_listObjects_46 : decode cX0_listObjects 46 = .ok (.aload_n 0, 1) := by decide +kernel
theorem dX0_listObjects_47 : decode cX0_listObjects 47 = .ok (.getfield 58, 3) := by decide +kernel
theorem dX0_listObjects_50 : decode cX0_listObjects 50 = .ok (.iconst 0, 1) := by decide +kernel
theorem dX0_listObjects_51 : decode cX0_listObjects 51 = .ok (.invokestatic 170, 3) := by decide +kernel
theorem dX0_listObjects_54 : decode cX0_listObjects 54 = .ok (.aload_n 0, 1) := by decide +kernel
theorem dX0_listObjects_55 : decode cX0_listObjects 55 = .ok (.iload_n 1, 1) := by decide +kernel
theorem dX0_listObjects_56 : decode cX0_listObjects 56 = .ok (.putfield 58, 3) := by decide +kernel
theorem dX0_listObjects_59 : decode cX0_listObjects 59 = .ok (.return_, 1) := by decide +kernel
theorem dX0_moveTogether_0 : decode cX0_moveTogether 0 = .ok (.aload_n 0, 1) := by decide +kernel
theorem dX0_moveTogether_1 : decode cX0_moveTogether 1 = .ok (.invokevirtual 89, 3) := by decide +kernel
theorem dX0_moveTogether_4 : decode cX0_moveTogether 4 = .ok (.iload_n 1, 1) := by decide +kernel
theorem dX0_moveTogether_5 : decode cX0_moveTogether 5 = .ok (.iconst 1, 1) := by decide +kernel
theorem dX0_moveTogether_6 : decode cX0_moveTogether 6 = .ok (.if_icmp .ne 10, 3) := by decide +kernel
theorem dX0_moveTogether_9 : decode cX0_moveTogether 9 = .ok (.aload_n 0, 1) := by decide +kernel
theorem dX0_moveTogether_10 : decode cX0_moveTogether 10 = .ok (.invokevirtual 140, 3) := by decide +kernel
theorem dX0_moveTogether_13 : decode cX0_moveTogether 13 = .ok (.goto 7, 3) := by decide +kernel
theorem dX0_moveTogether_16 : decode cX0_moveTogether 16 = .ok (.aload_n 0, 1) := by decide +kernel
theorem dX0_moveTogether_17 : decode cX0_moveTogether 17 = .ok (.invokevirtual 143, 3) := by decide +kernel
theorem dX0_moveTogether_20 : decode cX0_moveTogether 20 = .ok (.aload_n 0, 1) := by decide +kernel
theorem dX0_moveTogether_21 : decode cX0_moveTogether 21 = .ok (.invokevirtual 146, 3) := by decide +kernel
theorem dX0_moveTogether_24 : decode cX0_moveTogether 24 = .ok (.iconst 0, 1) := by decide +kernel
theorem dX0_moveTogether_25 : decode cX0_moveTogether 25 = .ok (.istore_n 2, 1) := by decide +kernel
theorem dX0_moveTogether_26 : decode cX0_moveTogether 26 = .ok (.iload_n 2, 1) := by decide +kernel
theorem dX0_moveTogether_27 : decode cX0_moveTogether 27 = .ok (.aload_n 0, 1) := by decide +kernel
theorem dX0_moveTogether_28 : decode cX0_moveTogether 28 = .ok (.getfield 92, 3) := by decide +kernel
theorem dX0_moveTogether_31 : decode cX0_moveTogether 31 = .ok (.if_icmp .ge 19, 3) := by decide +kernel
theorem dX0_moveTogether_34 : decode cX0_moveTogether 34 = .ok (.aload_n 0, 1) := by decide +kernel
theorem dX0_moveTogether_35 : decode cX0_moveTogether 35 = .ok (.aload_n 0, 1) := by decide +kernel
theorem dX0_moveTogether_36 : decode cX0_moveTogether 36 = .ok (.getfield 19, 3) := by decide +kernel
theorem dX0_moveTogether_39 : decode cX0_moveTogether 39 = .ok (.iload_n 2, 1) := by decide +kernel
theorem dX0_moveTogether_40 : decode cX0_moveTogether 40 = .ok (.iaload, 1) := by decide +kernel
theorem dX0_moveTogether_41 : decode cX0_moveTogether 41 = .ok (.invokevirtual 149, 3) := by decide +kernel
theorem dX0_moveTogether_44 : decode cX0_moveTogether 44 = .ok (.iinc 2 1, 3) := by decide +kernel
theorem dX0_moveTogether_47 : decode cX0_moveTogether 47 = .ok (.goto (-21), 3) := by decide +kernel
theorem dX0_moveTogether_50 : decode cX0_moveTogether 50 = .ok (.aload_n 0, 1) := by decide +kernel
theorem dX0_moveTogether_51 : decode cX0_moveTogether 51 = .ok (.invokevirtual 152, 3) := by decide +kernel
theorem dX0_moveTogether_54 : decode cX0_moveTogether 54 = .ok (.aload_n 0, 1) := by decide +kernel
theorem dX0_moveTogether_55 : decode cX0_moveTogether 55 = .ok (.invokevirtual 155, 3) := by decide +kernel
theorem dX0_moveTogether_58 : decode cX0_moveTogether 58 = .ok (.return_, 1) := by decide +kernel
theorem dX0_requireRoom_0 : decode cX0_requireRoom 0 = .ok (.aload_n 0, 1) := by decide +kernel
theorem dX0_requireRoom_1 : decode cX0_requireRoom 1 = .ok (.iload_n 1, 1) := by decide +kernel
theorem dX0_requireRoom_2 : decode cX0_requireRoom 2 = .ok (.invokevirtual 48, 3) := by decide +kernel
theorem dX0_requireRoom_5 : decode cX0_requireRoom 5 = .ok (.ifCond .ne 13, 3) := by decide +kernel
theorem dX0_requireRoom_8 : decode cX0_requireRoom 8 = .ok (.new 104, 3) := by decide +kernel
theorem dX0_requireRoom_11 : decode cX0_requireRoom 11 = .ok (.dup, 1) := by decide +kernel
theorem dX0_requireRoom_12 : decode cX0_requireRoom 12 = .ok (.ldc 106, 2) := by decide +kernel
theorem dX0_requireRoom_14 : decode cX0_requireRoom 14 = .ok (.invokespecial 108, 3) := by decide +kernel
theorem dX0_requireRoom_17 : decode cX0_requireRoom 17 = .ok (.athrow, 1) := by decide +kernel
theorem dX0_requireRoom_18 : decode cX0_requireRoom 18 = .ok (.return_, 1) := by decide +kernel
theorem dX0_requireSizesFor_0 : decode cX0_requireSizesFor 0 = .ok (.iload_n 1, 1) := by decide +kernel
theorem dX0_requireSizesFor_1 : decode cX0_requireSizesFor 1 = .ok (.iconst 1, 1) := by decide +kernel
theorem dX0_requireSizesFor_2 : decode cX0_requireSizesFor 2 = .ok (.if_icmp .ne 20, 3) := by decide +kernel
theorem dX0_requireSizesFor_5 : decode cX0_requireSizesFor 5 = .ok (.aload_n 0, 1) := by decide +kernel
theorem dX0_requireSizesFor_6 : decode cX0_requireSizesFor 6 = .ok (.invokevirtual 109, 3) := by decide +kernel
theorem dX0_requireSizesFor_9 : decode cX0_requireSizesFor 9 = .ok (.ifCond .ne 13, 3) := by decide +kernel
theorem dX0_requireSizesFor_12 : decode cX0_requireSizesFor 12 = .ok (.new 113, 3) := by decide +kernel
theorem dX0_requireSizesFor_15 : decode cX0_requireSizesFor 15 = .ok (.dup, 1) := by decide +kernel
theorem dX0_requireSizesFor_16 : decode cX0_requireSizesFor 16 = .ok (.ldc 115, 2) := by decide +kernel
theorem dX0_requireSizesFor_18 : decode cX0_requireSizesFor 18 = .ok (.invokespecial 117, 3) := by decide +kernel
theorem dX0_requireSizesFor_21 : decode cX0_requireSizesFor 21 = .ok (.athrow, 1) := by decide +kernel
theorem dX0_requireSizesFor_22 : decode cX0_requireSizesFor 22 = .ok (.return_, 1) := by decide +kernel
theorem dX0_requireObjectWithField_0 : decode cX0_requireObjectWithField 0 = .ok (.aload_n 0, 1) := by decide +kernel
theorem dX0_requireObjectWithField_1 : decode cX0_requireObjectWithField 1 = .ok (.getfield 13, 3) := by decide +kernel
theorem dX0_requireObjectWithField_4 : decode cX0_requireObjectWithField 4 = .ok (.iload_n 1, 1) := by decide +kernel
theorem dX0_requireObjectWithField_5 : decode cX0_requireObjectWithField 5 = .ok (.iaload, 1) := by decide +kernel
theorem dX0_requireObjectWithField_6 : decode cX0_requireObjectWithField 6 = .ok (.iconst (-1), 1) := by decide +kernel
theorem dX0_requireObjectWithField_7 : decode cX0_requireObjectWithField 7 = .ok (.if_icmp .ne 13, 3) := by decide +kernel
theorem dX0_requireObjectWithField_10 : decode cX0_requireObjectWithField 10 = .ok (.new 118, 3) := by decide +kernel
theorem dX0_requireObjectWithField_13 : decode cX0_requireObjectWithField 13 = .ok (.dup, 1) := by decide +kernel
theorem dX0_requireObjectWithField_14 : decode cX0_requireObjectWithField 14 = .ok (.ldc 120, 2) := by decide +kernel
theorem dX0_requireObjectWithField_16 : decode cX0_requireObjectWithField 16 = .ok (.invokespecial 122, 3) := by decide +kernel
theorem dX0_requireObjectWithField_19 : decode cX0_requireObjectWithField 19 = .ok (.athrow, 1) := by decide +kernel
theorem dX0_requireObjectWithField_20 : decode cX0_requireObjectWithField 20 = .ok (.iload_n 2, 1) := by decide +kernel
theorem dX0_requireObjectWithField_21 : decode cX0_requireObjectWithField 21 = .ok (.ifCond .lt 17, 3) := by decide +kernel
theorem dX0_requireObjectWithField_24 : decode cX0_requireObjectWithField 24 = .ok (.iload_n 2, 1) := by decide +kernel
theorem dX0_requireObjectWithField_25 : decode cX0_requireObjectWithField 25 = .ok (.aload_n 0, 1) := by decide +kernel
theorem dX0_requireObjectWithField_26 : decode cX0_requireObjectWithField 26 = .ok (.aload_n 0, 1) := by decide +kernel
theorem dX0_requireObjectWithField_27 : decode cX0_requireObjectWithField 27 = .ok (.getfield 13, 3) := by decide +kernel
theorem dX0_requireObjectWithField_30 : decode cX0_requireObjectWithField 30 = .ok (.iload_n 1, 1) := by decide +kernel
theorem dX0_requireObjectWithField_31 : decode cX0_requireObjectWithField 31 = .ok (.iaload, 1) := by decide +kernel
theorem dX0_requireObjectWithField_32 : decode cX0_requireObjectWithField 32 = .ok (.invokevirtual 123, 3) := by decide +kernel
theorem dX0_requireObjectWithField_35 : decode cX0_requireObjectWithField 35 = .ok (.if_icmp .lt 13, 3) := by decide +kernel
theorem dX0_requireObjectWithField_38 : decode cX0_requireObjectWithField 38 = .ok (.new 79, 3) := by decide +kernel
theorem dX0_requireObjectWithField_41 : decode cX0_requireObjectWithField 41 = .ok (.dup, 1) := by decide +kernel
theorem dX0_requireObjectWithField_42 : decode cX0_requireObjectWithField 42 = .ok (.ldc 127, 2) := by decide +kernel
theorem dX0_requireObjectWithField_44 : decode cX0_requireObjectWithField 44 = .ok (.invokespecial 83, 3) := by decide +kernel
theorem dX0_requireObjectWithField_47 : decode cX0_requireObjectWithField 47 = .ok (.athrow, 1) := by decide +kernel
theorem dX0_requireObjectWithField_48 : decode cX0_requireObjectWithField 48 = .ok (.return_, 1) := by decide +kernel
theorem dX0_requireReference_0 : decode cX0_requireReference 0 = .ok (.aload_n 0, 1) := by decide +kernel
theorem dX0_requireReference_1 : decode cX0_requireReference 1 = .ok (.iload_n 1, 1) := by decide +kernel
theorem dX0_requireReference_2 : decode cX0_requireReference 2 = .ok (.iload_n 2, 1) := by decide +kernel
theorem dX0_requireReference_3 : decode cX0_requireReference 3 = .ok (.invokevirtual 76, 3) := by decide +kernel
theorem dX0_requireReference_6 : decode cX0_requireReference 6 = .ok (.ifCond .ne 13, 3) := by decide +kernel
theorem dX0_requireReference_9 : decode cX0_requireReference 9 = .ok (.new 104, 3) := by decide +kernel
theorem dX0_requireReference_12 : decode cX0_requireReference 12 = .ok (.dup, 1) := by decide +kernel
theorem dX0_requireReference_13 : decode cX0_requireReference 13 = .ok (.ldc 129, 2) := by decide +kernel
theorem dX0_requireReference_15 : decode cX0_requireReference 15 = .ok (.invokespecial 108, 3) := by decide +kernel
theorem dX0_requireReference_18 : decode cX0_requireReference 18 = .ok (.athrow, 1) := by decide +kernel
theorem dX0_requireReference_19 : decode cX0_requireReference 19 = .ok (.return_, 1) := by decide +kernel
theorem dX0_allocate_0 : decode cX0_allocate 0 = .ok (.iload_n 1, 1) := by decide +kernel
theorem dX0_allocate_1 : decode cX0_allocate 1 = .ok (.invokestatic 31, 3) := by decide +kernel
theorem dX0_allocate_4 : decode cX0_allocate 4 = .ok (.iload_n 2, 1) := by decide +kernel
theorem dX0_allocate_5 : decode cX0_allocate 5 = .ok (.invokestatic 35, 3) := by decide +kernel
theorem dX0_allocate_8 : decode cX0_allocate 8 = .ok (.aload_n 0, 1) := by decide +kernel
theorem dX0_allocate_9 : decode cX0_allocate 9 = .ok (.iload_n 2, 1) := by decide +kernel
theorem dX0_allocate_10 : decode cX0_allocate 10 = .ok (.invokevirtual 38, 3) := by decide +kernel
theorem dX0_allocate_13 : decode cX0_allocate 13 = .ok (.aload_n 0, 1) := by decide +kernel
theorem dX0_allocate_14 : decode cX0_allocate 14 = .ok (.iload_n 1, 1) := by decide +kernel
theorem dX0_allocate_15 : decode cX0_allocate 15 = .ok (.iload_n 2, 1) := by decide +kernel
theorem dX0_allocate_16 : decode cX0_allocate 16 = .ok (.invokevirtual 41, 3) := by decide +kernel
theorem dX0_allocate_19 : decode cX0_allocate 19 = .ok (.ireturn, 1) := by decide +kernel
theorem dX0_claim_0 : decode cX0_claim 0 = .ok (.iload_n 1, 1) := by decide +kernel
theorem dX0_claim_1 : decode cX0_claim 1 = .ok (.invokestatic 31, 3) := by decide +kernel
theorem dX0_claim_4 : decode cX0_claim 4 = .ok (.iload_n 2, 1) := by decide +kernel
theorem dX0_claim_5 : decode cX0_claim 5 = .ok (.invokestatic 35, 3) := by decide +kernel
theorem dX0_claim_8 : decode cX0_claim 8 = .ok (.iload_n 3, 1) := by decide +kernel
theorem dX0_claim_9 : decode cX0_claim 9 = .ok (.invokestatic 45, 3) := by decide +kernel
theorem dX0_claim_12 : decode cX0_claim 12 = .ok (.aload_n 0, 1) := by decide +kernel
theorem dX0_claim_13 : decode cX0_claim 13 = .ok (.iload_n 2, 1) := by decide +kernel
theorem dX0_claim_14 : decode cX0_claim 14 = .ok (.invokevirtual 48, 3) := by decide +kernel
theorem dX0_claim_17 : decode cX0_claim 17 = .ok (.ifCond .ne 18, 3) := by decide +kernel
theorem dX0_claim_20 : decode cX0_claim 20 = .ok (.aload_n 0, 1) := by decide +kernel
theorem dX0_claim_21 : decode cX0_claim 21 = .ok (.iload_n 3, 1) := by decide +kernel
theorem dX0_claim_22 : decode cX0_claim 22 = .ok (.invokevirtual 52, 3) := by decide +kernel
theorem dX0_claim_25 : decode cX0_claim 25 = .ok (.aload_n 0, 1) := by decide +kernel
theorem dX0_claim_26 : decode cX0_claim 26 = .ok (.iload_n 3, 1) := by decide +kernel
theorem dX0_claim_27 : decode cX0_claim 27 = .ok (.invokevirtual 55, 3) := by decide +kernel
theorem dX0_claim_30 : decode cX0_claim 30 = .ok (.aload_n 0, 1) := by decide +kernel
theorem dX0_claim_31 : decode cX0_claim 31 = .ok (.iload_n 2, 1) := by decide +kernel
theorem dX0_claim_32 : decode cX0_claim 32 = .ok (.invokevirtual 38, 3) := by decide +kernel
theorem dX0_claim_35 : decode cX0_claim 35 = .ok (.aload_n 0, 1) := by decide +kernel
theorem dX0_claim_36 : decode cX0_claim 36 = .ok (.iload_n 1, 1) := by decide +kernel
theorem dX0_claim_37 : decode cX0_claim 37 = .ok (.iload_n 2, 1) := by decide +kernel
theorem dX0_claim_38 : decode cX0_claim 38 = .ok (.invokevirtual 41, 3) := by decide +kernel
theorem dX0_claim_41 : decode cX0_claim 41 = .ok (.ireturn, 1) := by decide +kernel
theorem dX0_compact_0 : decode cX0_compact 0 = .ok (.iload_n 1, 1) := by decide +kernel
theorem dX0_compact_1 : decode cX0_compact 1 = .ok (.invokestatic 45, 3) := by decide +kernel
theorem dX0_compact_4 : decode cX0_compact 4 = .ok (.aload_n 0, 1) := by decide +kernel
theorem dX0_compact_5 : decode cX0_compact 5 = .ok (.iload_n 1, 1) := by decide +kernel
theorem dX0_compact_6 : decode cX0_compact 6 = .ok (.invokevirtual 52, 3) := by decide +kernel
theorem dX0_compact_9 : decode cX0_compact 9 = .ok (.aload_n 0, 1) := by decide +kernel
theorem dX0_compact_10 : decode cX0_compact 10 = .ok (.getfield 58, 3) := by decide +kernel
theorem dX0_compact_13 : decode cX0_compact 13 = .ok (.istore_n 2, 1) := by decide +kernel
theorem dX0_compact_14 : decode cX0_compact 14 = .ok (.aload_n 0, 1) := by decide +kernel
theorem dX0_compact_15 : decode cX0_compact 15 = .ok (.iload_n 1, 1) := by decide +kernel
theorem dX0_compact_16 : decode cX0_compact 16 = .ok (.invokevirtual 55, 3) := by decide +kernel
theorem dX0_compact_19 : decode cX0_compact 19 = .ok (.iload_n 2, 1) := by decide +kernel
theorem dX0_compact_20 : decode cX0_compact 20 = .ok (.aload_n 0, 1) := by decide +kernel
theorem dX0_compact_21 : decode cX0_compact 21 = .ok (.getfield 58, 3) := by decide +kernel
theorem dX0_compact_24 : decode cX0_compact 24 = .ok (.isub, 1) := by decide +kernel
theorem dX0_compact_25 : decode cX0_compact 25 = .ok (.ireturn, 1) := by decide +kernel
theorem dX0_copy_0 : decode cX0_copy 0 = .ok (.iload_n 1, 1) := by decide +kernel
theorem dX0_copy_1 : decode cX0_copy 1 = .ok (.invokestatic 31, 3) := by decide +kernel
theorem dX0_copy_4 : decode cX0_copy 4 = .ok (.iload_n 2, 1) := by decide +kernel
theorem dX0_copy_5 : decode cX0_copy 5 = .ok (.invokestatic 31, 3) := by decide +kernel
theorem dX0_copy_8 : decode cX0_copy 8 = .ok (.aload_n 0, 1) := by decide +kernel
theorem dX0_copy_9 : decode cX0_copy 9 = .ok (.getfield 13, 3) := by decide +kernel
theorem dX0_copy_12 : decode cX0_copy 12 = .ok (.iload_n 1, 1) := by decide +kernel
theorem dX0_copy_13 : decode cX0_copy 13 = .ok (.aload_n 0, 1) := by decide +kernel
theorem dX0_copy_14 : decode cX0_copy 14 = .ok (.getfield 13, 3) := by decide +kernel
theorem dX0_copy_17 : decode cX0_copy 17 = .ok (.iload_n 2, 1) := by decide +kernel
theorem dX0_copy_18 : decode cX0_copy 18 = .ok (.iaload, 1) := by decide +kernel
theorem dX0_copy_19 : decode cX0_copy 19 = .ok (.iastore, 1) := by decide +kernel
theorem dX0_copy_20 : decode cX0_copy 20 = .ok (.return_, 1) := by decide +kernel
theorem dX0_clear_0 : decode cX0_clear 0 = .ok (.iload_n 1, 1) := by decide +kernel
theorem dX0_clear_1 : decode cX0_clear 1 = .ok (.invokestatic 31, 3) := by decide +kernel
theorem dX0_clear_4 : decode cX0_clear 4 = .ok (.aload_n 0, 1) := by decide +kernel
theorem dX0_clear_5 : decode cX0_clear 5 = .ok (.getfield 13, 3) := by decide +kernel
theorem dX0_clear_8 : decode cX0_clear 8 = .ok (.iload_n 1, 1) := by decide +kernel
theorem dX0_clear_9 : decode cX0_clear 9 = .ok (.iconst (-1), 1) := by decide +kernel
theorem dX0_clear_10 : decode cX0_clear 10 = .ok (.iastore, 1) := by decide +kernel
theorem dX0_clear_11 : decode cX0_clear 11 = .ok (.return_, 1) := by decide +kernel
theorem dX0_put_0 : decode cX0_put 0 = .ok (.iload_n 1, 1) := by decide +kernel
theorem dX0_put_1 : decode cX0_put 1 = .ok (.invokestatic 31, 3) := by decide +kernel
theorem dX0_put_4 : decode cX0_put 4 = .ok (.aload_n 0, 1) := by decide +kernel
theorem dX0_put_5 : decode cX0_put 5 = .ok (.iload_n 1, 1) := by decide +kernel
theorem dX0_put_6 : decode cX0_put 6 = .ok (.iload_n 2, 1) := by decide +kernel
theorem dX0_put_7 : decode cX0_put 7 = .ok (.invokevirtual 62, 3) := by decide +kernel
theorem dX0_put_10 : decode cX0_put 10 = .ok (.aload_n 0, 1) := by decide +kernel
theorem dX0_put_11 : decode cX0_put 11 = .ok (.aload_n 0, 1) := by decide +kernel
theorem dX0_put_12 : decode cX0_put 12 = .ok (.getfield 13, 3) := by decide +kernel
theorem dX0_put_15 : decode cX0_put 15 = .ok (.iload_n 1, 1) := by decide +kernel
theorem dX0_put_16 : decode cX0_put 16 = .ok (.iaload, 1) := by decide +kernel
theorem dX0_put_17 : decode cX0_put 17 = .ok (.iload_n 2, 1) := by decide +kernel
theorem dX0_put_18 : decode cX0_put 18 = .ok (.iconst 0, 1) := by decide +kernel
theorem dX0_put_19 : decode cX0_put 19 = .ok (.iload_n 3, 1) := by decide +kernel
theorem dX0_put_20 : decode cX0_put 20 = .ok (.invokevirtual 66, 3) := by decide +kernel
theorem dX0_put_23 : decode cX0_put 23 = .ok (.return_, 1) := by decide +kernel
theorem dX0_refer_0 : decode cX0_refer 0 = .ok (.iload_n 1, 1) := by decide +kernel
theorem dX0_refer_1 : decode cX0_refer 1 = .ok (.invokestatic 31, 3) := by decide +kernel
theorem dX0_refer_4 : decode cX0_refer 4 = .ok (.iload_n 3, 1) := by decide +kernel
theorem dX0_refer_5 : decode cX0_refer 5 = .ok (.invokestatic 31, 3) := by decide +kernel
theorem dX0_refer_8 : decode cX0_refer 8 = .ok (.aload_n 0, 1) := by decide +kernel
theorem dX0_refer_9 : decode cX0_refer 9 = .ok (.iload_n 1, 1) := by decide +kernel
theorem dX0_refer_10 : decode cX0_refer 10 = .ok (.iload_n 2, 1) := by decide +kernel
theorem dX0_refer_11 : decode cX0_refer 11 = .ok (.invokevirtual 62, 3) := by decide +kernel
theorem dX0_refer_14 : decode cX0_refer 14 = .ok (.aload_n 0, 1) := by decide +kernel
theorem dX0_refer_15 : decode cX0_refer 15 = .ok (.aload_n 0, 1) := by decide +kernel
theorem dX0_refer_16 : decode cX0_refer 16 = .ok (.getfield 13, 3) := by decide +kernel
theorem dX0_refer_19 : decode cX0_refer 19 = .ok (.iload_n 1, 1) := by decide +kernel
theorem dX0_refer_20 : decode cX0_refer 20 = .ok (.iaload, 1) := by decide +kernel
theorem dX0_refer_21 : decode cX0_refer 21 = .ok (.iload_n 2, 1) := by decide +kernel
theorem dX0_refer_22 : decode cX0_refer 22 = .ok (.iload 4, 2) := by decide +kernel
theorem dX0_refer_24 : decode cX0_refer 24 = .ok (.ifCond .eq 7, 3) := by decide +kernel
theorem dX0_refer_27 : decode cX0_refer 27 = .ok (.iconst 2, 1) := by decide +kernel
theorem dX0_refer_28 : decode cX0_refer 28 = .ok (.goto 4, 3) := by decide +kernel
theorem dX0_refer_31 : decode cX0_refer 31 = .ok (.iconst 1, 1) := by decide +kernel
theorem dX0_refer_32 : decode cX0_refer 32 = .ok (.aload_n 0, 1) := by decide +kernel
theorem dX0_refer_33 : decode cX0_refer 33 = .ok (.getfield 13, 3) := by decide +kernel
theorem dX0_refer_36 : decode cX0_refer 36 = .ok (.iload_n 3, 1) := by decide +kernel
theorem dX0_refer_37 : decode cX0_refer 37 = .ok (.iaload, 1) := by decide +kernel
theorem dX0_refer_38 : decode cX0_refer 38 = .ok (.invokevirtual 66, 3) := by decide +kernel
theorem dX0_refer_41 : decode cX0_refer 41 = .ok (.return_, 1) := by decide +kernel
theorem dX0_follow_0 : decode cX0_follow 0 = .ok (.iload_n 1, 1) := by decide +kernel
theorem dX0_follow_1 : decode cX0_follow 1 = .ok (.invokestatic 31, 3) := by decide +kernel
theorem dX0_follow_4 : decode cX0_follow 4 = .ok (.iload_n 3, 1) := by decide +kernel
theorem dX0_follow_5 : decode cX0_follow 5 = .ok (.invokestatic 31, 3) := by decide +kernel
theorem dX0_follow_8 : decode cX0_follow 8 = .ok (.aload_n 0, 1) := by decide +kernel
theorem dX0_follow_9 : decode cX0_follow 9 = .ok (.iload_n 1, 1) := by decide +kernel
theorem dX0_follow_10 : decode cX0_follow 10 = .ok (.iload_n 2, 1) := by decide +kernel
theorem dX0_follow_11 : decode cX0_follow 11 = .ok (.invokevirtual 62, 3) := by decide +kernel
theorem dX0_follow_14 : decode cX0_follow 14 = .ok (.aload_n 0, 1) := by decide +kernel
theorem dX0_follow_15 : decode cX0_follow 15 = .ok (.aload_n 0, 1) := by decide +kernel
theorem dX0_follow_16 : decode cX0_follow 16 = .ok (.getfield 13, 3) := by decide +kernel
theorem dX0_follow_19 : decode cX0_follow 19 = .ok (.iload_n 1, 1) := by decide +kernel
theorem dX0_follow_20 : decode cX0_follow 20 = .ok (.iaload, 1) := by decide +kernel
theorem dX0_follow_21 : decode cX0_follow 21 = .ok (.iload_n 2, 1) := by decide +kernel
theorem dX0_follow_22 : decode cX0_follow 22 = .ok (.invokevirtual 70, 3) := by decide +kernel
theorem dX0_follow_25 : decode cX0_follow 25 = .ok (.aload_n 0, 1) := by decide +kernel
theorem dX0_follow_26 : decode cX0_follow 26 = .ok (.getfield 13, 3) := by decide +kernel
theorem dX0_follow_29 : decode cX0_follow 29 = .ok (.iload_n 3, 1) := by decide +kernel
theorem dX0_follow_30 : decode cX0_follow 30 = .ok (.aload_n 0, 1) := by decide +kernel
theorem dX0_follow_31 : decode cX0_follow 31 = .ok (.getfield 9, 3) := by decide +kernel
theorem dX0_follow_34 : decode cX0_follow 34 = .ok (.aload_n 0, 1) := by decide +kernel
theorem dX0_follow_35 : decode cX0_follow 35 = .ok (.getfield 13, 3) := by decide +kernel
theorem dX0_follow_38 : decode cX0_follow 38 = .ok (.iload_n 1, 1) := by decide +kernel
theorem dX0_follow_39 : decode cX0_follow 39 = .ok (.iaload, 1) := by decide +kernel
theorem dX0_follow_40 : decode cX0_follow 40 = .ok (.iload_n 2, 1) := by decide +kernel
theorem dX0_follow_41 : decode cX0_follow 41 = .ok (.invokestatic 73, 3) := by decide +kernel
theorem dX0_follow_44 : decode cX0_follow 44 = .ok (.iaload, 1) := by decide +kernel
theorem dX0_follow_45 : decode cX0_follow 45 = .ok (.iastore, 1) := by decide +kernel
theorem dX0_follow_46 : decode cX0_follow 46 = .ok (.aload_n 0, 1) := by decide +kernel
theorem dX0_follow_47 : decode cX0_follow 47 = .ok (.getfield 13, 3) := by decide +kernel
theorem dX0_follow_50 : decode cX0_follow 50 = .ok (.iload_n 3, 1) := by decide +kernel
theorem dX0_follow_51 : decode cX0_follow 51 = .ok (.iaload, 1) := by decide +kernel
theorem dX0_follow_52 : decode cX0_follow 52 = .ok (.iconst (-1), 1) := by decide +kernel
theorem dX0_follow_53 : decode cX0_follow 53 = .ok (.if_icmp .eq 7, 3) := by decide +kernel
theorem dX0_follow_56 : decode cX0_follow 56 = .ok (.iconst 1, 1) := by decide +kernel
theorem dX0_follow_57 : decode cX0_follow 57 = .ok (.goto 4, 3) := by decide +kernel
theorem dX0_follow_60 : decode cX0_follow 60 = .ok (.iconst 0, 1) := by decide +kernel
theorem dX0_follow_61 : decode cX0_follow 61 = .ok (.ireturn, 1) := by decide +kernel
theorem dX0_kind_0 : decode cX0_kind 0 = .ok (.iload_n 1, 1) := by decide +kernel
theorem dX0_kind_1 : decode cX0_kind 1 = .ok (.invokestatic 31, 3) := by decide +kernel
theorem dX0_kind_4 : decode cX0_kind 4 = .ok (.aload_n 0, 1) := by decide +kernel
theorem dX0_kind_5 : decode cX0_kind 5 = .ok (.iload_n 1, 1) := by decide +kernel
theorem dX0_kind_6 : decode cX0_kind 6 = .ok (.iload_n 2, 1) := by decide +kernel
theorem dX0_kind_7 : decode cX0_kind 7 = .ok (.invokevirtual 62, 3) := by decide +kernel
theorem dX0_kind_10 : decode cX0_kind 10 = .ok (.aload_n 0, 1) := by decide +kernel
theorem dX0_kind_11 : decode cX0_kind 11 = .ok (.aload_n 0, 1) := by decide +kernel
theorem dX0_kind_12 : decode cX0_kind 12 = .ok (.getfield 13, 3) := by decide +kernel
theorem dX0_kind_15 : decode cX0_kind 15 = .ok (.iload_n 1, 1) := by decide +kernel
theorem dX0_kind_16 : decode cX0_kind 16 = .ok (.iaload, 1) := by decide +kernel
theorem dX0_kind_17 : decode cX0_kind 17 = .ok (.iload_n 2, 1) := by decide +kernel
theorem dX0_kind_18 : decode cX0_kind 18 = .ok (.invokevirtual 76, 3) := by decide +kernel
theorem dX0_kind_21 : decode cX0_kind 21 = .ok (.ireturn, 1) := by decide +kernel
theorem dX0_serial_0 : decode cX0_serial 0 = .ok (.iload_n 1, 1) := by decide +kernel
theorem dX0_serial_1 : decode cX0_serial 1 = .ok (.invokestatic 31, 3) := by decide +kernel
theorem dX0_serial_4 : decode cX0_serial 4 = .ok (.aload_n 0, 1) := by decide +kernel
theorem dX0_serial_5 : decode cX0_serial 5 = .ok (.getfield 13, 3) := by decide +kernel
theorem dX0_serial_8 : decode cX0_serial 8 = .ok (.iload_n 1, 1) := by decide +kernel
theorem dX0_serial_9 : decode cX0_serial 9 = .ok (.iaload, 1) := by decide +kernel
theorem dX0_serial_10 : decode cX0_serial 10 = .ok (.iconst (-1), 1) := by decide +kernel
theorem dX0_serial_11 : decode cX0_serial 11 = .ok (.if_icmp .ne 7, 3) := by decide +kernel
theorem dX0_serial_14 : decode cX0_serial 14 = .ok (.iconst (-1), 1) := by decide +kernel
theorem dX0_serial_15 : decode cX0_serial 15 = .ok (.goto 16, 3) := by decide +kernel
theorem dX0_serial_18 : decode cX0_serial 18 = .ok (.aload_n 0, 1) := by decide +kernel
theorem dX0_serial_19 : decode cX0_serial 19 = .ok (.getfield 9, 3) := by decide +kernel
theorem dX0_serial_22 : decode cX0_serial 22 = .ok (.aload_n 0, 1) := by decide +kernel
theorem dX0_serial_23 : decode cX0_serial 23 = .ok (.getfield 13, 3) := by decide +kernel
theorem dX0_serial_26 : decode cX0_serial 26 = .ok (.iload_n 1, 1) := by decide +kernel
theorem dX0_serial_27 : decode cX0_serial 27 = .ok (.iaload, 1) := by decide +kernel
theorem dX0_serial_28 : decode cX0_serial 28 = .ok (.iconst 1, 1) := by decide +kernel
theorem dX0_serial_29 : decode cX0_serial 29 = .ok (.iadd, 1) := by decide +kernel
theorem dX0_serial_30 : decode cX0_serial 30 = .ok (.iaload, 1) := by decide +kernel
theorem dX0_serial_31 : decode cX0_serial 31 = .ok (.ireturn, 1) := by decide +kernel
theorem dX0_address_0 : decode cX0_address 0 = .ok (.iload_n 1, 1) := by decide +kernel
theorem dX0_address_1 : decode cX0_address 1 = .ok (.invokestatic 31, 3) := by decide +kernel
theorem dX0_address_4 : decode cX0_address 4 = .ok (.aload_n 0, 1) := by decide +kernel
theorem dX0_address_5 : decode cX0_address 5 = .ok (.getfield 13, 3) := by decide +kernel
theorem dX0_address_8 : decode cX0_address 8 = .ok (.iload_n 1, 1) := by decide +kernel
theorem dX0_address_9 : decode cX0_address 9 = .ok (.iaload, 1) := by decide +kernel
theorem dX0_address_10 : decode cX0_address 10 = .ok (.ireturn, 1) := by decide +kernel
theorem dX0_word_0 : decode cX0_word 0 = .ok (.iload_n 1, 1) := by decide +kernel
theorem dX0_word_1 : decode cX0_word 1 = .ok (.ifCond .lt 10, 3) := by decide +kernel
theorem dX0_word_4 : decode cX0_word 4 = .ok (.iload_n 1, 1) := by decide +kernel
theorem dX0_word_5 : decode cX0_word 5 = .ok (.sipush 256, 3) := by decide +kernel
theorem dX0_word_8 : decode cX0_word 8 = .ok (.if_icmp .lt 13, 3) := by decide +kernel
theorem dX0_word_11 : decode cX0_word 11 = .ok (.new 79, 3) := by decide +kernel
theorem dX0_word_14 : decode cX0_word 14 = .ok (.dup, 1) := by decide +kernel
theorem dX0_word_15 : decode cX0_word 15 = .ok (.ldc 81, 2) := by decide +kernel
theorem dX0_word_17 : decode cX0_word 17 = .ok (.invokespecial 83, 3) := by decide +kernel
theorem dX0_word_20 : decode cX0_word 20 = .ok (.athrow, 1) := by decide +kernel
theorem dX0_word_21 : decode cX0_word 21 = .ok (.aload_n 0, 1) := by decide +kernel
theorem dX0_word_22 : decode cX0_word 22 = .ok (.getfield 9, 3) := by decide +kernel
theorem dX0_word_25 : decode cX0_word 25 = .ok (.iload_n 1, 1) := by decide +kernel
theorem dX0_word_26 : decode cX0_word 26 = .ok (.iaload, 1) := by decide +kernel
theorem dX0_word_27 : decode cX0_word 27 = .ok (.ireturn, 1) := by decide +kernel
theorem dX0_top_0 : decode cX0_top 0 = .ok (.aload_n 0, 1) := by decide +kernel
theorem dX0_top_1 : decode cX0_top 1 = .ok (.getfield 58, 3) := by decide +kernel
theorem dX0_top_4 : decode cX0_top 4 = .ok (.ireturn, 1) := by decide +kernel
theorem dX0_objects_0 : decode cX0_objects 0 = .ok (.aload_n 0, 1) := by decide +kernel
theorem dX0_objects_1 : decode cX0_objects 1 = .ok (.getfield 86, 3) := by decide +kernel
theorem dX0_objects_4 : decode cX0_objects 4 = .ok (.ireturn, 1) := by decide +kernel
theorem dX0_alive_0 : decode cX0_alive 0 = .ok (.aload_n 0, 1) := by decide +kernel
theorem dX0_alive_1 : decode cX0_alive 1 = .ok (.invokevirtual 89, 3) := by decide +kernel
theorem dX0_alive_4 : decode cX0_alive 4 = .ok (.aload_n 0, 1) := by decide +kernel
theorem dX0_alive_5 : decode cX0_alive 5 = .ok (.getfield 92, 3) := by decide +kernel
theorem dX0_alive_8 : decode cX0_alive 8 = .ok (.ireturn, 1) := by decide +kernel
end
section
theorem dX1_thrown_0 : decode cX1_thrown 0 = .ok (.aload_n 0, 1) := by decide +kernel
theorem dX1_thrown_1 : decode cX1_thrown 1 = .ok (.getfield 38, 3) := by decide +kernel
theorem dX1_thrown_4 : decode cX1_thrown 4 = .ok (.ireturn, 1) := by decide +kernel
theorem dX1_topNow_0 : decode cX1_topNow 0 = .ok (.iconst 0, 1) := by decide +kernel
theorem dX1_topNow_1 : decode cX1_topNow 1 = .ok (.istore_n 1, 1) := by decide +kernel
theorem dX1_topNow_2 : decode cX1_topNow 2 = .ok (.iconst 0, 1) := by decide +kernel
theorem dX1_topNow_3 : decode cX1_topNow 3 = .ok (.istore_n 2, 1) := by decide +kernel
theorem dX1_topNow_4 : decode cX1_topNow 4 = .ok (.iload_n 2, 1) := by decide +kernel
theorem dX1_topNow_5 : decode cX1_topNow 5 = .ok (.aload_n 0, 1) := by decide +kernel
theorem dX1_topNow_6 : decode cX1_topNow 6 = .ok (.getfield 42, 3) := by decide +kernel
theorem dX1_topNow_9 : decode cX1_topNow 9 = .ok (.if_icmp .ge 25, 3) := by decide +kernel
theorem dX1_topNow_12 : decode cX1_topNow 12 = .ok (.iload_n 1, 1) := by decide +kernel
theorem dX1_topNow_13 : decode cX1_topNow 13 = .ok (.aload_n 0, 1) := by decide +kernel
theorem dX1_topNow_14 : decode cX1_topNow 14 = .ok (.getfield 13, 3) := by decide +kernel
theorem dX1_topNow_17 : decode cX1_topNow 17 = .ok (.aload_n 0, 1) := by decide +kernel
theorem dX1_topNow_18 : decode cX1_topNow 18 = .ok (.getfield 29, 3) := by decide +kernel
theorem dX1_topNow_21 : decode cX1_topNow 21 = .ok (.iload_n 2, 1) := by decide +kernel
theorem dX1_topNow_22 : decode cX1_topNow 22 = .ok (.iaload, 1) := by decide +kernel
theorem dX1_topNow_23 : decode cX1_topNow 23 = .ok (.iaload, 1) := by decide +kernel
theorem dX1_topNow_24 : decode cX1_topNow 24 = .ok (.iadd, 1) := by decide +kernel
theorem dX1_topNow_25 : decode cX1_topNow 25 = .ok (.iconst 2, 1) := by decide +kernel
theorem dX1_topNow_26 : decode cX1_topNow 26 = .ok (.iadd, 1) := by decide +kernel
theorem dX1_topNow_27 : decode cX1_topNow 27 = .ok (.istore_n 1, 1) := by decide +kernel
theorem dX1_topNow_28 : decode cX1_topNow 28 = .ok (.iinc 2 1, 3) := by decide +kernel
theorem dX1_topNow_31 : decode cX1_topNow 31 = .ok (.goto (-27), 3) := by decide +kernel
theorem dX1_topNow_34 : decode cX1_topNow 34 = .ok (.iload_n 1, 1) := by decide +kernel
theorem dX1_topNow_35 : decode cX1_topNow 35 = .ok (.ireturn, 1) := by decide +kernel
theorem dX1_addressOf_0 : decode cX1_addressOf 0 = .ok (.iconst 0, 1) := by decide +kernel
theorem dX1_addressOf_1 : decode cX1_addressOf 1 = .ok (.istore_n 2, 1) := by decide +kernel
theorem dX1_addressOf_2 : decode cX1_addressOf 2 = .ok (.iconst 0, 1) := by decide +kernel
theorem dX1_addressOf_3 : decode cX1_addressOf 3 = .ok (.istore_n 3, 1) := by decide +kernel
theorem dX1_addressOf_4 : decode cX1_addressOf 4 = .ok (.iload_n 3, 1) := by decide +kernel
theorem dX1_addressOf_5 : decode cX1_addressOf 5 = .ok (.aload_n 0, 1) := by decide +kernel
theorem dX1_addressOf_6 : decode cX1_addressOf 6 = .ok (.getfield 42, 3) := by decide +kernel
theorem dX1_addressOf_9 : decode cX1_addressOf 9 = .ok (.if_icmp .ge 37, 3) := by decide +kernel
theorem dX1_addressOf_12 : decode cX1_addressOf 12 = .ok (.aload_n 0, 1) := by decide +kernel
theorem dX1_addressOf_13 : decode cX1_addressOf 13 = .ok (.getfield 29, 3) := by decide +kernel
theorem dX1_addressOf_16 : decode cX1_addressOf 16 = .ok (.iload_n 3, 1) := by decide +kernel
theorem dX1_addressOf_17 : decode cX1_addressOf 17 = .ok (.iaload, 1) := by decide +kernel
theorem dX1_addressOf_18 : decode cX1_addressOf 18 = .ok (.iload_n 1, 1) := by decide +kernel
theorem dX1_addressOf_19 : decode cX1_addressOf 19 = .ok (.if_icmp .ne 5, 3) := by decide +kernel
theorem dX1_addressOf_22 : decode cX1_addressOf 22 = .ok (.iload_n 2, 1) := by decide +kernel
theorem dX1_addressOf_23 : decode cX1_addressOf 23 = .ok (.ireturn, 1) := by decide +kernel
theorem dX1_addressOf_24 : decode cX1_addressOf 24 = .ok (.iload_n 2, 1) := by decide +kernel
theorem dX1_addressOf_25 : decode cX1_addressOf 25 = .ok (.aload_n 0, 1) := by decide +kernel
theorem dX1_addressOf_26 : decode cX1_addressOf 26 = .ok (.getfield 13, 3) := by decide +kernel
theorem dX1_addressOf_29 : decode cX1_addressOf 29 = .ok (.aload_n 0, 1) := by decide +kernel
theorem dX1_addressOf_30 : decode cX1_addressOf 30 = .ok (.getfield 29, 3) := by decide +kernel
theorem dX1_addressOf_33 : decode cX1_addressOf 33 = .ok (.iload_n 3, 1) := by decide +kernel
theorem dX1_addressOf_34 : decode cX1_addressOf 34 = .ok (.iaload, 1) := by decide +kernel
theorem dX1_addressOf_35 : decode cX1_addressOf 35 = .ok (.iaload, 1) := by decide +kernel
theorem dX1_addressOf_36 : decode cX1_addressOf 36 = .ok (.iadd, 1) := by decide +kernel
theorem dX1_addressOf_37 : decode cX1_addressOf 37 = .ok (.iconst 2, 1) := by decide +kernel
theorem dX1_addressOf_38 : decode cX1_addressOf 38 = .ok (.iadd, 1) := by decide +kernel
theorem dX1_addressOf_39 : decode cX1_addressOf 39 = .ok (.istore_n 2, 1) := by decide +kernel
theorem dX1_addressOf_40 : decode cX1_addressOf 40 = .ok (.iinc 3 1, 3) := by decide +kernel
theorem dX1_addressOf_43 : decode cX1_addressOf 43 = .ok (.goto (-39), 3) := by decide +kernel
theorem dX1_addressOf_46 : decode cX1_addressOf 46 = .ok (.iconst (-1), 1) := by decide +kernel
theorem dX1_addressOf_47 : decode cX1_addressOf 47 = .ok (.ireturn, 1) := by decide +kernel
theorem dX1_enliven_0 : decode cX1_enliven 0 = .ok (.iload_n 1, 1) := by decide +kernel
theorem dX1_enliven_1 : decode cX1_enliven 1 = .ok (.ifCond .lt 16, 3) := by decide +kernel
theorem dX1_enliven_4 : decode cX1_enliven 4 = .ok (.aload_n 0, 1) := by decide +kernel
theorem dX1_enliven_5 : decode cX1_enliven 5 = .ok (.getfield 26, 3) := by decide +kernel
theorem dX1_enliven_8 : decode cX1_enliven 8 = .ok (.iload_n 1, 1) := by decide +kernel
theorem dX1_enliven_9 : decode cX1_enliven 9 = .ok (.baload, 1) := by decide +kernel
theorem dX1_enliven_10 : decode cX1_enliven 10 = .ok (.ifCond .ne 7, 3) := by decide +kernel
theorem dX1_enliven_13 : decode cX1_enliven 13 = .ok (.iconst 1, 1) := by decide +kernel
theorem dX1_enliven_14 : decode cX1_enliven 14 = .ok (.goto 4, 3) := by decide +kernel
theorem dX1_enliven_17 : decode cX1_enliven 17 = .ok (.iconst 0, 1) := by decide +kernel
theorem dX1_enliven_18 : decode cX1_enliven 18 = .ok (.istore_n 2, 1) := by decide +kernel
theorem dX1_enliven_19 : decode cX1_enliven 19 = .ok (.iload_n 2, 1) := by decide +kernel
theorem dX1_enliven_20 : decode cX1_enliven 20 = .ok (.ifCond .eq 10, 3) := by decide +kernel
theorem dX1_enliven_23 : decode cX1_enliven 23 = .ok (.aload_n 0, 1) := by decide +kernel
theorem dX1_enliven_24 : decode cX1_enliven 24 = .ok (.getfield 26, 3) := by decide +kernel
theorem dX1_enliven_27 : decode cX1_enliven 27 = .ok (.iload_n 1, 1) := by decide +kernel
theorem dX1_enliven_28 : decode cX1_enliven 28 = .ok (.iconst 1, 1) := by decide +kernel
theorem dX1_enliven_29 : decode cX1_enliven 29 = .ok (.bastore, 1) := by decide +kernel
theorem dX1_enliven_30 : decode cX1_enliven 30 = .ok (.iload_n 2, 1) := by decide +kernel
theorem dX1_enliven_31 : decode cX1_enliven 31 = .ok (.ireturn, 1) := by decide +kernel
theorem dX1_findAlive_0 : decode cX1_findAlive 0 = .ok (.iconst 0, 1) := by decide +kernel
theorem dX1_findAlive_1 : decode cX1_findAlive 1 = .ok (.istore_n 1, 1) := by decide +kernel
theorem dX1_findAlive_2 : decode cX1_findAlive 2 = .ok (.iload_n 1, 1) := by decide +kernel
theorem dX1_findAlive_3 : decode cX1_findAlive 3 = .ok (.sipush 128, 3) := by decide +kernel
theorem dX1_findAlive_6 : decode cX1_findAlive 6 = .ok (.if_icmp .ge 16, 3) := by decide +kernel
theorem dX1_findAlive_9 : decode cX1_findAlive 9 = .ok (.aload_n 0, 1) := by decide +kernel
theorem dX1_findAlive_10 : decode cX1_findAlive 10 = .ok (.getfield 26, 3) := by decide +kernel
theorem dX1_findAlive_13 : decode cX1_findAlive 13 = .ok (.iload_n 1, 1) := by decide +kernel
theorem dX1_findAlive_14 : decode cX1_findAlive 14 = .ok (.iconst 0, 1) := by decide +kernel
theorem dX1_findAlive_15 : decode cX1_findAlive 15 = .ok (.bastore, 1) := by decide +kernel
theorem dX1_findAlive_16 : decode cX1_findAlive 16 = .ok (.iinc 1 1, 3) := by decide +kernel
theorem dX1_findAlive_19 : decode cX1_findAlive 19 = .ok (.goto (-17), 3) := by decide +kernel
theorem dX1_findAlive_22 : decode cX1_findAlive 22 = .ok (.iconst 0, 1) := by decide +kernel
theorem dX1_findAlive_23 : decode cX1_findAlive 23 = .ok (.istore_n 1, 1) := by decide +kernel
theorem dX1_findAlive_24 : decode cX1_findAlive 24 = .ok (.iconst 0, 1) := by decide +kernel
theorem dX1_findAlive_25 : decode cX1_findAlive 25 = .ok (.istore_n 2, 1) := by decide +kernel
theorem dX1_findAlive_26 : decode cX1_findAlive 26 = .ok (.iload_n 2, 1) := by decide +kernel
theorem dX1_findAlive_27 : decode cX1_findAlive 27 = .ok (.bipush 8, 2) := by decide +kernel
theorem dX1_findAlive_29 : decode cX1_findAlive 29 = .ok (.if_icmp .ge 34, 3) := by decide +kernel
theorem dX1_findAlive_32 : decode cX1_findAlive 32 = .ok (.aload_n 0, 1) := by decide +kernel
theorem dX1_findAlive_33 : decode cX1_findAlive 33 = .ok (.aload_n 0, 1) := by decide +kernel
theorem dX1_findAlive_34 : decode cX1_findAlive 34 = .ok (.getfield 35, 3) := by decide +kernel
theorem dX1_findAlive_37 : decode cX1_findAlive 37 = .ok (.iload_n 2, 1) := by decide +kernel
theorem dX1_findAlive_38 : decode cX1_findAlive 38 = .ok (.iaload, 1) := by decide +kernel
theorem dX1_findAlive_39 : decode cX1_findAlive 39 = .ok (.invokevirtual 45, 3) := by decide +kernel
theorem dX1_findAlive_42 : decode cX1_findAlive 42 = .ok (.istore_n 3, 1) := by decide +kernel
theorem dX1_findAlive_43 : decode cX1_findAlive 43 = .ok (.iload_n 1, 1) := by decide +kernel
theorem dX1_findAlive_44 : decode cX1_findAlive 44 = .ok (.ifCond .ne 7, 3) := by decide +kernel
theorem dX1_findAlive_47 : decode cX1_findAlive 47 = .ok (.iload_n 3, 1) := by decide +kernel
theorem dX1_findAlive_48 : decode cX1_findAlive 48 = .ok (.ifCond .eq 7, 3) := by decide +kernel
theorem dX1_findAlive_51 : decode cX1_findAlive 51 = .ok (.iconst 1, 1) := by decide +kernel
theorem dX1_findAlive_52 : decode cX1_findAlive 52 = .ok (.goto 4, 3) := by decide +kernel
theorem dX1_findAlive_55 : decode cX1_findAlive 55 = .ok (.iconst 0, 1) := by decide +kernel
theorem dX1_findAlive_56 : decode cX1_findAlive 56 = .ok (.istore_n 1, 1) := by decide +kernel
theorem dX1_findAlive_57 : decode cX1_findAlive 57 = .ok (.iinc 2 1, 3) := by decide +kernel
theorem dX1_findAlive_60 : decode cX1_findAlive 60 = .ok (.goto (-34), 3) := by decide +kernel
theorem dX1_findAlive_63 : decode cX1_findAlive 63 = .ok (.iload_n 1, 1) := by decide +kernel
theorem dX1_findAlive_64 : decode cX1_findAlive 64 = .ok (.ifCond .eq 105, 3) := by decide +kernel
theorem dX1_findAlive_67 : decode cX1_findAlive 67 = .ok (.iconst 0, 1) := by decide +kernel
theorem dX1_findAlive_68 : decode cX1_findAlive 68 = .ok (.istore_n 1, 1) := by decide +kernel
theorem dX1_findAlive_69 : decode cX1_findAlive 69 = .ok (.iconst 0, 1) := by decide +kernel
theorem dX1_findAlive_70 : decode cX1_findAlive 70 = .ok (.istore_n 2, 1) := by decide +kernel
theorem dX1_findAlive_71 : decode cX1_findAlive 71 = .ok (.iload_n 2, 1) := by decide +kernel
theorem dX1_findAlive_72 : decode cX1_findAlive 72 = .ok (.sipush 128, 3) := by decide +kernel
theorem dX1_findAlive_75 : decode cX1_findAlive 75 = .ok (.if_icmp .ge 91, 3) := by decide +kernel
theorem dX1_findAlive_78 : decode cX1_findAlive 78 = .ok (.iconst 0, 1) := by decide +kernel
theorem dX1_findAlive_79 : decode cX1_findAlive 79 = .ok (.istore_n 3, 1) := by decide +kernel
theorem dX1_findAlive_80 : decode cX1_findAlive 80 = .ok (.iload_n 3, 1) := by decide +kernel
theorem dX1_findAlive_81 : decode cX1_findAlive 81 = .ok (.aload_n 0, 1) := by decide +kernel
theorem dX1_findAlive_82 : decode cX1_findAlive 82 = .ok (.getfield 13, 3) := by decide +kernel
theorem dX1_findAlive_85 : decode cX1_findAlive 85 = .ok (.iload_n 2, 1) := by decide +kernel
theorem dX1_findAlive_86 : decode cX1_findAlive 86 = .ok (.iaload, 1) := by decide +kernel
theorem dX1_findAlive_87 : decode cX1_findAlive 87 = .ok (.if_icmp .ge 73, 3) := by decide +kernel
theorem dX1_findAlive_90 : decode cX1_findAlive 90 = .ok (.aload_n 0, 1) := by decide +kernel
theorem dX1_findAlive_91 : decode cX1_findAlive 91 = .ok (.getfield 26, 3) := by decide +kernel
theorem dX1_findAlive_94 : decode cX1_findAlive 94 = .ok (.iload_n 2, 1) := by decide +kernel
theorem dX1_findAlive_95 : decode cX1_findAlive 95 = .ok (.baload, 1) := by decide +kernel
theorem dX1_findAlive_96 : decode cX1_findAlive 96 = .ok (.ifCond .eq 64, 3) := by decide +kernel
theorem dX1_findAlive_99 : decode cX1_findAlive 99 = .ok (.aload_n 0, 1) := by decide +kernel
theorem dX1_findAlive_100 : decode cX1_findAlive 100 = .ok (.getfield 20, 3) := by decide +kernel
theorem dX1_findAlive_103 : decode cX1_findAlive 103 = .ok (.bipush 6, 2) := by decide +kernel
theorem dX1_findAlive_105 : decode cX1_findAlive 105 = .ok (.iload_n 2, 1) := by decide +kernel
theorem dX1_findAlive_106 : decode cX1_findAlive 106 = .ok (.imul, 1) := by decide +kernel
theorem dX1_findAlive_107 : decode cX1_findAlive 107 = .ok (.iload_n 3, 1) := by decide +kernel
theorem dX1_findAlive_108 : decode cX1_findAlive 108 = .ok (.iadd, 1) := by decide +kernel
theorem dX1_findAlive_109 : decode cX1_findAlive 109 = .ok (.iaload, 1) := by decide +kernel
theorem dX1_findAlive_110 : decode cX1_findAlive 110 = .ok (.iconst 1, 1) := by decide +kernel
theorem dX1_findAlive_111 : decode cX1_findAlive 111 = .ok (.if_icmp .ne 25, 3) := by decide +kernel
theorem dX1_findAlive_114 : decode cX1_findAlive 114 = .ok (.aload_n 0, 1) := by decide +kernel
theorem dX1_findAlive_115 : decode cX1_findAlive 115 = .ok (.aload_n 0, 1) := by decide +kernel
theorem dX1_findAlive_116 : decode cX1_findAlive 116 = .ok (.getfield 23, 3) := by decide +kernel
theorem dX1_findAlive_119 : decode cX1_findAlive 119 = .ok (.bipush 6, 2) := by decide +kernel
theorem dX1_findAlive_121 : decode cX1_findAlive 121 = .ok (.iload_n 2, 1) := by decide +kernel
theorem dX1_findAlive_122 : decode cX1_findAlive 122 = .ok (.imul, 1) := by decide +kernel
theorem dX1_findAlive_123 : decode cX1_findAlive 123 = .ok (.iload_n 3, 1) := by decide +kernel
theorem dX1_findAlive_124 : decode cX1_findAlive 124 = .ok (.iadd, 1) := by decide +kernel
theorem dX1_findAlive_125 : decode cX1_findAlive 125 = .ok (.iaload, 1) := by decide +kernel
theorem dX1_findAlive_126 : decode cX1_findAlive 126 = .ok (.invokevirtual 45, 3) := by decide +kernel
theorem dX1_findAlive_129 : decode cX1_findAlive 129 = .ok (.ifCond .eq 7, 3) := by decide +kernel
theorem dX1_findAlive_132 : decode cX1_findAlive 132 = .ok (.iconst 1, 1) := by decide +kernel
theorem dX1_findAlive_133 : decode cX1_findAlive 133 = .ok (.goto 4, 3) := by decide +kernel
theorem dX1_findAlive_136 : decode cX1_findAlive 136 = .ok (.iconst 0, 1) := by decide +kernel
theorem dX1_findAlive_137 : decode cX1_findAlive 137 = .ok (.istore 4, 2) := by decide +kernel
theorem dX1_findAlive_139 : decode cX1_findAlive 139 = .ok (.iload_n 1, 1) := by decide +kernel
theorem dX1_findAlive_140 : decode cX1_findAlive 140 = .ok (.ifCond .ne 8, 3) := by decide +kernel
theorem dX1_findAlive_143 : decode cX1_findAlive 143 = .ok (.iload 4, 2) := by decide +kernel
theorem dX1_findAlive_145 : decode cX1_findAlive 145 = .ok (.ifCond .eq 7, 3) := by decide +kernel
theorem dX1_findAlive_148 : decode cX1_findAlive 148 = .ok (.iconst 1, 1) := by decide +kernel
theorem dX1_findAlive_149 : decode cX1_findAlive 149 = .ok (.goto 4, 3) := by decide +kernel
theorem dX1_findAlive_152 : decode cX1_findAlive 152 = .ok (.iconst 0, 1) := by decide +kernel
theorem dX1_findAlive_153 : decode cX1_findAlive 153 = .ok (.istore_n 1, 1) := by decide +kernel
theorem dX1_findAlive_154 : decode cX1_findAlive 154 = .ok (.iinc 3 1, 3) := by decide +kernel
theorem dX1_findAlive_157 : decode cX1_findAlive 157 = .ok (.goto (-77), 3) := by decide +kernel
theorem dX1_findAlive_160 : decode cX1_findAlive 160 = .ok (.iinc 2 1, 3) := by decide +kernel
theorem dX1_findAlive_163 : decode cX1_findAlive 163 = .ok (.goto (-92), 3) := by decide +kernel
theorem dX1_findAlive_166 : decode cX1_findAlive 166 = .ok (.goto (-103), 3) := by decide +kernel
theorem dX1_findAlive_169 : decode cX1_findAlive 169 = .ok (.return_, 1) := by decide +kernel
theorem dX1_countAlive_0 : decode cX1_countAlive 0 = .ok (.iconst 0, 1) := by decide +kernel
theorem dX1_countAlive_1 : decode cX1_countAlive 1 = .ok (.istore_n 1, 1) := by decide +kernel
theorem dX1_countAlive_2 : decode cX1_countAlive 2 = .ok (.iconst 0, 1) := by decide +kernel
theorem dX1_countAlive_3 : decode cX1_countAlive 3 = .ok (.istore_n 2, 1) := by decide +kernel
theorem dX1_countAlive_4 : decode cX1_countAlive 4 = .ok (.iload_n 2, 1) := by decide +kernel
theorem dX1_countAlive_5 : decode cX1_countAlive 5 = .ok (.aload_n 0, 1) := by decide +kernel
theorem dX1_countAlive_6 : decode cX1_countAlive 6 = .ok (.getfield 42, 3) := by decide +kernel
theorem dX1_countAlive_9 : decode cX1_countAlive 9 = .ok (.if_icmp .ge 31, 3) := by decide +kernel
theorem dX1_countAlive_12 : decode cX1_countAlive 12 = .ok (.aload_n 0, 1) := by decide +kernel
theorem dX1_countAlive_13 : decode cX1_countAlive 13 = .ok (.getfield 26, 3) := by decide +kernel
theorem dX1_countAlive_16 : decode cX1_countAlive 16 = .ok (.aload_n 0, 1) := by decide +kernel
theorem dX1_countAlive_17 : decode cX1_countAlive 17 = .ok (.getfield 29, 3) := by decide +kernel
theorem dX1_countAlive_20 : decode cX1_countAlive 20 = .ok (.iload_n 2, 1) := by decide +kernel
theorem dX1_countAlive_21 : decode cX1_countAlive 21 = .ok (.iaload, 1) := by decide +kernel
theorem dX1_countAlive_22 : decode cX1_countAlive 22 = .ok (.baload, 1) := by decide +kernel
theorem dX1_countAlive_23 : decode cX1_countAlive 23 = .ok (.ifCond .eq 9, 3) := by decide +kernel
theorem dX1_countAlive_26 : decode cX1_countAlive 26 = .ok (.iload_n 1, 1) := by decide +kernel
theorem dX1_countAlive_27 : decode cX1_countAlive 27 = .ok (.iconst 1, 1) := by decide +kernel
theorem dX1_countAlive_28 : decode cX1_countAlive 28 = .ok (.iadd, 1) := by decide +kernel
theorem dX1_countAlive_29 : decode cX1_countAlive 29 = .ok (.goto 4, 3) := by decide +kernel
theorem dX1_countAlive_32 : decode cX1_countAlive 32 = .ok (.iload_n 1, 1) := by decide +kernel
theorem dX1_countAlive_33 : decode cX1_countAlive 33 = .ok (.istore_n 1, 1) := by decide +kernel
theorem dX1_countAlive_34 : decode cX1_countAlive 34 = .ok (.iinc 2 1, 3) := by decide +kernel
theorem dX1_countAlive_37 : decode cX1_countAlive 37 = .ok (.goto (-33), 3) := by decide +kernel
theorem dX1_countAlive_40 : decode cX1_countAlive 40 = .ok (.iload_n 1, 1) := by decide +kernel
theorem dX1_countAlive_41 : decode cX1_countAlive 41 = .ok (.ireturn, 1) := by decide +kernel
theorem dX1_oneSize_0 : decode cX1_oneSize 0 = .ok (.iconst 1, 1) := by decide +kernel
theorem dX1_oneSize_1 : decode cX1_oneSize 1 = .ok (.istore_n 1, 1) := by decide +kernel
theorem dX1_oneSize_2 : decode cX1_oneSize 2 = .ok (.iconst 1, 1) := by decide +kernel
theorem dX1_oneSize_3 : decode cX1_oneSize 3 = .ok (.istore_n 2, 1) := by decide +kernel
theorem dX1_oneSize_4 : decode cX1_oneSize 4 = .ok (.iload_n 2, 1) := by decide +kernel
theorem dX1_oneSize_5 : decode cX1_oneSize 5 = .ok (.aload_n 0, 1) := by decide +kernel
theorem dX1_oneSize_6 : decode cX1_oneSize 6 = .ok (.getfield 42, 3) := by decide +kernel
theorem dX1_oneSize_9 : decode cX1_oneSize 9 = .ok (.if_icmp .ge 44, 3) := by decide +kernel
theorem dX1_oneSize_12 : decode cX1_oneSize 12 = .ok (.iload_n 1, 1) := by decide +kernel
theorem dX1_oneSize_13 : decode cX1_oneSize 13 = .ok (.ifCond .eq 32, 3) := by decide +kernel
theorem dX1_oneSize_16 : decode cX1_oneSize 16 = .ok (.aload_n 0, 1) := by decide +kernel
theorem dX1_oneSize_17 : decode cX1_oneSize 17 = .ok (.getfield 13, 3) := by decide +kernel
theorem dX1_oneSize_20 : decode cX1_oneSize 20 = .ok (.aload_n 0, 1) := by decide +kernel
theorem dX1_oneSize_21 : decode cX1_oneSize 21 = .ok (.getfield 29, 3) := by decide +kernel
theorem dX1_oneSize_24 : decode cX1_oneSize 24 = .ok (.iload_n 2, 1) := by decide +kernel
theorem dX1_oneSize_25 : decode cX1_oneSize 25 = .ok (.iaload, 1) := by decide +kernel
theorem dX1_oneSize_26 : decode cX1_oneSize 26 = .ok (.iaload, 1) := by decide +kernel
theorem dX1_oneSize_27 : decode cX1_oneSize 27 = .ok (.aload_n 0, 1) := by decide +kernel
theorem dX1_oneSize_28 : decode cX1_oneSize 28 = .ok (.getfield 13, 3) := by decide +kernel
theorem dX1_oneSize_31 : decode cX1_oneSize 31 = .ok (.aload_n 0, 1) := by decide +kernel
theorem dX1_oneSize_32 : decode cX1_oneSize 32 = .ok (.getfield 29, 3) := by decide +kernel
theorem dX1_oneSize_35 : decode cX1_oneSize 35 = .ok (.iconst 0, 1) := by decide +kernel
theorem dX1_oneSize_36 : decode cX1_oneSize 36 = .ok (.iaload, 1) := by decide +kernel
theorem dX1_oneSize_37 : decode cX1_oneSize 37 = .ok (.iaload, 1) := by decide +kernel
theorem dX1_oneSize_38 : decode cX1_oneSize 38 = .ok (.if_icmp .ne 7, 3) := by decide +kernel
theorem dX1_oneSize_41 : decode cX1_oneSize 41 = .ok (.iconst 1, 1) := by decide +kernel
theorem dX1_oneSize_42 : decode cX1_oneSize 42 = .ok (.goto 4, 3) := by decide +kernel
theorem dX1_oneSize_45 : decode cX1_oneSize 45 = .ok (.iconst 0, 1) := by decide +kernel
theorem dX1_oneSize_46 : decode cX1_oneSize 46 = .ok (.istore_n 1, 1) := by decide +kernel
theorem dX1_oneSize_47 : decode cX1_oneSize 47 = .ok (.iinc 2 1, 3) := by decide +kernel
theorem dX1_oneSize_50 : decode cX1_oneSize 50 = .ok (.goto (-46), 3) := by decide +kernel
theorem dX1_oneSize_53 : decode cX1_oneSize 53 = .ok (.iload_n 1, 1) := by decide +kernel
theorem dX1_oneSize_54 : decode cX1_oneSize 54 = .ok (.ireturn, 1) := by decide +kernel
theorem dX1_keepOrder_0 : decode cX1_keepOrder 0 = .ok (.iconst 0, 1) := by decide +kernel
theorem dX1_keepOrder_1 : decode cX1_keepOrder 1 = .ok (.istore_n 1, 1) := by decide +kernel
theorem dX1_keepOrder_2 : decode cX1_keepOrder 2 = .ok (.iconst 0, 1) := by decide +kernel
theorem dX1_keepOrder_3 : decode cX1_keepOrder 3 = .ok (.istore_n 2, 1) := by decide +kernel
theorem dX1_keepOrder_4 : decode cX1_keepOrder 4 = .ok (.iload_n 2, 1) := by decide +kernel
theorem dX1_keepOrder_5 : decode cX1_keepOrder 5 = .ok (.aload_n 0, 1) := by decide +kernel
theorem dX1_keepOrder_6 : decode cX1_keepOrder 6 = .ok (.getfield 42, 3) := by decide +kernel
theorem dX1_keepOrder_9 : decode cX1_keepOrder 9 = .ok (.if_icmp .ge 38, 3) := by decide +kernel
theorem dX1_keepOrder_12 : decode cX1_keepOrder 12 = .ok (.aload_n 0, 1) := by decide +kernel
theorem dX1_keepOrder_13 : decode cX1_keepOrder 13 = .ok (.getfield 26, 3) := by decide +kernel
theorem dX1_keepOrder_16 : decode cX1_keepOrder 16 = .ok (.aload_n 0, 1) := by decide +kernel
theorem dX1_keepOrder_17 : decode cX1_keepOrder 17 = .ok (.getfield 29, 3) := by decide +kernel
theorem dX1_keepOrder_20 : decode cX1_keepOrder 20 = .ok (.iload_n 2, 1) := by decide +kernel
theorem dX1_keepOrder_21 : decode cX1_keepOrder 21 = .ok (.iaload, 1) := by decide +kernel
theorem dX1_keepOrder_22 : decode cX1_keepOrder 22 = .ok (.baload, 1) := by decide +kernel
theorem dX1_keepOrder_23 : decode cX1_keepOrder 23 = .ok (.ifCond .eq 18, 3) := by decide +kernel
theorem dX1_keepOrder_26 : decode cX1_keepOrder 26 = .ok (.aload_n 0, 1) := by decide +kernel
theorem dX1_keepOrder_27 : decode cX1_keepOrder 27 = .ok (.getfield 32, 3) := by decide +kernel
theorem dX1_keepOrder_30 : decode cX1_keepOrder 30 = .ok (.iload_n 1, 1) := by decide +kernel
theorem dX1_keepOrder_31 : decode cX1_keepOrder 31 = .ok (.aload_n 0, 1) := by decide +kernel
theorem dX1_keepOrder_32 : decode cX1_keepOrder 32 = .ok (.getfield 29, 3) := by decide +kernel
theorem dX1_keepOrder_35 : decode cX1_keepOrder 35 = .ok (.iload_n 2, 1) := by decide +kernel
theorem dX1_keepOrder_36 : decode cX1_keepOrder 36 = .ok (.iaload, 1) := by decide +kernel
theorem dX1_keepOrder_37 : decode cX1_keepOrder 37 = .ok (.iastore, 1) := by decide +kernel
theorem dX1_keepOrder_38 : decode cX1_keepOrder 38 = .ok (.iinc 1 1, 3) := by decide +kernel
theorem dX1_keepOrder_41 : decode cX1_keepOrder 41 = .ok (.iinc 2 1, 3) := by decide +kernel
theorem dX1_keepOrder_44 : decode cX1_keepOrder 44 = .ok (.goto (-40), 3) := by decide +kernel
theorem dX1_keepOrder_47 : decode cX1_keepOrder 47 = .ok (.return_, 1) := by decide +kernel
theorem dX1_fillGaps_0 : decode cX1_fillGaps 0 = .ok (.aload_n 0, 1) := by decide +kernel
theorem dX1_fillGaps_1 : decode cX1_fillGaps 1 = .ok (.invokevirtual 49, 3) := by decide +kernel
theorem dX1_fillGaps_4 : decode cX1_fillGaps 4 = .ok (.istore_n 1, 1) := by decide +kernel
theorem dX1_fillGaps_5 : decode cX1_fillGaps 5 = .ok (.aload_n 0, 1) := by decide +kernel
theorem dX1_fillGaps_6 : decode cX1_fillGaps 6 = .ok (.getfield 42, 3) := by decide +kernel
theorem dX1_fillGaps_9 : decode cX1_fillGaps 9 = .ok (.iconst 1, 1) := by decide +kernel
theorem dX1_fillGaps_10 : decode cX1_fillGaps 10 = .ok (.isub, 1) := by decide +kernel
theorem dX1_fillGaps_11 : decode cX1_fillGaps 11 = .ok (.istore_n 2, 1) := by decide +kernel
theorem dX1_fillGaps_12 : decode cX1_fillGaps 12 = .ok (.iconst 0, 1) := by decide +kernel
theorem dX1_fillGaps_13 : decode cX1_fillGaps 13 = .ok (.istore_n 3, 1) := by decide +kernel
theorem dX1_fillGaps_14 : decode cX1_fillGaps 14 = .ok (.iload_n 3, 1) := by decide +kernel
theorem dX1_fillGaps_15 : decode cX1_fillGaps 15 = .ok (.iload_n 1, 1) := by decide +kernel
theorem dX1_fillGaps_16 : decode cX1_fillGaps 16 = .ok (.if_icmp .ge 73, 3) := by decide +kernel
theorem dX1_fillGaps_19 : decode cX1_fillGaps 19 = .ok (.aload_n 0, 1) := by decide +kernel
theorem dX1_fillGaps_20 : decode cX1_fillGaps 20 = .ok (.getfield 26, 3) := by decide +kernel
theorem dX1_fillGaps_23 : decode cX1_fillGaps 23 = .ok (.aload_n 0, 1) := by decide +kernel
theorem dX1_fillGaps_24 : decode cX1_fillGaps 24 = .ok (.getfield 29, 3) := by decide +kernel
theorem dX1_fillGaps_27 : decode cX1_fillGaps 27 = .ok (.iload_n 3, 1) := by decide +kernel
theorem dX1_fillGaps_28 : decode cX1_fillGaps 28 = .ok (.iaload, 1) := by decide +kernel
theorem dX1_fillGaps_29 : decode cX1_fillGaps 29 = .ok (.baload, 1) := by decide +kernel
theorem dX1_fillGaps_30 : decode cX1_fillGaps 30 = .ok (.ifCond .eq 18, 3) := by decide +kernel
theorem dX1_fillGaps_33 : decode cX1_fillGaps 33 = .ok (.aload_n 0, 1) := by decide +kernel
theorem dX1_fillGaps_34 : decode cX1_fillGaps 34 = .ok (.getfield 32, 3) := by decide +kernel
theorem dX1_fillGaps_37 : decode cX1_fillGaps 37 = .ok (.iload_n 3, 1) := by decide +kernel
theorem dX1_fillGaps_38 : decode cX1_fillGaps 38 = .ok (.aload_n 0, 1) := by decide +kernel
theorem dX1_fillGaps_39 : decode cX1_fillGaps 39 = .ok (.getfield 29, 3) := by decide +kernel
theorem dX1_fillGaps_42 : decode cX1_fillGaps 42 = .ok (.iload_n 3, 1) := by decide +kernel
theorem dX1_fillGaps_43 : decode cX1_fillGaps 43 = .ok (.iaload, 1) := by decide +kernel
theorem dX1_fillGaps_44 : decode cX1_fillGaps 44 = .ok (.iastore, 1) := by decide +kernel
theorem dX1_fillGaps_45 : decode cX1_fillGaps 45 = .ok (.goto 38, 3) := by decide +kernel
theorem dX1_fillGaps_48 : decode cX1_fillGaps 48 = .ok (.aload_n 0, 1) := by decide +kernel
theorem dX1_fillGaps_49 : decode cX1_fillGaps 49 = .ok (.getfield 26, 3) := by decide +kernel
theorem dX1_fillGaps_52 : decode cX1_fillGaps 52 = .ok (.aload_n 0, 1) := by decide +kernel
theorem dX1_fillGaps_53 : decode cX1_fillGaps 53 = .ok (.getfield 29, 3) := by decide +kernel
theorem dX1_fillGaps_56 : decode cX1_fillGaps 56 = .ok (.iload_n 2, 1) := by decide +kernel
theorem dX1_fillGaps_57 : decode cX1_fillGaps 57 = .ok (.iaload, 1) := by decide +kernel
theorem dX1_fillGaps_58 : decode cX1_fillGaps 58 = .ok (.baload, 1) := by decide +kernel
theorem dX1_fillGaps_59 : decode cX1_fillGaps 59 = .ok (.ifCond .ne 9, 3) := by decide +kernel
theorem dX1_fillGaps_62 : decode cX1_fillGaps 62 = .ok (.iinc 2 (-1), 3) := by decide +kernel
theorem dX1_fillGaps_65 : decode cX1_fillGaps 65 = .ok (.goto (-17), 3) := by decide +kernel
theorem dX1_fillGaps_68 : decode cX1_fillGaps 68 = .ok (.aload_n 0, 1) := by decide +kernel
theorem dX1_fillGaps_69 : decode cX1_fillGaps 69 = .ok (.getfield 32, 3) := by decide +kernel
theorem dX1_fillGaps_72 : decode cX1_fillGaps 72 = .ok (.iload_n 3, 1) := by decide +kernel
theorem dX1_fillGaps_73 : decode cX1_fillGaps 73 = .ok (.aload_n 0, 1) := by decide +kernel
theorem dX1_fillGaps_74 : decode cX1_fillGaps 74 = .ok (.getfield 29, 3) := by decide +kernel
theorem dX1_fillGaps_77 : decode cX1_fillGaps 77 = .ok (.iload_n 2, 1) := by decide +kernel
theorem dX1_fillGaps_78 : decode cX1_fillGaps 78 = .ok (.iaload, 1) := by decide +kernel
theorem dX1_fillGaps_79 : decode cX1_fillGaps 79 = .ok (.iastore, 1) := by decide +kernel
theorem dX1_fillGaps_80 : decode cX1_fillGaps 80 = .ok (.iinc 2 (-1), 3) := by decide +kernel
theorem dX1_fillGaps_83 : decode cX1_fillGaps 83 = .ok (.iinc 3 1, 3) := by decide +kernel
theorem dX1_fillGaps_86 : decode cX1_fillGaps 86 = .ok (.goto (-72), 3) := by decide +kernel
theorem dX1_fillGaps_89 : decode cX1_fillGaps 89 = .ok (.return_, 1) := by decide +kernel
theorem dX1_press_0 : decode cX1_press 0 = .ok (.aload_n 0, 1) := by decide +kernel
theorem dX1_press_1 : decode cX1_press 1 = .ok (.invokevirtual 53, 3) := by decide +kernel
theorem dX1_press_4 : decode cX1_press 4 = .ok (.aload_n 0, 1) := by decide +kernel
theorem dX1_press_5 : decode cX1_press 5 = .ok (.invokevirtual 49, 3) := by decide +kernel
theorem dX1_press_8 : decode cX1_press 8 = .ok (.istore_n 2, 1) := by decide +kernel
theorem dX1_press_9 : decode cX1_press 9 = .ok (.iconst 0, 1) := by decide +kernel
theorem dX1_press_10 : decode cX1_press 10 = .ok (.istore_n 3, 1) := by decide +kernel
theorem dX1_press_11 : decode cX1_press 11 = .ok (.iload_n 3, 1) := by decide +kernel
theorem dX1_press_12 : decode cX1_press 12 = .ok (.sipush 128, 3) := by decide +kernel
theorem dX1_press_15 : decode cX1_press 15 = .ok (.if_icmp .ge 91, 3) := by decide +kernel
theorem dX1_press_18 : decode cX1_press 18 = .ok (.iconst 0, 1) := by decide +kernel
theorem dX1_press_19 : decode cX1_press 19 = .ok (.istore 4, 2) := by decide +kernel
theorem dX1_press_21 : decode cX1_press 21 = .ok (.iload 4, 2) := by decide +kernel
theorem dX1_press_23 : decode cX1_press 23 = .ok (.aload_n 0, 1) := by decide +kernel
theorem dX1_press_24 : decode cX1_press 24 = .ok (.getfield 13, 3) := by decide +kernel
theorem dX1_press_27 : decode cX1_press 27 = .ok (.iload_n 3, 1) := by decide +kernel
theorem dX1_press_28 : decode cX1_press 28 = .ok (.iaload, 1) := by decide +kernel
theorem dX1_press_29 : decode cX1_press 29 = .ok (.if_icmp .ge 71, 3) := by decide +kernel
theorem dX1_press_32 : decode cX1_press 32 = .ok (.aload_n 0, 1) := by decide +kernel
theorem dX1_press_33 : decode cX1_press 33 = .ok (.getfield 7, 3) := by decide +kernel
theorem dX1_press_36 : decode cX1_press 36 = .ok (.iload_n 3, 1) := by decide +kernel
theorem dX1_press_37 : decode cX1_press 37 = .ok (.baload, 1) := by decide +kernel
theorem dX1_press_38 : decode cX1_press 38 = .ok (.ifCond .eq 62, 3) := by decide +kernel
theorem dX1_press_41 : decode cX1_press 41 = .ok (.bipush 6, 2) := by decide +kernel
theorem dX1_press_43 : decode cX1_press 43 = .ok (.iload_n 3, 1) := by decide +kernel
theorem dX1_press_44 : decode cX1_press 44 = .ok (.imul, 1) := by decide +kernel
theorem dX1_press_45 : decode cX1_press 45 = .ok (.iload 4, 2) := by decide +kernel
theorem dX1_press_47 : decode cX1_press 47 = .ok (.iadd, 1) := by decide +kernel
theorem dX1_press_48 : decode cX1_press 48 = .ok (.istore 5, 2) := by decide +kernel
theorem dX1_press_50 : decode cX1_press 50 = .ok (.aload_n 0, 1) := by decide +kernel
theorem dX1_press_51 : decode cX1_press 51 = .ok (.getfield 20, 3) := by decide +kernel
theorem dX1_press_54 : decode cX1_press 54 = .ok (.iload 5, 2) := by decide +kernel
theorem dX1_press_56 : decode cX1_press 56 = .ok (.iaload, 1) := by decide +kernel
theorem dX1_press_57 : decode cX1_press 57 = .ok (.iconst 2, 1) := by decide +kernel
theorem dX1_press_58 : decode cX1_press 58 = .ok (.if_icmp .ne 36, 3) := by decide +kernel
theorem dX1_press_61 : decode cX1_press 61 = .ok (.aload_n 0, 1) := by decide +kernel
theorem dX1_press_62 : decode cX1_press 62 = .ok (.getfield 23, 3) := by decide +kernel
theorem dX1_press_65 : decode cX1_press 65 = .ok (.iload 5, 2) := by decide +kernel
theorem dX1_press_67 : decode cX1_press 67 = .ok (.iaload, 1) := by decide +kernel
theorem dX1_press_68 : decode cX1_press 68 = .ok (.ifCond .lt 26, 3) := by decide +kernel
theorem dX1_press_71 : decode cX1_press 71 = .ok (.aload_n 0, 1) := by decide +kernel
theorem dX1_press_72 : decode cX1_press 72 = .ok (.getfield 26, 3) := by decide +kernel
theorem dX1_press_75 : decode cX1_press 75 = .ok (.aload_n 0, 1) := by decide +kernel
theorem dX1_press_76 : decode cX1_press 76 = .ok (.getfield 23, 3) := by decide +kernel
theorem dX1_press_79 : decode cX1_press 79 = .ok (.iload 5, 2) := by decide +kernel
theorem dX1_press_81 : decode cX1_press 81 = .ok (.iaload, 1) := by decide +kernel
theorem dX1_press_82 : decode cX1_press 82 = .ok (.baload, 1) := by decide +kernel
theorem dX1_press_83 : decode cX1_press 83 = .ok (.ifCond .ne 11, 3) := by decide +kernel
theorem dX1_press_86 : decode cX1_press 86 = .ok (.aload_n 0, 1) := by decide +kernel
theorem dX1_press_87 : decode cX1_press 87 = .ok (.getfield 23, 3) := by decide +kernel
theorem dX1_press_90 : decode cX1_press 90 = .ok (.iload 5, 2) := by decide +kernel
theorem dX1_press_92 : decode cX1_press 92 = .ok (.iconst (-1), 1) := by decide +kernel
theorem dX1_press_93 : decode cX1_press 93 = .ok (.iastore, 1) := by decide +kernel
theorem dX1_press_94 : decode cX1_press 94 = .ok (.iinc 4 1, 3) := by decide +kernel
theorem dX1_press_97 : decode cX1_press 97 = .ok (.goto (-76), 3) := by decide +kernel
theorem dX1_press_100 : decode cX1_press 100 = .ok (.iinc 3 1, 3) := by decide +kernel
theorem dX1_press_103 : decode cX1_press 103 = .ok (.goto (-92), 3) := by decide +kernel
theorem dX1_press_106 : decode cX1_press 106 = .ok (.iload_n 1, 1) := by decide +kernel
theorem dX1_press_107 : decode cX1_press 107 = .ok (.iconst 1, 1) := by decide +kernel
theorem dX1_press_108 : decode cX1_press 108 = .ok (.if_icmp .ne 10, 3) := by decide +kernel
theorem dX1_press_111 : decode cX1_press 111 = .ok (.aload_n 0, 1) := by decide +kernel
theorem dX1_press_112 : decode cX1_press 112 = .ok (.invokevirtual 56, 3) := by decide +kernel
theorem dX1_press_115 : decode cX1_press 115 = .ok (.goto 7, 3) := by decide +kernel
theorem dX1_press_118 : decode cX1_press 118 = .ok (.aload_n 0, 1) := by decide +kernel
theorem dX1_press_119 : decode cX1_press 119 = .ok (.invokevirtual 59, 3) := by decide +kernel
theorem dX1_press_122 : decode cX1_press 122 = .ok (.iconst 0, 1) := by decide +kernel
theorem dX1_press_123 : decode cX1_press 123 = .ok (.istore_n 3, 1) := by decide +kernel
theorem dX1_press_124 : decode cX1_press 124 = .ok (.iload_n 3, 1) := by decide +kernel
theorem dX1_press_125 : decode cX1_press 125 = .ok (.sipush 128, 3) := by decide +kernel
theorem dX1_press_128 : decode cX1_press 128 = .ok (.if_icmp .ge 38, 3) := by decide +kernel
theorem dX1_press_131 : decode cX1_press 131 = .ok (.aload_n 0, 1) := by decide +kernel
theorem dX1_press_132 : decode cX1_press 132 = .ok (.getfield 7, 3) := by decide +kernel
theorem dX1_press_135 : decode cX1_press 135 = .ok (.iload_n 3, 1) := by decide +kernel
theorem dX1_press_136 : decode cX1_press 136 = .ok (.aload_n 0, 1) := by decide +kernel
theorem dX1_press_137 : decode cX1_press 137 = .ok (.getfield 7, 3) := by decide +kernel
theorem dX1_press_140 : decode cX1_press 140 = .ok (.iload_n 3, 1) := by decide +kernel
theorem dX1_press_141 : decode cX1_press 141 = .ok (.baload, 1) := by decide +kernel
theorem dX1_press_142 : decode cX1_press 142 = .ok (.ifCond .eq 16, 3) := by decide +kernel
theorem dX1_press_145 : decode cX1_press 145 = .ok (.aload_n 0, 1) := by decide +kernel
theorem dX1_press_146 : decode cX1_press 146 = .ok (.getfield 26, 3) := by decide +kernel
theorem dX1_press_149 : decode cX1_press 149 = .ok (.iload_n 3, 1) := by decide +kernel
theorem dX1_press_150 : decode cX1_press 150 = .ok (.baload, 1) := by decide +kernel
theorem dX1_press_151 : decode cX1_press 151 = .ok (.ifCond .eq 7, 3) := by decide +kernel
theorem dX1_press_154 : decode cX1_press 154 = .ok (.iconst 1, 1) := by decide +kernel
theorem dX1_press_155 : decode cX1_press 155 = .ok (.goto 4, 3) := by decide +kernel
theorem dX1_press_158 : decode cX1_press 158 = .ok (.iconst 0, 1) := by decide +kernel
theorem dX1_press_159 : decode cX1_press 159 = .ok (.bastore, 1) := by decide +kernel
theorem dX1_press_160 : decode cX1_press 160 = .ok (.iinc 3 1, 3) := by decide +kernel
theorem dX1_press_163 : decode cX1_press 163 = .ok (.goto (-39), 3) := by decide +kernel
theorem dX1_press_166 : decode cX1_press 166 = .ok (.aload_n 0, 1) := by decide +kernel
theorem dX1_press_167 : decode cX1_press 167 = .ok (.iload_n 2, 1) := by decide +kernel
theorem dX1_press_168 : decode cX1_press 168 = .ok (.putfield 42, 3) := by decide +kernel
theorem dX1_press_171 : decode cX1_press 171 = .ok (.iconst 0, 1) := by decide +kernel
theorem dX1_press_172 : decode cX1_press 172 = .ok (.istore_n 3, 1) := by decide +kernel
theorem dX1_press_173 : decode cX1_press 173 = .ok (.iload_n 3, 1) := by decide +kernel
theorem dX1_press_174 : decode cX1_press 174 = .ok (.iload_n 2, 1) := by decide +kernel
theorem dX1_press_175 : decode cX1_press 175 = .ok (.if_icmp .ge 21, 3) := by decide +kernel
theorem dX1_press_178 : decode cX1_press 178 = .ok (.aload_n 0, 1) := by decide +kernel
theorem dX1_press_179 : decode cX1_press 179 = .ok (.getfield 29, 3) := by decide +kernel
theorem dX1_press_182 : decode cX1_press 182 = .ok (.iload_n 3, 1) := by decide +kernel
theorem dX1_press_183 : decode cX1_press 183 = .ok (.aload_n 0, 1) := by decide +kernel
theorem dX1_press_184 : decode cX1_press 184 = .ok (.getfield 32, 3) := by decide +kernel
theorem dX1_press_187 : decode cX1_press 187 = .ok (.iload_n 3, 1) := by decide +kernel
theorem dX1_press_188 : decode cX1_press 188 = .ok (.iaload, 1) := by decide +kernel
theorem dX1_press_189 : decode cX1_press 189 = .ok (.iastore, 1) := by decide +kernel
theorem dX1_press_190 : decode cX1_press 190 = .ok (.iinc 3 1, 3) := by decide +kernel
theorem dX1_press_193 : decode cX1_press 193 = .ok (.goto (-20), 3) := by decide +kernel
theorem dX1_press_196 : decode cX1_press 196 = .ok (.return_, 1) := by decide +kernel
theorem dX1_make_0 : decode cX1_make 0 = .ok (.iconst 0, 1) := by decide +kernel
theorem dX1_make_1 : decode cX1_make 1 = .ok (.istore_n 3, 1) := by decide +kernel
theorem dX1_make_2 : decode cX1_make 2 = .ok (.aload_n 0, 1) := by decide +kernel
theorem dX1_make_3 : decode cX1_make 3 = .ok (.getfield 7, 3) := by decide +kernel
theorem dX1_make_6 : decode cX1_make 6 = .ok (.iload_n 3, 1) := by decide +kernel
theorem dX1_make_7 : decode cX1_make 7 = .ok (.baload, 1) := by decide +kernel
theorem dX1_make_8 : decode cX1_make 8 = .ok (.ifCond .eq 9, 3) := by decide +kernel
theorem dX1_make_11 : decode cX1_make 11 = .ok (.iinc 3 1, 3) := by decide +kernel
theorem dX1_make_14 : decode cX1_make 14 = .ok (.goto (-12), 3) := by decide +kernel
theorem dX1_make_17 : decode cX1_make 17 = .ok (.aload_n 0, 1) := by decide +kernel
theorem dX1_make_18 : decode cX1_make 18 = .ok (.dup, 1) := by decide +kernel
theorem dX1_make_19 : decode cX1_make 19 = .ok (.getfield 73, 3) := by decide +kernel
theorem dX1_make_22 : decode cX1_make 22 = .ok (.iconst 1, 1) := by decide +kernel
theorem dX1_make_23 : decode cX1_make 23 = .ok (.iadd, 1) := by decide +kernel
theorem dX1_make_24 : decode cX1_make 24 = .ok (.putfield 73, 3) := by decide +kernel
theorem dX1_make_27 : decode cX1_make 27 = .ok (.aload_n 0, 1) := by decide +kernel
theorem dX1_make_28 : decode cX1_make 28 = .ok (.getfield 7, 3) := by decide +kernel
theorem dX1_make_31 : decode cX1_make 31 = .ok (.iload_n 3, 1) := by decide +kernel
theorem dX1_make_32 : decode cX1_make 32 = .ok (.iconst 1, 1) := by decide +kernel
theorem dX1_make_33 : decode cX1_make 33 = .ok (.bastore, 1) := by decide +kernel
theorem dX1_make_34 : decode cX1_make 34 = .ok (.aload_n 0, 1) := by decide +kernel
theorem dX1_make_35 : decode cX1_make 35 = .ok (.getfield 13, 3) := by decide +kernel
theorem dX1_make_38 : decode cX1_make 38 = .ok (.iload_n 3, 1) := by decide +kernel
theorem dX1_make_39 : decode cX1_make 39 = .ok (.iload_n 2, 1) := by decide +kernel
theorem dX1_make_40 : decode cX1_make 40 = .ok (.iastore, 1) := by decide +kernel
theorem dX1_make_41 : decode cX1_make 41 = .ok (.aload_n 0, 1) := by decide +kernel
theorem dX1_make_42 : decode cX1_make 42 = .ok (.getfield 17, 3) := by decide +kernel
theorem dX1_make_45 : decode cX1_make 45 = .ok (.iload_n 3, 1) := by decide +kernel
theorem dX1_make_46 : decode cX1_make 46 = .ok (.aload_n 0, 1) := by decide +kernel
theorem dX1_make_47 : decode cX1_make 47 = .ok (.getfield 73, 3) := by decide +kernel
theorem dX1_make_50 : decode cX1_make 50 = .ok (.iastore, 1) := by decide +kernel
theorem dX1_make_51 : decode cX1_make 51 = .ok (.iconst 0, 1) := by decide +kernel
theorem dX1_make_52 : decode cX1_make 52 = .ok (.istore 4, 2) := by decide +kernel
theorem dX1_make_54 : decode cX1_make 54 = .ok (.iload 4, 2) := by decide +kernel
theorem dX1_make_56 : decode cX1_make 56 = .ok (.bipush 6, 2) := by decide +kernel
theorem dX1_make_58 : decode cX1_make 58 = .ok (.if_icmp .ge 35, 3) := by decide +kernel
theorem dX1_make_61 : decode cX1_make 61 = .ok (.aload_n 0, 1) := by decide +kernel
theorem dX1_make_62 : decode cX1_make 62 = .ok (.getfield 20, 3) := by decide +kernel
theorem dX1_make_65 : decode cX1_make 65 = .ok (.bipush 6, 2) := by decide +kernel
theorem dX1_make_67 : decode cX1_make 67 = .ok (.iload_n 3, 1) := by decide +kernel
theorem dX1_make_68 : decode cX1_make 68 = .ok (.imul, 1) := by decide +kernel
theorem dX1_make_69 : decode cX1_make 69 = .ok (.iload 4, 2) := by decide +kernel
theorem dX1_make_71 : decode cX1_make 71 = .ok (.iadd, 1) := by decide +kernel
theorem dX1_make_72 : decode cX1_make 72 = .ok (.iconst 0, 1) := by decide +kernel
theorem dX1_make_73 : decode cX1_make 73 = .ok (.iastore, 1) := by decide +kernel
theorem dX1_make_74 : decode cX1_make 74 = .ok (.aload_n 0, 1) := by decide +kernel
theorem dX1_make_75 : decode cX1_make 75 = .ok (.getfield 23, 3) := by decide +kernel
theorem dX1_make_78 : decode cX1_make 78 = .ok (.bipush 6, 2) := by decide +kernel
theorem dX1_make_80 : decode cX1_make 80 = .ok (.iload_n 3, 1) := by decide +kernel
theorem dX1_make_81 : decode cX1_make 81 = .ok (.imul, 1) := by decide +kernel
theorem dX1_make_82 : decode cX1_make 82 = .ok (.iload 4, 2) := by decide +kernel
theorem dX1_make_84 : decode cX1_make 84 = .ok (.iadd, 1) := by decide +kernel
theorem dX1_make_85 : decode cX1_make 85 = .ok (.iconst 0, 1) := by decide +kernel
theorem dX1_make_86 : decode cX1_make 86 = .ok (.iastore, 1) := by decide +kernel
theorem dX1_make_87 : decode cX1_make 87 = .ok (.iinc 4 1, 3) := by decide +kernel
theorem dX1_make_90 : decode cX1_make 90 = .ok (.goto (-36), 3) := by decide +kernel
theorem dX1_make_93 : decode cX1_make 93 = .ok (.aload_n 0, 1) := by decide +kernel
theorem dX1_make_94 : decode cX1_make 94 = .ok (.getfield 29, 3) := by decide +kernel
theorem dX1_make_97 : decode cX1_make 97 = .ok (.aload_n 0, 1) := by decide +kernel
theorem dX1_make_98 : decode cX1_make 98 = .ok (.getfield 42, 3) := by decide +kernel
theorem dX1_make_101 : decode cX1_make 101 = .ok (.iload_n 3, 1) := by decide +kernel
theorem dX1_make_102 : decode cX1_make 102 = .ok (.iastore, 1) := by decide +kernel
theorem dX1_make_103 : decode cX1_make 103 = .ok (.aload_n 0, 1) := by decide +kernel
theorem dX1_make_104 : decode cX1_make 104 = .ok (.dup, 1) := by decide +kernel
theorem dX1_make_105 : decode cX1_make 105 = .ok (.getfield 42, 3) := by decide +kernel
theorem dX1_make_108 : decode cX1_make 108 = .ok (.iconst 1, 1) := by decide +kernel
theorem dX1_make_109 : decode cX1_make 109 = .ok (.iadd, 1) := by decide +kernel
theorem dX1_make_110 : decode cX1_make 110 = .ok (.putfield 42, 3) := by decide +kernel
theorem dX1_make_113 : decode cX1_make 113 = .ok (.aload_n 0, 1) := by decide +kernel
theorem dX1_make_114 : decode cX1_make 114 = .ok (.getfield 35, 3) := by decide +kernel
theorem dX1_make_117 : decode cX1_make 117 = .ok (.iload_n 1, 1) := by decide +kernel
theorem dX1_make_118 : decode cX1_make 118 = .ok (.iload_n 3, 1) := by decide +kernel
theorem dX1_make_119 : decode cX1_make 119 = .ok (.iastore, 1) := by decide +kernel
theorem dX1_make_120 : decode cX1_make 120 = .ok (.aload_n 0, 1) := by decide +kernel
theorem dX1_make_121 : decode cX1_make 121 = .ok (.getfield 73, 3) := by decide +kernel
theorem dX1_make_124 : decode cX1_make 124 = .ok (.ireturn, 1) := by decide +kernel
theorem dX1_isRoot_0 : decode cX1_isRoot 0 = .ok (.iload_n 0, 1) := by decide +kernel
theorem dX1_isRoot_1 : decode cX1_isRoot 1 = .ok (.ifCond .lt 13, 3) := by decide +kernel
theorem dX1_isRoot_4 : decode cX1_isRoot 4 = .ok (.iload_n 0, 1) := by decide +kernel
theorem dX1_isRoot_5 : decode cX1_isRoot 5 = .ok (.bipush 7, 2) := by decide +kernel
theorem dX1_isRoot_7 : decode cX1_isRoot 7 = .ok (.if_icmp .gt 7, 3) := by decide +kernel
theorem dX1_isRoot_10 : decode cX1_isRoot 10 = .ok (.iconst 1, 1) := by decide +kernel
theorem dX1_isRoot_11 : decode cX1_isRoot 11 = .ok (.goto 4, 3) := by decide +kernel
theorem dX1_isRoot_14 : decode cX1_isRoot 14 = .ok (.iconst 0, 1) := by decide +kernel
theorem dX1_isRoot_15 : decode cX1_isRoot 15 = .ok (.ireturn, 1) := by decide +kernel
theorem dX1_isFields_0 : decode cX1_isFields 0 = .ok (.iload_n 0, 1) := by decide +kernel
theorem dX1_isFields_1 : decode cX1_isFields 1 = .ok (.ifCond .lt 13, 3) := by decide +kernel
theorem dX1_isFields_4 : decode cX1_isFields 4 = .ok (.iload_n 0, 1) := by decide +kernel
theorem dX1_isFields_5 : decode cX1_isFields 5 = .ok (.bipush 6, 2) := by decide +kernel
theorem dX1_isFields_7 : decode cX1_isFields 7 = .ok (.if_icmp .gt 7, 3) := by decide +kernel
theorem dX1_isFields_10 : decode cX1_isFields 10 = .ok (.iconst 1, 1) := by decide +kernel
theorem dX1_isFields_11 : decode cX1_isFields 11 = .ok (.goto 4, 3) := by decide +kernel
theorem dX1_isFields_14 : decode cX1_isFields 14 = .ok (.iconst 0, 1) := by decide +kernel
theorem dX1_isFields_15 : decode cX1_isFields 15 = .ok (.ireturn, 1) := by decide +kernel
theorem dX1_fits_0 : decode cX1_fits 0 = .ok (.aload_n 0, 1) := by decide +kernel
theorem dX1_fits_1 : decode cX1_fits 1 = .ok (.invokevirtual 66, 3) := by decide +kernel
theorem dX1_fits_4 : decode cX1_fits 4 = .ok (.iload_n 1, 1) := by decide +kernel
theorem dX1_fits_5 : decode cX1_fits 5 = .ok (.iadd, 1) := by decide +kernel
theorem dX1_fits_6 : decode cX1_fits 6 = .ok (.iconst 2, 1) := by decide +kernel
theorem dX1_fits_7 : decode cX1_fits 7 = .ok (.iadd, 1) := by decide +kernel
theorem dX1_fits_8 : decode cX1_fits 8 = .ok (.sipush 256, 3) := by decide +kernel
theorem dX1_fits_11 : decode cX1_fits 11 = .ok (.if_icmp .gt 7, 3) := by decide +kernel
theorem dX1_fits_14 : decode cX1_fits 14 = .ok (.iconst 1, 1) := by decide +kernel
theorem dX1_fits_15 : decode cX1_fits 15 = .ok (.goto 4, 3) := by decide +kernel
theorem dX1_fits_18 : decode cX1_fits 18 = .ok (.iconst 0, 1) := by decide +kernel
theorem dX1_fits_19 : decode cX1_fits 19 = .ok (.ireturn, 1) := by decide +kernel
theorem dX1_compact_0 : decode cX1_compact 0 = .ok (.aload_n 0, 1) := by decide +kernel
theorem dX1_compact_1 : decode cX1_compact 1 = .ok (.iload_n 1, 1) := by decide +kernel
theorem dX1_compact_2 : decode cX1_compact 2 = .ok (.ifCond .lt 8, 3) := by decide +kernel
theorem dX1_compact_5 : decode cX1_compact 5 = .ok (.iload_n 1, 1) := by decide +kernel
theorem dX1_compact_6 : decode cX1_compact 6 = .ok (.iconst 2, 1) := by decide +kernel
theorem dX1_compact_7 : decode cX1_compact 7 = .ok (.if_icmp .le 7, 3) := by decide +kernel
theorem dX1_compact_10 : decode cX1_compact 10 = .ok (.iconst 1, 1) := by decide +kernel
theorem dX1_compact_11 : decode cX1_compact 11 = .ok (.goto 20, 3) := by decide +kernel
theorem dX1_compact_14 : decode cX1_compact 14 = .ok (.iload_n 1, 1) := by decide +kernel
theorem dX1_compact_15 : decode cX1_compact 15 = .ok (.iconst 1, 1) := by decide +kernel
theorem dX1_compact_16 : decode cX1_compact 16 = .ok (.if_icmp .ne 14, 3) := by decide +kernel
theorem dX1_compact_19 : decode cX1_compact 19 = .ok (.aload_n 0, 1) := by decide +kernel
theorem dX1_compact_20 : decode cX1_compact 20 = .ok (.invokevirtual 62, 3) := by decide +kernel
theorem dX1_compact_23 : decode cX1_compact 23 = .ok (.ifCond .ne 7, 3) := by decide +kernel
theorem dX1_compact_26 : decode cX1_compact 26 = .ok (.iconst 2, 1) := by decide +kernel
theorem dX1_compact_27 : decode cX1_compact 27 = .ok (.goto 4, 3) := by decide +kernel
theorem dX1_compact_30 : decode cX1_compact 30 = .ok (.iconst 0, 1) := by decide +kernel
theorem dX1_compact_31 : decode cX1_compact 31 = .ok (.putfield 38, 3) := by decide +kernel
theorem dX1_compact_34 : decode cX1_compact 34 = .ok (.aload_n 0, 1) := by decide +kernel
theorem dX1_compact_35 : decode cX1_compact 35 = .ok (.getfield 38, 3) := by decide +kernel
theorem dX1_compact_38 : decode cX1_compact 38 = .ok (.ifCond .le 5, 3) := by decide +kernel
theorem dX1_compact_41 : decode cX1_compact 41 = .ok (.iconst 0, 1) := by decide +kernel
theorem dX1_compact_42 : decode cX1_compact 42 = .ok (.ireturn, 1) := by decide +kernel
theorem dX1_compact_43 : decode cX1_compact 43 = .ok (.aload_n 0, 1) := by decide +kernel
theorem dX1_compact_44 : decode cX1_compact 44 = .ok (.invokevirtual 66, 3) := by decide +kernel
theorem dX1_compact_47 : decode cX1_compact 47 = .ok (.istore_n 2, 1) := by decide +kernel
theorem dX1_compact_48 : decode cX1_compact 48 = .ok (.aload_n 0, 1) := by decide +kernel
theorem dX1_compact_49 : decode cX1_compact 49 = .ok (.iload_n 1, 1) := by decide +kernel
theorem dX1_compact_50 : decode cX1_compact 50 = .ok (.invokevirtual 69, 3) := by decide +kernel
theorem dX1_compact_53 : decode cX1_compact 53 = .ok (.iload_n 2, 1) := by decide +kernel
theorem dX1_compact_54 : decode cX1_compact 54 = .ok (.aload_n 0, 1) := by decide +kernel
theorem dX1_compact_55 : decode cX1_compact 55 = .ok (.invokevirtual 66, 3) := by decide +kernel
theorem dX1_compact_58 : decode cX1_compact 58 = .ok (.isub, 1) := by decide +kernel
theorem dX1_compact_59 : decode cX1_compact 59 = .ok (.ireturn, 1) := by decide +kernel
theorem dX1_allocate_0 : decode cX1_allocate 0 = .ok (.aload_n 0, 1) := by decide +kernel
theorem dX1_allocate_1 : decode cX1_allocate 1 = .ok (.iload_n 1, 1) := by decide +kernel
theorem dX1_allocate_2 : decode cX1_allocate 2 = .ok (.invokestatic 76, 3) := by decide +kernel
theorem dX1_allocate_5 : decode cX1_allocate 5 = .ok (.ifCond .ne 7, 3) := by decide +kernel
theorem dX1_allocate_8 : decode cX1_allocate 8 = .ok (.iconst 1, 1) := by decide +kernel
theorem dX1_allocate_9 : decode cX1_allocate 9 = .ok (.goto 27, 3) := by decide +kernel
theorem dX1_allocate_12 : decode cX1_allocate 12 = .ok (.iload_n 2, 1) := by decide +kernel
theorem dX1_allocate_13 : decode cX1_allocate 13 = .ok (.invokestatic 79, 3) := by decide +kernel
theorem dX1_allocate_16 : decode cX1_allocate 16 = .ok (.ifCond .ne 7, 3) := by decide +kernel
theorem dX1_allocate_19 : decode cX1_allocate 19 = .ok (.iconst 2, 1) := by decide +kernel
theorem dX1_allocate_20 : decode cX1_allocate 20 = .ok (.goto 16, 3) := by decide +kernel
theorem dX1_allocate_23 : decode cX1_allocate 23 = .ok (.aload_n 0, 1) := by decide +kernel
theorem dX1_allocate_24 : decode cX1_allocate 24 = .ok (.iload_n 2, 1) := by decide +kernel
theorem dX1_allocate_25 : decode cX1_allocate 25 = .ok (.invokevirtual 82, 3) := by decide +kernel
theorem dX1_allocate_28 : decode cX1_allocate 28 = .ok (.ifCond .eq 7, 3) := by decide +kernel
theorem dX1_allocate_31 : decode cX1_allocate 31 = .ok (.iconst 0, 1) := by decide +kernel
theorem dX1_allocate_32 : decode cX1_allocate 32 = .ok (.goto 4, 3) := by decide +kernel
theorem dX1_allocate_35 : decode cX1_allocate 35 = .ok (.iconst 3, 1) := by decide +kernel
theorem dX1_allocate_36 : decode cX1_allocate 36 = .ok (.putfield 38, 3) := by decide +kernel
theorem dX1_allocate_39 : decode cX1_allocate 39 = .ok (.aload_n 0, 1) := by decide +kernel
theorem dX1_allocate_40 : decode cX1_allocate 40 = .ok (.getfield 38, 3) := by decide +kernel
theorem dX1_allocate_43 : decode cX1_allocate 43 = .ok (.ifCond .le 7, 3) := by decide +kernel
theorem dX1_allocate_46 : decode cX1_allocate 46 = .ok (.iconst 0, 1) := by decide +kernel
theorem dX1_allocate_47 : decode cX1_allocate 47 = .ok (.goto 9, 3) := by decide +kernel
theorem dX1_allocate_50 : decode cX1_allocate 50 = .ok (.aload_n 0, 1) := by decide +kernel
theorem dX1_allocate_51 : decode cX1_allocate 51 = .ok (.iload_n 1, 1) := by decide +kernel
theorem dX1_allocate_52 : decode cX1_allocate 52 = .ok (.iload_n 2, 1) := by decide +kernel
theorem dX1_allocate_53 : decode cX1_allocate 53 = .ok (.invokevirtual 85, 3) := by decide +kernel
theorem dX1_allocate_56 : decode cX1_allocate 56 = .ok (.ireturn, 1) := by decide +kernel
theorem dX1_claim_0 : decode cX1_claim 0 = .ok (.aload_n 0, 1) := by decide +kernel
theorem dX1_claim_1 : decode cX1_claim 1 = .ok (.iload_n 1, 1) := by decide +kernel
theorem dX1_claim_2 : decode cX1_claim 2 = .ok (.invokestatic 76, 3) := by decide +kernel
theorem dX1_claim_5 : decode cX1_claim 5 = .ok (.ifCond .ne 7, 3) := by decide +kernel
theorem dX1_claim_8 : decode cX1_claim 8 = .ok (.iconst 1, 1) := by decide +kernel
theorem dX1_claim_9 : decode cX1_claim 9 = .ok (.goto 24, 3) := by decide +kernel
theorem dX1_claim_12 : decode cX1_claim 12 = .ok (.iload_n 2, 1) := by decide +kernel
theorem dX1_claim_13 : decode cX1_claim 13 = .ok (.invokestatic 79, 3) := by decide +kernel
theorem dX1_claim_16 : decode cX1_claim 16 = .ok (.ifCond .eq 12, 3) := by decide +kernel
theorem dX1_claim_19 : decode cX1_claim 19 = .ok (.iload_n 3, 1) := by decide +kernel
theorem dX1_claim_20 : decode cX1_claim 20 = .ok (.ifCond .lt 8, 3) := by decide +kernel
theorem dX1_claim_23 : decode cX1_claim 23 = .ok (.iload_n 3, 1) := by decide +kernel
theorem dX1_claim_24 : decode cX1_claim 24 = .ok (.iconst 2, 1) := by decide +kernel
theorem dX1_claim_25 : decode cX1_claim 25 = .ok (.if_icmp .le 7, 3) := by decide +kernel
theorem dX1_claim_28 : decode cX1_claim 28 = .ok (.iconst 2, 1) := by decide +kernel
theorem dX1_claim_29 : decode cX1_claim 29 = .ok (.goto 4, 3) := by decide +kernel
theorem dX1_claim_32 : decode cX1_claim 32 = .ok (.iconst 0, 1) := by decide +kernel
theorem dX1_claim_33 : decode cX1_claim 33 = .ok (.putfield 38, 3) := by decide +kernel
theorem dX1_claim_36 : decode cX1_claim 36 = .ok (.aload_n 0, 1) := by decide +kernel
theorem dX1_claim_37 : decode cX1_claim 37 = .ok (.getfield 38, 3) := by decide +kernel
theorem dX1_claim_40 : decode cX1_claim 40 = .ok (.ifCond .ne 61, 3) := by decide +kernel
theorem dX1_claim_43 : decode cX1_claim 43 = .ok (.aload_n 0, 1) := by decide +kernel
theorem dX1_claim_44 : decode cX1_claim 44 = .ok (.iload_n 2, 1) := by decide +kernel
theorem dX1_claim_45 : decode cX1_claim 45 = .ok (.invokevirtual 82, 3) := by decide +kernel
theorem dX1_claim_48 : decode cX1_claim 48 = .ok (.ifCond .ne 53, 3) := by decide +kernel
theorem dX1_claim_51 : decode cX1_claim 51 = .ok (.aload_n 0, 1) := by decide +kernel
theorem dX1_claim_52 : decode cX1_claim 52 = .ok (.iload_n 3, 1) := by decide +kernel
theorem dX1_claim_53 : decode cX1_claim 53 = .ok (.iconst 1, 1) := by decide +kernel
theorem dX1_claim_54 : decode cX1_claim 54 = .ok (.if_icmp .ne 14, 3) := by decide +kernel
theorem dX1_claim_57 : decode cX1_claim 57 = .ok (.aload_n 0, 1) := by decide +kernel
theorem dX1_claim_58 : decode cX1_claim 58 = .ok (.invokevirtual 62, 3) := by decide +kernel
theorem dX1_claim_61 : decode cX1_claim 61 = .ok (.ifCond .ne 7, 3) := by decide +kernel
theorem dX1_claim_64 : decode cX1_claim 64 = .ok (.iconst 3, 1) := by decide +kernel
theorem dX1_claim_65 : decode cX1_claim 65 = .ok (.goto 4, 3) := by decide +kernel
theorem dX1_claim_68 : decode cX1_claim 68 = .ok (.iconst 0, 1) := by decide +kernel
theorem dX1_claim_69 : decode cX1_claim 69 = .ok (.putfield 38, 3) := by decide +kernel
theorem dX1_claim_72 : decode cX1_claim 72 = .ok (.aload_n 0, 1) := by decide +kernel
theorem dX1_claim_73 : decode cX1_claim 73 = .ok (.getfield 38, 3) := by decide +kernel
theorem dX1_claim_76 : decode cX1_claim 76 = .ok (.ifCond .ne 25, 3) := by decide +kernel
theorem dX1_claim_79 : decode cX1_claim 79 = .ok (.aload_n 0, 1) := by decide +kernel
theorem dX1_claim_80 : decode cX1_claim 80 = .ok (.iload_n 3, 1) := by decide +kernel
theorem dX1_claim_81 : decode cX1_claim 81 = .ok (.invokevirtual 69, 3) := by decide +kernel
theorem dX1_claim_84 : decode cX1_claim 84 = .ok (.aload_n 0, 1) := by decide +kernel
theorem dX1_claim_85 : decode cX1_claim 85 = .ok (.aload_n 0, 1) := by decide +kernel
theorem dX1_claim_86 : decode cX1_claim 86 = .ok (.iload_n 2, 1) := by decide +kernel
theorem dX1_claim_87 : decode cX1_claim 87 = .ok (.invokevirtual 82, 3) := by decide +kernel
theorem dX1_claim_90 : decode cX1_claim 90 = .ok (.ifCond .eq 7, 3) := by decide +kernel
theorem dX1_claim_93 : decode cX1_claim 93 = .ok (.iconst 0, 1) := by decide +kernel
theorem dX1_claim_94 : decode cX1_claim 94 = .ok (.goto 4, 3) := by decide +kernel
theorem dX1_claim_97 : decode cX1_claim 97 = .ok (.iconst 4, 1) := by decide +kernel
theorem dX1_claim_98 : decode cX1_claim 98 = .ok (.putfield 38, 3) := by decide +kernel
theorem dX1_claim_101 : decode cX1_claim 101 = .ok (.aload_n 0, 1) := by decide +kernel
theorem dX1_claim_102 : decode cX1_claim 102 = .ok (.getfield 38, 3) := by decide +kernel
theorem dX1_claim_105 : decode cX1_claim 105 = .ok (.ifCond .le 7, 3) := by decide +kernel
theorem dX1_claim_108 : decode cX1_claim 108 = .ok (.iconst 0, 1) := by decide +kernel
theorem dX1_claim_109 : decode cX1_claim 109 = .ok (.goto 9, 3) := by decide +kernel
theorem dX1_claim_112 : decode cX1_claim 112 = .ok (.aload_n 0, 1) := by decide +kernel
theorem dX1_claim_113 : decode cX1_claim 113 = .ok (.iload_n 1, 1) := by decide +kernel
theorem dX1_claim_114 : decode cX1_claim 114 = .ok (.iload_n 2, 1) := by decide +kernel
theorem dX1_claim_115 : decode cX1_claim 115 = .ok (.invokevirtual 85, 3) := by decide +kernel
theorem dX1_claim_118 : decode cX1_claim 118 = .ok (.ireturn, 1) := by decide +kernel
theorem dX1_copy_0 : decode cX1_copy 0 = .ok (.aload_n 0, 1) := by decide +kernel
theorem dX1_copy_1 : decode cX1_copy 1 = .ok (.iload_n 1, 1) := by decide +kernel
theorem dX1_copy_2 : decode cX1_copy 2 = .ok (.invokestatic 76, 3) := by decide +kernel
theorem dX1_copy_5 : decode cX1_copy 5 = .ok (.ifCond .eq 14, 3) := by decide +kernel
theorem dX1_copy_8 : decode cX1_copy 8 = .ok (.iload_n 2, 1) := by decide +kernel
theorem dX1_copy_9 : decode cX1_copy 9 = .ok (.invokestatic 76, 3) := by decide +kernel
theorem dX1_copy_12 : decode cX1_copy 12 = .ok (.ifCond .eq 7, 3) := by decide +kernel
theorem dX1_copy_15 : decode cX1_copy 15 = .ok (.iconst 0, 1) := by decide +kernel
theorem dX1_copy_16 : decode cX1_copy 16 = .ok (.goto 4, 3) := by decide +kernel
theorem dX1_copy_19 : decode cX1_copy 19 = .ok (.iconst 1, 1) := by decide +kernel
theorem dX1_copy_20 : decode cX1_copy 20 = .ok (.putfield 38, 3) := by decide +kernel
theorem dX1_copy_23 : decode cX1_copy 23 = .ok (.aload_n 0, 1) := by decide +kernel
theorem dX1_copy_24 : decode cX1_copy 24 = .ok (.getfield 38, 3) := by decide +kernel
theorem dX1_copy_27 : decode cX1_copy 27 = .ok (.ifCond .ne 15, 3) := by decide +kernel
theorem dX1_copy_30 : decode cX1_copy 30 = .ok (.aload_n 0, 1) := by decide +kernel
theorem dX1_copy_31 : decode cX1_copy 31 = .ok (.getfield 35, 3) := by decide +kernel
theorem dX1_copy_34 : decode cX1_copy 34 = .ok (.iload_n 1, 1) := by decide +kernel
theorem dX1_copy_35 : decode cX1_copy 35 = .ok (.aload_n 0, 1) := by decide +kernel
theorem dX1_copy_36 : decode cX1_copy 36 = .ok (.getfield 35, 3) := by decide +kernel
theorem dX1_copy_39 : decode cX1_copy 39 = .ok (.iload_n 2, 1) := by decide +kernel
theorem dX1_copy_40 : decode cX1_copy 40 = .ok (.iaload, 1) := by decide +kernel
theorem dX1_copy_41 : decode cX1_copy 41 = .ok (.iastore, 1) := by decide +kernel
theorem dX1_copy_42 : decode cX1_copy 42 = .ok (.return_, 1) := by decide +kernel
theorem dX1_clear_0 : decode cX1_clear 0 = .ok (.aload_n 0, 1) := by decide +kernel
theorem dX1_clear_1 : decode cX1_clear 1 = .ok (.iload_n 1, 1) := by decide +kernel
theorem dX1_clear_2 : decode cX1_clear 2 = .ok (.invokestatic 76, 3) := by decide +kernel
theorem dX1_clear_5 : decode cX1_clear 5 = .ok (.ifCond .eq 7, 3) := by decide +kernel
theorem dX1_clear_8 : decode cX1_clear 8 = .ok (.iconst 0, 1) := by decide +kernel
theorem dX1_clear_9 : decode cX1_clear 9 = .ok (.goto 4, 3) := by decide +kernel
theorem dX1_clear_12 : decode cX1_clear 12 = .ok (.iconst 1, 1) := by decide +kernel
theorem dX1_clear_13 : decode cX1_clear 13 = .ok (.putfield 38, 3) := by decide +kernel
theorem dX1_clear_16 : decode cX1_clear 16 = .ok (.aload_n 0, 1) := by decide +kernel
theorem dX1_clear_17 : decode cX1_clear 17 = .ok (.getfield 38, 3) := by decide +kernel
theorem dX1_clear_20 : decode cX1_clear 20 = .ok (.ifCond .ne 10, 3) := by decide +kernel
theorem dX1_clear_23 : decode cX1_clear 23 = .ok (.aload_n 0, 1) := by decide +kernel
theorem dX1_clear_24 : decode cX1_clear 24 = .ok (.getfield 35, 3) := by decide +kernel
theorem dX1_clear_27 : decode cX1_clear 27 = .ok (.iload_n 1, 1) := by decide +kernel
theorem dX1_clear_28 : decode cX1_clear 28 = .ok (.iconst (-1), 1) := by decide +kernel
theorem dX1_clear_29 : decode cX1_clear 29 = .ok (.iastore, 1) := by decide +kernel
theorem dX1_clear_30 : decode cX1_clear 30 = .ok (.return_, 1) := by decide +kernel
theorem dX1_bar_0 : decode cX1_bar 0 = .ok (.iload_n 1, 1) := by decide +kernel
theorem dX1_bar_1 : decode cX1_bar 1 = .ok (.invokestatic 76, 3) := by decide +kernel
theorem dX1_bar_4 : decode cX1_bar 4 = .ok (.ifCond .ne 7, 3) := by decide +kernel
theorem dX1_bar_7 : decode cX1_bar 7 = .ok (.iconst 1, 1) := by decide +kernel
theorem dX1_bar_8 : decode cX1_bar 8 = .ok (.goto 40, 3) := by decide +kernel
theorem dX1_bar_11 : decode cX1_bar 11 = .ok (.aload_n 0, 1) := by decide +kernel
theorem dX1_bar_12 : decode cX1_bar 12 = .ok (.getfield 35, 3) := by decide +kernel
theorem dX1_bar_15 : decode cX1_bar 15 = .ok (.iload_n 1, 1) := by decide +kernel
theorem dX1_bar_16 : decode cX1_bar 16 = .ok (.iaload, 1) := by decide +kernel
theorem dX1_bar_17 : decode cX1_bar 17 = .ok (.ifCond .ge 7, 3) := by decide +kernel
theorem dX1_bar_20 : decode cX1_bar 20 = .ok (.iconst 2, 1) := by decide +kernel
theorem dX1_bar_21 : decode cX1_bar 21 = .ok (.goto 27, 3) := by decide +kernel
theorem dX1_bar_24 : decode cX1_bar 24 = .ok (.iload_n 2, 1) := by decide +kernel
theorem dX1_bar_25 : decode cX1_bar 25 = .ok (.ifCond .lt 18, 3) := by decide +kernel
theorem dX1_bar_28 : decode cX1_bar 28 = .ok (.iload_n 2, 1) := by decide +kernel
theorem dX1_bar_29 : decode cX1_bar 29 = .ok (.aload_n 0, 1) := by decide +kernel
theorem dX1_bar_30 : decode cX1_bar 30 = .ok (.getfield 13, 3) := by decide +kernel
theorem dX1_bar_33 : decode cX1_bar 33 = .ok (.aload_n 0, 1) := by decide +kernel
theorem dX1_bar_34 : decode cX1_bar 34 = .ok (.getfield 35, 3) := by decide +kernel
theorem dX1_bar_37 : decode cX1_bar 37 = .ok (.iload_n 1, 1) := by decide +kernel
theorem dX1_bar_38 : decode cX1_bar 38 = .ok (.iaload, 1) := by decide +kernel
theorem dX1_bar_39 : decode cX1_bar 39 = .ok (.iaload, 1) := by decide +kernel
theorem dX1_bar_40 : decode cX1_bar 40 = .ok (.if_icmp .lt 7, 3) := by decide +kernel
theorem dX1_bar_43 : decode cX1_bar 43 = .ok (.iconst 1, 1) := by decide +kernel
theorem dX1_bar_44 : decode cX1_bar 44 = .ok (.goto 4, 3) := by decide +kernel
theorem dX1_bar_47 : decode cX1_bar 47 = .ok (.iconst 0, 1) := by decide +kernel
theorem dX1_bar_48 : decode cX1_bar 48 = .ok (.ireturn, 1) := by decide +kernel
theorem dX1_set_0 : decode cX1_set 0 = .ok (.aload_n 0, 1) := by decide +kernel
theorem dX1_set_1 : decode cX1_set 1 = .ok (.getfield 20, 3) := by decide +kernel
theorem dX1_set_4 : decode cX1_set 4 = .ok (.bipush 6, 2) := by decide +kernel
theorem dX1_set_6 : decode cX1_set 6 = .ok (.aload_n 0, 1) := by decide +kernel
theorem dX1_set_7 : decode cX1_set 7 = .ok (.getfield 35, 3) := by decide +kernel
theorem dX1_set_10 : decode cX1_set 10 = .ok (.iload_n 1, 1) := by decide +kernel
theorem dX1_set_11 : decode cX1_set 11 = .ok (.iaload, 1) := by decide +kernel
theorem dX1_set_12 : decode cX1_set 12 = .ok (.imul, 1) := by decide +kernel
theorem dX1_set_13 : decode cX1_set 13 = .ok (.iload_n 2, 1) := by decide +kernel
theorem dX1_set_14 : decode cX1_set 14 = .ok (.iadd, 1) := by decide +kernel
theorem dX1_set_15 : decode cX1_set 15 = .ok (.iload_n 3, 1) := by decide +kernel
theorem dX1_set_16 : decode cX1_set 16 = .ok (.iastore, 1) := by decide +kernel
theorem dX1_set_17 : decode cX1_set 17 = .ok (.aload_n 0, 1) := by decide +kernel
theorem dX1_set_18 : decode cX1_set 18 = .ok (.getfield 23, 3) := by decide +kernel
theorem dX1_set_21 : decode cX1_set 21 = .ok (.bipush 6, 2) := by decide +kernel
theorem dX1_set_23 : decode cX1_set 23 = .ok (.aload_n 0, 1) := by decide +kernel
theorem dX1_set_24 : decode cX1_set 24 = .ok (.getfield 35, 3) := by decide +kernel
theorem dX1_set_27 : decode cX1_set 27 = .ok (.iload_n 1, 1) := by decide +kernel
theorem dX1_set_28 : decode cX1_set 28 = .ok (.iaload, 1) := by decide +kernel
theorem dX1_set_29 : decode cX1_set 29 = .ok (.imul, 1) := by decide +kernel
theorem dX1_set_30 : decode cX1_set 30 = .ok (.iload_n 2, 1) := by decide +kernel
theorem dX1_set_31 : decode cX1_set 31 = .ok (.iadd, 1) := by decide +kernel
theorem dX1_set_32 : decode cX1_set 32 = .ok (.iload 4, 2) := by decide +kernel
theorem dX1_set_34 : decode cX1_set 34 = .ok (.iastore, 1) := by decide +kernel
theorem dX1_set_35 : decode cX1_set 35 = .ok (.return_, 1) := by decide +kernel
theorem dX1_put_0 : decode cX1_put 0 = .ok (.aload_n 0, 1) := by decide +kernel
theorem dX1_put_1 : decode cX1_put 1 = .ok (.aload_n 0, 1) := by decide +kernel
theorem dX1_put_2 : decode cX1_put 2 = .ok (.iload_n 1, 1) := by decide +kernel
theorem dX1_put_3 : decode cX1_put 3 = .ok (.iload_n 2, 1) := by decide +kernel
theorem dX1_put_4 : decode cX1_put 4 = .ok (.invokevirtual 89, 3) := by decide +kernel
theorem dX1_put_7 : decode cX1_put 7 = .ok (.putfield 38, 3) := by decide +kernel
theorem dX1_put_10 : decode cX1_put 10 = .ok (.aload_n 0, 1) := by decide +kernel
theorem dX1_put_11 : decode cX1_put 11 = .ok (.getfield 38, 3) := by decide +kernel
theorem dX1_put_14 : decode cX1_put 14 = .ok (.ifCond .ne 11, 3) := by decide +kernel
theorem dX1_put_17 : decode cX1_put 17 = .ok (.aload_n 0, 1) := by decide +kernel
theorem dX1_put_18 : decode cX1_put 18 = .ok (.iload_n 1, 1) := by decide +kernel
theorem dX1_put_19 : decode cX1_put 19 = .ok (.iload_n 2, 1) := by decide +kernel
theorem dX1_put_20 : decode cX1_put 20 = .ok (.iconst 0, 1) := by decide +kernel
theorem dX1_put_21 : decode cX1_put 21 = .ok (.iload_n 3, 1) := by decide +kernel
theorem dX1_put_22 : decode cX1_put 22 = .ok (.invokevirtual 92, 3) := by decide +kernel
theorem dX1_put_25 : decode cX1_put 25 = .ok (.return_, 1) := by decide +kernel
theorem dX1_refer_0 : decode cX1_refer 0 = .ok (.aload_n 0, 1) := by decide +kernel
theorem dX1_refer_1 : decode cX1_refer 1 = .ok (.iload_n 3, 1) := by decide +kernel
theorem dX1_refer_2 : decode cX1_refer 2 = .ok (.invokestatic 76, 3) := by decide +kernel
theorem dX1_refer_5 : decode cX1_refer 5 = .ok (.ifCond .eq 12, 3) := by decide +kernel
theorem dX1_refer_8 : decode cX1_refer 8 = .ok (.aload_n 0, 1) := by decide +kernel
theorem dX1_refer_9 : decode cX1_refer 9 = .ok (.iload_n 1, 1) := by decide +kernel
theorem dX1_refer_10 : decode cX1_refer 10 = .ok (.iload_n 2, 1) := by decide +kernel
theorem dX1_refer_11 : decode cX1_refer 11 = .ok (.invokevirtual 89, 3) := by decide +kernel
theorem dX1_refer_14 : decode cX1_refer 14 = .ok (.goto 4, 3) := by decide +kernel
theorem dX1_refer_17 : decode cX1_refer 17 = .ok (.iconst 1, 1) := by decide +kernel
theorem dX1_refer_18 : decode cX1_refer 18 = .ok (.putfield 38, 3) := by decide +kernel
theorem dX1_refer_21 : decode cX1_refer 21 = .ok (.aload_n 0, 1) := by decide +kernel
theorem dX1_refer_22 : decode cX1_refer 22 = .ok (.getfield 38, 3) := by decide +kernel
theorem dX1_refer_25 : decode cX1_refer 25 = .ok (.ifCond .ne 25, 3) := by decide +kernel
theorem dX1_refer_28 : decode cX1_refer 28 = .ok (.aload_n 0, 1) := by decide +kernel
theorem dX1_refer_29 : decode cX1_refer 29 = .ok (.iload_n 1, 1) := by decide +kernel
theorem dX1_refer_30 : decode cX1_refer 30 = .ok (.iload_n 2, 1) := by decide +kernel
theorem dX1_refer_31 : decode cX1_refer 31 = .ok (.iload 4, 2) := by decide +kernel
theorem dX1_refer_33 : decode cX1_refer 33 = .ok (.ifCond .eq 7, 3) := by decide +kernel
theorem dX1_refer_36 : decode cX1_refer 36 = .ok (.iconst 2, 1) := by decide +kernel
theorem dX1_refer_37 : decode cX1_refer 37 = .ok (.goto 4, 3) := by decide +kernel
theorem dX1_refer_40 : decode cX1_refer 40 = .ok (.iconst 1, 1) := by decide +kernel
theorem dX1_refer_41 : decode cX1_refer 41 = .ok (.aload_n 0, 1) := by decide +kernel
theorem dX1_refer_42 : decode cX1_refer 42 = .ok (.getfield 35, 3) := by decide +kernel
theorem dX1_refer_45 : decode cX1_refer 45 = .ok (.iload_n 3, 1) := by decide +kernel
theorem dX1_refer_46 : decode cX1_refer 46 = .ok (.iaload, 1) := by decide +kernel
theorem dX1_refer_47 : decode cX1_refer 47 = .ok (.invokevirtual 92, 3) := by decide +kernel
theorem dX1_refer_50 : decode cX1_refer 50 = .ok (.return_, 1) := by decide +kernel
theorem dX1_follow_0 : decode cX1_follow 0 = .ok (.aload_n 0, 1) := by decide +kernel
theorem dX1_follow_1 : decode cX1_follow 1 = .ok (.iload_n 3, 1) := by decide +kernel
theorem dX1_follow_2 : decode cX1_follow 2 = .ok (.invokestatic 76, 3) := by decide +kernel
theorem dX1_follow_5 : decode cX1_follow 5 = .ok (.ifCond .eq 12, 3) := by decide +kernel
theorem dX1_follow_8 : decode cX1_follow 8 = .ok (.aload_n 0, 1) := by decide +kernel
theorem dX1_follow_9 : decode cX1_follow 9 = .ok (.iload_n 1, 1) := by decide +kernel
theorem dX1_follow_10 : decode cX1_follow 10 = .ok (.iload_n 2, 1) := by decide +kernel
theorem dX1_follow_11 : decode cX1_follow 11 = .ok (.invokevirtual 89, 3) := by decide +kernel
theorem dX1_follow_14 : decode cX1_follow 14 = .ok (.goto 4, 3) := by decide +kernel
theorem dX1_follow_17 : decode cX1_follow 17 = .ok (.iconst 1, 1) := by decide +kernel
theorem dX1_follow_18 : decode cX1_follow 18 = .ok (.putfield 38, 3) := by decide +kernel
theorem dX1_follow_21 : decode cX1_follow 21 = .ok (.aload_n 0, 1) := by decide +kernel
theorem dX1_follow_22 : decode cX1_follow 22 = .ok (.getfield 38, 3) := by decide +kernel
theorem dX1_follow_25 : decode cX1_follow 25 = .ok (.ifCond .ne 27, 3) := by decide +kernel
theorem dX1_follow_28 : decode cX1_follow 28 = .ok (.aload_n 0, 1) := by decide +kernel
theorem dX1_follow_29 : decode cX1_follow 29 = .ok (.getfield 20, 3) := by decide +kernel
theorem dX1_follow_32 : decode cX1_follow 32 = .ok (.bipush 6, 2) := by decide +kernel
theorem dX1_follow_34 : decode cX1_follow 34 = .ok (.aload_n 0, 1) := by decide +kernel
theorem dX1_follow_35 : decode cX1_follow 35 = .ok (.getfield 35, 3) := by decide +kernel
theorem dX1_follow_38 : decode cX1_follow 38 = .ok (.iload_n 1, 1) := by decide +kernel
theorem dX1_follow_39 : decode cX1_follow 39 = .ok (.iaload, 1) := by decide +kernel
theorem dX1_follow_40 : decode cX1_follow 40 = .ok (.imul, 1) := by decide +kernel
theorem dX1_follow_41 : decode cX1_follow 41 = .ok (.iload_n 2, 1) := by decide +kernel
theorem dX1_follow_42 : decode cX1_follow 42 = .ok (.iadd, 1) := by decide +kernel
theorem dX1_follow_43 : decode cX1_follow 43 = .ok (.iaload, 1) := by decide +kernel
theorem dX1_follow_44 : decode cX1_follow 44 = .ok (.ifCond .ne 8, 3) := by decide +kernel
theorem dX1_follow_47 : decode cX1_follow 47 = .ok (.aload_n 0, 1) := by decide +kernel
theorem dX1_follow_48 : decode cX1_follow 48 = .ok (.iconst 3, 1) := by decide +kernel
theorem dX1_follow_49 : decode cX1_follow 49 = .ok (.putfield 38, 3) := by decide +kernel
theorem dX1_follow_52 : decode cX1_follow 52 = .ok (.aload_n 0, 1) := by decide +kernel
theorem dX1_follow_53 : decode cX1_follow 53 = .ok (.getfield 38, 3) := by decide +kernel
theorem dX1_follow_56 : decode cX1_follow 56 = .ok (.ifCond .le 5, 3) := by decide +kernel
theorem dX1_follow_59 : decode cX1_follow 59 = .ok (.iconst 0, 1) := by decide +kernel
theorem dX1_follow_60 : decode cX1_follow 60 = .ok (.ireturn, 1) := by decide +kernel
theorem dX1_follow_61 : decode cX1_follow 61 = .ok (.aload_n 0, 1) := by decide +kernel
theorem dX1_follow_62 : decode cX1_follow 62 = .ok (.getfield 35, 3) := by decide +kernel
theorem dX1_follow_65 : decode cX1_follow 65 = .ok (.iload_n 3, 1) := by decide +kernel
theorem dX1_follow_66 : decode cX1_follow 66 = .ok (.aload_n 0, 1) := by decide +kernel
theorem dX1_follow_67 : decode cX1_follow 67 = .ok (.getfield 23, 3) := by decide +kernel
theorem dX1_follow_70 : decode cX1_follow 70 = .ok (.bipush 6, 2) := by decide +kernel
theorem dX1_follow_72 : decode cX1_follow 72 = .ok (.aload_n 0, 1) := by decide +kernel
theorem dX1_follow_73 : decode cX1_follow 73 = .ok (.getfield 35, 3) := by decide +kernel
theorem dX1_follow_76 : decode cX1_follow 76 = .ok (.iload_n 1, 1) := by decide +kernel
theorem dX1_follow_77 : decode cX1_follow 77 = .ok (.iaload, 1) := by decide +kernel
theorem dX1_follow_78 : decode cX1_follow 78 = .ok (.imul, 1) := by decide +kernel
theorem dX1_follow_79 : decode cX1_follow 79 = .ok (.iload_n 2, 1) := by decide +kernel
theorem dX1_follow_80 : decode cX1_follow 80 = .ok (.iadd, 1) := by decide +kernel
theorem dX1_follow_81 : decode cX1_follow 81 = .ok (.iaload, 1) := by decide +kernel
theorem dX1_follow_82 : decode cX1_follow 82 = .ok (.iastore, 1) := by decide +kernel
theorem dX1_follow_83 : decode cX1_follow 83 = .ok (.aload_n 0, 1) := by decide +kernel
theorem dX1_follow_84 : decode cX1_follow 84 = .ok (.getfield 35, 3) := by decide +kernel
theorem dX1_follow_87 : decode cX1_follow 87 = .ok (.iload_n 3, 1) := by decide +kernel
theorem dX1_follow_88 : decode cX1_follow 88 = .ok (.iaload, 1) := by decide +kernel
theorem dX1_follow_89 : decode cX1_follow 89 = .ok (.ifCond .lt 7, 3) := by decide +kernel
theorem dX1_follow_92 : decode cX1_follow 92 = .ok (.iconst 1, 1) := by decide +kernel
theorem dX1_follow_93 : decode cX1_follow 93 = .ok (.goto 4, 3) := by decide +kernel
theorem dX1_follow_96 : decode cX1_follow 96 = .ok (.iconst 0, 1) := by decide +kernel
theorem dX1_follow_97 : decode cX1_follow 97 = .ok (.ireturn, 1) := by decide +kernel
theorem dX1_kind_0 : decode cX1_kind 0 = .ok (.aload_n 0, 1) := by decide +kernel
theorem dX1_kind_1 : decode cX1_kind 1 = .ok (.aload_n 0, 1) := by decide +kernel
theorem dX1_kind_2 : decode cX1_kind 2 = .ok (.iload_n 1, 1) := by decide +kernel
theorem dX1_kind_3 : decode cX1_kind 3 = .ok (.iload_n 2, 1) := by decide +kernel
theorem dX1_kind_4 : decode cX1_kind 4 = .ok (.invokevirtual 89, 3) := by decide +kernel
theorem dX1_kind_7 : decode cX1_kind 7 = .ok (.putfield 38, 3) := by decide +kernel
theorem dX1_kind_10 : decode cX1_kind 10 = .ok (.aload_n 0, 1) := by decide +kernel
theorem dX1_kind_11 : decode cX1_kind 11 = .ok (.getfield 38, 3) := by decide +kernel
theorem dX1_kind_14 : decode cX1_kind 14 = .ok (.ifCond .le 7, 3) := by decide +kernel
theorem dX1_kind_17 : decode cX1_kind 17 = .ok (.iconst 0, 1) := by decide +kernel
theorem dX1_kind_18 : decode cX1_kind 18 = .ok (.goto 19, 3) := by decide +kernel
theorem dX1_kind_21 : decode cX1_kind 21 = .ok (.aload_n 0, 1) := by decide +kernel
theorem dX1_kind_22 : decode cX1_kind 22 = .ok (.getfield 20, 3) := by decide +kernel
theorem dX1_kind_25 : decode cX1_kind 25 = .ok (.bipush 6, 2) := by decide +kernel
theorem dX1_kind_27 : decode cX1_kind 27 = .ok (.aload_n 0, 1) := by decide +kernel
theorem dX1_kind_28 : decode cX1_kind 28 = .ok (.getfield 35, 3) := by decide +kernel
theorem dX1_kind_31 : decode cX1_kind 31 = .ok (.iload_n 1, 1) := by decide +kernel
theorem dX1_kind_32 : decode cX1_kind 32 = .ok (.iaload, 1) := by decide +kernel
theorem dX1_kind_33 : decode cX1_kind 33 = .ok (.imul, 1) := by decide +kernel
theorem dX1_kind_34 : decode cX1_kind 34 = .ok (.iload_n 2, 1) := by decide +kernel
theorem dX1_kind_35 : decode cX1_kind 35 = .ok (.iadd, 1) := by decide +kernel
theorem dX1_kind_36 : decode cX1_kind 36 = .ok (.iaload, 1) := by decide +kernel
theorem dX1_kind_37 : decode cX1_kind 37 = .ok (.ireturn, 1) := by decide +kernel
theorem dX1_serial_0 : decode cX1_serial 0 = .ok (.aload_n 0, 1) := by decide +kernel
theorem dX1_serial_1 : decode cX1_serial 1 = .ok (.iload_n 1, 1) := by decide +kernel
theorem dX1_serial_2 : decode cX1_serial 2 = .ok (.invokestatic 76, 3) := by decide +kernel
theorem dX1_serial_5 : decode cX1_serial 5 = .ok (.ifCond .eq 7, 3) := by decide +kernel
theorem dX1_serial_8 : decode cX1_serial 8 = .ok (.iconst 0, 1) := by decide +kernel
theorem dX1_serial_9 : decode cX1_serial 9 = .ok (.goto 4, 3) := by decide +kernel
theorem dX1_serial_12 : decode cX1_serial 12 = .ok (.iconst 1, 1) := by decide +kernel
theorem dX1_serial_13 : decode cX1_serial 13 = .ok (.putfield 38, 3) := by decide +kernel
theorem dX1_serial_16 : decode cX1_serial 16 = .ok (.aload_n 0, 1) := by decide +kernel
theorem dX1_serial_17 : decode cX1_serial 17 = .ok (.getfield 38, 3) := by decide +kernel
theorem dX1_serial_20 : decode cX1_serial 20 = .ok (.ifCond .le 7, 3) := by decide +kernel
theorem dX1_serial_23 : decode cX1_serial 23 = .ok (.iconst 0, 1) := by decide +kernel
theorem dX1_serial_24 : decode cX1_serial 24 = .ok (.goto 27, 3) := by decide +kernel
theorem dX1_serial_27 : decode cX1_serial 27 = .ok (.aload_n 0, 1) := by decide +kernel
theorem dX1_serial_28 : decode cX1_serial 28 = .ok (.getfield 35, 3) := by decide +kernel
theorem dX1_serial_31 : decode cX1_serial 31 = .ok (.iload_n 1, 1) := by decide +kernel
theorem dX1_serial_32 : decode cX1_serial 32 = .ok (.iaload, 1) := by decide +kernel
theorem dX1_serial_33 : decode cX1_serial 33 = .ok (.ifCond .ge 7, 3) := by decide +kernel
theorem dX1_serial_36 : decode cX1_serial 36 = .ok (.iconst (-1), 1) := by decide +kernel
theorem dX1_serial_37 : decode cX1_serial 37 = .ok (.goto 14, 3) := by decide +kernel
theorem dX1_serial_40 : decode cX1_serial 40 = .ok (.aload_n 0, 1) := by decide +kernel
theorem dX1_serial_41 : decode cX1_serial 41 = .ok (.getfield 17, 3) := by decide +kernel
theorem dX1_serial_44 : decode cX1_serial 44 = .ok (.aload_n 0, 1) := by decide +kernel
theorem dX1_serial_45 : decode cX1_serial 45 = .ok (.getfield 35, 3) := by decide +kernel
theorem dX1_serial_48 : decode cX1_serial 48 = .ok (.iload_n 1, 1) := by decide +kernel
theorem dX1_serial_49 : decode cX1_serial 49 = .ok (.iaload, 1) := by decide +kernel
theorem dX1_serial_50 : decode cX1_serial 50 = .ok (.iaload, 1) := by decide +kernel
theorem dX1_serial_51 : decode cX1_serial 51 = .ok (.ireturn, 1) := by decide +kernel
theorem dX1_address_0 : decode cX1_address 0 = .ok (.aload_n 0, 1) := by decide +kernel
theorem dX1_address_1 : decode cX1_address 1 = .ok (.iload_n 1, 1) := by decide +kernel
theorem dX1_address_2 : decode cX1_address 2 = .ok (.invokestatic 76, 3) := by decide +kernel
theorem dX1_address_5 : decode cX1_address 5 = .ok (.ifCond .eq 7, 3) := by decide +kernel
theorem dX1_address_8 : decode cX1_address 8 = .ok (.iconst 0, 1) := by decide +kernel
theorem dX1_address_9 : decode cX1_address 9 = .ok (.goto 4, 3) := by decide +kernel
theorem dX1_address_12 : decode cX1_address 12 = .ok (.iconst 1, 1) := by decide +kernel
theorem dX1_address_13 : decode cX1_address 13 = .ok (.putfield 38, 3) := by decide +kernel
theorem dX1_address_16 : decode cX1_address 16 = .ok (.aload_n 0, 1) := by decide +kernel
theorem dX1_address_17 : decode cX1_address 17 = .ok (.getfield 38, 3) := by decide +kernel
theorem dX1_address_20 : decode cX1_address 20 = .ok (.ifCond .le 7, 3) := by decide +kernel
theorem dX1_address_23 : decode cX1_address 23 = .ok (.iconst 0, 1) := by decide +kernel
theorem dX1_address_24 : decode cX1_address 24 = .ok (.goto 13, 3) := by decide +kernel
theorem dX1_address_27 : decode cX1_address 27 = .ok (.aload_n 0, 1) := by decide +kernel
theorem dX1_address_28 : decode cX1_address 28 = .ok (.aload_n 0, 1) := by decide +kernel
theorem dX1_address_29 : decode cX1_address 29 = .ok (.getfield 35, 3) := by decide +kernel
theorem dX1_address_32 : decode cX1_address 32 = .ok (.iload_n 1, 1) := by decide +kernel
theorem dX1_address_33 : decode cX1_address 33 = .ok (.iaload, 1) := by decide +kernel
theorem dX1_address_34 : decode cX1_address 34 = .ok (.invokevirtual 96, 3) := by decide +kernel
theorem dX1_address_37 : decode cX1_address 37 = .ok (.ireturn, 1) := by decide +kernel
theorem dX1_wordOf_0 : decode cX1_wordOf 0 = .ok (.iload_n 2, 1) := by decide +kernel
theorem dX1_wordOf_1 : decode cX1_wordOf 1 = .ok (.iconst 1, 1) := by decide +kernel
theorem dX1_wordOf_2 : decode cX1_wordOf 2 = .ok (.if_icmp .ne 10, 3) := by decide +kernel
theorem dX1_wordOf_5 : decode cX1_wordOf 5 = .ok (.aload_n 0, 1) := by decide +kernel
theorem dX1_wordOf_6 : decode cX1_wordOf 6 = .ok (.getfield 17, 3) := by decide +kernel
theorem dX1_wordOf_9 : decode cX1_wordOf 9 = .ok (.iload_n 1, 1) := by decide +kernel
theorem dX1_wordOf_10 : decode cX1_wordOf 10 = .ok (.iaload, 1) := by decide +kernel
theorem dX1_wordOf_11 : decode cX1_wordOf 11 = .ok (.ireturn, 1) := by decide +kernel
theorem dX1_wordOf_12 : decode cX1_wordOf 12 = .ok (.iload_n 2, 1) := by decide +kernel
theorem dX1_wordOf_13 : decode cX1_wordOf 13 = .ok (.iconst 1, 1) := by decide +kernel
theorem dX1_wordOf_14 : decode cX1_wordOf 14 = .ok (.if_icmp .le 41, 3) := by decide +kernel
theorem dX1_wordOf_17 : decode cX1_wordOf 17 = .ok (.bipush 6, 2) := by decide +kernel
theorem dX1_wordOf_19 : decode cX1_wordOf 19 = .ok (.iload_n 1, 1) := by decide +kernel
theorem dX1_wordOf_20 : decode cX1_wordOf 20 = .ok (.imul, 1) := by decide +kernel
theorem dX1_wordOf_21 : decode cX1_wordOf 21 = .ok (.iload_n 2, 1) := by decide +kernel
theorem dX1_wordOf_22 : decode cX1_wordOf 22 = .ok (.iadd, 1) := by decide +kernel
theorem dX1_wordOf_23 : decode cX1_wordOf 23 = .ok (.iconst 2, 1) := by decide +kernel
theorem dX1_wordOf_24 : decode cX1_wordOf 24 = .ok (.isub, 1) := by decide +kernel
theorem dX1_wordOf_25 : decode cX1_wordOf 25 = .ok (.istore_n 3, 1) := by decide +kernel
theorem dX1_wordOf_26 : decode cX1_wordOf 26 = .ok (.aload_n 0, 1) := by decide +kernel
theorem dX1_wordOf_27 : decode cX1_wordOf 27 = .ok (.getfield 20, 3) := by decide +kernel
theorem dX1_wordOf_30 : decode cX1_wordOf 30 = .ok (.iload_n 3, 1) := by decide +kernel
theorem dX1_wordOf_31 : decode cX1_wordOf 31 = .ok (.iaload, 1) := by decide +kernel
theorem dX1_wordOf_32 : decode cX1_wordOf 32 = .ok (.ifCond .ne 12, 3) := by decide +kernel
theorem dX1_wordOf_35 : decode cX1_wordOf 35 = .ok (.aload_n 0, 1) := by decide +kernel
theorem dX1_wordOf_36 : decode cX1_wordOf 36 = .ok (.getfield 23, 3) := by decide +kernel
theorem dX1_wordOf_39 : decode cX1_wordOf 39 = .ok (.iload_n 3, 1) := by decide +kernel
theorem dX1_wordOf_40 : decode cX1_wordOf 40 = .ok (.iaload, 1) := by decide +kernel
theorem dX1_wordOf_41 : decode cX1_wordOf 41 = .ok (.goto 13, 3) := by decide +kernel
theorem dX1_wordOf_44 : decode cX1_wordOf 44 = .ok (.aload_n 0, 1) := by decide +kernel
theorem dX1_wordOf_45 : decode cX1_wordOf 45 = .ok (.aload_n 0, 1) := by decide +kernel
theorem dX1_wordOf_46 : decode cX1_wordOf 46 = .ok (.getfield 23, 3) := by decide +kernel
theorem dX1_wordOf_49 : decode cX1_wordOf 49 = .ok (.iload_n 3, 1) := by decide +kernel
theorem dX1_wordOf_50 : decode cX1_wordOf 50 = .ok (.iaload, 1) := by decide +kernel
theorem dX1_wordOf_51 : decode cX1_wordOf 51 = .ok (.invokevirtual 96, 3) := by decide +kernel
theorem dX1_wordOf_54 : decode cX1_wordOf 54 = .ok (.ireturn, 1) := by decide +kernel
theorem dX1_wordOf_55 : decode cX1_wordOf 55 = .ok (.aload_n 0, 1) := by decide +kernel
theorem dX1_wordOf_56 : decode cX1_wordOf 56 = .ok (.getfield 13, 3) := by decide +kernel
theorem dX1_wordOf_59 : decode cX1_wordOf 59 = .ok (.iload_n 1, 1) := by decide +kernel
theorem dX1_wordOf_60 : decode cX1_wordOf 60 = .ok (.iaload, 1) := by decide +kernel
theorem dX1_wordOf_61 : decode cX1_wordOf 61 = .ok (.istore_n 3, 1) := by decide +kernel
theorem dX1_wordOf_62 : decode cX1_wordOf 62 = .ok (.iconst 0, 1) := by decide +kernel
theorem dX1_wordOf_63 : decode cX1_wordOf 63 = .ok (.istore 4, 2) := by decide +kernel
theorem dX1_wordOf_65 : decode cX1_wordOf 65 = .ok (.iload 4, 2) := by decide +kernel
theorem dX1_wordOf_67 : decode cX1_wordOf 67 = .ok (.aload_n 0, 1) := by decide +kernel
theorem dX1_wordOf_68 : decode cX1_wordOf 68 = .ok (.getfield 13, 3) := by decide +kernel
theorem dX1_wordOf_71 : decode cX1_wordOf 71 = .ok (.iload_n 1, 1) := by decide +kernel
theorem dX1_wordOf_72 : decode cX1_wordOf 72 = .ok (.iaload, 1) := by decide +kernel
theorem dX1_wordOf_73 : decode cX1_wordOf 73 = .ok (.if_icmp .ge 70, 3) := by decide +kernel
theorem dX1_wordOf_76 : decode cX1_wordOf 76 = .ok (.iconst 1, 1) := by decide +kernel
theorem dX1_wordOf_77 : decode cX1_wordOf 77 = .ok (.iload 4, 2) := by decide +kernel
theorem dX1_wordOf_79 : decode cX1_wordOf 79 = .ok (.ishl, 1) := by decide +kernel
theorem dX1_wordOf_80 : decode cX1_wordOf 80 = .ok (.istore 5, 2) := by decide +kernel
theorem dX1_wordOf_82 : decode cX1_wordOf 82 = .ok (.aload_n 0, 1) := by decide +kernel
theorem dX1_wordOf_83 : decode cX1_wordOf 83 = .ok (.getfield 20, 3) := by decide +kernel
theorem dX1_wordOf_86 : decode cX1_wordOf 86 = .ok (.bipush 6, 2) := by decide +kernel
theorem dX1_wordOf_88 : decode cX1_wordOf 88 = .ok (.iload_n 1, 1) := by decide +kernel
theorem dX1_wordOf_89 : decode cX1_wordOf 89 = .ok (.imul, 1) := by decide +kernel
theorem dX1_wordOf_90 : decode cX1_wordOf 90 = .ok (.iload 4, 2) := by decide +kernel
theorem dX1_wordOf_92 : decode cX1_wordOf 92 = .ok (.iadd, 1) := by decide +kernel
theorem dX1_wordOf_93 : decode cX1_wordOf 93 = .ok (.iaload, 1) := by decide +kernel
theorem dX1_wordOf_94 : decode cX1_wordOf 94 = .ok (.iconst 1, 1) := by decide +kernel
theorem dX1_wordOf_95 : decode cX1_wordOf 95 = .ok (.if_icmp .ne 13, 3) := by decide +kernel
theorem dX1_wordOf_98 : decode cX1_wordOf 98 = .ok (.iload_n 3, 1) := by decide +kernel
theorem dX1_wordOf_99 : decode cX1_wordOf 99 = .ok (.bipush 16, 2) := by decide +kernel
theorem dX1_wordOf_101 : decode cX1_wordOf 101 = .ok (.iload 5, 2) := by decide +kernel
theorem dX1_wordOf_103 : decode cX1_wordOf 103 = .ok (.imul, 1) := by decide +kernel
theorem dX1_wordOf_104 : decode cX1_wordOf 104 = .ok (.iadd, 1) := by decide +kernel
theorem dX1_wordOf_105 : decode cX1_wordOf 105 = .ok (.goto 31, 3) := by decide +kernel
theorem dX1_wordOf_108 : decode cX1_wordOf 108 = .ok (.aload_n 0, 1) := by decide +kernel
theorem dX1_wordOf_109 : decode cX1_wordOf 109 = .ok (.getfield 20, 3) := by decide +kernel
theorem dX1_wordOf_112 : decode cX1_wordOf 112 = .ok (.bipush 6, 2) := by decide +kernel
theorem dX1_wordOf_114 : decode cX1_wordOf 114 = .ok (.iload_n 1, 1) := by decide +kernel
theorem dX1_wordOf_115 : decode cX1_wordOf 115 = .ok (.imul, 1) := by decide +kernel
theorem dX1_wordOf_116 : decode cX1_wordOf 116 = .ok (.iload 4, 2) := by decide +kernel
theorem dX1_wordOf_118 : decode cX1_wordOf 118 = .ok (.iadd, 1) := by decide +kernel
theorem dX1_wordOf_119 : decode cX1_wordOf 119 = .ok (.iaload, 1) := by decide +kernel
theorem dX1_wordOf_120 : decode cX1_wordOf 120 = .ok (.iconst 2, 1) := by decide +kernel
theorem dX1_wordOf_121 : decode cX1_wordOf 121 = .ok (.if_icmp .ne 14, 3) := by decide +kernel
theorem dX1_wordOf_124 : decode cX1_wordOf 124 = .ok (.iload_n 3, 1) := by decide +kernel
theorem dX1_wordOf_125 : decode cX1_wordOf 125 = .ok (.sipush 1024, 3) := by decide +kernel
theorem dX1_wordOf_128 : decode cX1_wordOf 128 = .ok (.iload 5, 2) := by decide +kernel
theorem dX1_wordOf_130 : decode cX1_wordOf 130 = .ok (.imul, 1) := by decide +kernel
theorem dX1_wordOf_131 : decode cX1_wordOf 131 = .ok (.iadd, 1) := by decide +kernel
theorem dX1_wordOf_132 : decode cX1_wordOf 132 = .ok (.goto 4, 3) := by decide +kernel
theorem dX1_wordOf_135 : decode cX1_wordOf 135 = .ok (.iload_n 3, 1) := by decide +kernel
theorem dX1_wordOf_136 : decode cX1_wordOf 136 = .ok (.istore_n 3, 1) := by decide +kernel
theorem dX1_wordOf_137 : decode cX1_wordOf 137 = .ok (.iinc 4 1, 3) := by decide +kernel
theorem dX1_wordOf_140 : decode cX1_wordOf 140 = .ok (.goto (-75), 3) := by decide +kernel
theorem dX1_wordOf_143 : decode cX1_wordOf 143 = .ok (.iload_n 3, 1) := by decide +kernel
theorem dX1_wordOf_144 : decode cX1_wordOf 144 = .ok (.ireturn, 1) := by decide +kernel
theorem dX1_word_0 : decode cX1_word 0 = .ok (.aload_n 0, 1) := by decide +kernel
theorem dX1_word_1 : decode cX1_word 1 = .ok (.iload_n 1, 1) := by decide +kernel
theorem dX1_word_2 : decode cX1_word 2 = .ok (.ifCond .lt 14, 3) := by decide +kernel
theorem dX1_word_5 : decode cX1_word 5 = .ok (.iload_n 1, 1) := by decide +kernel
theorem dX1_word_6 : decode cX1_word 6 = .ok (.sipush 256, 3) := by decide +kernel
theorem dX1_word_9 : decode cX1_word 9 = .ok (.if_icmp .ge 7, 3) := by decide +kernel
theorem dX1_word_12 : decode cX1_word 12 = .ok (.iconst 0, 1) := by decide +kernel
theorem dX1_word_13 : decode cX1_word 13 = .ok (.goto 4, 3) := by decide +kernel
theorem dX1_word_16 : decode cX1_word 16 = .ok (.iconst 1, 1) := by decide +kernel
theorem dX1_word_17 : decode cX1_word 17 = .ok (.putfield 38, 3) := by decide +kernel
theorem dX1_word_20 : decode cX1_word 20 = .ok (.aload_n 0, 1) := by decide +kernel
theorem dX1_word_21 : decode cX1_word 21 = .ok (.getfield 38, 3) := by decide +kernel
theorem dX1_word_24 : decode cX1_word 24 = .ok (.ifCond .le 5, 3) := by decide +kernel
theorem dX1_word_27 : decode cX1_word 27 = .ok (.iconst 0, 1) := by decide +kernel
theorem dX1_word_28 : decode cX1_word 28 = .ok (.ireturn, 1) := by decide +kernel
theorem dX1_word_29 : decode cX1_word 29 = .ok (.iconst 0, 1) := by decide +kernel
theorem dX1_word_30 : decode cX1_word 30 = .ok (.istore_n 2, 1) := by decide +kernel
theorem dX1_word_31 : decode cX1_word 31 = .ok (.iconst 0, 1) := by decide +kernel
theorem dX1_word_32 : decode cX1_word 32 = .ok (.istore_n 3, 1) := by decide +kernel
theorem dX1_word_33 : decode cX1_word 33 = .ok (.iload_n 3, 1) := by decide +kernel
theorem dX1_word_34 : decode cX1_word 34 = .ok (.aload_n 0, 1) := by decide +kernel
theorem dX1_word_35 : decode cX1_word 35 = .ok (.getfield 42, 3) := by decide +kernel
theorem dX1_word_38 : decode cX1_word 38 = .ok (.if_icmp .ge 51, 3) := by decide +kernel
theorem dX1_word_41 : decode cX1_word 41 = .ok (.aload_n 0, 1) := by decide +kernel
theorem dX1_word_42 : decode cX1_word 42 = .ok (.getfield 13, 3) := by decide +kernel
theorem dX1_word_45 : decode cX1_word 45 = .ok (.aload_n 0, 1) := by decide +kernel
theorem dX1_word_46 : decode cX1_word 46 = .ok (.getfield 29, 3) := by decide +kernel
theorem dX1_word_49 : decode cX1_word 49 = .ok (.iload_n 3, 1) := by decide +kernel
theorem dX1_word_50 : decode cX1_word 50 = .ok (.iaload, 1) := by decide +kernel
theorem dX1_word_51 : decode cX1_word 51 = .ok (.iaload, 1) := by decide +kernel
theorem dX1_word_52 : decode cX1_word 52 = .ok (.iconst 2, 1) := by decide +kernel
theorem dX1_word_53 : decode cX1_word 53 = .ok (.iadd, 1) := by decide +kernel
theorem dX1_word_54 : decode cX1_word 54 = .ok (.istore 4, 2) := by decide +kernel
theorem dX1_word_56 : decode cX1_word 56 = .ok (.iload_n 1, 1) := by decide +kernel
theorem dX1_word_57 : decode cX1_word 57 = .ok (.iload_n 2, 1) := by decide +kernel
theorem dX1_word_58 : decode cX1_word 58 = .ok (.iload 4, 2) := by decide +kernel
theorem dX1_word_60 : decode cX1_word 60 = .ok (.iadd, 1) := by decide +kernel
theorem dX1_word_61 : decode cX1_word 61 = .ok (.if_icmp .ge 17, 3) := by decide +kernel
theorem dX1_word_64 : decode cX1_word 64 = .ok (.aload_n 0, 1) := by decide +kernel
theorem dX1_word_65 : decode cX1_word 65 = .ok (.aload_n 0, 1) := by decide +kernel
theorem dX1_word_66 : decode cX1_word 66 = .ok (.getfield 29, 3) := by decide +kernel
theorem dX1_word_69 : decode cX1_word 69 = .ok (.iload_n 3, 1) := by decide +kernel
theorem dX1_word_70 : decode cX1_word 70 = .ok (.iaload, 1) := by decide +kernel
theorem dX1_word_71 : decode cX1_word 71 = .ok (.iload_n 1, 1) := by decide +kernel
theorem dX1_word_72 : decode cX1_word 72 = .ok (.iload_n 2, 1) := by decide +kernel
theorem dX1_word_73 : decode cX1_word 73 = .ok (.isub, 1) := by decide +kernel
theorem dX1_word_74 : decode cX1_word 74 = .ok (.invokevirtual 100, 3) := by decide +kernel
theorem dX1_word_77 : decode cX1_word 77 = .ok (.ireturn, 1) := by decide +kernel
theorem dX1_word_78 : decode cX1_word 78 = .ok (.iload_n 2, 1) := by decide +kernel
theorem dX1_word_79 : decode cX1_word 79 = .ok (.iload 4, 2) := by decide +kernel
theorem dX1_word_81 : decode cX1_word 81 = .ok (.iadd, 1) := by decide +kernel
theorem dX1_word_82 : decode cX1_word 82 = .ok (.istore_n 2, 1) := by decide +kernel
theorem dX1_word_83 : decode cX1_word 83 = .ok (.iinc 3 1, 3) := by decide +kernel
theorem dX1_word_86 : decode cX1_word 86 = .ok (.goto (-53), 3) := by decide +kernel
theorem dX1_word_89 : decode cX1_word 89 = .ok (.iconst 0, 1) := by decide +kernel
theorem dX1_word_90 : decode cX1_word 90 = .ok (.ireturn, 1) := by decide +kernel
theorem dX1_top_0 : decode cX1_top 0 = .ok (.aload_n 0, 1) := by decide +kernel
theorem dX1_top_1 : decode cX1_top 1 = .ok (.iconst 0, 1) := by decide +kernel
theorem dX1_top_2 : decode cX1_top 2 = .ok (.putfield 38, 3) := by decide +kernel
theorem dX1_top_5 : decode cX1_top 5 = .ok (.aload_n 0, 1) := by decide +kernel
theorem dX1_top_6 : decode cX1_top 6 = .ok (.invokevirtual 66, 3) := by decide +kernel
theorem dX1_top_9 : decode cX1_top 9 = .ok (.ireturn, 1) := by decide +kernel
theorem dX1_objects_0 : decode cX1_objects 0 = .ok (.aload_n 0, 1) := by decide +kernel
theorem dX1_objects_1 : decode cX1_objects 1 = .ok (.iconst 0, 1) := by decide +kernel
theorem dX1_objects_2 : decode cX1_objects 2 = .ok (.putfield 38, 3) := by decide +kernel
theorem dX1_objects_5 : decode cX1_objects 5 = .ok (.aload_n 0, 1) := by decide +kernel
theorem dX1_objects_6 : decode cX1_objects 6 = .ok (.getfield 42, 3) := by decide +kernel
theorem dX1_objects_9 : decode cX1_objects 9 = .ok (.ireturn, 1) := by decide +kernel
theorem dX1_alive_0 : decode cX1_alive 0 = .ok (.aload_n 0, 1) := by decide +kernel
theorem dX1_alive_1 : decode cX1_alive 1 = .ok (.iconst 0, 1) := by decide +kernel
theorem dX1_alive_2 : decode cX1_alive 2 = .ok (.putfield 38, 3) := by decide +kernel
theorem dX1_alive_5 : decode cX1_alive 5 = .ok (.aload_n 0, 1) := by decide +kernel
theorem dX1_alive_6 : decode cX1_alive 6 = .ok (.invokevirtual 53, 3) := by decide +kernel
theorem dX1_alive_9 : decode cX1_alive 9 = .ok (.aload_n 0, 1) := by decide +kernel
theorem dX1_alive_10 : decode cX1_alive 10 = .ok (.invokevirtual 49, 3) := by decide +kernel
theorem dX1_alive_13 : decode cX1_alive 13 = .ok (.ireturn, 1) := by decide +kernel
end
section
def fXA_rangeCheck (x0 : Int32) (x1 : Int32) (x2 : Int32) : Option (Unit) :=
  if x1 ≤ x2 then
    if (0 : Int32) ≤ x1 then
      if x2 ≤ x0 then
        some ()
      else
        none
    else
      none
  else
    none
def fXA_fill_L5 (k : Nat) (x1_ : Int32) (x3_ : Int32) : Nat → Int32 → (Nat → Int32) → Option (Int32 × (Nat → Int32))
  | 0, _, _ => none
  | n + 1, x2_, f =>
    if x3_ ≤ x2_ then
      some (x2_, f)
    else
      (stI k f x2_ x1_).bind fun f_2 =>
      fXA_fill_L5 k x1_ x3_ n (x2_ + (1 : Int32)) f_2
theorem fXA_fill_L5_s (k : Nat) (x1_ : Int32) (x3_ : Int32) (n : Nat) (x2_ : Int32) (f : Nat → Int32) : fXA_fill_L5 k x1_ x3_ (n + 1) x2_ f = (
    if x3_ ≤ x2_ then
      some (x2_, f)
    else
      (stI k f x2_ x1_).bind fun f_2 =>
      fXA_fill_L5 k x1_ x3_ n (x2_ + (1 : Int32)) f_2) := rfl
def fXA_fill (k : Nat) (f : Nat → Int32) (x1 : Int32) : Option ((Nat → Int32)) :=
  (fXA_fill_L5 k x1 (Int32.ofNat k) FU (0 : Int32) f).bind fun (x_3, f_4) =>
  some f_4
def fXB_fill_L10 (k : Nat) (x2_ : Int32) (x3_ : Int32) : Nat → Int32 → (Nat → Int32) → Option (Int32 × (Nat → Int32))
  | 0, _, _ => none
  | n + 1, x4_, f =>
    if x2_ ≤ x4_ then
      some (x4_, f)
    else
      (stI k f x4_ x3_).bind fun f_2 =>
      fXB_fill_L10 k x2_ x3_ n (x4_ + (1 : Int32)) f_2
theorem fXB_fill_L10_s (k : Nat) (x2_ : Int32) (x3_ : Int32) (n : Nat) (x4_ : Int32) (f : Nat → Int32) : fXB_fill_L10 k x2_ x3_ (n + 1) x4_ f = (
    if x2_ ≤ x4_ then
      some (x4_, f)
    else
      (stI k f x4_ x3_).bind fun f_2 =>
      fXB_fill_L10 k x2_ x3_ n (x4_ + (1 : Int32)) f_2) := rfl
def fXB_fill (k : Nat) (f : Nat → Int32) (x1 : Int32) (x2 : Int32) (x3 : Int32) : Option ((Nat → Int32)) :=
  (fXA_rangeCheck (Int32.ofNat k) x1 x2).bind fun _ =>
  (fXB_fill_L10 k x2 x3 FU x1 f).bind fun (x_3, f_4) =>
  some f_4
def fX0_requireRoot (x0 : Int32) : Option (Nat) :=
  if x0 < (0 : Int32) then
    some 1
  else
    if x0 < (8 : Int32) then
      some 0
    else
      some 1
def fX0_requireFieldCount (x0 : Int32) : Option (Nat) :=
  if x0 < (0 : Int32) then
    some 2
  else
    if x0 ≤ (6 : Int32) then
      some 0
    else
      some 2
def fX0_requireWay (x0 : Int32) : Option (Nat) :=
  if x0 < (0 : Int32) then
    some 2
  else
    if x0 ≤ (2 : Int32) then
      some 0
    else
      some 2
def fX0_fieldAddress (x0 : Int32) (x1 : Int32) : Option (Int32) :=
  some ((x0 + (2 : Int32)) + x1)
def fX0_hasRoom (tp : Int32) (x1 : Int32) : Option (Int32) :=
  if (256 : Int32) < ((tp + (2 : Int32)) + x1) then
    some (0 : Int32)
  else
    some (1 : Int32)
def fX0_fieldCount (w : Nat → Int32) (x1 : Int32) : Option (Int32) :=
  (ldI 256 w x1).bind fun v1 =>
  some (v1 &&& (15 : Int32))
def fX0_sizeOf (w : Nat → Int32) (x1 : Int32) : Option (Int32) :=
  (fX0_fieldCount w x1).bind fun v1 =>
  some ((2 : Int32) + v1)
def fX0_fieldKind (w : Nat → Int32) (x1 : Int32) (x2 : Int32) : Option (Int32) :=
  (ldI 256 w x1).bind fun v1 =>
  if (v1 &&& ((16 : Int32) <<< (x2 &&& 31))) = (0 : Int32) then
    if (v1 &&& ((1024 : Int32) <<< (x2 &&& 31))) = (0 : Int32) then
      some (0 : Int32)
    else
      some (2 : Int32)
  else
    some (1 : Int32)
def fX0_setField (w : Nat → Int32) (x1 : Int32) (x2 : Int32) (x3 : Int32) (x4 : Int32) : Option ((Nat → Int32)) :=
  (ldI 256 w x1).bind fun v1 =>
  if x3 = (1 : Int32) then
    (stI 256 w x1 ((v1 &&& ((((16 : Int32) <<< (x2 &&& 31)) ||| ((1024 : Int32) <<< (x2 &&& 31))) ^^^ (-1 : Int32))) ||| ((16 : Int32) <<< (x2 &&& 31)))).bind fun w_10 =>
    (fX0_fieldAddress x1 x2).bind fun v11 =>
    (stI 256 w_10 v11 x4).bind fun w_12 =>
    some w_12
  else
    if x3 = (2 : Int32) then
      (stI 256 w x1 ((v1 &&& ((((16 : Int32) <<< (x2 &&& 31)) ||| ((1024 : Int32) <<< (x2 &&& 31))) ^^^ (-1 : Int32))) ||| ((1024 : Int32) <<< (x2 &&& 31)))).bind fun w_7 =>
      (fX0_fieldAddress x1 x2).bind fun v8 =>
      (stI 256 w_7 v8 x4).bind fun w_9 =>
      some w_9
    else
      (stI 256 w x1 (v1 &&& ((((16 : Int32) <<< (x2 &&& 31)) ||| ((1024 : Int32) <<< (x2 &&& 31))) ^^^ (-1 : Int32)))).bind fun w_4 =>
      (fX0_fieldAddress x1 x2).bind fun v5 =>
      (stI 256 w_4 v5 x4).bind fun w_6 =>
      some w_6
def fX0_makeObject (w : Nat → Int32) (r : Nat → Int32) (st : Nat → Int32) (tp : Int32) (cn : Int32) (sr : Int32) (x1 : Int32) (x2 : Int32) : Option (Int32 × (Nat → Int32) × (Nat → Int32) × (Nat → Int32) × Int32 × Int32 × Int32) :=
  (stI 256 w tp x2).bind fun w_1 =>
  (stI 256 w_1 (tp + (1 : Int32)) (sr + (1 : Int32))).bind fun w_2 =>
  (stI 8 r x1 tp).bind fun r_3 =>
  (stI 128 st cn tp).bind fun st_4 =>
  some (sr + (1 : Int32), w_2, r_3, st_4, tp + ((2 : Int32) + x2), cn + (1 : Int32), sr + (1 : Int32))
def fX0_reach (rc : Nat → Int32) (na : Nat → Int32) (rh : Int32) (x1 : Int32) : Option ((Nat → Int32) × (Nat → Int32) × Int32) :=
  if x1 = (-1 : Int32) then
    some (rc, na, rh)
  else
    (ldI 256 na x1).bind fun v2 =>
    if v2 = (-1 : Int32) then
      (stI 256 na x1 x1).bind fun na_4 =>
      (stI 128 rc rh x1).bind fun rc_5 =>
      some (rc_5, na_4, rh + (1 : Int32))
    else
      some (rc, na, rh)
def fX0_reachFrom_L8 (x1_ : Int32) (x2_ : Int32) (w : Nat → Int32) : Nat → Int32 → (Nat → Int32) → (Nat → Int32) → Int32 → Option (Int32 × (Nat → Int32) × (Nat → Int32) × Int32)
  | 0, _, _, _, _ => none
  | n + 1, x3_, rc, na, rh =>
    if x2_ ≤ x3_ then
      some (x3_, rc, na, rh)
    else
      (fX0_fieldKind w x1_ x3_).bind fun v3 =>
      if v3 = (1 : Int32) then
        (fX0_fieldAddress x1_ x3_).bind fun v5 =>
        (ldI 256 w v5).bind fun v6 =>
        (fX0_reach rc na rh v6).bind fun (rc_7, na_8, rh_9) =>
        fX0_reachFrom_L8 x1_ x2_ w n (x3_ + (1 : Int32)) rc_7 na_8 rh_9
      else
        fX0_reachFrom_L8 x1_ x2_ w n (x3_ + (1 : Int32)) rc na rh
theorem fX0_reachFrom_L8_s (x1_ : Int32) (x2_ : Int32) (w : Nat → Int32) (n : Nat) (x3_ : Int32) (rc : Nat → Int32) (na : Nat → Int32) (rh : Int32) : fX0_reachFrom_L8 x1_ x2_ w (n + 1) x3_ rc na rh = (
    if x2_ ≤ x3_ then
      some (x3_, rc, na, rh)
    else
      (fX0_fieldKind w x1_ x3_).bind fun v3 =>
      if v3 = (1 : Int32) then
        (fX0_fieldAddress x1_ x3_).bind fun v5 =>
        (ldI 256 w v5).bind fun v6 =>
        (fX0_reach rc na rh v6).bind fun (rc_7, na_8, rh_9) =>
        fX0_reachFrom_L8 x1_ x2_ w n (x3_ + (1 : Int32)) rc_7 na_8 rh_9
      else
        fX0_reachFrom_L8 x1_ x2_ w n (x3_ + (1 : Int32)) rc na rh) := rfl
def fX0_reachFrom (w : Nat → Int32) (rc : Nat → Int32) (na : Nat → Int32) (rh : Int32) (x1 : Int32) : Option ((Nat → Int32) × (Nat → Int32) × Int32) :=
  (fX0_fieldCount w x1).bind fun v1 =>
  (fX0_reachFrom_L8 x1 v1 w FU (0 : Int32) rc na rh).bind fun (x_10, rc_11, na_12, rh_13) =>
  some (rc_11, na_12, rh_13)
def fX0_findAlive_L15 (r : Nat → Int32) : Nat → Int32 → (Nat → Int32) → (Nat → Int32) → Int32 → Option (Int32 × (Nat → Int32) × (Nat → Int32) × Int32)
  | 0, _, _, _, _ => none
  | n + 1, x1_, rc, na, rh =>
    if (8 : Int32) ≤ x1_ then
      some (x1_, rc, na, rh)
    else
      (ldI 8 r x1_).bind fun v3 =>
      (fX0_reach rc na rh v3).bind fun (rc_4, na_5, rh_6) =>
      fX0_findAlive_L15 r n (x1_ + (1 : Int32)) rc_4 na_5 rh_6
theorem fX0_findAlive_L15_s (r : Nat → Int32) (n : Nat) (x1_ : Int32) (rc : Nat → Int32) (na : Nat → Int32) (rh : Int32) : fX0_findAlive_L15 r (n + 1) x1_ rc na rh = (
    if (8 : Int32) ≤ x1_ then
      some (x1_, rc, na, rh)
    else
      (ldI 8 r x1_).bind fun v3 =>
      (fX0_reach rc na rh v3).bind fun (rc_4, na_5, rh_6) =>
      fX0_findAlive_L15 r n (x1_ + (1 : Int32)) rc_4 na_5 rh_6) := rfl
def fX0_findAlive_L39 (w : Nat → Int32) : Nat → Int32 → (Nat → Int32) → (Nat → Int32) → Int32 → Option (Int32 × (Nat → Int32) × (Nat → Int32) × Int32)
  | 0, _, _, _, _ => none
  | n + 1, x1_, rc, na, rh =>
    if rh ≤ x1_ then
      some (x1_, rc, na, rh)
    else
      if (128 : Int32) ≤ x1_ then
        some (x1_, rc, na, rh)
      else
        (ldI 128 rc x1_).bind fun v13 =>
        (fX0_reachFrom w rc na rh v13).bind fun (rc_14, na_15, rh_16) =>
        fX0_findAlive_L39 w n (x1_ + (1 : Int32)) rc_14 na_15 rh_16
theorem fX0_findAlive_L39_s (w : Nat → Int32) (n : Nat) (x1_ : Int32) (rc : Nat → Int32) (na : Nat → Int32) (rh : Int32) : fX0_findAlive_L39 w (n + 1) x1_ rc na rh = (
    if rh ≤ x1_ then
      some (x1_, rc, na, rh)
    else
      if (128 : Int32) ≤ x1_ then
        some (x1_, rc, na, rh)
      else
        (ldI 128 rc x1_).bind fun v13 =>
        (fX0_reachFrom w rc na rh v13).bind fun (rc_14, na_15, rh_16) =>
        fX0_findAlive_L39 w n (x1_ + (1 : Int32)) rc_14 na_15 rh_16) := rfl
def fX0_findAlive (w : Nat → Int32) (r : Nat → Int32) (rc : Nat → Int32) (na : Nat → Int32) (rh : Int32) : Option ((Nat → Int32) × (Nat → Int32) × Int32) :=
  (fXA_fill 256 na (-1 : Int32)).bind fun na_1 =>
  (fX0_findAlive_L15 r FU (0 : Int32) rc na_1 (0 : Int32)).bind fun (x_7, rc_8, na_9, rh_10) =>
  (fX0_findAlive_L39 w FU (0 : Int32) rc_8 na_9 rh_10).bind fun (x_17, rc_18, na_19, rh_20) =>
  some (rc_18, na_19, rh_20)
def fX0_addressAfterMove (na : Nat → Int32) (x1 : Int32) : Option (Int32) :=
  if x1 = (-1 : Int32) then
    some (-1 : Int32)
  else
    (ldI 256 na x1).bind fun v2 =>
    some v2
def fX0_isOneSize_L2 (w : Nat → Int32) (st : Nat → Int32) (cn : Int32) : Nat → Int32 → Option (Nat × Int32 × Int32)
  | 0, _ => none
  | n + 1, x1_ =>
    if cn ≤ x1_ then
      some (0, x1_, 0)
    else
      (ldI 128 st x1_).bind fun v2 =>
      (fX0_fieldCount w v2).bind fun v3 =>
      (ldI 128 st (0 : Int32)).bind fun v4 =>
      (fX0_fieldCount w v4).bind fun v5 =>
      if v3 = v5 then
        fX0_isOneSize_L2 w st cn n (x1_ + (1 : Int32))
      else
        some (1, x1_, (0 : Int32))
theorem fX0_isOneSize_L2_s (w : Nat → Int32) (st : Nat → Int32) (cn : Int32) (n : Nat) (x1_ : Int32) : fX0_isOneSize_L2 w st cn (n + 1) x1_ = (
    if cn ≤ x1_ then
      some (0, x1_, 0)
    else
      (ldI 128 st x1_).bind fun v2 =>
      (fX0_fieldCount w v2).bind fun v3 =>
      (ldI 128 st (0 : Int32)).bind fun v4 =>
      (fX0_fieldCount w v4).bind fun v5 =>
      if v3 = v5 then
        fX0_isOneSize_L2 w st cn n (x1_ + (1 : Int32))
      else
        some (1, x1_, (0 : Int32))) := rfl
def fX0_isOneSize (w : Nat → Int32) (st : Nat → Int32) (cn : Int32) : Option (Int32) :=
  (fX0_isOneSize_L2 w st cn FU (1 : Int32)).bind fun (t8, x_7, y9) =>
  if t8 = 0 then
    some (1 : Int32)
  else
    (rtZ y9).bind fun z10 =>
    some z10
def fX0_planSlide_L4 (w : Nat → Int32) (st : Nat → Int32) (cn : Int32) : Nat → Int32 → Int32 → (Nat → Int32) → Option (Int32 × Int32 × (Nat → Int32))
  | 0, _, _, _ => none
  | n + 1, x1_, x2_, na =>
    if cn ≤ x2_ then
      some (x1_, x2_, na)
    else
      (ldI 128 st x2_).bind fun v2 =>
      (ldI 256 na v2).bind fun v3 =>
      if v3 = (-1 : Int32) then
        fX0_planSlide_L4 w st cn n x1_ (x2_ + (1 : Int32)) na
      else
        (stI 256 na v2 x1_).bind fun na_5 =>
        (fX0_sizeOf w v2).bind fun v6 =>
        fX0_planSlide_L4 w st cn n (x1_ + v6) (x2_ + (1 : Int32)) na_5
theorem fX0_planSlide_L4_s (w : Nat → Int32) (st : Nat → Int32) (cn : Int32) (n : Nat) (x1_ : Int32) (x2_ : Int32) (na : Nat → Int32) : fX0_planSlide_L4 w st cn (n + 1) x1_ x2_ na = (
    if cn ≤ x2_ then
      some (x1_, x2_, na)
    else
      (ldI 128 st x2_).bind fun v2 =>
      (ldI 256 na v2).bind fun v3 =>
      if v3 = (-1 : Int32) then
        fX0_planSlide_L4 w st cn n x1_ (x2_ + (1 : Int32)) na
      else
        (stI 256 na v2 x1_).bind fun na_5 =>
        (fX0_sizeOf w v2).bind fun v6 =>
        fX0_planSlide_L4 w st cn n (x1_ + v6) (x2_ + (1 : Int32)) na_5) := rfl
def fX0_planSlide (w : Nat → Int32) (st : Nat → Int32) (na : Nat → Int32) (cn : Int32) : Option ((Nat → Int32)) :=
  (fX0_planSlide_L4 w st cn FU (0 : Int32) (0 : Int32) na).bind fun (x_7, x_8, na_9) =>
  some na_9
def fX0_planTwoFingers_L9 (st : Nat → Int32) : Nat → Int32 → Int32 → (Nat → Int32) → Option (Int32 × Int32 × (Nat → Int32))
  | 0, _, _, _ => none
  | n + 1, x1_, x2_, na =>
    if x2_ ≤ x1_ then
      some (x1_, x2_, na)
    else
      (ldI 128 st x1_).bind fun v2 =>
      (ldI 256 na v2).bind fun v3 =>
      if v3 = (-1 : Int32) then
        (ldI 128 st x2_).bind fun v5 =>
        (ldI 256 na v5).bind fun v6 =>
        if v6 = (-1 : Int32) then
          fX0_planTwoFingers_L9 st n x1_ (x2_ + (-1 : Int32)) na
        else
          (ldI 128 st x2_).bind fun v8 =>
          (ldI 128 st x1_).bind fun v9 =>
          (stI 256 na v8 v9).bind fun na_10 =>
          fX0_planTwoFingers_L9 st n (x1_ + (1 : Int32)) (x2_ + (-1 : Int32)) na_10
      else
        fX0_planTwoFingers_L9 st n (x1_ + (1 : Int32)) x2_ na
theorem fX0_planTwoFingers_L9_s (st : Nat → Int32) (n : Nat) (x1_ : Int32) (x2_ : Int32) (na : Nat → Int32) : fX0_planTwoFingers_L9 st (n + 1) x1_ x2_ na = (
    if x2_ ≤ x1_ then
      some (x1_, x2_, na)
    else
      (ldI 128 st x1_).bind fun v2 =>
      (ldI 256 na v2).bind fun v3 =>
      if v3 = (-1 : Int32) then
        (ldI 128 st x2_).bind fun v5 =>
        (ldI 256 na v5).bind fun v6 =>
        if v6 = (-1 : Int32) then
          fX0_planTwoFingers_L9 st n x1_ (x2_ + (-1 : Int32)) na
        else
          (ldI 128 st x2_).bind fun v8 =>
          (ldI 128 st x1_).bind fun v9 =>
          (stI 256 na v8 v9).bind fun na_10 =>
          fX0_planTwoFingers_L9 st n (x1_ + (1 : Int32)) (x2_ + (-1 : Int32)) na_10
      else
        fX0_planTwoFingers_L9 st n (x1_ + (1 : Int32)) x2_ na) := rfl
def fX0_planTwoFingers (st : Nat → Int32) (na : Nat → Int32) (cn : Int32) : Option ((Nat → Int32)) :=
  (fX0_planTwoFingers_L9 st FU (0 : Int32) (cn - (1 : Int32)) na).bind fun (x_11, x_12, na_13) =>
  some na_13
def fX0_redirectRoots_L2 (na : Nat → Int32) : Nat → Int32 → (Nat → Int32) → Option (Int32 × (Nat → Int32))
  | 0, _, _ => none
  | n + 1, x1_, r =>
    if (8 : Int32) ≤ x1_ then
      some (x1_, r)
    else
      (ldI 8 r x1_).bind fun v2 =>
      (fX0_addressAfterMove na v2).bind fun v3 =>
      (stI 8 r x1_ v3).bind fun r_4 =>
      fX0_redirectRoots_L2 na n (x1_ + (1 : Int32)) r_4
theorem fX0_redirectRoots_L2_s (na : Nat → Int32) (n : Nat) (x1_ : Int32) (r : Nat → Int32) : fX0_redirectRoots_L2 na (n + 1) x1_ r = (
    if (8 : Int32) ≤ x1_ then
      some (x1_, r)
    else
      (ldI 8 r x1_).bind fun v2 =>
      (fX0_addressAfterMove na v2).bind fun v3 =>
      (stI 8 r x1_ v3).bind fun r_4 =>
      fX0_redirectRoots_L2 na n (x1_ + (1 : Int32)) r_4) := rfl
def fX0_redirectRoots (r : Nat → Int32) (na : Nat → Int32) : Option ((Nat → Int32)) :=
  (fX0_redirectRoots_L2 na FU (0 : Int32) r).bind fun (x_5, r_6) =>
  some r_6
def fX0_redirectFields_L8 (x1_ : Int32) (x2_ : Int32) (na : Nat → Int32) : Nat → Int32 → (Nat → Int32) → Option (Int32 × (Nat → Int32))
  | 0, _, _ => none
  | n + 1, x3_, w =>
    if x2_ ≤ x3_ then
      some (x3_, w)
    else
      (fX0_fieldKind w x1_ x3_).bind fun v3 =>
      if v3 = (0 : Int32) then
        fX0_redirectFields_L8 x1_ x2_ na n (x3_ + (1 : Int32)) w
      else
        (fX0_fieldAddress x1_ x3_).bind fun v5 =>
        (ldI 256 w v5).bind fun v6 =>
        (fX0_addressAfterMove na v6).bind fun v7 =>
        (stI 256 w v5 v7).bind fun w_8 =>
        fX0_redirectFields_L8 x1_ x2_ na n (x3_ + (1 : Int32)) w_8
theorem fX0_redirectFields_L8_s (x1_ : Int32) (x2_ : Int32) (na : Nat → Int32) (n : Nat) (x3_ : Int32) (w : Nat → Int32) : fX0_redirectFields_L8 x1_ x2_ na (n + 1) x3_ w = (
    if x2_ ≤ x3_ then
      some (x3_, w)
    else
      (fX0_fieldKind w x1_ x3_).bind fun v3 =>
      if v3 = (0 : Int32) then
        fX0_redirectFields_L8 x1_ x2_ na n (x3_ + (1 : Int32)) w
      else
        (fX0_fieldAddress x1_ x3_).bind fun v5 =>
        (ldI 256 w v5).bind fun v6 =>
        (fX0_addressAfterMove na v6).bind fun v7 =>
        (stI 256 w v5 v7).bind fun w_8 =>
        fX0_redirectFields_L8 x1_ x2_ na n (x3_ + (1 : Int32)) w_8) := rfl
def fX0_redirectFields (w : Nat → Int32) (na : Nat → Int32) (x1 : Int32) : Option ((Nat → Int32)) :=
  (fX0_fieldCount w x1).bind fun v1 =>
  (fX0_redirectFields_L8 x1 v1 na FU (0 : Int32) w).bind fun (x_9, w_10) =>
  some w_10
def fX0_moveObjects_L2 (st : Nat → Int32) (na : Nat → Int32) (cn : Int32) : Nat → Int32 → (Nat → Int32) → Option (Int32 × (Nat → Int32))
  | 0, _, _ => none
  | n + 1, x1_, w =>
    if cn ≤ x1_ then
      some (x1_, w)
    else
      (ldI 128 st x1_).bind fun v2 =>
      (ldI 256 na v2).bind fun v3 =>
      if v3 = (-1 : Int32) then
        fX0_moveObjects_L2 st na cn n (x1_ + (1 : Int32)) w
      else
        (ldI 256 na v2).bind fun v5 =>
        (fX0_sizeOf w v2).bind fun v6 =>
        (cpI 256 w v2 v5 v6).bind fun w_7 =>
        fX0_moveObjects_L2 st na cn n (x1_ + (1 : Int32)) w_7
theorem fX0_moveObjects_L2_s (st : Nat → Int32) (na : Nat → Int32) (cn : Int32) (n : Nat) (x1_ : Int32) (w : Nat → Int32) : fX0_moveObjects_L2 st na cn (n + 1) x1_ w = (
    if cn ≤ x1_ then
      some (x1_, w)
    else
      (ldI 128 st x1_).bind fun v2 =>
      (ldI 256 na v2).bind fun v3 =>
      if v3 = (-1 : Int32) then
        fX0_moveObjects_L2 st na cn n (x1_ + (1 : Int32)) w
      else
        (ldI 256 na v2).bind fun v5 =>
        (fX0_sizeOf w v2).bind fun v6 =>
        (cpI 256 w v2 v5 v6).bind fun w_7 =>
        fX0_moveObjects_L2 st na cn n (x1_ + (1 : Int32)) w_7) := rfl
def fX0_moveObjects (w : Nat → Int32) (st : Nat → Int32) (na : Nat → Int32) (cn : Int32) : Option ((Nat → Int32)) :=
  (fX0_moveObjects_L2 st na cn FU (0 : Int32) w).bind fun (x_8, w_9) =>
  some w_9
def fX0_listObjects_L4 (w : Nat → Int32) (rh : Int32) : Nat → Int32 → Int32 → (Nat → Int32) → Option (Int32 × Int32 × (Nat → Int32))
  | 0, _, _, _ => none
  | n + 1, x1_, x2_, st =>
    if rh ≤ x2_ then
      some (x1_, x2_, st)
    else
      (stI 128 st x2_ x1_).bind fun st_2 =>
      (fX0_sizeOf w x1_).bind fun v3 =>
      fX0_listObjects_L4 w rh n (x1_ + v3) (x2_ + (1 : Int32)) st_2
theorem fX0_listObjects_L4_s (w : Nat → Int32) (rh : Int32) (n : Nat) (x1_ : Int32) (x2_ : Int32) (st : Nat → Int32) : fX0_listObjects_L4 w rh (n + 1) x1_ x2_ st = (
    if rh ≤ x2_ then
      some (x1_, x2_, st)
    else
      (stI 128 st x2_ x1_).bind fun st_2 =>
      (fX0_sizeOf w x1_).bind fun v3 =>
      fX0_listObjects_L4 w rh n (x1_ + v3) (x2_ + (1 : Int32)) st_2) := rfl
def fX0_listObjects (w : Nat → Int32) (st : Nat → Int32) (tp : Int32) (cn : Int32) (rh : Int32) : Option ((Nat → Int32) × (Nat → Int32) × Int32 × Int32) :=
  (fX0_listObjects_L4 w rh FU (0 : Int32) (0 : Int32) st).bind fun (x_4, x_5, st_6) =>
  (fXB_fill 256 w x_4 tp (0 : Int32)).bind fun w_7 =>
  some (w_7, st_6, x_4, rh)
def fX0_moveTogether_L26 (rc : Nat → Int32) (na : Nat → Int32) (rh : Int32) : Nat → Int32 → (Nat → Int32) → Option (Int32 × (Nat → Int32))
  | 0, _, _ => none
  | n + 1, x2_, w =>
    if rh ≤ x2_ then
      some (x2_, w)
    else
      (ldI 128 rc x2_).bind fun v8 =>
      (fX0_redirectFields w na v8).bind fun w_9 =>
      fX0_moveTogether_L26 rc na rh n (x2_ + (1 : Int32)) w_9
theorem fX0_moveTogether_L26_s (rc : Nat → Int32) (na : Nat → Int32) (rh : Int32) (n : Nat) (x2_ : Int32) (w : Nat → Int32) : fX0_moveTogether_L26 rc na rh (n + 1) x2_ w = (
    if rh ≤ x2_ then
      some (x2_, w)
    else
      (ldI 128 rc x2_).bind fun v8 =>
      (fX0_redirectFields w na v8).bind fun w_9 =>
      fX0_moveTogether_L26 rc na rh n (x2_ + (1 : Int32)) w_9) := rfl
def fX0_moveTogether (w : Nat → Int32) (r : Nat → Int32) (st : Nat → Int32) (rc : Nat → Int32) (na : Nat → Int32) (tp : Int32) (cn : Int32) (rh : Int32) (x1 : Int32) : Option ((Nat → Int32) × (Nat → Int32) × (Nat → Int32) × (Nat → Int32) × (Nat → Int32) × Int32 × Int32 × Int32) :=
  (fX0_findAlive w r rc na rh ).bind fun (rc_1, na_2, rh_3) =>
  if x1 = (1 : Int32) then
    (fX0_planTwoFingers st na_2 cn ).bind fun na_17 =>
    (fX0_redirectRoots r na_17 ).bind fun r_18 =>
    (fX0_moveTogether_L26 rc_1 na_17 rh_3 FU (0 : Int32) w).bind fun (x_19, w_20) =>
    (fX0_moveObjects w_20 st na_17 cn ).bind fun w_21 =>
    (fX0_listObjects w_21 st tp cn rh_3 ).bind fun (w_22, st_23, tp_24, cn_25) =>
    some (w_22, r_18, st_23, rc_1, na_17, tp_24, cn_25, rh_3)
  else
    (fX0_planSlide w st na_2 cn ).bind fun na_5 =>
    (fX0_redirectRoots r na_5 ).bind fun r_6 =>
    (fX0_moveTogether_L26 rc_1 na_5 rh_3 FU (0 : Int32) w).bind fun (x_10, w_11) =>
    (fX0_moveObjects w_11 st na_5 cn ).bind fun w_12 =>
    (fX0_listObjects w_12 st tp cn rh_3 ).bind fun (w_13, st_14, tp_15, cn_16) =>
    some (w_13, r_6, st_14, rc_1, na_5, tp_15, cn_16, rh_3)
def fX0_requireRoom (tp : Int32) (x1 : Int32) : Option (Nat) :=
  (fX0_hasRoom tp x1).bind fun v1 =>
  if v1 = (0 : Int32) then
    some 3
  else
    some 0
def fX0_requireSizesFor (w : Nat → Int32) (st : Nat → Int32) (cn : Int32) (x1 : Int32) : Option (Nat) :=
  if x1 = (1 : Int32) then
    (fX0_isOneSize w st cn ).bind fun v2 =>
    if v2 = (0 : Int32) then
      some 4
    else
      some 0
  else
    some 0
def fX0_requireObjectWithField (w : Nat → Int32) (r : Nat → Int32) (x1 : Int32) (x2 : Int32) : Option (Nat) :=
  (ldI 8 r x1).bind fun v1 =>
  if v1 = (-1 : Int32) then
    some 5
  else
    if x2 < (0 : Int32) then
      some 1
    else
      (ldI 8 r x1).bind fun v4 =>
      (fX0_fieldCount w v4).bind fun v5 =>
      if x2 < v5 then
        some 0
      else
        some 1
def fX0_requireReference (w : Nat → Int32) (x1 : Int32) (x2 : Int32) : Option (Nat) :=
  (fX0_fieldKind w x1 x2).bind fun v1 =>
  if v1 = (0 : Int32) then
    some 3
  else
    some 0
def fX0_allocate (w : Nat → Int32) (r : Nat → Int32) (st : Nat → Int32) (tp : Int32) (cn : Int32) (sr : Int32) (x1 : Int32) (x2 : Int32) : Option (Nat × Int32 × (Nat → Int32) × (Nat → Int32) × (Nat → Int32) × Int32 × Int32 × Int32) :=
  (fX0_requireRoot x1).bind fun e1 =>
  if e1 = 0 then
    (fX0_requireFieldCount x2).bind fun e2 =>
    if e2 = 0 then
      (fX0_requireRoom tp x2).bind fun e3 =>
      if e3 = 0 then
        (fX0_makeObject w r st tp cn sr x1 x2).bind fun (v4, w_5, r_6, st_7, tp_8, cn_9, sr_10) =>
        some (0, v4, w_5, r_6, st_7, tp_8, cn_9, sr_10)
      else
        some (e3, 0, w, r, st, tp, cn, sr)
    else
      some (e2, 0, w, r, st, tp, cn, sr)
  else
    some (e1, 0, w, r, st, tp, cn, sr)
def fX0_claim (w : Nat → Int32) (r : Nat → Int32) (st : Nat → Int32) (rc : Nat → Int32) (na : Nat → Int32) (tp : Int32) (cn : Int32) (rh : Int32) (sr : Int32) (x1 : Int32) (x2 : Int32) (x3 : Int32) : Option (Nat × Int32 × (Nat → Int32) × (Nat → Int32) × (Nat → Int32) × (Nat → Int32) × (Nat → Int32) × Int32 × Int32 × Int32 × Int32) :=
  (fX0_requireRoot x1).bind fun e1 =>
  if e1 = 0 then
    (fX0_requireFieldCount x2).bind fun e2 =>
    if e2 = 0 then
      (fX0_requireWay x3).bind fun e3 =>
      if e3 = 0 then
        (fX0_hasRoom tp x2).bind fun v4 =>
        if v4 = (0 : Int32) then
          (fX0_requireSizesFor w st cn x3).bind fun e13 =>
          if e13 = 0 then
            (fX0_moveTogether w r st rc na tp cn rh x3).bind fun (w_14, r_15, st_16, rc_17, na_18, tp_19, cn_20, rh_21) =>
            (fX0_requireRoom tp_19 x2).bind fun e22 =>
            if e22 = 0 then
              (fX0_makeObject w_14 r_15 st_16 tp_19 cn_20 sr x1 x2).bind fun (v23, w_24, r_25, st_26, tp_27, cn_28, sr_29) =>
              some (0, v23, w_24, r_25, st_26, rc_17, na_18, tp_27, cn_28, rh_21, sr_29)
            else
              some (e22, 0, w_14, r_15, st_16, rc_17, na_18, tp_19, cn_20, rh_21, sr)
          else
            some (e13, 0, w, r, st, rc, na, tp, cn, rh, sr)
        else
          (fX0_makeObject w r st tp cn sr x1 x2).bind fun (v6, w_7, r_8, st_9, tp_10, cn_11, sr_12) =>
          some (0, v6, w_7, r_8, st_9, rc, na, tp_10, cn_11, rh, sr_12)
      else
        some (e3, 0, w, r, st, rc, na, tp, cn, rh, sr)
    else
      some (e2, 0, w, r, st, rc, na, tp, cn, rh, sr)
  else
    some (e1, 0, w, r, st, rc, na, tp, cn, rh, sr)
def fX0_compact (w : Nat → Int32) (r : Nat → Int32) (st : Nat → Int32) (rc : Nat → Int32) (na : Nat → Int32) (tp : Int32) (cn : Int32) (rh : Int32) (x1 : Int32) : Option (Nat × Int32 × (Nat → Int32) × (Nat → Int32) × (Nat → Int32) × (Nat → Int32) × (Nat → Int32) × Int32 × Int32 × Int32) :=
  (fX0_requireWay x1).bind fun e1 =>
  if e1 = 0 then
    (fX0_requireSizesFor w st cn x1).bind fun e2 =>
    if e2 = 0 then
      (fX0_moveTogether w r st rc na tp cn rh x1).bind fun (w_3, r_4, st_5, rc_6, na_7, tp_8, cn_9, rh_10) =>
      some (0, tp - tp_8, w_3, r_4, st_5, rc_6, na_7, tp_8, cn_9, rh_10)
    else
      some (e2, 0, w, r, st, rc, na, tp, cn, rh)
  else
    some (e1, 0, w, r, st, rc, na, tp, cn, rh)
def fX0_copy (r : Nat → Int32) (x1 : Int32) (x2 : Int32) : Option (Nat × (Nat → Int32)) :=
  (fX0_requireRoot x1).bind fun e1 =>
  if e1 = 0 then
    (fX0_requireRoot x2).bind fun e2 =>
    if e2 = 0 then
      (ldI 8 r x2).bind fun v3 =>
      (stI 8 r x1 v3).bind fun r_4 =>
      some (0, r_4)
    else
      some (e2, r)
  else
    some (e1, r)
def fX0_clear (r : Nat → Int32) (x1 : Int32) : Option (Nat × (Nat → Int32)) :=
  (fX0_requireRoot x1).bind fun e1 =>
  if e1 = 0 then
    (stI 8 r x1 (-1 : Int32)).bind fun r_2 =>
    some (0, r_2)
  else
    some (e1, r)
def fX0_put (w : Nat → Int32) (r : Nat → Int32) (x1 : Int32) (x2 : Int32) (x3 : Int32) : Option (Nat × (Nat → Int32)) :=
  (fX0_requireRoot x1).bind fun e1 =>
  if e1 = 0 then
    (fX0_requireObjectWithField w r x1 x2).bind fun e2 =>
    if e2 = 0 then
      (ldI 8 r x1).bind fun v3 =>
      (fX0_setField w v3 x2 (0 : Int32) x3).bind fun w_4 =>
      some (0, w_4)
    else
      some (e2, w)
  else
    some (e1, w)
def fX0_refer (w : Nat → Int32) (r : Nat → Int32) (x1 : Int32) (x2 : Int32) (x3 : Int32) (x4 : Int32) : Option (Nat × (Nat → Int32)) :=
  (fX0_requireRoot x1).bind fun e1 =>
  if e1 = 0 then
    (fX0_requireRoot x3).bind fun e2 =>
    if e2 = 0 then
      (fX0_requireObjectWithField w r x1 x2).bind fun e3 =>
      if e3 = 0 then
        (ldI 8 r x1).bind fun v4 =>
        if x4 = (0 : Int32) then
          (ldI 8 r x3).bind fun v6 =>
          (fX0_setField w v4 x2 (1 : Int32) v6).bind fun w_7 =>
          some (0, w_7)
        else
          (ldI 8 r x3).bind fun v8 =>
          (fX0_setField w v4 x2 (2 : Int32) v8).bind fun w_9 =>
          some (0, w_9)
      else
        some (e3, w)
    else
      some (e2, w)
  else
    some (e1, w)
def fX0_follow (w : Nat → Int32) (r : Nat → Int32) (x1 : Int32) (x2 : Int32) (x3 : Int32) : Option (Nat × Int32 × (Nat → Int32)) :=
  (fX0_requireRoot x1).bind fun e1 =>
  if e1 = 0 then
    (fX0_requireRoot x3).bind fun e2 =>
    if e2 = 0 then
      (fX0_requireObjectWithField w r x1 x2).bind fun e3 =>
      if e3 = 0 then
        (ldI 8 r x1).bind fun v4 =>
        (fX0_requireReference w v4 x2).bind fun e5 =>
        if e5 = 0 then
          (ldI 8 r x1).bind fun v6 =>
          (fX0_fieldAddress v6 x2).bind fun v7 =>
          (ldI 256 w v7).bind fun v8 =>
          (stI 8 r x3 v8).bind fun r_9 =>
          (ldI 8 r_9 x3).bind fun v10 =>
          if v10 = (-1 : Int32) then
            some (0, (0 : Int32), r_9)
          else
            some (0, (1 : Int32), r_9)
        else
          some (e5, 0, r)
      else
        some (e3, 0, r)
    else
      some (e2, 0, r)
  else
    some (e1, 0, r)
def fX0_kind (w : Nat → Int32) (r : Nat → Int32) (x1 : Int32) (x2 : Int32) : Option (Nat × Int32) :=
  (fX0_requireRoot x1).bind fun e1 =>
  if e1 = 0 then
    (fX0_requireObjectWithField w r x1 x2).bind fun e2 =>
    if e2 = 0 then
      (ldI 8 r x1).bind fun v3 =>
      (fX0_fieldKind w v3 x2).bind fun v4 =>
      some (0, v4)
    else
      some (e2, 0)
  else
    some (e1, 0)
def fX0_serial (w : Nat → Int32) (r : Nat → Int32) (x1 : Int32) : Option (Nat × Int32) :=
  (fX0_requireRoot x1).bind fun e1 =>
  if e1 = 0 then
    (ldI 8 r x1).bind fun v2 =>
    if v2 = (-1 : Int32) then
      some (0, (-1 : Int32))
    else
      (ldI 8 r x1).bind fun v4 =>
      (ldI 256 w (v4 + (1 : Int32))).bind fun v5 =>
      some (0, v5)
  else
    some (e1, 0)
def fX0_address (r : Nat → Int32) (x1 : Int32) : Option (Nat × Int32) :=
  (fX0_requireRoot x1).bind fun e1 =>
  if e1 = 0 then
    (ldI 8 r x1).bind fun v2 =>
    some (0, v2)
  else
    some (e1, 0)
def fX0_word (w : Nat → Int32) (x1 : Int32) : Option (Nat × Int32) :=
  if x1 < (0 : Int32) then
    some (1, 0)
  else
    if x1 < (256 : Int32) then
      (ldI 256 w x1).bind fun v3 =>
      some (0, v3)
    else
      some (1, 0)
def fX0_top (tp : Int32) : Option (Int32) :=
  some tp
def fX0_objects (cn : Int32) : Option (Int32) :=
  some cn
def fX0_alive (w : Nat → Int32) (r : Nat → Int32) (rc : Nat → Int32) (na : Nat → Int32) (rh : Int32) : Option (Int32 × (Nat → Int32) × (Nat → Int32) × Int32) :=
  (fX0_findAlive w r rc na rh ).bind fun (rc_1, na_2, rh_3) =>
  some (rh_3, rc_1, na_2, rh_3)
def fX1_thrown (th : Int32) : Option (Int32) :=
  some th
def fX1_topNow_L4 (fi : Nat → Int32) (ct : Int32) (od : Nat → Int32) : Nat → Int32 → Int32 → Option (Int32 × Int32)
  | 0, _, _ => none
  | n + 1, x1_, x2_ =>
    if ct ≤ x2_ then
      some (x1_, x2_)
    else
      (ldI 128 od x2_).bind fun v2 =>
      (ldI 128 fi v2).bind fun v3 =>
      fX1_topNow_L4 fi ct od n ((x1_ + v3) + (2 : Int32)) (x2_ + (1 : Int32))
theorem fX1_topNow_L4_s (fi : Nat → Int32) (ct : Int32) (od : Nat → Int32) (n : Nat) (x1_ : Int32) (x2_ : Int32) : fX1_topNow_L4 fi ct od (n + 1) x1_ x2_ = (
    if ct ≤ x2_ then
      some (x1_, x2_)
    else
      (ldI 128 od x2_).bind fun v2 =>
      (ldI 128 fi v2).bind fun v3 =>
      fX1_topNow_L4 fi ct od n ((x1_ + v3) + (2 : Int32)) (x2_ + (1 : Int32))) := rfl
def fX1_topNow (fi : Nat → Int32) (ct : Int32) (od : Nat → Int32) : Option (Int32) :=
  (fX1_topNow_L4 fi ct od FU (0 : Int32) (0 : Int32)).bind fun (x_4, x_5) =>
  some x_4
def fX1_addressOf_L4 (x1_ : Int32) (fi : Nat → Int32) (ct : Int32) (od : Nat → Int32) : Nat → Int32 → Int32 → Option (Nat × Int32 × Int32 × Int32)
  | 0, _, _ => none
  | n + 1, x2_, x3_ =>
    if ct ≤ x3_ then
      some (0, x2_, x3_, 0)
    else
      (ldI 128 od x3_).bind fun v2 =>
      if v2 = x1_ then
        some (1, x2_, x3_, x2_)
      else
        (ldI 128 od x3_).bind fun v4 =>
        (ldI 128 fi v4).bind fun v5 =>
        fX1_addressOf_L4 x1_ fi ct od n ((x2_ + v5) + (2 : Int32)) (x3_ + (1 : Int32))
theorem fX1_addressOf_L4_s (x1_ : Int32) (fi : Nat → Int32) (ct : Int32) (od : Nat → Int32) (n : Nat) (x2_ : Int32) (x3_ : Int32) : fX1_addressOf_L4 x1_ fi ct od (n + 1) x2_ x3_ = (
    if ct ≤ x3_ then
      some (0, x2_, x3_, 0)
    else
      (ldI 128 od x3_).bind fun v2 =>
      if v2 = x1_ then
        some (1, x2_, x3_, x2_)
      else
        (ldI 128 od x3_).bind fun v4 =>
        (ldI 128 fi v4).bind fun v5 =>
        fX1_addressOf_L4 x1_ fi ct od n ((x2_ + v5) + (2 : Int32)) (x3_ + (1 : Int32))) := rfl
def fX1_addressOf (fi : Nat → Int32) (ct : Int32) (od : Nat → Int32) (x1 : Int32) : Option (Int32) :=
  (fX1_addressOf_L4 x1 fi ct od FU (0 : Int32) (0 : Int32)).bind fun (t8, x_6, x_7, y9) =>
  if t8 = 0 then
    some (-1 : Int32)
  else
    some y9
def fX1_enliven (li : Nat → Int32) (x1 : Int32) : Option (Int32 × (Nat → Int32)) :=
  if x1 < (0 : Int32) then
    some ((0 : Int32), li)
  else
    (ldI 128 li x1).bind fun v2 =>
    if v2 = (0 : Int32) then
      (stZ 128 li x1 (1 : Int32)).bind fun li_4 =>
      some ((1 : Int32), li_4)
    else
      some ((0 : Int32), li)
def fX1_findAlive_L2 : Nat → Int32 → (Nat → Int32) → Option (Int32 × (Nat → Int32))
  | 0, _, _ => none
  | n + 1, x1_, li =>
    if (128 : Int32) ≤ x1_ then
      some (x1_, li)
    else
      (stZ 128 li x1_ (0 : Int32)).bind fun li_2 =>
      fX1_findAlive_L2 n (x1_ + (1 : Int32)) li_2
theorem fX1_findAlive_L2_s (n : Nat) (x1_ : Int32) (li : Nat → Int32) : fX1_findAlive_L2 (n + 1) x1_ li = (
    if (128 : Int32) ≤ x1_ then
      some (x1_, li)
    else
      (stZ 128 li x1_ (0 : Int32)).bind fun li_2 =>
      fX1_findAlive_L2 n (x1_ + (1 : Int32)) li_2) := rfl
def fX1_findAlive_L26 (ro : Nat → Int32) : Nat → Int32 → Int32 → (Nat → Int32) → Option (Int32 × Int32 × (Nat → Int32))
  | 0, _, _, _ => none
  | n + 1, x1_, x2_, li =>
    if (8 : Int32) ≤ x2_ then
      some (x1_, x2_, li)
    else
      (ldI 8 ro x2_).bind fun v6 =>
      (fX1_enliven li v6).bind fun (v7, li_8) =>
      if x1_ = (0 : Int32) then
        if v7 = (0 : Int32) then
          fX1_findAlive_L26 ro n (0 : Int32) (x2_ + (1 : Int32)) li_8
        else
          fX1_findAlive_L26 ro n (1 : Int32) (x2_ + (1 : Int32)) li_8
      else
        fX1_findAlive_L26 ro n (1 : Int32) (x2_ + (1 : Int32)) li_8
theorem fX1_findAlive_L26_s (ro : Nat → Int32) (n : Nat) (x1_ : Int32) (x2_ : Int32) (li : Nat → Int32) : fX1_findAlive_L26 ro (n + 1) x1_ x2_ li = (
    if (8 : Int32) ≤ x2_ then
      some (x1_, x2_, li)
    else
      (ldI 8 ro x2_).bind fun v6 =>
      (fX1_enliven li v6).bind fun (v7, li_8) =>
      if x1_ = (0 : Int32) then
        if v7 = (0 : Int32) then
          fX1_findAlive_L26 ro n (0 : Int32) (x2_ + (1 : Int32)) li_8
        else
          fX1_findAlive_L26 ro n (1 : Int32) (x2_ + (1 : Int32)) li_8
      else
        fX1_findAlive_L26 ro n (1 : Int32) (x2_ + (1 : Int32)) li_8) := rfl
def fX1_findAlive_L80 (x2_ : Int32) (fi : Nat → Int32) (ki : Nat → Int32) (va : Nat → Int32) : Nat → Int32 → Int32 → (Nat → Int32) → Option (Int32 × Int32 × (Nat → Int32))
  | 0, _, _, _ => none
  | n + 1, x1_, x3_, li =>
    (ldI 128 fi x2_).bind fun v16 =>
    if v16 ≤ x3_ then
      some (x1_, x3_, li)
    else
      (ldI 128 li x2_).bind fun v18 =>
      if v18 = (0 : Int32) then
        some (x1_, x3_, li)
      else
        (ldI 768 ki (((6 : Int32) * x2_) + x3_)).bind fun v20 =>
        if v20 = (1 : Int32) then
          (ldI 768 va (((6 : Int32) * x2_) + x3_)).bind fun v23 =>
          (fX1_enliven li v23).bind fun (v24, li_25) =>
          if v24 = (0 : Int32) then
            if x1_ = (0 : Int32) then
              fX1_findAlive_L80 x2_ fi ki va n (0 : Int32) (x3_ + (1 : Int32)) li_25
            else
              fX1_findAlive_L80 x2_ fi ki va n (1 : Int32) (x3_ + (1 : Int32)) li_25
          else
            if x1_ = (0 : Int32) then
              fX1_findAlive_L80 x2_ fi ki va n (1 : Int32) (x3_ + (1 : Int32)) li_25
            else
              fX1_findAlive_L80 x2_ fi ki va n (1 : Int32) (x3_ + (1 : Int32)) li_25
        else
          if x1_ = (0 : Int32) then
            fX1_findAlive_L80 x2_ fi ki va n (0 : Int32) (x3_ + (1 : Int32)) li
          else
            fX1_findAlive_L80 x2_ fi ki va n (1 : Int32) (x3_ + (1 : Int32)) li
theorem fX1_findAlive_L80_s (x2_ : Int32) (fi : Nat → Int32) (ki : Nat → Int32) (va : Nat → Int32) (n : Nat) (x1_ : Int32) (x3_ : Int32) (li : Nat → Int32) : fX1_findAlive_L80 x2_ fi ki va (n + 1) x1_ x3_ li = (
    (ldI 128 fi x2_).bind fun v16 =>
    if v16 ≤ x3_ then
      some (x1_, x3_, li)
    else
      (ldI 128 li x2_).bind fun v18 =>
      if v18 = (0 : Int32) then
        some (x1_, x3_, li)
      else
        (ldI 768 ki (((6 : Int32) * x2_) + x3_)).bind fun v20 =>
        if v20 = (1 : Int32) then
          (ldI 768 va (((6 : Int32) * x2_) + x3_)).bind fun v23 =>
          (fX1_enliven li v23).bind fun (v24, li_25) =>
          if v24 = (0 : Int32) then
            if x1_ = (0 : Int32) then
              fX1_findAlive_L80 x2_ fi ki va n (0 : Int32) (x3_ + (1 : Int32)) li_25
            else
              fX1_findAlive_L80 x2_ fi ki va n (1 : Int32) (x3_ + (1 : Int32)) li_25
          else
            if x1_ = (0 : Int32) then
              fX1_findAlive_L80 x2_ fi ki va n (1 : Int32) (x3_ + (1 : Int32)) li_25
            else
              fX1_findAlive_L80 x2_ fi ki va n (1 : Int32) (x3_ + (1 : Int32)) li_25
        else
          if x1_ = (0 : Int32) then
            fX1_findAlive_L80 x2_ fi ki va n (0 : Int32) (x3_ + (1 : Int32)) li
          else
            fX1_findAlive_L80 x2_ fi ki va n (1 : Int32) (x3_ + (1 : Int32)) li) := rfl
def fX1_findAlive_L71 (fi : Nat → Int32) (ki : Nat → Int32) (va : Nat → Int32) : Nat → Int32 → Int32 → (Nat → Int32) → Option (Int32 × Int32 × (Nat → Int32))
  | 0, _, _, _ => none
  | n + 1, x1_, x2_, li =>
    if (128 : Int32) ≤ x2_ then
      some (x1_, x2_, li)
    else
      (fX1_findAlive_L80 x2_ fi ki va FU x1_ (0 : Int32) li).bind fun (x_29, x_30, li_31) =>
      fX1_findAlive_L71 fi ki va n x_29 (x2_ + (1 : Int32)) li_31
theorem fX1_findAlive_L71_s (fi : Nat → Int32) (ki : Nat → Int32) (va : Nat → Int32) (n : Nat) (x1_ : Int32) (x2_ : Int32) (li : Nat → Int32) : fX1_findAlive_L71 fi ki va (n + 1) x1_ x2_ li = (
    if (128 : Int32) ≤ x2_ then
      some (x1_, x2_, li)
    else
      (fX1_findAlive_L80 x2_ fi ki va FU x1_ (0 : Int32) li).bind fun (x_29, x_30, li_31) =>
      fX1_findAlive_L71 fi ki va n x_29 (x2_ + (1 : Int32)) li_31) := rfl
def fX1_findAlive_L63 (fi : Nat → Int32) (ki : Nat → Int32) (va : Nat → Int32) : Nat → Int32 → Int32 → (Nat → Int32) → Option (Int32 × Int32 × (Nat → Int32))
  | 0, _, _, _ => none
  | n + 1, x1_, x2_, li =>
    if x1_ = (0 : Int32) then
      some (x1_, x2_, li)
    else
      (fX1_findAlive_L71 fi ki va FU (0 : Int32) (0 : Int32) li).bind fun (x_32, x_33, li_34) =>
      fX1_findAlive_L63 fi ki va n x_32 x_33 li_34
theorem fX1_findAlive_L63_s (fi : Nat → Int32) (ki : Nat → Int32) (va : Nat → Int32) (n : Nat) (x1_ : Int32) (x2_ : Int32) (li : Nat → Int32) : fX1_findAlive_L63 fi ki va (n + 1) x1_ x2_ li = (
    if x1_ = (0 : Int32) then
      some (x1_, x2_, li)
    else
      (fX1_findAlive_L71 fi ki va FU (0 : Int32) (0 : Int32) li).bind fun (x_32, x_33, li_34) =>
      fX1_findAlive_L63 fi ki va n x_32 x_33 li_34) := rfl
def fX1_findAlive (fi : Nat → Int32) (ki : Nat → Int32) (va : Nat → Int32) (li : Nat → Int32) (ro : Nat → Int32) : Option ((Nat → Int32)) :=
  (fX1_findAlive_L2 FU (0 : Int32) li).bind fun (x_3, li_4) =>
  (fX1_findAlive_L26 ro FU (0 : Int32) (0 : Int32) li_4).bind fun (x_11, x_12, li_13) =>
  (fX1_findAlive_L63 fi ki va FU x_11 x_12 li_13).bind fun (x_35, x_36, li_37) =>
  some li_37
def fX1_countAlive_L4 (li : Nat → Int32) (ct : Int32) (od : Nat → Int32) : Nat → Int32 → Int32 → Option (Int32 × Int32)
  | 0, _, _ => none
  | n + 1, x1_, x2_ =>
    if ct ≤ x2_ then
      some (x1_, x2_)
    else
      (ldI 128 od x2_).bind fun v2 =>
      (ldI 128 li v2).bind fun v3 =>
      if v3 = (0 : Int32) then
        fX1_countAlive_L4 li ct od n x1_ (x2_ + (1 : Int32))
      else
        fX1_countAlive_L4 li ct od n (x1_ + (1 : Int32)) (x2_ + (1 : Int32))
theorem fX1_countAlive_L4_s (li : Nat → Int32) (ct : Int32) (od : Nat → Int32) (n : Nat) (x1_ : Int32) (x2_ : Int32) : fX1_countAlive_L4 li ct od (n + 1) x1_ x2_ = (
    if ct ≤ x2_ then
      some (x1_, x2_)
    else
      (ldI 128 od x2_).bind fun v2 =>
      (ldI 128 li v2).bind fun v3 =>
      if v3 = (0 : Int32) then
        fX1_countAlive_L4 li ct od n x1_ (x2_ + (1 : Int32))
      else
        fX1_countAlive_L4 li ct od n (x1_ + (1 : Int32)) (x2_ + (1 : Int32))) := rfl
def fX1_countAlive (li : Nat → Int32) (ct : Int32) (od : Nat → Int32) : Option (Int32) :=
  (fX1_countAlive_L4 li ct od FU (0 : Int32) (0 : Int32)).bind fun (x_5, x_6) =>
  some x_5
def fX1_oneSize_L4 (fi : Nat → Int32) (ct : Int32) (od : Nat → Int32) : Nat → Int32 → Int32 → Option (Int32 × Int32)
  | 0, _, _ => none
  | n + 1, x1_, x2_ =>
    if ct ≤ x2_ then
      some (x1_, x2_)
    else
      if x1_ = (0 : Int32) then
        fX1_oneSize_L4 fi ct od n (0 : Int32) (x2_ + (1 : Int32))
      else
        (ldI 128 od x2_).bind fun v3 =>
        (ldI 128 fi v3).bind fun v4 =>
        (ldI 128 od (0 : Int32)).bind fun v5 =>
        (ldI 128 fi v5).bind fun v6 =>
        if v4 = v6 then
          fX1_oneSize_L4 fi ct od n (1 : Int32) (x2_ + (1 : Int32))
        else
          fX1_oneSize_L4 fi ct od n (0 : Int32) (x2_ + (1 : Int32))
theorem fX1_oneSize_L4_s (fi : Nat → Int32) (ct : Int32) (od : Nat → Int32) (n : Nat) (x1_ : Int32) (x2_ : Int32) : fX1_oneSize_L4 fi ct od (n + 1) x1_ x2_ = (
    if ct ≤ x2_ then
      some (x1_, x2_)
    else
      if x1_ = (0 : Int32) then
        fX1_oneSize_L4 fi ct od n (0 : Int32) (x2_ + (1 : Int32))
      else
        (ldI 128 od x2_).bind fun v3 =>
        (ldI 128 fi v3).bind fun v4 =>
        (ldI 128 od (0 : Int32)).bind fun v5 =>
        (ldI 128 fi v5).bind fun v6 =>
        if v4 = v6 then
          fX1_oneSize_L4 fi ct od n (1 : Int32) (x2_ + (1 : Int32))
        else
          fX1_oneSize_L4 fi ct od n (0 : Int32) (x2_ + (1 : Int32))) := rfl
def fX1_oneSize (fi : Nat → Int32) (ct : Int32) (od : Nat → Int32) : Option (Int32) :=
  (fX1_oneSize_L4 fi ct od FU (1 : Int32) (1 : Int32)).bind fun (x_8, x_9) =>
  (rtZ x_8).bind fun z10 =>
  some z10
def fX1_keepOrder_L4 (li : Nat → Int32) (ct : Int32) (od : Nat → Int32) : Nat → Int32 → Int32 → (Nat → Int32) → Option (Int32 × Int32 × (Nat → Int32))
  | 0, _, _, _ => none
  | n + 1, x1_, x2_, ne =>
    if ct ≤ x2_ then
      some (x1_, x2_, ne)
    else
      (ldI 128 od x2_).bind fun v2 =>
      (ldI 128 li v2).bind fun v3 =>
      if v3 = (0 : Int32) then
        fX1_keepOrder_L4 li ct od n x1_ (x2_ + (1 : Int32)) ne
      else
        (ldI 128 od x2_).bind fun v5 =>
        (stI 128 ne x1_ v5).bind fun ne_6 =>
        fX1_keepOrder_L4 li ct od n (x1_ + (1 : Int32)) (x2_ + (1 : Int32)) ne_6
theorem fX1_keepOrder_L4_s (li : Nat → Int32) (ct : Int32) (od : Nat → Int32) (n : Nat) (x1_ : Int32) (x2_ : Int32) (ne : Nat → Int32) : fX1_keepOrder_L4 li ct od (n + 1) x1_ x2_ ne = (
    if ct ≤ x2_ then
      some (x1_, x2_, ne)
    else
      (ldI 128 od x2_).bind fun v2 =>
      (ldI 128 li v2).bind fun v3 =>
      if v3 = (0 : Int32) then
        fX1_keepOrder_L4 li ct od n x1_ (x2_ + (1 : Int32)) ne
      else
        (ldI 128 od x2_).bind fun v5 =>
        (stI 128 ne x1_ v5).bind fun ne_6 =>
        fX1_keepOrder_L4 li ct od n (x1_ + (1 : Int32)) (x2_ + (1 : Int32)) ne_6) := rfl
def fX1_keepOrder (li : Nat → Int32) (ct : Int32) (od : Nat → Int32) (ne : Nat → Int32) : Option ((Nat → Int32)) :=
  (fX1_keepOrder_L4 li ct od FU (0 : Int32) (0 : Int32) ne).bind fun (x_7, x_8, ne_9) =>
  some ne_9
def fX1_fillGaps_L48 (li : Nat → Int32) (od : Nat → Int32) : Nat → Int32 → Option (Int32)
  | 0, _ => none
  | n + 1, x2_ =>
    (ldI 128 od x2_).bind fun v6 =>
    (ldI 128 li v6).bind fun v7 =>
    if v7 = (0 : Int32) then
      fX1_fillGaps_L48 li od n (x2_ + (-1 : Int32))
    else
      some x2_
theorem fX1_fillGaps_L48_s (li : Nat → Int32) (od : Nat → Int32) (n : Nat) (x2_ : Int32) : fX1_fillGaps_L48 li od (n + 1) x2_ = (
    (ldI 128 od x2_).bind fun v6 =>
    (ldI 128 li v6).bind fun v7 =>
    if v7 = (0 : Int32) then
      fX1_fillGaps_L48 li od n (x2_ + (-1 : Int32))
    else
      some x2_) := rfl
def fX1_fillGaps_L14 (x1_ : Int32) (li : Nat → Int32) (od : Nat → Int32) : Nat → Int32 → Int32 → (Nat → Int32) → Option (Int32 × Int32 × (Nat → Int32))
  | 0, _, _, _ => none
  | n + 1, x2_, x3_, ne =>
    if x1_ ≤ x3_ then
      some (x2_, x3_, ne)
    else
      (ldI 128 od x3_).bind fun v3 =>
      (ldI 128 li v3).bind fun v4 =>
      if v4 = (0 : Int32) then
        (fX1_fillGaps_L48 li od FU x2_).bind fun x_9 =>
        (ldI 128 od x_9).bind fun v10 =>
        (stI 128 ne x3_ v10).bind fun ne_11 =>
        fX1_fillGaps_L14 x1_ li od n (x_9 + (-1 : Int32)) (x3_ + (1 : Int32)) ne_11
      else
        (ldI 128 od x3_).bind fun v12 =>
        (stI 128 ne x3_ v12).bind fun ne_13 =>
        fX1_fillGaps_L14 x1_ li od n x2_ (x3_ + (1 : Int32)) ne_13
theorem fX1_fillGaps_L14_s (x1_ : Int32) (li : Nat → Int32) (od : Nat → Int32) (n : Nat) (x2_ : Int32) (x3_ : Int32) (ne : Nat → Int32) : fX1_fillGaps_L14 x1_ li od (n + 1) x2_ x3_ ne = (
    if x1_ ≤ x3_ then
      some (x2_, x3_, ne)
    else
      (ldI 128 od x3_).bind fun v3 =>
      (ldI 128 li v3).bind fun v4 =>
      if v4 = (0 : Int32) then
        (fX1_fillGaps_L48 li od FU x2_).bind fun x_9 =>
        (ldI 128 od x_9).bind fun v10 =>
        (stI 128 ne x3_ v10).bind fun ne_11 =>
        fX1_fillGaps_L14 x1_ li od n (x_9 + (-1 : Int32)) (x3_ + (1 : Int32)) ne_11
      else
        (ldI 128 od x3_).bind fun v12 =>
        (stI 128 ne x3_ v12).bind fun ne_13 =>
        fX1_fillGaps_L14 x1_ li od n x2_ (x3_ + (1 : Int32)) ne_13) := rfl
def fX1_fillGaps (li : Nat → Int32) (ct : Int32) (od : Nat → Int32) (ne : Nat → Int32) : Option ((Nat → Int32)) :=
  (fX1_countAlive li ct od ).bind fun v1 =>
  (fX1_fillGaps_L14 v1 li od FU (ct - (1 : Int32)) (0 : Int32) ne).bind fun (x_14, x_15, ne_16) =>
  some ne_16
def fX1_press_L21 (x3_ : Int32) (us : Nat → Int32) (fi : Nat → Int32) (ki : Nat → Int32) (li : Nat → Int32) : Nat → Int32 → (Nat → Int32) → Option (Int32 × (Nat → Int32))
  | 0, _, _ => none
  | n + 1, x4_, va =>
    (ldI 128 fi x3_).bind fun v4 =>
    if v4 ≤ x4_ then
      some (x4_, va)
    else
      (ldI 128 us x3_).bind fun v6 =>
      if v6 = (0 : Int32) then
        some (x4_, va)
      else
        (ldI 768 ki (((6 : Int32) * x3_) + x4_)).bind fun v8 =>
        if v8 = (2 : Int32) then
          (ldI 768 va (((6 : Int32) * x3_) + x4_)).bind fun v10 =>
          if v10 < (0 : Int32) then
            fX1_press_L21 x3_ us fi ki li n (x4_ + (1 : Int32)) va
          else
            (ldI 768 va (((6 : Int32) * x3_) + x4_)).bind fun v12 =>
            (ldI 128 li v12).bind fun v13 =>
            if v13 = (0 : Int32) then
              (stI 768 va (((6 : Int32) * x3_) + x4_) (-1 : Int32)).bind fun va_15 =>
              fX1_press_L21 x3_ us fi ki li n (x4_ + (1 : Int32)) va_15
            else
              fX1_press_L21 x3_ us fi ki li n (x4_ + (1 : Int32)) va
        else
          fX1_press_L21 x3_ us fi ki li n (x4_ + (1 : Int32)) va
theorem fX1_press_L21_s (x3_ : Int32) (us : Nat → Int32) (fi : Nat → Int32) (ki : Nat → Int32) (li : Nat → Int32) (n : Nat) (x4_ : Int32) (va : Nat → Int32) : fX1_press_L21 x3_ us fi ki li (n + 1) x4_ va = (
    (ldI 128 fi x3_).bind fun v4 =>
    if v4 ≤ x4_ then
      some (x4_, va)
    else
      (ldI 128 us x3_).bind fun v6 =>
      if v6 = (0 : Int32) then
        some (x4_, va)
      else
        (ldI 768 ki (((6 : Int32) * x3_) + x4_)).bind fun v8 =>
        if v8 = (2 : Int32) then
          (ldI 768 va (((6 : Int32) * x3_) + x4_)).bind fun v10 =>
          if v10 < (0 : Int32) then
            fX1_press_L21 x3_ us fi ki li n (x4_ + (1 : Int32)) va
          else
            (ldI 768 va (((6 : Int32) * x3_) + x4_)).bind fun v12 =>
            (ldI 128 li v12).bind fun v13 =>
            if v13 = (0 : Int32) then
              (stI 768 va (((6 : Int32) * x3_) + x4_) (-1 : Int32)).bind fun va_15 =>
              fX1_press_L21 x3_ us fi ki li n (x4_ + (1 : Int32)) va_15
            else
              fX1_press_L21 x3_ us fi ki li n (x4_ + (1 : Int32)) va
        else
          fX1_press_L21 x3_ us fi ki li n (x4_ + (1 : Int32)) va) := rfl
def fX1_press_L11 (us : Nat → Int32) (fi : Nat → Int32) (ki : Nat → Int32) (li : Nat → Int32) : Nat → Int32 → (Nat → Int32) → Option (Int32 × (Nat → Int32))
  | 0, _, _ => none
  | n + 1, x3_, va =>
    if (128 : Int32) ≤ x3_ then
      some (x3_, va)
    else
      (fX1_press_L21 x3_ us fi ki li FU (0 : Int32) va).bind fun (x_16, va_17) =>
      fX1_press_L11 us fi ki li n (x3_ + (1 : Int32)) va_17
theorem fX1_press_L11_s (us : Nat → Int32) (fi : Nat → Int32) (ki : Nat → Int32) (li : Nat → Int32) (n : Nat) (x3_ : Int32) (va : Nat → Int32) : fX1_press_L11 us fi ki li (n + 1) x3_ va = (
    if (128 : Int32) ≤ x3_ then
      some (x3_, va)
    else
      (fX1_press_L21 x3_ us fi ki li FU (0 : Int32) va).bind fun (x_16, va_17) =>
      fX1_press_L11 us fi ki li n (x3_ + (1 : Int32)) va_17) := rfl
def fX1_press_L124 (li : Nat → Int32) : Nat → Int32 → (Nat → Int32) → Option (Int32 × (Nat → Int32))
  | 0, _, _ => none
  | n + 1, x3_, us =>
    if (128 : Int32) ≤ x3_ then
      some (x3_, us)
    else
      (ldI 128 us x3_).bind fun v23 =>
      if v23 = (0 : Int32) then
        (stZ 128 us x3_ (0 : Int32)).bind fun us_25 =>
        fX1_press_L124 li n (x3_ + (1 : Int32)) us_25
      else
        (ldI 128 li x3_).bind fun v26 =>
        if v26 = (0 : Int32) then
          (stZ 128 us x3_ (0 : Int32)).bind fun us_28 =>
          fX1_press_L124 li n (x3_ + (1 : Int32)) us_28
        else
          (stZ 128 us x3_ (1 : Int32)).bind fun us_29 =>
          fX1_press_L124 li n (x3_ + (1 : Int32)) us_29
theorem fX1_press_L124_s (li : Nat → Int32) (n : Nat) (x3_ : Int32) (us : Nat → Int32) : fX1_press_L124 li (n + 1) x3_ us = (
    if (128 : Int32) ≤ x3_ then
      some (x3_, us)
    else
      (ldI 128 us x3_).bind fun v23 =>
      if v23 = (0 : Int32) then
        (stZ 128 us x3_ (0 : Int32)).bind fun us_25 =>
        fX1_press_L124 li n (x3_ + (1 : Int32)) us_25
      else
        (ldI 128 li x3_).bind fun v26 =>
        if v26 = (0 : Int32) then
          (stZ 128 us x3_ (0 : Int32)).bind fun us_28 =>
          fX1_press_L124 li n (x3_ + (1 : Int32)) us_28
        else
          (stZ 128 us x3_ (1 : Int32)).bind fun us_29 =>
          fX1_press_L124 li n (x3_ + (1 : Int32)) us_29) := rfl
def fX1_press_L173 (x2_ : Int32) (ne : Nat → Int32) : Nat → Int32 → (Nat → Int32) → Option (Int32 × (Nat → Int32))
  | 0, _, _ => none
  | n + 1, x3_, od =>
    if x2_ ≤ x3_ then
      some (x3_, od)
    else
      (ldI 128 ne x3_).bind fun v33 =>
      (stI 128 od x3_ v33).bind fun od_34 =>
      fX1_press_L173 x2_ ne n (x3_ + (1 : Int32)) od_34
theorem fX1_press_L173_s (x2_ : Int32) (ne : Nat → Int32) (n : Nat) (x3_ : Int32) (od : Nat → Int32) : fX1_press_L173 x2_ ne (n + 1) x3_ od = (
    if x2_ ≤ x3_ then
      some (x3_, od)
    else
      (ldI 128 ne x3_).bind fun v33 =>
      (stI 128 od x3_ v33).bind fun od_34 =>
      fX1_press_L173 x2_ ne n (x3_ + (1 : Int32)) od_34) := rfl
def fX1_press (us : Nat → Int32) (fi : Nat → Int32) (ki : Nat → Int32) (va : Nat → Int32) (li : Nat → Int32) (ct : Int32) (od : Nat → Int32) (ne : Nat → Int32) (ro : Nat → Int32) (x1 : Int32) : Option ((Nat → Int32) × (Nat → Int32) × (Nat → Int32) × Int32 × (Nat → Int32) × (Nat → Int32)) :=
  (fX1_findAlive fi ki va li ro ).bind fun li_1 =>
  (fX1_countAlive li_1 ct od ).bind fun v2 =>
  (fX1_press_L11 us fi ki li_1 FU (0 : Int32) va).bind fun (x_18, va_19) =>
  if x1 = (1 : Int32) then
    (fX1_fillGaps li_1 ct od ne ).bind fun ne_37 =>
    (fX1_press_L124 li_1 FU (0 : Int32) us).bind fun (x_38, us_39) =>
    (fX1_press_L173 v2 ne_37 FU (0 : Int32) od).bind fun (x_40, od_41) =>
    some (us_39, va_19, li_1, v2, od_41, ne_37)
  else
    (fX1_keepOrder li_1 ct od ne ).bind fun ne_21 =>
    (fX1_press_L124 li_1 FU (0 : Int32) us).bind fun (x_30, us_31) =>
    (fX1_press_L173 v2 ne_21 FU (0 : Int32) od).bind fun (x_35, od_36) =>
    some (us_31, va_19, li_1, v2, od_36, ne_21)
def fX1_make_L2 (us : Nat → Int32) : Nat → Int32 → Option (Int32)
  | 0, _ => none
  | n + 1, x3_ =>
    (ldI 128 us x3_).bind fun v1 =>
    if v1 = (0 : Int32) then
      some x3_
    else
      fX1_make_L2 us n (x3_ + (1 : Int32))
theorem fX1_make_L2_s (us : Nat → Int32) (n : Nat) (x3_ : Int32) : fX1_make_L2 us (n + 1) x3_ = (
    (ldI 128 us x3_).bind fun v1 =>
    if v1 = (0 : Int32) then
      some x3_
    else
      fX1_make_L2 us n (x3_ + (1 : Int32))) := rfl
def fX1_make_L54 (x3_ : Int32) : Nat → Int32 → (Nat → Int32) → (Nat → Int32) → Option (Int32 × (Nat → Int32) × (Nat → Int32))
  | 0, _, _, _ => none
  | n + 1, x4_, ki, va =>
    if (6 : Int32) ≤ x4_ then
      some (x4_, ki, va)
    else
      (stI 768 ki (((6 : Int32) * x3_) + x4_) (0 : Int32)).bind fun ki_8 =>
      (stI 768 va (((6 : Int32) * x3_) + x4_) (0 : Int32)).bind fun va_9 =>
      fX1_make_L54 x3_ n (x4_ + (1 : Int32)) ki_8 va_9
theorem fX1_make_L54_s (x3_ : Int32) (n : Nat) (x4_ : Int32) (ki : Nat → Int32) (va : Nat → Int32) : fX1_make_L54 x3_ (n + 1) x4_ ki va = (
    if (6 : Int32) ≤ x4_ then
      some (x4_, ki, va)
    else
      (stI 768 ki (((6 : Int32) * x3_) + x4_) (0 : Int32)).bind fun ki_8 =>
      (stI 768 va (((6 : Int32) * x3_) + x4_) (0 : Int32)).bind fun va_9 =>
      fX1_make_L54 x3_ n (x4_ + (1 : Int32)) ki_8 va_9) := rfl
def fX1_make (mk : Int32) (us : Nat → Int32) (fi : Nat → Int32) (se : Nat → Int32) (ki : Nat → Int32) (va : Nat → Int32) (ct : Int32) (od : Nat → Int32) (ro : Nat → Int32) (x1 : Int32) (x2 : Int32) : Option (Int32 × Int32 × (Nat → Int32) × (Nat → Int32) × (Nat → Int32) × (Nat → Int32) × (Nat → Int32) × Int32 × (Nat → Int32) × (Nat → Int32)) :=
  (fX1_make_L2 us FU (0 : Int32)).bind fun x_3 =>
  (stZ 128 us x_3 (1 : Int32)).bind fun us_4 =>
  (stI 128 fi x_3 x2).bind fun fi_5 =>
  (stI 128 se x_3 (mk + (1 : Int32))).bind fun se_6 =>
  (fX1_make_L54 x_3 FU (0 : Int32) ki va).bind fun (x_10, ki_11, va_12) =>
  (stI 128 od ct x_3).bind fun od_13 =>
  (stI 8 ro x1 x_3).bind fun ro_14 =>
  some (mk + (1 : Int32), mk + (1 : Int32), us_4, fi_5, se_6, ki_11, va_12, ct + (1 : Int32), od_13, ro_14)
def fX1_isRoot (x0 : Int32) : Option (Int32) :=
  if x0 < (0 : Int32) then
    some (0 : Int32)
  else
    if (7 : Int32) < x0 then
      some (0 : Int32)
    else
      some (1 : Int32)
def fX1_isFields (x0 : Int32) : Option (Int32) :=
  if x0 < (0 : Int32) then
    some (0 : Int32)
  else
    if (6 : Int32) < x0 then
      some (0 : Int32)
    else
      some (1 : Int32)
def fX1_fits (fi : Nat → Int32) (ct : Int32) (od : Nat → Int32) (x1 : Int32) : Option (Int32) :=
  (fX1_topNow fi ct od ).bind fun v1 =>
  if (256 : Int32) < ((v1 + x1) + (2 : Int32)) then
    some (0 : Int32)
  else
    some (1 : Int32)
def fX1_compact (th : Int32) (us : Nat → Int32) (fi : Nat → Int32) (ki : Nat → Int32) (va : Nat → Int32) (li : Nat → Int32) (ct : Int32) (od : Nat → Int32) (ne : Nat → Int32) (ro : Nat → Int32) (x1 : Int32) : Option (Int32 × Int32 × (Nat → Int32) × (Nat → Int32) × (Nat → Int32) × Int32 × (Nat → Int32) × (Nat → Int32)) :=
  if x1 < (0 : Int32) then
    some ((0 : Int32), (1 : Int32), us, va, li, ct, od, ne)
  else
    if x1 ≤ (2 : Int32) then
      if x1 = (1 : Int32) then
        (fX1_oneSize fi ct od ).bind fun v12 =>
        if v12 = (0 : Int32) then
          some ((0 : Int32), (2 : Int32), us, va, li, ct, od, ne)
        else
          (fX1_topNow fi ct od ).bind fun v14 =>
          (fX1_press us fi ki va li ct od ne ro x1).bind fun (us_15, va_16, li_17, ct_18, od_19, ne_20) =>
          (fX1_topNow fi ct_18 od_19 ).bind fun v21 =>
          some (v14 - v21, (0 : Int32), us_15, va_16, li_17, ct_18, od_19, ne_20)
      else
        (fX1_topNow fi ct od ).bind fun v4 =>
        (fX1_press us fi ki va li ct od ne ro x1).bind fun (us_5, va_6, li_7, ct_8, od_9, ne_10) =>
        (fX1_topNow fi ct_8 od_9 ).bind fun v11 =>
        some (v4 - v11, (0 : Int32), us_5, va_6, li_7, ct_8, od_9, ne_10)
    else
      some ((0 : Int32), (1 : Int32), us, va, li, ct, od, ne)
def fX1_allocate (th : Int32) (mk : Int32) (us : Nat → Int32) (fi : Nat → Int32) (se : Nat → Int32) (ki : Nat → Int32) (va : Nat → Int32) (ct : Int32) (od : Nat → Int32) (ro : Nat → Int32) (x1 : Int32) (x2 : Int32) : Option (Int32 × Int32 × Int32 × (Nat → Int32) × (Nat → Int32) × (Nat → Int32) × (Nat → Int32) × (Nat → Int32) × Int32 × (Nat → Int32) × (Nat → Int32)) :=
  (fX1_isRoot x1).bind fun v1 =>
  if v1 = (0 : Int32) then
    some ((0 : Int32), (1 : Int32), mk, us, fi, se, ki, va, ct, od, ro)
  else
    (fX1_isFields x2).bind fun v3 =>
    if v3 = (0 : Int32) then
      some ((0 : Int32), (2 : Int32), mk, us, fi, se, ki, va, ct, od, ro)
    else
      (fX1_fits fi ct od x2).bind fun v5 =>
      if v5 = (0 : Int32) then
        some ((0 : Int32), (3 : Int32), mk, us, fi, se, ki, va, ct, od, ro)
      else
        (fX1_make mk us fi se ki va ct od ro x1 x2).bind fun (v7, mk_8, us_9, fi_10, se_11, ki_12, va_13, ct_14, od_15, ro_16) =>
        some (v7, (0 : Int32), mk_8, us_9, fi_10, se_11, ki_12, va_13, ct_14, od_15, ro_16)
def fX1_claim (th : Int32) (mk : Int32) (us : Nat → Int32) (fi : Nat → Int32) (se : Nat → Int32) (ki : Nat → Int32) (va : Nat → Int32) (li : Nat → Int32) (ct : Int32) (od : Nat → Int32) (ne : Nat → Int32) (ro : Nat → Int32) (x1 : Int32) (x2 : Int32) (x3 : Int32) : Option (Int32 × Int32 × Int32 × (Nat → Int32) × (Nat → Int32) × (Nat → Int32) × (Nat → Int32) × (Nat → Int32) × (Nat → Int32) × Int32 × (Nat → Int32) × (Nat → Int32) × (Nat → Int32)) :=
  (fX1_isRoot x1).bind fun v1 =>
  if v1 = (0 : Int32) then
    some ((0 : Int32), (1 : Int32), mk, us, fi, se, ki, va, li, ct, od, ne, ro)
  else
    (fX1_isFields x2).bind fun v3 =>
    if v3 = (0 : Int32) then
      some ((0 : Int32), (2 : Int32), mk, us, fi, se, ki, va, li, ct, od, ne, ro)
    else
      if x3 < (0 : Int32) then
        some ((0 : Int32), (2 : Int32), mk, us, fi, se, ki, va, li, ct, od, ne, ro)
      else
        if x3 ≤ (2 : Int32) then
          (fX1_fits fi ct od x2).bind fun v7 =>
          if v7 = (0 : Int32) then
            if x3 = (1 : Int32) then
              (fX1_oneSize fi ct od ).bind fun v38 =>
              if v38 = (0 : Int32) then
                some ((0 : Int32), (3 : Int32), mk, us, fi, se, ki, va, li, ct, od, ne, ro)
              else
                (fX1_press us fi ki va li ct od ne ro x3).bind fun (us_40, va_41, li_42, ct_43, od_44, ne_45) =>
                (fX1_fits fi ct_43 od_44 x2).bind fun v46 =>
                if v46 = (0 : Int32) then
                  some ((0 : Int32), (4 : Int32), mk, us_40, fi, se, ki, va_41, li_42, ct_43, od_44, ne_45, ro)
                else
                  (fX1_make mk us_40 fi se ki va_41 ct_43 od_44 ro x1 x2).bind fun (v48, mk_49, us_50, fi_51, se_52, ki_53, va_54, ct_55, od_56, ro_57) =>
                  some (v48, (0 : Int32), mk_49, us_50, fi_51, se_52, ki_53, va_54, li_42, ct_55, od_56, ne_45, ro_57)
            else
              (fX1_press us fi ki va li ct od ne ro x3).bind fun (us_20, va_21, li_22, ct_23, od_24, ne_25) =>
              (fX1_fits fi ct_23 od_24 x2).bind fun v26 =>
              if v26 = (0 : Int32) then
                some ((0 : Int32), (4 : Int32), mk, us_20, fi, se, ki, va_21, li_22, ct_23, od_24, ne_25, ro)
              else
                (fX1_make mk us_20 fi se ki va_21 ct_23 od_24 ro x1 x2).bind fun (v28, mk_29, us_30, fi_31, se_32, ki_33, va_34, ct_35, od_36, ro_37) =>
                some (v28, (0 : Int32), mk_29, us_30, fi_31, se_32, ki_33, va_34, li_22, ct_35, od_36, ne_25, ro_37)
          else
            (fX1_make mk us fi se ki va ct od ro x1 x2).bind fun (v9, mk_10, us_11, fi_12, se_13, ki_14, va_15, ct_16, od_17, ro_18) =>
            some (v9, (0 : Int32), mk_10, us_11, fi_12, se_13, ki_14, va_15, li, ct_16, od_17, ne, ro_18)
        else
          some ((0 : Int32), (2 : Int32), mk, us, fi, se, ki, va, li, ct, od, ne, ro)
def fX1_copy (th : Int32) (ro : Nat → Int32) (x1 : Int32) (x2 : Int32) : Option (Int32 × (Nat → Int32)) :=
  (fX1_isRoot x1).bind fun v1 =>
  if v1 = (0 : Int32) then
    some ((1 : Int32), ro)
  else
    (fX1_isRoot x2).bind fun v3 =>
    if v3 = (0 : Int32) then
      some ((1 : Int32), ro)
    else
      (ldI 8 ro x2).bind fun v5 =>
      (stI 8 ro x1 v5).bind fun ro_6 =>
      some ((0 : Int32), ro_6)
def fX1_clear (th : Int32) (ro : Nat → Int32) (x1 : Int32) : Option (Int32 × (Nat → Int32)) :=
  (fX1_isRoot x1).bind fun v1 =>
  if v1 = (0 : Int32) then
    some ((1 : Int32), ro)
  else
    (stI 8 ro x1 (-1 : Int32)).bind fun ro_3 =>
    some ((0 : Int32), ro_3)
def fX1_bar (fi : Nat → Int32) (ro : Nat → Int32) (x1 : Int32) (x2 : Int32) : Option (Int32) :=
  (fX1_isRoot x1).bind fun v1 =>
  if v1 = (0 : Int32) then
    some (1 : Int32)
  else
    (ldI 8 ro x1).bind fun v3 =>
    if (0 : Int32) ≤ v3 then
      if x2 < (0 : Int32) then
        some (1 : Int32)
      else
        (ldI 8 ro x1).bind fun v6 =>
        (ldI 128 fi v6).bind fun v7 =>
        if x2 < v7 then
          some (0 : Int32)
        else
          some (1 : Int32)
    else
      some (2 : Int32)
def fX1_set (ki : Nat → Int32) (va : Nat → Int32) (ro : Nat → Int32) (x1 : Int32) (x2 : Int32) (x3 : Int32) (x4 : Int32) : Option ((Nat → Int32) × (Nat → Int32)) :=
  (ldI 8 ro x1).bind fun v1 =>
  (stI 768 ki (((6 : Int32) * v1) + x2) x3).bind fun ki_2 =>
  (ldI 8 ro x1).bind fun v3 =>
  (stI 768 va (((6 : Int32) * v3) + x2) x4).bind fun va_4 =>
  some (ki_2, va_4)
def fX1_put (th : Int32) (fi : Nat → Int32) (ki : Nat → Int32) (va : Nat → Int32) (ro : Nat → Int32) (x1 : Int32) (x2 : Int32) (x3 : Int32) : Option (Int32 × (Nat → Int32) × (Nat → Int32)) :=
  (fX1_bar fi ro x1 x2).bind fun v1 =>
  if v1 = (0 : Int32) then
    (fX1_set ki va ro x1 x2 (0 : Int32) x3).bind fun (ki_3, va_4) =>
    some (v1, ki_3, va_4)
  else
    some (v1, ki, va)
def fX1_refer (th : Int32) (fi : Nat → Int32) (ki : Nat → Int32) (va : Nat → Int32) (ro : Nat → Int32) (x1 : Int32) (x2 : Int32) (x3 : Int32) (x4 : Int32) : Option (Int32 × (Nat → Int32) × (Nat → Int32)) :=
  (fX1_isRoot x3).bind fun v1 =>
  if v1 = (0 : Int32) then
    some ((1 : Int32), ki, va)
  else
    (fX1_bar fi ro x1 x2).bind fun v3 =>
    if v3 = (0 : Int32) then
      if x4 = (0 : Int32) then
        (ldI 8 ro x3).bind fun v6 =>
        (fX1_set ki va ro x1 x2 (1 : Int32) v6).bind fun (ki_7, va_8) =>
        some (v3, ki_7, va_8)
      else
        (ldI 8 ro x3).bind fun v9 =>
        (fX1_set ki va ro x1 x2 (2 : Int32) v9).bind fun (ki_10, va_11) =>
        some (v3, ki_10, va_11)
    else
      some (v3, ki, va)
def fX1_follow (th : Int32) (fi : Nat → Int32) (ki : Nat → Int32) (va : Nat → Int32) (ro : Nat → Int32) (x1 : Int32) (x2 : Int32) (x3 : Int32) : Option (Int32 × Int32 × (Nat → Int32)) :=
  (fX1_isRoot x3).bind fun v1 =>
  if v1 = (0 : Int32) then
    some ((0 : Int32), (1 : Int32), ro)
  else
    (fX1_bar fi ro x1 x2).bind fun v3 =>
    if v3 = (0 : Int32) then
      (ldI 8 ro x1).bind fun v11 =>
      (ldI 768 ki (((6 : Int32) * v11) + x2)).bind fun v12 =>
      if v12 = (0 : Int32) then
        some ((0 : Int32), (3 : Int32), ro)
      else
        if v3 ≤ (0 : Int32) then
          (ldI 8 ro x1).bind fun v15 =>
          (ldI 768 va (((6 : Int32) * v15) + x2)).bind fun v16 =>
          (stI 8 ro x3 v16).bind fun ro_17 =>
          (ldI 8 ro_17 x3).bind fun v18 =>
          if v18 < (0 : Int32) then
            some ((0 : Int32), v3, ro_17)
          else
            some ((1 : Int32), v3, ro_17)
        else
          some ((0 : Int32), v3, ro)
    else
      if v3 ≤ (0 : Int32) then
        (ldI 8 ro x1).bind fun v6 =>
        (ldI 768 va (((6 : Int32) * v6) + x2)).bind fun v7 =>
        (stI 8 ro x3 v7).bind fun ro_8 =>
        (ldI 8 ro_8 x3).bind fun v9 =>
        if v9 < (0 : Int32) then
          some ((0 : Int32), v3, ro_8)
        else
          some ((1 : Int32), v3, ro_8)
      else
        some ((0 : Int32), v3, ro)
def fX1_kind (th : Int32) (fi : Nat → Int32) (ki : Nat → Int32) (ro : Nat → Int32) (x1 : Int32) (x2 : Int32) : Option (Int32 × Int32) :=
  (fX1_bar fi ro x1 x2).bind fun v1 =>
  if v1 ≤ (0 : Int32) then
    (ldI 8 ro x1).bind fun v3 =>
    (ldI 768 ki (((6 : Int32) * v3) + x2)).bind fun v4 =>
    some (v4, v1)
  else
    some ((0 : Int32), v1)
def fX1_serial (th : Int32) (se : Nat → Int32) (ro : Nat → Int32) (x1 : Int32) : Option (Int32 × Int32) :=
  (fX1_isRoot x1).bind fun v1 =>
  if v1 = (0 : Int32) then
    some ((0 : Int32), (1 : Int32))
  else
    (ldI 8 ro x1).bind fun v3 =>
    if (0 : Int32) ≤ v3 then
      (ldI 8 ro x1).bind fun v5 =>
      (ldI 128 se v5).bind fun v6 =>
      some (v6, (0 : Int32))
    else
      some ((-1 : Int32), (0 : Int32))
def fX1_address (th : Int32) (fi : Nat → Int32) (ct : Int32) (od : Nat → Int32) (ro : Nat → Int32) (x1 : Int32) : Option (Int32 × Int32) :=
  (fX1_isRoot x1).bind fun v1 =>
  if v1 = (0 : Int32) then
    some ((0 : Int32), (1 : Int32))
  else
    (ldI 8 ro x1).bind fun v3 =>
    (fX1_addressOf fi ct od v3).bind fun v4 =>
    some (v4, (0 : Int32))
def fX1_wordOf_L65 (x1_ : Int32) (fi : Nat → Int32) (ki : Nat → Int32) : Nat → Int32 → Int32 → Option (Int32 × Int32)
  | 0, _, _ => none
  | n + 1, x3_, x4_ =>
    (ldI 128 fi x1_).bind fun v4 =>
    if v4 ≤ x4_ then
      some (x3_, x4_)
    else
      (ldI 768 ki (((6 : Int32) * x1_) + x4_)).bind fun v6 =>
      if v6 = (1 : Int32) then
        fX1_wordOf_L65 x1_ fi ki n (x3_ + ((16 : Int32) * ((1 : Int32) <<< (x4_ &&& 31)))) (x4_ + (1 : Int32))
      else
        (ldI 768 ki (((6 : Int32) * x1_) + x4_)).bind fun v8 =>
        if v8 = (2 : Int32) then
          fX1_wordOf_L65 x1_ fi ki n (x3_ + ((1024 : Int32) * ((1 : Int32) <<< (x4_ &&& 31)))) (x4_ + (1 : Int32))
        else
          fX1_wordOf_L65 x1_ fi ki n x3_ (x4_ + (1 : Int32))
theorem fX1_wordOf_L65_s (x1_ : Int32) (fi : Nat → Int32) (ki : Nat → Int32) (n : Nat) (x3_ : Int32) (x4_ : Int32) : fX1_wordOf_L65 x1_ fi ki (n + 1) x3_ x4_ = (
    (ldI 128 fi x1_).bind fun v4 =>
    if v4 ≤ x4_ then
      some (x3_, x4_)
    else
      (ldI 768 ki (((6 : Int32) * x1_) + x4_)).bind fun v6 =>
      if v6 = (1 : Int32) then
        fX1_wordOf_L65 x1_ fi ki n (x3_ + ((16 : Int32) * ((1 : Int32) <<< (x4_ &&& 31)))) (x4_ + (1 : Int32))
      else
        (ldI 768 ki (((6 : Int32) * x1_) + x4_)).bind fun v8 =>
        if v8 = (2 : Int32) then
          fX1_wordOf_L65 x1_ fi ki n (x3_ + ((1024 : Int32) * ((1 : Int32) <<< (x4_ &&& 31)))) (x4_ + (1 : Int32))
        else
          fX1_wordOf_L65 x1_ fi ki n x3_ (x4_ + (1 : Int32))) := rfl
def fX1_wordOf (fi : Nat → Int32) (se : Nat → Int32) (ki : Nat → Int32) (va : Nat → Int32) (ct : Int32) (od : Nat → Int32) (x1 : Int32) (x2 : Int32) : Option (Int32) :=
  if x2 = (1 : Int32) then
    (ldI 128 se x1).bind fun v17 =>
    some v17
  else
    if x2 ≤ (1 : Int32) then
      (ldI 128 fi x1).bind fun v3 =>
      (fX1_wordOf_L65 x1 fi ki FU v3 (0 : Int32)).bind fun (x_10, x_11) =>
      some x_10
    else
      (ldI 768 ki ((((6 : Int32) * x1) + x2) - (2 : Int32))).bind fun v12 =>
      if v12 = (0 : Int32) then
        (ldI 768 va ((((6 : Int32) * x1) + x2) - (2 : Int32))).bind fun v16 =>
        some v16
      else
        (ldI 768 va ((((6 : Int32) * x1) + x2) - (2 : Int32))).bind fun v14 =>
        (fX1_addressOf fi ct od v14).bind fun v15 =>
        some v15
def fX1_word_L33 (x1_ : Int32) (fi : Nat → Int32) (se : Nat → Int32) (ki : Nat → Int32) (va : Nat → Int32) (ct : Int32) (od : Nat → Int32) : Nat → Int32 → Int32 → Option (Nat × Int32 × Int32 × Int32)
  | 0, _, _ => none
  | n + 1, x2_, x3_ =>
    if ct ≤ x3_ then
      some (0, x2_, x3_, 0)
    else
      (ldI 128 od x3_).bind fun v4 =>
      (ldI 128 fi v4).bind fun v5 =>
      if (x2_ + (v5 + (2 : Int32))) ≤ x1_ then
        fX1_word_L33 x1_ fi se ki va ct od n (x2_ + (v5 + (2 : Int32))) (x3_ + (1 : Int32))
      else
        (ldI 128 od x3_).bind fun v7 =>
        (fX1_wordOf fi se ki va ct od v7 (x1_ - x2_)).bind fun v8 =>
        some (1, x2_, x3_, v8)
theorem fX1_word_L33_s (x1_ : Int32) (fi : Nat → Int32) (se : Nat → Int32) (ki : Nat → Int32) (va : Nat → Int32) (ct : Int32) (od : Nat → Int32) (n : Nat) (x2_ : Int32) (x3_ : Int32) : fX1_word_L33 x1_ fi se ki va ct od (n + 1) x2_ x3_ = (
    if ct ≤ x3_ then
      some (0, x2_, x3_, 0)
    else
      (ldI 128 od x3_).bind fun v4 =>
      (ldI 128 fi v4).bind fun v5 =>
      if (x2_ + (v5 + (2 : Int32))) ≤ x1_ then
        fX1_word_L33 x1_ fi se ki va ct od n (x2_ + (v5 + (2 : Int32))) (x3_ + (1 : Int32))
      else
        (ldI 128 od x3_).bind fun v7 =>
        (fX1_wordOf fi se ki va ct od v7 (x1_ - x2_)).bind fun v8 =>
        some (1, x2_, x3_, v8)) := rfl
def fX1_word (th : Int32) (fi : Nat → Int32) (se : Nat → Int32) (ki : Nat → Int32) (va : Nat → Int32) (ct : Int32) (od : Nat → Int32) (x1 : Int32) : Option (Int32 × Int32) :=
  if x1 < (0 : Int32) then
    some ((0 : Int32), (1 : Int32))
  else
    if (256 : Int32) ≤ x1 then
      some ((0 : Int32), (1 : Int32))
    else
      (fX1_word_L33 x1 fi se ki va ct od FU (0 : Int32) (0 : Int32)).bind fun (t11, x_9, x_10, y12) =>
      if t11 = 0 then
        some ((0 : Int32), (0 : Int32))
      else
        some (y12, (0 : Int32))
def fX1_top (th : Int32) (fi : Nat → Int32) (ct : Int32) (od : Nat → Int32) : Option (Int32 × Int32) :=
  (fX1_topNow fi ct od ).bind fun v1 =>
  some (v1, (0 : Int32))
def fX1_objects (th : Int32) (ct : Int32) : Option (Int32 × Int32) :=
  some (ct, (0 : Int32))
def fX1_alive (th : Int32) (fi : Nat → Int32) (ki : Nat → Int32) (va : Nat → Int32) (li : Nat → Int32) (ct : Int32) (od : Nat → Int32) (ro : Nat → Int32) : Option (Int32 × Int32 × (Nat → Int32)) :=
  (fX1_findAlive fi ki va li ro ).bind fun li_1 =>
  (fX1_countAlive li_1 ct od ).bind fun v2 =>
  some (v2, (0 : Int32), li_1)
end
section
/-! 'throw new NoSuchElementException("text")': its constructor stands at another place of its class file than the plain ones' -/
def q_own5 (own : String) (ic : Nat) (X : String) (ix : Nat) (rx : ByteArray) (Y : String) (r : List String) : List Cond :=
  Bundle.throwableAtoms ++ Bundle.throwableSAtoms ++ (Bundle.passSAtoms X Y ix rx ++ Bundle.chainSAtoms Y r) ++
  [.methodLink own ic (Bundle.initS X), .instantiable X 6, .castable X X, .selects X Bundle.tFill0 Bundle.tFill0, .selects X Bundle.tFill Bundle.tFill, .lays X Bundle.tN "cause" "Ljava/lang/Throwable;", .lays X Bundle.tN "stackTrace" Bundle.steD, .lays X Bundle.tN "suppressedExceptions" Bundle.listD, .lays X Bundle.tN "detailMessage" "Ljava/lang/String;",
   .isRef (.static Bundle.tN "UNASSIGNED_STACK" Bundle.steD), .isRef (.static Bundle.tN "SUPPRESSED_SENTINEL" Bundle.listD), .fieldLink Bundle.tN 198 Bundle.tN "backtrace" "Ljava/lang/Object;", .lays Bundle.tN Bundle.tN "backtrace" "Ljava/lang/Object;", .lays X Bundle.tN "backtrace" "Ljava/lang/Object;"]
def q_at5 (own : String) (ic : Nat) (X : String) (ix : Nat) (rx : ByteArray) (Y : String) (r : List String) : List Cond := (q_own5 own ic X ix rx Y r).filter vx_no
theorem q_leC (ws : List Cond) (rm : Room) {n : Nat} (h : rm.cells = n) : 0 + n ≤ (headSpec ws rm).room.cells := by
  rw [← h, Nat.zero_add]
  exact Nat.le_refl _
theorem q_leS (ws : List Cond) (rm : Room) {n : Nat} (h : rm.slots = n) : 0 + n ≤ (headSpec ws rm).room.slots := by
  rw [← h, Nat.zero_add]
  exact Nat.le_refl _
section QN
variable {p : Program} {l : Launch} {e : Env} {R : Room} {s : State} {m : MethodId} {args : Array Value} {below : List Frame} {meth : Method} {c : Code} {H : Heap} {locs : List Loc} {cells slots mc ms : Nat} {Q : State → Prop}
variable {cc : ByteArray} {pc : Nat} {ls : Array Slot} {rest : List Value} {D : va_G} {cl : List vw_C} {A : Nat → Prop} {tys : List (ClassId × FieldType)} {ws : va_W} {own cls text : String} {tx : List (Nat × String)} {Qc : Array Value → State → Outcome → State → Prop}
theorem q_throwN (hexec : p.tables.exec = Jvm.exec) (hb : c.code = cc) (hl : l.stackTraces = false) {ix : Nat} {rx : ByteArray} {Y : String} {names : List String} {ik is ic ef : Nat}
    (x0 : decode rx 0 = .ok (.aload_n 0, 1)) (x1 : decode rx 1 = .ok (.aload_n 1, 1)) (x2 : decode rx 2 = .ok (.invokespecial ix, 3)) (x5 : decode rx 5 = .ok (.return_, 1))
    (hown : s.vm.findClass own = some m.cls) (hcls : Bundle.fit cls = true) (hY : Bundle.fit Y = true) (hnames : ∀ n ∈ names, Bundle.fit n = true)
    (hk : (Cond.classLink own ik cls).before args s = true) (hini : (Cond.initialized cls).before args s = true) (hT : q_T own tx s) (htx : (is, text) ∈ tx) {BW : List Cond} (hts : ∀ w ∈ BW, w.before args s = true) (hat1 : ∀ w ∈ (q_at5 own ic cls ix rx Y names).filter goodWord, w ∈ BW) (hN : q_N s) (hcs : cls ∈ q_cs) (hat2 : ∀ w ∈ (q_at5 own ic cls ix rx Y names).filter (fun w => !goodWord w), w ∈ q_B cls)
    (hgood : ∀ w ∈ Cond.classLink own ik cls :: Cond.initialized cls :: q_at5 own ic cls ix rx Y names, vx_ot w = true)
    (hZ : q_Z A s s.heap) (hS : va_S A s.heap H locs) (hsize : ls.size = c.maxLocals)
    (d0 : decode cc pc = .ok (.new ik, 3)) (d3 : decode cc (pc + 3) = .ok (.dup, 1)) (d4 : decode cc (pc + 4) = .ok (.ldc is, 2)) (d6 : decode cc (pc + 6) = .ok (.invokespecial ic, 3)) (d9 : decode cc (pc + 9) = .ok (.athrow, 1))
    (hno : ∀ x ∈ c.exceptionTable.toList, False)
    (hRframes : names.length + 4 < R.frames) (hRlocals : (rest.map fun v => v.category).sum + (13 * (names.length + 2) + 43) ≤ R.locals) (hRcells : cells + 1 ≤ R.cells) (hRslots : slots + 6 ≤ R.slots) (hlocks : meth.locks = false)
    (hE : cls = q_E ef) (hne : ¬ ef = 0) (hK : va_K D cl tys s) (hP : va_P D cl ws H) (hD : va_D A ws) (hc : cells + 1 ≤ mc) (hs : slots + 6 ≤ ms) :
    W p l e R s m args below meth c H locs cells slots (vx_MQ below Qc (vx_X (fun (_ : Unit) => ¬ ef = 0) (fun E _ t => E = q_E ef ∧ q_post D cl tys A ws t) A) args s mc ms A) (F0 m pc ls rest) := by
  sorry
end QN
abbrev c5rx : ByteArray := prog_14_method_4_code
theorem d5rx_0 : decode c5rx 0 = .ok (.aload_n 0, 1) := by decide +kernel
theorem d5rx_1 : decode c5rx 1 = .ok (.aload_n 1, 1) := by decide +kernel
theorem d5rx_2 : decode c5rx 2 = .ok (.invokespecial 13, 3) := by decide +kernel
theorem d5rx_5 : decode c5rx 5 = .ok (.return_, 1) := by decide +kernel
set_option maxRecDepth 100000 in
theorem at_5 : ∀ w ∈ (q_at5 "ThreeCompactors" 122 "java/util/NoSuchElementException" 13 c5rx "java/lang/RuntimeException" ["java/lang/Exception"]).filter goodWord, w ∈ BG := by decide +kernel
end
section
set_option maxHeartbeats 4000000 in
set_option maxRecDepth 100000 in
theorem ctXA_rangeCheck (l : Launch) (dC : Nat → ClassId) (dI : Nat → Nat → Nat) (cI cZ cL : ClassId) (sz : Nat) (x0 : Int32) (x1 : Int32) (x2 : Int32) (hf : fXA_rangeCheck x0 x1 x2 = some ()) : Met l yXA_rangeCheck wsXA_rangeCheck rmXA_rangeCheck (va_Pc [.int x0, .int x1, .int x2] (q_pre (dC, dI) vwCl (tyA cI cZ cL) sz ([] : va_W))) (va_Qv (fun (_ : Unit) => True) (fun _ => q_post (dC, dI) vwCl (tyA cI cZ cL) (va_A ([] : va_W) sz) ([] : va_W)) (va_A ([] : va_W) sz)) 0 0 (va_A ([] : va_W) sz) := by
  refine Met.ofW (cc := cXA_rangeCheck) (maxL := 3) (ret := (none)) (by decide) rfl ?_
  intro p e s m args below meth c s₁ B hml hv
  obtain ⟨rfl, hsz, hP, hK, hD0⟩ := hv
  have hx := B.exec
  have hb := B.bytes
  have hr := B.returns
  have hts := atoms_spec (ws := wsXA_rangeCheck) B.pre
  have hown : s.vm.findClass RA = some m.cls := findClass_of_methodNamed B.named
  subst hsz
  have hD := hD0.self (sz := s.heap.size)
  generalize hAe : va_A ([] : va_W) s.heap.size = A at hD ⊢
  have hA : ∀ q : Nat, s.heap.size ≤ q → A q := fun q h => by rw [← hAe]; exact Or.inr h
  have hS : va_S A s.heap s.heap [] := va_S.rf
  have hl := lv_entry ([.int x0, .int x1, .int x2]) (n := 3) (Nat.le_of_ble_eq_true rfl)
  rw [lg_entry_eq]
  generalize (lg_sl ([.int x0, .int x1, .int x2]) ++ List.replicate (3 - (lg_sl ([.int x0, .int x1, .int x2])).length) Slot.unset).toArray = ls at hl ⊢
  have hl : lv_has ls 3 [(0, .int x0), (1, .int x1), (2, .int x2)] := hl
  unfold fXA_rangeCheck at hf
  refine lv_iload_n hx hb dXA_rangeCheck_0 rfl (lv_at hl 1 rfl) ?_
  refine lv_iload_n hx hb dXA_rangeCheck_1 rfl (lv_at hl 2 rfl) ?_
  refine lv_icmp_le (tgt := 46) hx hb dXA_rangeCheck_2 (by decide) (fun h1 => ?_) (fun h1 => ?_)
  · have hf := ift h1 hf
    refine lv_iload_n hx hb dXA_rangeCheck_46 rfl (lv_at hl 1 rfl) ?_
    refine lv_if_ge (tgt := 59) hx hb dXA_rangeCheck_47 (by decide) (fun h2 => ?_) (fun h2 => ?_)
    · have hf := ift h2 hf
      refine lv_iload_n hx hb dXA_rangeCheck_59 rfl (lv_at hl 2 rfl) ?_
      refine lv_iload_n hx hb dXA_rangeCheck_60 rfl (lv_at hl 0 rfl) ?_
      refine lv_icmp_le (tgt := 73) hx hb dXA_rangeCheck_61 (by decide) (fun h3 => ?_) (fun h3 => ?_)
      · have hf := ift h3 hf
        exact W.vret hx hb hr (fun t ht hW => ⟨⟨(), rfl, trivial, by rw [ht]; exact hP, va_K.moved hW.alike hK, hD⟩, hS.F ht⟩) hS.2.2 dXA_rangeCheck_73
      · have hf := ifn h3 hf
        cases hf
    · have hf := ifn h2 hf
      cases hf
  · have hf := ifn h1 hf
    cases hf
set_option maxHeartbeats 4000000 in
set_option maxRecDepth 100000 in
theorem wXA_fill_L5 {p : Program} {l : Launch} {e : Env} {s : State} {m : MethodId} {args : Array Value} {below : List Frame} {meth : Method} {c : Code} {Q : State → Prop} {A : Nat → Prop} (dC : Nat → ClassId) (dI : Nat → Nat → Nat) (cI cZ cL : ClassId) (a k : Nat) (hx : p.tables.exec = Jvm.exec) (hb : c.code = cXA_fill) (hml : c.maxLocals = 4) (hown : s.vm.findClass RA = some m.cls) (hts : ∀ w ∈ wsXA_fill, w.before args s = true) (hK : va_K (dC, dI) vwCl (tyA cI cZ cL) s) (hA : ∀ q : Nat, s.heap.size ≤ q → A q) (x1_ : Int32) (x3_ : Int32) (n : Nat) :
    ∀ (x2_ : Int32) (f : Nat → Int32) (x2_' : Int32) (f' : Nat → Int32), fXA_fill_L5 k x1_ x3_ n x2_ f = some (x2_', f') → ∀ (H : Heap) (locs : List Loc) (ls : Array Slot), va_P (dC, dI) vwCl (wA cI a k f) H → va_D A (wA cI a k f) → va_S A s.heap H locs → lv_has ls 4 [(0, .ref a), (1, .int x1_), (2, .int x2_), (3, .int x3_)] → (∀ (H : Heap) (locs : List Loc) (ls : Array Slot), va_P (dC, dI) vwCl (wA cI a k f') H → va_D A (wA cI a k f') → va_S A s.heap H locs → lv_has ls 4 [(0, .ref a), (1, .int x1_), (2, .int x2_'), (3, .int x3_)] → W p l e (headSpec wsXA_fill rmXA_fill).room s m args below meth c H locs 0 0 Q (F0 m 20 ls [])) → W p l e (headSpec wsXA_fill rmXA_fill).room s m args below meth c H locs 0 0 Q (F0 m 5 ls []) := by
  induction n with
  | zero => intro x2_ f x2_' f' hf; cases hf
  | succ n ih =>
    intro x2_ f x2_' f' hf H locs ls hP hD hS hl k0
    have hf := (fXA_fill_L5_s k x1_ x3_ n x2_ f).symm.trans hf
    refine lv_iload_n hx hb dXA_fill_5 rfl (lv_at hl 2 rfl) ?_
    refine lv_iload_n hx hb dXA_fill_6 rfl (lv_at hl 3 rfl) ?_
    refine lv_icmp_ge (tgt := 20) hx hb dXA_fill_7 (by decide) (fun h1 => ?_) (fun h1 => ?_)
    · have hf := ift h1 hf
      cases hf
      exact k0 _ _ _ hP hD hS (lv_sub hl [0, 1, 2, 3] rfl)
    · have hf := ifn h1 hf
      refine lv_aload_n hx hb dXA_fill_10 rfl (lv_at hl 0 rfl) ?_
      refine lv_iload_n hx hb dXA_fill_11 rfl (lv_at hl 2 rfl) ?_
      refine lv_iload_n hx hb dXA_fill_12 rfl (lv_at hl 1 rfl) ?_
      obtain ⟨f_2, hv, hf⟩ := bd hf
      refine q_ist hx hb hK hP hD hS 0 0 rfl rfl hv dXA_fill_13 (fun H locs hP hD hS => ?_)
      have hP : va_P (dC, dI) vwCl (wA cI a k f_2) _ := hP
      have hD : va_D A (wA cI a k f_2) := hD
      refine lv_iinc (v := x2_ + (1 : Int32)) hx hb dXA_fill_14 hl (k := 2) rfl (by rfl) (by decide) rfl (fun ls hl => ?_)
      have hl : lv_has ls 4 [(2, .int (x2_ + (1 : Int32))), (0, .ref a), (1, .int x1_), (3, .int x3_)] := hl
      refine lv_goto (tgt := 5) hx hb dXA_fill_17 (by decide) ?_
      exact ih _ _ _ _ hf _ _ _ hP hD hS (lv_sub hl [1, 2, 0, 3] rfl) k0
set_option maxHeartbeats 4000000 in
set_option maxRecDepth 100000 in
theorem ctXA_fill (l : Launch) (dC : Nat → ClassId) (dI : Nat → Nat → Nat) (cI cZ cL : ClassId) (a k : Nat) (sz : Nat) (f : Nat → Int32) (x1 : Int32) (f' : Nat → Int32) (hf : fXA_fill k f x1 = some f') : Met l yXA_fill wsXA_fill rmXA_fill (va_Pc [.ref a, .int x1] (q_pre (dC, dI) vwCl (tyA cI cZ cL) sz (wA cI a k f))) (va_Qv (fun (_ : Unit) => True) (fun _ => q_post (dC, dI) vwCl (tyA cI cZ cL) (va_A (wA cI a k f) sz) (wA cI a k f')) (va_A (wA cI a k f) sz)) 0 0 (va_A (wA cI a k f) sz) := by
  refine Met.ofW (cc := cXA_fill) (maxL := 4) (ret := (none)) (by decide) rfl ?_
  intro p e s m args below meth c s₁ B hml hv
  obtain ⟨rfl, hsz, hP, hK, hD0⟩ := hv
  have hx := B.exec
  have hb := B.bytes
  have hr := B.returns
  have hts := atoms_spec (ws := wsXA_fill) B.pre
  have hown : s.vm.findClass RA = some m.cls := findClass_of_methodNamed B.named
  subst hsz
  have hD := hD0.self (sz := s.heap.size)
  generalize hAe : va_A (wA cI a k f) s.heap.size = A at hD ⊢
  have hA : ∀ q : Nat, s.heap.size ≤ q → A q := fun q h => by rw [← hAe]; exact Or.inr h
  have hS : va_S A s.heap s.heap [] := va_S.rf
  have hl := lv_entry ([.ref a, .int x1]) (n := 4) (Nat.le_of_ble_eq_true rfl)
  rw [lg_entry_eq]
  generalize (lg_sl ([.ref a, .int x1]) ++ List.replicate (4 - (lg_sl ([.ref a, .int x1])).length) Slot.unset).toArray = ls at hl ⊢
  have hl : lv_has ls 4 [(0, .ref a), (1, .int x1)] := hl
  unfold fXA_fill at hf
  refine lv_iconst (v := (0 : Int32)) hx hb dXA_fill_0 (by decide) ?_
  refine lv_istore_n hx hb dXA_fill_1 rfl hl (by decide) rfl (fun ls hl => ?_)
  have hl : lv_has ls 4 [(2, .int (0 : Int32)), (0, .ref a), (1, .int x1)] := hl
  refine lv_aload_n hx hb dXA_fill_2 rfl (lv_at hl 1 rfl) ?_
  refine va_alen hx hb hK hP 0 0 rfl rfl rfl dXA_fill_3 ?_
  refine lv_istore_n hx hb dXA_fill_4 rfl hl (by decide) rfl (fun ls hl => ?_)
  have hl : lv_has ls 4 [(3, .int (Int32.ofNat k)), (2, .int (0 : Int32)), (0, .ref a), (1, .int x1)] := hl
  obtain ⟨⟨x_3, f_4⟩, hv, hf⟩ := bd hf
  dsimp only at hf
  refine wXA_fill_L5 dC dI cI cZ cL a k hx hb hml hown hts hK hA x1 (Int32.ofNat k) FU (0 : Int32) f x_3 f_4 hv _ _ _ hP hD hS (lv_sub hl [2, 3, 1, 0] rfl) (fun H locs ls hP hD hS hl => ?_)
  have hg0 := Option.some.inj hf
  subst hg0
  exact W.vret hx hb hr (fun t ht hW => ⟨⟨(), rfl, trivial, by rw [ht]; exact hP, va_K.moved hW.alike hK, hD⟩, hS.F ht⟩) hS.2.2 dXA_fill_20
set_option maxHeartbeats 4000000 in
set_option maxRecDepth 100000 in
theorem wXB_fill_L10 {p : Program} {l : Launch} {e : Env} {s : State} {m : MethodId} {args : Array Value} {below : List Frame} {meth : Method} {c : Code} {Q : State → Prop} {A : Nat → Prop} (dC : Nat → ClassId) (dI : Nat → Nat → Nat) (cI cZ cL : ClassId) (a k : Nat) (hx : p.tables.exec = Jvm.exec) (hb : c.code = cXB_fill) (hml : c.maxLocals = 5) (hown : s.vm.findClass RA = some m.cls) (hts : ∀ w ∈ wsXB_fill, w.before args s = true) (hK : va_K (dC, dI) vwCl (tyA cI cZ cL) s) (hA : ∀ q : Nat, s.heap.size ≤ q → A q) (x1_ : Int32) (x2_ : Int32) (x3_ : Int32) (n : Nat) :
    ∀ (x4_ : Int32) (f : Nat → Int32) (x4_' : Int32) (f' : Nat → Int32), fXB_fill_L10 k x2_ x3_ n x4_ f = some (x4_', f') → ∀ (H : Heap) (locs : List Loc) (ls : Array Slot), va_P (dC, dI) vwCl (wA cI a k f) H → va_D A (wA cI a k f) → va_S A s.heap H locs → lv_has ls 5 [(0, .ref a), (1, .int x1_), (2, .int x2_), (3, .int x3_), (4, .int x4_)] → (∀ (H : Heap) (locs : List Loc) (ls : Array Slot), va_P (dC, dI) vwCl (wA cI a k f') H → va_D A (wA cI a k f') → va_S A s.heap H locs → lv_has ls 5 [(0, .ref a), (1, .int x1_), (2, .int x2_), (3, .int x3_), (4, .int x4_')] → W p l e (headSpec wsXB_fill rmXB_fill).room s m args below meth c H locs 0 0 Q (F0 m 27 ls [])) → W p l e (headSpec wsXB_fill rmXB_fill).room s m args below meth c H locs 0 0 Q (F0 m 10 ls []) := by
  induction n with
  | zero => intro x4_ f x4_' f' hf; cases hf
  | succ n ih =>
    intro x4_ f x4_' f' hf H locs ls hP hD hS hl k0
    have hf := (fXB_fill_L10_s k x2_ x3_ n x4_ f).symm.trans hf
    refine lv_iload hx hb dXB_fill_10 (lv_at hl 4 rfl) ?_
    refine lv_iload_n hx hb dXB_fill_12 rfl (lv_at hl 2 rfl) ?_
    refine lv_icmp_ge (tgt := 27) hx hb dXB_fill_13 (by decide) (fun h1 => ?_) (fun h1 => ?_)
    · have hf := ift h1 hf
      cases hf
      exact k0 _ _ _ hP hD hS (lv_sub hl [0, 1, 2, 3, 4] rfl)
    · have hf := ifn h1 hf
      refine lv_aload_n hx hb dXB_fill_16 rfl (lv_at hl 0 rfl) ?_
      refine lv_iload hx hb dXB_fill_17 (lv_at hl 4 rfl) ?_
      refine lv_iload_n hx hb dXB_fill_19 rfl (lv_at hl 3 rfl) ?_
      obtain ⟨f_2, hv, hf⟩ := bd hf
      refine q_ist hx hb hK hP hD hS 0 0 rfl rfl hv dXB_fill_20 (fun H locs hP hD hS => ?_)
      have hP : va_P (dC, dI) vwCl (wA cI a k f_2) _ := hP
      have hD : va_D A (wA cI a k f_2) := hD
      refine lv_iinc (v := x4_ + (1 : Int32)) hx hb dXB_fill_21 hl (k := 4) rfl (by rfl) (by decide) rfl (fun ls hl => ?_)
      have hl : lv_has ls 5 [(4, .int (x4_ + (1 : Int32))), (0, .ref a), (1, .int x1_), (2, .int x2_), (3, .int x3_)] := hl
      refine lv_goto (tgt := 10) hx hb dXB_fill_24 (by decide) ?_
      exact ih _ _ _ _ hf _ _ _ hP hD hS (lv_sub hl [1, 2, 3, 4, 0] rfl) k0
set_option maxHeartbeats 4000000 in
set_option maxRecDepth 100000 in
theorem ctXB_fill (l : Launch) (dC : Nat → ClassId) (dI : Nat → Nat → Nat) (cI cZ cL : ClassId) (a k : Nat) (sz : Nat) (f : Nat → Int32) (x1 : Int32) (x2 : Int32) (x3 : Int32) (f' : Nat → Int32) (hf : fXB_fill k f x1 x2 x3 = some f') : Met l yXB_fill wsXB_fill rmXB_fill (va_Pc [.ref a, .int x1, .int x2, .int x3] (q_pre (dC, dI) vwCl (tyA cI cZ cL) sz (wA cI a k f))) (va_Qv (fun (_ : Unit) => True) (fun _ => q_post (dC, dI) vwCl (tyA cI cZ cL) (va_A (wA cI a k f) sz) (wA cI a k f')) (va_A (wA cI a k f) sz)) 0 0 (va_A (wA cI a k f) sz) := by
  refine Met.ofW (cc := cXB_fill) (maxL := 5) (ret := (none)) (by decide) rfl ?_
  intro p e s m args below meth c s₁ B hml hv
  obtain ⟨rfl, hsz, hP, hK, hD0⟩ := hv
  have hx := B.exec
  have hb := B.bytes
  have hr := B.returns
  have hts := atoms_spec (ws := wsXB_fill) B.pre
  have hown : s.vm.findClass RA = some m.cls := findClass_of_methodNamed B.named
  subst hsz
  have hD := hD0.self (sz := s.heap.size)
  generalize hAe : va_A (wA cI a k f) s.heap.size = A at hD ⊢
  have hA : ∀ q : Nat, s.heap.size ≤ q → A q := fun q h => by rw [← hAe]; exact Or.inr h
  have hS : va_S A s.heap s.heap [] := va_S.rf
  have hl := lv_entry ([.ref a, .int x1, .int x2, .int x3]) (n := 5) (Nat.le_of_ble_eq_true rfl)
  rw [lg_entry_eq]
  generalize (lg_sl ([.ref a, .int x1, .int x2, .int x3]) ++ List.replicate (5 - (lg_sl ([.ref a, .int x1, .int x2, .int x3])).length) Slot.unset).toArray = ls at hl ⊢
  have hl : lv_has ls 5 [(0, .ref a), (1, .int x1), (2, .int x2), (3, .int x3)] := hl
  unfold fXB_fill at hf
  refine lv_aload_n hx hb dXB_fill_0 rfl (lv_at hl 0 rfl) ?_
  refine va_alen hx hb hK hP 0 0 rfl rfl rfl dXB_fill_1 ?_
  refine lv_iload_n hx hb dXB_fill_2 rfl (lv_at hl 1 rfl) ?_
  refine lv_iload_n hx hb dXB_fill_3 rfl (lv_at hl 2 rfl) ?_
  obtain ⟨_, hv, hf⟩ := bd hf
  refine q_cv (wr := (wA cI a k f)) (va_runS (As := [.int (Int32.ofNat k), .int x1, .int x2]) (rest := []) ⟨hx, hb, hml, hown, hts⟩ (ctXA_rangeCheck l dC dI cI cZ cL _ (Int32.ofNat k) x1 x2 hv) (va_cwS 3 hts (gS mw_333 mw_334 mw_39 mw_335) rfl rfl rfl (by decide +kernel) ⟨Nat.le_of_ble_eq_true rfl, Nat.le_of_ble_eq_true rfl⟩) (q_preS [.int (Int32.ofNat k), .int x1, .int x2] hK hP hD [] (by decide) rfl) rfl rfl hl.1 rfl (lv_room (Nat.le_of_ble_eq_true rfl)) dXB_fill_4 ⟨Nat.le_of_ble_eq_true rfl, Nat.le_of_ble_eq_true rfl⟩) hP hD hS hA [] [0] rfl rfl (by decide) (by decide) (fun H locs hP hD hS => ?_)
  have hP : va_P (dC, dI) vwCl (wA cI a k f) _ := hP
  have hD : va_D A (wA cI a k f) := hD
  refine lv_iload_n hx hb dXB_fill_7 rfl (lv_at hl 1 rfl) ?_
  refine lv_istore hx hb dXB_fill_8 hl (by decide) rfl (fun ls hl => ?_)
  have hl : lv_has ls 5 [(4, .int x1), (0, .ref a), (1, .int x1), (2, .int x2), (3, .int x3)] := hl
  obtain ⟨⟨x_3, f_4⟩, hv, hf⟩ := bd hf
  dsimp only at hf
  refine wXB_fill_L10 dC dI cI cZ cL a k hx hb hml hown hts hK hA x1 x2 x3 FU x1 f x_3 f_4 hv _ _ _ hP hD hS (lv_sub hl [1, 2, 3, 4, 0] rfl) (fun H locs ls hP hD hS hl => ?_)
  have hg0 := Option.some.inj hf
  subst hg0
  exact W.vret hx hb hr (fun t ht hW => ⟨⟨(), rfl, trivial, by rw [ht]; exact hP, va_K.moved hW.alike hK, hD⟩, hS.F ht⟩) hS.2.2 dXB_fill_27
set_option maxHeartbeats 4000000 in
set_option maxRecDepth 100000 in
theorem ctX0_requireRoot (l : Launch) (hlt : l.stackTraces = false) (dC : Nat → ClassId) (dI : Nat → Nat → Nat) (cI cZ cL : ClassId) (sz : Nat) (x0 : Int32) (ef : Nat) (hf : fX0_requireRoot x0 = some ef) : vx_Met l yX0_requireRoot wsX0_requireRoot (rmX0_requireRoot ef) (va_Pc [.int x0] (q_preX (dC, dI) vwCl (tyA cI cZ cL) RX0 q_tx sz ([] : va_W))) (va_Qv (fun (_ : Unit) => ef = 0) (fun _ => q_post (dC, dI) vwCl (tyA cI cZ cL) (va_A ([] : va_W) sz) ([] : va_W)) (va_A ([] : va_W) sz)) (vx_X (fun (_ : Unit) => ¬ ef = 0) (fun E _ t => E = q_E ef ∧ q_post (dC, dI) vwCl (tyA cI cZ cL) (va_A ([] : va_W) sz) ([] : va_W) t) (va_A ([] : va_W) sz)) (q_mc ef) (q_ms ef) (va_A ([] : va_W) sz) := by
  refine vx_ofW (cc := cX0_requireRoot) (maxL := 1) (ret := (none)) (by decide) rfl ?_
  intro p e s m args below meth c s₁ B hml hno hv
  obtain ⟨rfl, hsz, hP, hK, hD0, hZ0, hT, hN⟩ := hv
  have hx := B.exec
  have hb := B.bytes
  have hr := B.returns
  have hts := atoms_spec (ws := wsX0_requireRoot) B.pre
  have hown : s.vm.findClass RX0 = some m.cls := findClass_of_methodNamed B.named
  have hlk := B.notSynchronized
  subst hsz
  have hD := hD0.self (sz := s.heap.size)
  generalize hAe : va_A ([] : va_W) s.heap.size = A at hZ0 hD ⊢
  have hA : ∀ q : Nat, s.heap.size ≤ q → A q := fun q h => by rw [← hAe]; exact Or.inr h
  have hS : va_S A s.heap s.heap [] := va_S.rf
  have hl := lv_entry ([.int x0]) (n := 1) (Nat.le_of_ble_eq_true rfl)
  rw [lg_entry_eq]
  generalize (lg_sl ([.int x0]) ++ List.replicate (1 - (lg_sl ([.int x0])).length) Slot.unset).toArray = ls at hl ⊢
  have hl : lv_has ls 1 [(0, .int x0)] := hl
  unfold fX0_requireRoot at hf
  refine lv_iload_n hx hb dX0_requireRoot_0 rfl (lv_at hl 0 rfl) ?_
  refine lv_if_lt (tgt := 10) hx hb dX0_requireRoot_1 (by decide) (fun h1 => ?_) (fun h1 => ?_)
  · have hf := ift h1 hf
    have hg0 := Option.some.inj hf
    subst hg0
    exact q_throw (ef := 1) (text := "no such root") (names := ["java/lang/RuntimeException", "java/lang/Exception"]) hx hb hlt hown (by decide +kernel) (by decide +kernel) (hts _ (List.mem_cons_of_mem _ mw_138)) (hts _ (List.mem_cons_of_mem _ mw_44)) hT (by decide +kernel) (fun w hw => hts w (List.mem_cons_of_mem _ hw)) at_1 hN (by decide +kernel) (by decide +kernel) (by decide +kernel) hZ0 hS (hl.1.trans hml.symm) dX0_requireRoot_10 dX0_requireRoot_13 dX0_requireRoot_14 dX0_requireRoot_16 dX0_requireRoot_19 hno (Nat.le_of_ble_eq_true rfl) (Nat.le_of_ble_eq_true rfl) (Nat.le_of_ble_eq_true rfl) (Nat.le_of_ble_eq_true rfl) hlk rfl (by decide) hK hP hD (Nat.le_of_ble_eq_true rfl) (Nat.le_of_ble_eq_true rfl)
  · have hf := ifn h1 hf
    refine lv_iload_n hx hb dX0_requireRoot_4 rfl (lv_at hl 0 rfl) ?_
    refine lv_bipush (v := (8 : Int32)) hx hb dX0_requireRoot_5 (by decide) ?_
    refine lv_icmp_lt (tgt := 20) hx hb dX0_requireRoot_7 (by decide) (fun h2 => ?_) (fun h2 => ?_)
    · have hf := ift h2 hf
      have hg0 := Option.some.inj hf
      subst hg0
      refine vx_ret ?_
      refine W.widen (k := q_mc 0) (n := q_ms 0) (Nat.zero_le _) (Nat.zero_le _) ?_
      exact W.vret hx hb hr (fun t ht hW => ⟨⟨(), rfl, rfl, by rw [ht]; exact hP, va_K.moved hW.alike hK, hD⟩, hS.F ht⟩) hS.2.2 dX0_requireRoot_20 hlk
    · have hf := ifn h2 hf
      have hg0 := Option.some.inj hf
      subst hg0
      exact q_throw (ef := 1) (text := "no such root") (names := ["java/lang/RuntimeException", "java/lang/Exception"]) hx hb hlt hown (by decide +kernel) (by decide +kernel) (hts _ (List.mem_cons_of_mem _ mw_138)) (hts _ (List.mem_cons_of_mem _ mw_44)) hT (by decide +kernel) (fun w hw => hts w (List.mem_cons_of_mem _ hw)) at_1 hN (by decide +kernel) (by decide +kernel) (by decide +kernel) hZ0 hS (hl.1.trans hml.symm) dX0_requireRoot_10 dX0_requireRoot_13 dX0_requireRoot_14 dX0_requireRoot_16 dX0_requireRoot_19 hno (Nat.le_of_ble_eq_true rfl) (Nat.le_of_ble_eq_true rfl) (Nat.le_of_ble_eq_true rfl) (Nat.le_of_ble_eq_true rfl) hlk rfl (by decide) hK hP hD (Nat.le_of_ble_eq_true rfl) (Nat.le_of_ble_eq_true rfl)
set_option maxHeartbeats 4000000 in
set_option maxRecDepth 100000 in
theorem ctX0_requireFieldCount (l : Launch) (hlt : l.stackTraces = false) (dC : Nat → ClassId) (dI : Nat → Nat → Nat) (cI cZ cL : ClassId) (sz : Nat) (x0 : Int32) (ef : Nat) (hf : fX0_requireFieldCount x0 = some ef) : vx_Met l yX0_requireFieldCount wsX0_requireFieldCount (rmX0_requireFieldCount ef) (va_Pc [.int x0] (q_preX (dC, dI) vwCl (tyA cI cZ cL) RX0 q_tx sz ([] : va_W))) (va_Qv (fun (_ : Unit) => ef = 0) (fun _ => q_post (dC, dI) vwCl (tyA cI cZ cL) (va_A ([] : va_W) sz) ([] : va_W)) (va_A ([] : va_W) sz)) (vx_X (fun (_ : Unit) => ¬ ef = 0) (fun E _ t => E = q_E ef ∧ q_post (dC, dI) vwCl (tyA cI cZ cL) (va_A ([] : va_W) sz) ([] : va_W) t) (va_A ([] : va_W) sz)) (q_mc ef) (q_ms ef) (va_A ([] : va_W) sz) := by
  refine vx_ofW (cc := cX0_requireFieldCount) (maxL := 1) (ret := (none)) (by decide) rfl ?_
  intro p e s m args below meth c s₁ B hml hno hv
  obtain ⟨rfl, hsz, hP, hK, hD0, hZ0, hT, hN⟩ := hv
  have hx := B.exec
  have hb := B.bytes
  have hr := B.returns
  have hts := atoms_spec (ws := wsX0_requireFieldCount) B.pre
  have hown : s.vm.findClass RX0 = some m.cls := findClass_of_methodNamed B.named
  have hlk := B.notSynchronized
  subst hsz
  have hD := hD0.self (sz := s.heap.size)
  generalize hAe : va_A ([] : va_W) s.heap.size = A at hZ0 hD ⊢
  have hA : ∀ q : Nat, s.heap.size ≤ q → A q := fun q h => by rw [← hAe]; exact Or.inr h
  have hS : va_S A s.heap s.heap [] := va_S.rf
  have hl := lv_entry ([.int x0]) (n := 1) (Nat.le_of_ble_eq_true rfl)
  rw [lg_entry_eq]
  generalize (lg_sl ([.int x0]) ++ List.replicate (1 - (lg_sl ([.int x0])).length) Slot.unset).toArray = ls at hl ⊢
  have hl : lv_has ls 1 [(0, .int x0)] := hl
  unfold fX0_requireFieldCount at hf
  refine lv_iload_n hx hb dX0_requireFieldCount_0 rfl (lv_at hl 0 rfl) ?_
  refine lv_if_lt (tgt := 10) hx hb dX0_requireFieldCount_1 (by decide) (fun h1 => ?_) (fun h1 => ?_)
  · have hf := ift h1 hf
    have hg0 := Option.some.inj hf
    subst hg0
    exact q_throw (ef := 2) (text := "an object has 0 to 6 fields") (names := ["java/lang/RuntimeException", "java/lang/Exception"]) hx hb hlt hown (by decide +kernel) (by decide +kernel) (hts _ (List.mem_cons_of_mem _ mw_211)) (hts _ (List.mem_cons_of_mem _ mw_45)) hT (by decide +kernel) (fun w hw => hts w (List.mem_cons_of_mem _ hw)) at_2 hN (by decide +kernel) (by decide +kernel) (by decide +kernel) hZ0 hS (hl.1.trans hml.symm) dX0_requireFieldCount_10 dX0_requireFieldCount_13 dX0_requireFieldCount_14 dX0_requireFieldCount_16 dX0_requireFieldCount_19 hno (Nat.le_of_ble_eq_true rfl) (Nat.le_of_ble_eq_true rfl) (Nat.le_of_ble_eq_true rfl) (Nat.le_of_ble_eq_true rfl) hlk rfl (by decide) hK hP hD (Nat.le_of_ble_eq_true rfl) (Nat.le_of_ble_eq_true rfl)
  · have hf := ifn h1 hf
    refine lv_iload_n hx hb dX0_requireFieldCount_4 rfl (lv_at hl 0 rfl) ?_
    refine lv_bipush (v := (6 : Int32)) hx hb dX0_requireFieldCount_5 (by decide) ?_
    refine lv_icmp_le (tgt := 20) hx hb dX0_requireFieldCount_7 (by decide) (fun h2 => ?_) (fun h2 => ?_)
    · have hf := ift h2 hf
      have hg0 := Option.some.inj hf
      subst hg0
      refine vx_ret ?_
      refine W.widen (k := q_mc 0) (n := q_ms 0) (Nat.zero_le _) (Nat.zero_le _) ?_
      exact W.vret hx hb hr (fun t ht hW => ⟨⟨(), rfl, rfl, by rw [ht]; exact hP, va_K.moved hW.alike hK, hD⟩, hS.F ht⟩) hS.2.2 dX0_requireFieldCount_20 hlk
    · have hf := ifn h2 hf
      have hg0 := Option.some.inj hf
      subst hg0
      exact q_throw (ef := 2) (text := "an object has 0 to 6 fields") (names := ["java/lang/RuntimeException", "java/lang/Exception"]) hx hb hlt hown (by decide +kernel) (by decide +kernel) (hts _ (List.mem_cons_of_mem _ mw_211)) (hts _ (List.mem_cons_of_mem _ mw_45)) hT (by decide +kernel) (fun w hw => hts w (List.mem_cons_of_mem _ hw)) at_2 hN (by decide +kernel) (by decide +kernel) (by decide +kernel) hZ0 hS (hl.1.trans hml.symm) dX0_requireFieldCount_10 dX0_requireFieldCount_13 dX0_requireFieldCount_14 dX0_requireFieldCount_16 dX0_requireFieldCount_19 hno (Nat.le_of_ble_eq_true rfl) (Nat.le_of_ble_eq_true rfl) (Nat.le_of_ble_eq_true rfl) (Nat.le_of_ble_eq_true rfl) hlk rfl (by decide) hK hP hD (Nat.le_of_ble_eq_true rfl) (Nat.le_of_ble_eq_true rfl)
set_option maxHeartbeats 4000000 in
set_option maxRecDepth 100000 in
theorem ctX0_requireWay (l : Launch) (hlt : l.stackTraces = false) (dC : Nat → ClassId) (dI : Nat → Nat → Nat) (cI cZ cL : ClassId) (sz : Nat) (x0 : Int32) (ef : Nat) (hf : fX0_requireWay x0 = some ef) : vx_Met l yX0_requireWay wsX0_requireWay (rmX0_requireWay ef) (va_Pc [.int x0] (q_preX (dC, dI) vwCl (tyA cI cZ cL) RX0 q_tx sz ([] : va_W))) (va_Qv (fun (_ : Unit) => ef = 0) (fun _ => q_post (dC, dI) vwCl (tyA cI cZ cL) (va_A ([] : va_W) sz) ([] : va_W)) (va_A ([] : va_W) sz)) (vx_X (fun (_ : Unit) => ¬ ef = 0) (fun E _ t => E = q_E ef ∧ q_post (dC, dI) vwCl (tyA cI cZ cL) (va_A ([] : va_W) sz) ([] : va_W) t) (va_A ([] : va_W) sz)) (q_mc ef) (q_ms ef) (va_A ([] : va_W) sz) := by
  refine vx_ofW (cc := cX0_requireWay) (maxL := 1) (ret := (none)) (by decide) rfl ?_
  intro p e s m args below meth c s₁ B hml hno hv
  obtain ⟨rfl, hsz, hP, hK, hD0, hZ0, hT, hN⟩ := hv
  have hx := B.exec
  have hb := B.bytes
  have hr := B.returns
  have hts := atoms_spec (ws := wsX0_requireWay) B.pre
  have hown : s.vm.findClass RX0 = some m.cls := findClass_of_methodNamed B.named
  have hlk := B.notSynchronized
  subst hsz
  have hD := hD0.self (sz := s.heap.size)
  generalize hAe : va_A ([] : va_W) s.heap.size = A at hZ0 hD ⊢
  have hA : ∀ q : Nat, s.heap.size ≤ q → A q := fun q h => by rw [← hAe]; exact Or.inr h
  have hS : va_S A s.heap s.heap [] := va_S.rf
  have hl := lv_entry ([.int x0]) (n := 1) (Nat.le_of_ble_eq_true rfl)
  rw [lg_entry_eq]
  generalize (lg_sl ([.int x0]) ++ List.replicate (1 - (lg_sl ([.int x0])).length) Slot.unset).toArray = ls at hl ⊢
  have hl : lv_has ls 1 [(0, .int x0)] := hl
  unfold fX0_requireWay at hf
  refine lv_iload_n hx hb dX0_requireWay_0 rfl (lv_at hl 0 rfl) ?_
  refine lv_if_lt (tgt := 9) hx hb dX0_requireWay_1 (by decide) (fun h1 => ?_) (fun h1 => ?_)
  · have hf := ift h1 hf
    have hg0 := Option.some.inj hf
    subst hg0
    exact q_throw (ef := 2) (text := "the ways are 0 to 2") (names := ["java/lang/RuntimeException", "java/lang/Exception"]) hx hb hlt hown (by decide +kernel) (by decide +kernel) (hts _ (List.mem_cons_of_mem _ mw_211)) (hts _ (List.mem_cons_of_mem _ mw_45)) hT (by decide +kernel) (fun w hw => hts w (List.mem_cons_of_mem _ hw)) at_2 hN (by decide +kernel) (by decide +kernel) (by decide +kernel) hZ0 hS (hl.1.trans hml.symm) dX0_requireWay_9 dX0_requireWay_12 dX0_requireWay_13 dX0_requireWay_15 dX0_requireWay_18 hno (Nat.le_of_ble_eq_true rfl) (Nat.le_of_ble_eq_true rfl) (Nat.le_of_ble_eq_true rfl) (Nat.le_of_ble_eq_true rfl) hlk rfl (by decide) hK hP hD (Nat.le_of_ble_eq_true rfl) (Nat.le_of_ble_eq_true rfl)
  · have hf := ifn h1 hf
    refine lv_iload_n hx hb dX0_requireWay_4 rfl (lv_at hl 0 rfl) ?_
    refine lv_iconst (v := (2 : Int32)) hx hb dX0_requireWay_5 (by decide) ?_
    refine lv_icmp_le (tgt := 19) hx hb dX0_requireWay_6 (by decide) (fun h2 => ?_) (fun h2 => ?_)
    · have hf := ift h2 hf
      have hg0 := Option.some.inj hf
      subst hg0
      refine vx_ret ?_
      refine W.widen (k := q_mc 0) (n := q_ms 0) (Nat.zero_le _) (Nat.zero_le _) ?_
      exact W.vret hx hb hr (fun t ht hW => ⟨⟨(), rfl, rfl, by rw [ht]; exact hP, va_K.moved hW.alike hK, hD⟩, hS.F ht⟩) hS.2.2 dX0_requireWay_19 hlk
    · have hf := ifn h2 hf
      have hg0 := Option.some.inj hf
      subst hg0
      exact q_throw (ef := 2) (text := "the ways are 0 to 2") (names := ["java/lang/RuntimeException", "java/lang/Exception"]) hx hb hlt hown (by decide +kernel) (by decide +kernel) (hts _ (List.mem_cons_of_mem _ mw_211)) (hts _ (List.mem_cons_of_mem _ mw_45)) hT (by decide +kernel) (fun w hw => hts w (List.mem_cons_of_mem _ hw)) at_2 hN (by decide +kernel) (by decide +kernel) (by decide +kernel) hZ0 hS (hl.1.trans hml.symm) dX0_requireWay_9 dX0_requireWay_12 dX0_requireWay_13 dX0_requireWay_15 dX0_requireWay_18 hno (Nat.le_of_ble_eq_true rfl) (Nat.le_of_ble_eq_true rfl) (Nat.le_of_ble_eq_true rfl) (Nat.le_of_ble_eq_true rfl) hlk rfl (by decide) hK hP hD (Nat.le_of_ble_eq_true rfl) (Nat.le_of_ble_eq_true rfl)
set_option maxHeartbeats 4000000 in
set_option maxRecDepth 100000 in
theorem ctX0_fieldAddress (l : Launch) (dC : Nat → ClassId) (dI : Nat → Nat → Nat) (cI cZ cL : ClassId) (sz : Nat) (x0 : Int32) (x1 : Int32) (rs : Int32) (hf : fX0_fieldAddress x0 x1 = some rs) : Met l yX0_fieldAddress wsX0_fieldAddress rmX0_fieldAddress (va_Pc [.int x0, .int x1] (q_pre (dC, dI) vwCl (tyA cI cZ cL) sz ([] : va_W))) (va_Qi (fun r (_ : Unit) => r = rs) (fun _ => q_post (dC, dI) vwCl (tyA cI cZ cL) (va_A ([] : va_W) sz) ([] : va_W)) (va_A ([] : va_W) sz)) 0 0 (va_A ([] : va_W) sz) := by
  refine Met.ofW (cc := cX0_fieldAddress) (maxL := 2) (ret := (some .int)) (by decide) rfl ?_
  intro p e s m args below meth c s₁ B hml hv
  obtain ⟨rfl, hsz, hP, hK, hD0⟩ := hv
  have hx := B.exec
  have hb := B.bytes
  have hr := B.returns
  have hts := atoms_spec (ws := wsX0_fieldAddress) B.pre
  have hown : s.vm.findClass RX0 = some m.cls := findClass_of_methodNamed B.named
  subst hsz
  have hD := hD0.self (sz := s.heap.size)
  generalize hAe : va_A ([] : va_W) s.heap.size = A at hD ⊢
  have hA : ∀ q : Nat, s.heap.size ≤ q → A q := fun q h => by rw [← hAe]; exact Or.inr h
  have hS : va_S A s.heap s.heap [] := va_S.rf
  have hl := lv_entry ([.int x0, .int x1]) (n := 2) (Nat.le_of_ble_eq_true rfl)
  rw [lg_entry_eq]
  generalize (lg_sl ([.int x0, .int x1]) ++ List.replicate (2 - (lg_sl ([.int x0, .int x1])).length) Slot.unset).toArray = ls at hl ⊢
  have hl : lv_has ls 2 [(0, .int x0), (1, .int x1)] := hl
  unfold fX0_fieldAddress at hf
  refine lv_iload_n hx hb dX0_fieldAddress_0 rfl (lv_at hl 0 rfl) ?_
  refine lv_iconst (v := (2 : Int32)) hx hb dX0_fieldAddress_1 (by decide) ?_
  refine lv_iadd hx hb dX0_fieldAddress_2 ?_
  refine lv_iload_n hx hb dX0_fieldAddress_3 rfl (lv_at hl 1 rfl) ?_
  refine lv_iadd hx hb dX0_fieldAddress_4 ?_
  have hg0 := Option.some.inj hf
  subst hg0
  exact W.iret hx hb hr (fun t ht hW => ⟨⟨_, (), rfl, rfl, by rw [ht]; exact hP, va_K.moved hW.alike hK, hD⟩, hS.F ht⟩) hS.2.2 dX0_fieldAddress_5
set_option maxHeartbeats 4000000 in
set_option maxRecDepth 100000 in
theorem ctX0_hasRoom (l : Launch) (dC : Nat → ClassId) (dI : Nat → Nat → Nat) (cI cZ cL : ClassId) (h a1 a2 a3 a4 a5 : Nat) (sz : Nat) (w : Nat → Int32) (r : Nat → Int32) (st : Nat → Int32) (rc : Nat → Int32) (na : Nat → Int32) (tp : Int32) (cn : Int32) (rh : Int32) (sr : Int32) (x1 : Int32) (rs : Int32) (hf : fX0_hasRoom tp x1 = some rs) : Met l yX0_hasRoom wsX0_hasRoom rmX0_hasRoom (va_Pc [.ref h, .int x1] (q_pre (dC, dI) vwCl (tyA cI cZ cL) sz (wX cI h a1 a2 a3 a4 a5 w r st rc na tp cn rh sr))) (va_Qi (fun r (_ : Unit) => r = rs) (fun _ => q_post (dC, dI) vwCl (tyA cI cZ cL) (va_A (wX cI h a1 a2 a3 a4 a5 w r st rc na tp cn rh sr) sz) (wX cI h a1 a2 a3 a4 a5 w r st rc na tp cn rh sr)) (va_A (wX cI h a1 a2 a3 a4 a5 w r st rc na tp cn rh sr) sz)) 0 0 (va_A (wX cI h a1 a2 a3 a4 a5 w r st rc na tp cn rh sr) sz) := by
  refine Met.ofW (cc := cX0_hasRoom) (maxL := 2) (ret := (some .boolean)) (by decide) rfl ?_
  intro p e s m args below meth c s₁ B hml hv
  obtain ⟨rfl, hsz, hP, hK, hD0⟩ := hv
  have hx := B.exec
  have hb := B.bytes
  have hr := B.returns
  have hts := atoms_spec (ws := wsX0_hasRoom) B.pre
  have hown : s.vm.findClass RX0 = some m.cls := findClass_of_methodNamed B.named
  subst hsz
  have hD := hD0.self (sz := s.heap.size)
  generalize hAe : va_A (wX cI h a1 a2 a3 a4 a5 w r st rc na tp cn rh sr) s.heap.size = A at hD ⊢
  have hA : ∀ q : Nat, s.heap.size ≤ q → A q := fun q h => by rw [← hAe]; exact Or.inr h
  have hS : va_S A s.heap s.heap [] := va_S.rf
  have hl := lv_entry ([.ref h, .int x1]) (n := 2) (Nat.le_of_ble_eq_true rfl)
  rw [lg_entry_eq]
  generalize (lg_sl ([.ref h, .int x1]) ++ List.replicate (2 - (lg_sl ([.ref h, .int x1])).length) Slot.unset).toArray = ls at hl ⊢
  have hl : lv_has ls 2 [(0, .ref h), (1, .int x1)] := hl
  unfold fX0_hasRoom at hf
  refine lv_aload_n hx hb dX0_hasRoom_0 rfl (lv_at hl 0 rfl) ?_
  refine va_get (D := (dC, dI)) (ci := 0) (v := .int tp) (C := RX0) (T := TX0) (N := 9) hx hb hts (fun w hw => List.mem_cons_of_mem _ (inX0 w hw)) hown hK hP 0 rfl rfl 5 (by decide) (hts _ (List.mem_cons_of_mem _ mw_66)) (fun _ h9 => h9) rfl dX0_hasRoom_1 ?_
  refine lv_iconst (v := (2 : Int32)) hx hb dX0_hasRoom_4 (by decide) ?_
  refine lv_iadd hx hb dX0_hasRoom_5 ?_
  refine lv_iload_n hx hb dX0_hasRoom_6 rfl (lv_at hl 1 rfl) ?_
  refine lv_iadd hx hb dX0_hasRoom_7 ?_
  refine lv_sipush (v := (256 : Int32)) hx hb dX0_hasRoom_8 (by decide) ?_
  refine lv_icmp_gt (tgt := 18) hx hb dX0_hasRoom_11 (by decide) (fun h1 => ?_) (fun h1 => ?_)
  · have hf := ift h1 hf
    refine lv_iconst (v := (0 : Int32)) hx hb dX0_hasRoom_18 (by decide) ?_
    have hg0 := Option.some.inj hf
    subst hg0
    exact W.zret hx hb hr rfl (fun t ht hW => ⟨⟨_, (), rfl, rfl, by rw [ht]; exact hP, va_K.moved hW.alike hK, hD⟩, hS.F ht⟩) hS.2.2 dX0_hasRoom_19
  · have hf := ifn h1 hf
    refine lv_iconst (v := (1 : Int32)) hx hb dX0_hasRoom_14 (by decide) ?_
    refine lv_goto (tgt := 19) hx hb dX0_hasRoom_15 (by decide) ?_
    have hg0 := Option.some.inj hf
    subst hg0
    exact W.zret hx hb hr rfl (fun t ht hW => ⟨⟨_, (), rfl, rfl, by rw [ht]; exact hP, va_K.moved hW.alike hK, hD⟩, hS.F ht⟩) hS.2.2 dX0_hasRoom_19
set_option maxHeartbeats 4000000 in
set_option maxRecDepth 100000 in
theorem ctX0_fieldCount (l : Launch) (dC : Nat → ClassId) (dI : Nat → Nat → Nat) (cI cZ cL : ClassId) (h a1 a2 a3 a4 a5 : Nat) (sz : Nat) (w : Nat → Int32) (r : Nat → Int32) (st : Nat → Int32) (rc : Nat → Int32) (na : Nat → Int32) (tp : Int32) (cn : Int32) (rh : Int32) (sr : Int32) (x1 : Int32) (rs : Int32) (hf : fX0_fieldCount w x1 = some rs) : Met l yX0_fieldCount wsX0_fieldCount rmX0_fieldCount (va_Pc [.ref h, .int x1] (q_pre (dC, dI) vwCl (tyA cI cZ cL) sz (wX cI h a1 a2 a3 a4 a5 w r st rc na tp cn rh sr))) (va_Qi (fun r (_ : Unit) => r = rs) (fun _ => q_post (dC, dI) vwCl (tyA cI cZ cL) (va_A (wX cI h a1 a2 a3 a4 a5 w r st rc na tp cn rh sr) sz) (wX cI h a1 a2 a3 a4 a5 w r st rc na tp cn rh sr)) (va_A (wX cI h a1 a2 a3 a4 a5 w r st rc na tp cn rh sr) sz)) 0 0 (va_A (wX cI h a1 a2 a3 a4 a5 w r st rc na tp cn rh sr) sz) := by
  refine Met.ofW (cc := cX0_fieldCount) (maxL := 2) (ret := (some .int)) (by decide) rfl ?_
  intro p e s m args below meth c s₁ B hml hv
  obtain ⟨rfl, hsz, hP, hK, hD0⟩ := hv
  have hx := B.exec
  have hb := B.bytes
  have hr := B.returns
  have hts := atoms_spec (ws := wsX0_fieldCount) B.pre
  have hown : s.vm.findClass RX0 = some m.cls := findClass_of_methodNamed B.named
  subst hsz
  have hD := hD0.self (sz := s.heap.size)
  generalize hAe : va_A (wX cI h a1 a2 a3 a4 a5 w r st rc na tp cn rh sr) s.heap.size = A at hD ⊢
  have hA : ∀ q : Nat, s.heap.size ≤ q → A q := fun q h => by rw [← hAe]; exact Or.inr h
  have hS : va_S A s.heap s.heap [] := va_S.rf
  have hl := lv_entry ([.ref h, .int x1]) (n := 2) (Nat.le_of_ble_eq_true rfl)
  rw [lg_entry_eq]
  generalize (lg_sl ([.ref h, .int x1]) ++ List.replicate (2 - (lg_sl ([.ref h, .int x1])).length) Slot.unset).toArray = ls at hl ⊢
  have hl : lv_has ls 2 [(0, .ref h), (1, .int x1)] := hl
  unfold fX0_fieldCount at hf
  refine lv_aload_n hx hb dX0_fieldCount_0 rfl (lv_at hl 0 rfl) ?_
  refine va_get (D := (dC, dI)) (ci := 0) (v := .ref a1) (C := RX0) (T := TX0) (N := 9) hx hb hts (fun w hw => List.mem_cons_of_mem _ (inX0 w hw)) hown hK hP 0 rfl rfl 0 (by decide) (hts _ (List.mem_cons_of_mem _ mw_61)) (fun _ h9 => h9) rfl dX0_fieldCount_1 ?_
  refine lv_iload_n hx hb dX0_fieldCount_4 rfl (lv_at hl 1 rfl) ?_
  obtain ⟨v1, hv, hf⟩ := bd hf
  refine q_ild hx hb hK hP 1 0 rfl rfl hv dX0_fieldCount_5 ?_
  refine lv_bipush (v := (15 : Int32)) hx hb dX0_fieldCount_6 (by decide) ?_
  refine lv_iand hx hb dX0_fieldCount_8 ?_
  have hg0 := Option.some.inj hf
  subst hg0
  exact W.iret hx hb hr (fun t ht hW => ⟨⟨_, (), rfl, rfl, by rw [ht]; exact hP, va_K.moved hW.alike hK, hD⟩, hS.F ht⟩) hS.2.2 dX0_fieldCount_9
set_option maxHeartbeats 4000000 in
set_option maxRecDepth 100000 in
theorem ctX0_sizeOf (l : Launch) (dC : Nat → ClassId) (dI : Nat → Nat → Nat) (cI cZ cL : ClassId) (h a1 a2 a3 a4 a5 : Nat) (sz : Nat) (w : Nat → Int32) (r : Nat → Int32) (st : Nat → Int32) (rc : Nat → Int32) (na : Nat → Int32) (tp : Int32) (cn : Int32) (rh : Int32) (sr : Int32) (x1 : Int32) (rs : Int32) (hf : fX0_sizeOf w x1 = some rs) : Met l yX0_sizeOf wsX0_sizeOf rmX0_sizeOf (va_Pc [.ref h, .int x1] (q_pre (dC, dI) vwCl (tyA cI cZ cL) sz (wX cI h a1 a2 a3 a4 a5 w r st rc na tp cn rh sr))) (va_Qi (fun r (_ : Unit) => r = rs) (fun _ => q_post (dC, dI) vwCl (tyA cI cZ cL) (va_A (wX cI h a1 a2 a3 a4 a5 w r st rc na tp cn rh sr) sz) (wX cI h a1 a2 a3 a4 a5 w r st rc na tp cn rh sr)) (va_A (wX cI h a1 a2 a3 a4 a5 w r st rc na tp cn rh sr) sz)) 0 0 (va_A (wX cI h a1 a2 a3 a4 a5 w r st rc na tp cn rh sr) sz) := by
  refine Met.ofW (cc := cX0_sizeOf) (maxL := 2) (ret := (some .int)) (by decide) rfl ?_
  intro p e s m args below meth c s₁ B hml hv
  obtain ⟨rfl, hsz, hP, hK, hD0⟩ := hv
  have hx := B.exec
  have hb := B.bytes
  have hr := B.returns
  have hts := atoms_spec (ws := wsX0_sizeOf) B.pre
  have hown : s.vm.findClass RX0 = some m.cls := findClass_of_methodNamed B.named
  subst hsz
  have hD := hD0.self (sz := s.heap.size)
  generalize hAe : va_A (wX cI h a1 a2 a3 a4 a5 w r st rc na tp cn rh sr) s.heap.size = A at hD ⊢
  have hA : ∀ q : Nat, s.heap.size ≤ q → A q := fun q h => by rw [← hAe]; exact Or.inr h
  have hS : va_S A s.heap s.heap [] := va_S.rf
  have hl := lv_entry ([.ref h, .int x1]) (n := 2) (Nat.le_of_ble_eq_true rfl)
  rw [lg_entry_eq]
  generalize (lg_sl ([.ref h, .int x1]) ++ List.replicate (2 - (lg_sl ([.ref h, .int x1])).length) Slot.unset).toArray = ls at hl ⊢
  have hl : lv_has ls 2 [(0, .ref h), (1, .int x1)] := hl
  unfold fX0_sizeOf at hf
  refine lv_iconst (v := (2 : Int32)) hx hb dX0_sizeOf_0 (by decide) ?_
  refine lv_aload_n hx hb dX0_sizeOf_1 rfl (lv_at hl 0 rfl) ?_
  refine lv_iload_n hx hb dX0_sizeOf_2 rfl (lv_at hl 1 rfl) ?_
  obtain ⟨v1, hv, hf⟩ := bd hf
  refine q_ci (wr := []) (va_runV (As := [.int x1]) (rest := [.int (2 : Int32)]) ⟨hx, hb, hml, hown, hts⟩ (ctX0_fieldCount l dC dI cI cZ cL h a1 a2 a3 a4 a5 _ w r st rc na tp cn rh sr x1 v1 hv) (cwV 1 hts (gV mw_114 mw_116 mw_3 mw_38 mw_117) rfl rfl rfl (by decide +kernel) ⟨Nat.le_of_ble_eq_true rfl, Nat.le_of_ble_eq_true rfl⟩) (q_preV [.int x1] hK hP hD [0, 1, 2, 3, 4, 5] (by decide) rfl (ci := 0) rfl rfl) rfl rfl hl.1 rfl (lv_room (Nat.le_of_ble_eq_true rfl)) dX0_sizeOf_3 ⟨Nat.le_of_ble_eq_true rfl, Nat.le_of_ble_eq_true rfl⟩) hP hD hS hA [0, 1, 2, 3, 4, 5] [] rfl rfl (by decide) (by decide) (fun H locs hP hD hS => ?_)
  have hP : va_P (dC, dI) vwCl (wX cI h a1 a2 a3 a4 a5 w r st rc na tp cn rh sr) _ := hP
  have hD : va_D A (wX cI h a1 a2 a3 a4 a5 w r st rc na tp cn rh sr) := hD
  refine lv_iadd hx hb dX0_sizeOf_6 ?_
  have hg0 := Option.some.inj hf
  subst hg0
  exact W.iret hx hb hr (fun t ht hW => ⟨⟨_, (), rfl, rfl, by rw [ht]; exact hP, va_K.moved hW.alike hK, hD⟩, hS.F ht⟩) hS.2.2 dX0_sizeOf_7
set_option maxHeartbeats 4000000 in
set_option maxRecDepth 100000 in
theorem ctX0_fieldKind (l : Launch) (dC : Nat → ClassId) (dI : Nat → Nat → Nat) (cI cZ cL : ClassId) (h a1 a2 a3 a4 a5 : Nat) (sz : Nat) (w : Nat → Int32) (r : Nat → Int32) (st : Nat → Int32) (rc : Nat → Int32) (na : Nat → Int32) (tp : Int32) (cn : Int32) (rh : Int32) (sr : Int32) (x1 : Int32) (x2 : Int32) (rs : Int32) (hf : fX0_fieldKind w x1 x2 = some rs) : Met l yX0_fieldKind wsX0_fieldKind rmX0_fieldKind (va_Pc [.ref h, .int x1, .int x2] (q_pre (dC, dI) vwCl (tyA cI cZ cL) sz (wX cI h a1 a2 a3 a4 a5 w r st rc na tp cn rh sr))) (va_Qi (fun r (_ : Unit) => r = rs) (fun _ => q_post (dC, dI) vwCl (tyA cI cZ cL) (va_A (wX cI h a1 a2 a3 a4 a5 w r st rc na tp cn rh sr) sz) (wX cI h a1 a2 a3 a4 a5 w r st rc na tp cn rh sr)) (va_A (wX cI h a1 a2 a3 a4 a5 w r st rc na tp cn rh sr) sz)) 0 0 (va_A (wX cI h a1 a2 a3 a4 a5 w r st rc na tp cn rh sr) sz) := by
  refine Met.ofW (cc := cX0_fieldKind) (maxL := 4) (ret := (some .int)) (by decide) rfl ?_
  intro p e s m args below meth c s₁ B hml hv
  obtain ⟨rfl, hsz, hP, hK, hD0⟩ := hv
  have hx := B.exec
  have hb := B.bytes
  have hr := B.returns
  have hts := atoms_spec (ws := wsX0_fieldKind) B.pre
  have hown : s.vm.findClass RX0 = some m.cls := findClass_of_methodNamed B.named
  subst hsz
  have hD := hD0.self (sz := s.heap.size)
  generalize hAe : va_A (wX cI h a1 a2 a3 a4 a5 w r st rc na tp cn rh sr) s.heap.size = A at hD ⊢
  have hA : ∀ q : Nat, s.heap.size ≤ q → A q := fun q h => by rw [← hAe]; exact Or.inr h
  have hS : va_S A s.heap s.heap [] := va_S.rf
  have hl := lv_entry ([.ref h, .int x1, .int x2]) (n := 4) (Nat.le_of_ble_eq_true rfl)
  rw [lg_entry_eq]
  generalize (lg_sl ([.ref h, .int x1, .int x2]) ++ List.replicate (4 - (lg_sl ([.ref h, .int x1, .int x2])).length) Slot.unset).toArray = ls at hl ⊢
  have hl : lv_has ls 4 [(0, .ref h), (1, .int x1), (2, .int x2)] := hl
  unfold fX0_fieldKind at hf
  refine lv_aload_n hx hb dX0_fieldKind_0 rfl (lv_at hl 0 rfl) ?_
  refine va_get (D := (dC, dI)) (ci := 0) (v := .ref a1) (C := RX0) (T := TX0) (N := 9) hx hb hts (fun w hw => List.mem_cons_of_mem _ (inX0 w hw)) hown hK hP 0 rfl rfl 0 (by decide) (hts _ (List.mem_cons_of_mem _ mw_61)) (fun _ h9 => h9) rfl dX0_fieldKind_1 ?_
  refine lv_iload_n hx hb dX0_fieldKind_4 rfl (lv_at hl 1 rfl) ?_
  obtain ⟨v1, hv, hf⟩ := bd hf
  refine q_ild hx hb hK hP 1 0 rfl rfl hv dX0_fieldKind_5 ?_
  refine lv_istore_n hx hb dX0_fieldKind_6 rfl hl (by decide) rfl (fun ls hl => ?_)
  have hl : lv_has ls 4 [(3, .int v1), (0, .ref h), (1, .int x1), (2, .int x2)] := hl
  refine lv_iload_n hx hb dX0_fieldKind_7 rfl (lv_at hl 0 rfl) ?_
  refine lv_bipush (v := (16 : Int32)) hx hb dX0_fieldKind_8 (by decide) ?_
  refine lv_iload_n hx hb dX0_fieldKind_10 rfl (lv_at hl 3 rfl) ?_
  refine lv_ishl hx hb dX0_fieldKind_11 ?_
  refine lv_iand hx hb dX0_fieldKind_12 ?_
  refine lv_if_eq (tgt := 18) hx hb dX0_fieldKind_13 (by decide) (fun h2 => ?_) (fun h2 => ?_)
  · have hf := ift h2 hf
    refine lv_iload_n hx hb dX0_fieldKind_18 rfl (lv_at hl 0 rfl) ?_
    refine lv_sipush (v := (1024 : Int32)) hx hb dX0_fieldKind_19 (by decide) ?_
    refine lv_iload_n hx hb dX0_fieldKind_22 rfl (lv_at hl 3 rfl) ?_
    refine lv_ishl hx hb dX0_fieldKind_23 ?_
    refine lv_iand hx hb dX0_fieldKind_24 ?_
    refine lv_if_eq (tgt := 32) hx hb dX0_fieldKind_25 (by decide) (fun h3 => ?_) (fun h3 => ?_)
    · have hf := ift h3 hf
      refine lv_iconst (v := (0 : Int32)) hx hb dX0_fieldKind_32 (by decide) ?_
      have hg0 := Option.some.inj hf
      subst hg0
      exact W.iret hx hb hr (fun t ht hW => ⟨⟨_, (), rfl, rfl, by rw [ht]; exact hP, va_K.moved hW.alike hK, hD⟩, hS.F ht⟩) hS.2.2 dX0_fieldKind_33
    · have hf := ifn h3 hf
      refine lv_iconst (v := (2 : Int32)) hx hb dX0_fieldKind_28 (by decide) ?_
      refine lv_goto (tgt := 33) hx hb dX0_fieldKind_29 (by decide) ?_
      have hg0 := Option.some.inj hf
      subst hg0
      exact W.iret hx hb hr (fun t ht hW => ⟨⟨_, (), rfl, rfl, by rw [ht]; exact hP, va_K.moved hW.alike hK, hD⟩, hS.F ht⟩) hS.2.2 dX0_fieldKind_33
  · have hf := ifn h2 hf
    refine lv_iconst (v := (1 : Int32)) hx hb dX0_fieldKind_16 (by decide) ?_
    have hg0 := Option.some.inj hf
    subst hg0
    exact W.iret hx hb hr (fun t ht hW => ⟨⟨_, (), rfl, rfl, by rw [ht]; exact hP, va_K.moved hW.alike hK, hD⟩, hS.F ht⟩) hS.2.2 dX0_fieldKind_17
end
section
set_option maxHeartbeats 4000000 in
set_option maxRecDepth 100000 in
theorem ctX0_setField (l : Launch) (dC : Nat → ClassId) (dI : Nat → Nat → Nat) (cI cZ cL : ClassId) (h a1 a2 a3 a4 a5 : Nat) (sz : Nat) (w : Nat → Int32) (r : Nat → Int32) (st : Nat → Int32) (rc : Nat → Int32) (na : Nat → Int32) (tp : Int32) (cn : Int32) (rh : Int32) (sr : Int32) (x1 : Int32) (x2 : Int32) (x3 : Int32) (x4 : Int32) (w' : Nat → Int32) (hf : fX0_setField w x1 x2 x3 x4 = some w') : Met l yX0_setField wsX0_setField rmX0_setField (va_Pc [.ref h, .int x1, .int x2, .int x3, .int x4] (q_pre (dC, dI) vwCl (tyA cI cZ cL) sz (wX cI h a1 a2 a3 a4 a5 w r st rc na tp cn rh sr))) (va_Qv (fun (_ : Unit) => True) (fun _ => q_post (dC, dI) vwCl (tyA cI cZ cL) (va_A (wX cI h a1 a2 a3 a4 a5 w r st rc na tp cn rh sr) sz) (wX cI h a1 a2 a3 a4 a5 w' r st rc na tp cn rh sr)) (va_A (wX cI h a1 a2 a3 a4 a5 w r st rc na tp cn rh sr) sz)) 0 0 (va_A (wX cI h a1 a2 a3 a4 a5 w r st rc na tp cn rh sr) sz) := by
  refine Met.ofW (cc := cX0_setField) (maxL := 8) (ret := (none)) (by decide) rfl ?_
  intro p e s m args below meth c s₁ B hml hv
  obtain ⟨rfl, hsz, hP, hK, hD0⟩ := hv
  have hx := B.exec
  have hb := B.bytes
  have hr := B.returns
  have hts := atoms_spec (ws := wsX0_setField) B.pre
  have hown : s.vm.findClass RX0 = some m.cls := findClass_of_methodNamed B.named
  subst hsz
  have hD := hD0.self (sz := s.heap.size)
  generalize hAe : va_A (wX cI h a1 a2 a3 a4 a5 w r st rc na tp cn rh sr) s.heap.size = A at hD ⊢
  have hA : ∀ q : Nat, s.heap.size ≤ q → A q := fun q h => by rw [← hAe]; exact Or.inr h
  have hS : va_S A s.heap s.heap [] := va_S.rf
  have hl := lv_entry ([.ref h, .int x1, .int x2, .int x3, .int x4]) (n := 8) (Nat.le_of_ble_eq_true rfl)
  rw [lg_entry_eq]
  generalize (lg_sl ([.ref h, .int x1, .int x2, .int x3, .int x4]) ++ List.replicate (8 - (lg_sl ([.ref h, .int x1, .int x2, .int x3, .int x4])).length) Slot.unset).toArray = ls at hl ⊢
  have hl : lv_has ls 8 [(0, .ref h), (1, .int x1), (2, .int x2), (3, .int x3), (4, .int x4)] := hl
  unfold fX0_setField at hf
  refine lv_bipush (v := (16 : Int32)) hx hb dX0_setField_0 (by decide) ?_
  refine lv_iload_n hx hb dX0_setField_2 rfl (lv_at hl 2 rfl) ?_
  refine lv_ishl hx hb dX0_setField_3 ?_
  refine lv_istore hx hb dX0_setField_4 hl (by decide) rfl (fun ls hl => ?_)
  have hl : lv_has ls 8 [(5, .int ((16 : Int32) <<< (x2 &&& 31))), (0, .ref h), (1, .int x1), (2, .int x2), (3, .int x3), (4, .int x4)] := hl
  refine lv_sipush (v := (1024 : Int32)) hx hb dX0_setField_6 (by decide) ?_
  refine lv_iload_n hx hb dX0_setField_9 rfl (lv_at hl 3 rfl) ?_
  refine lv_ishl hx hb dX0_setField_10 ?_
  refine lv_istore hx hb dX0_setField_11 hl (by decide) rfl (fun ls hl => ?_)
  have hl : lv_has ls 8 [(6, .int ((1024 : Int32) <<< (x2 &&& 31))), (5, .int ((16 : Int32) <<< (x2 &&& 31))), (0, .ref h), (1, .int x1), (2, .int x2), (3, .int x3), (4, .int x4)] := hl
  refine lv_aload_n hx hb dX0_setField_13 rfl (lv_at hl 2 rfl) ?_
  refine va_get (D := (dC, dI)) (ci := 0) (v := .ref a1) (C := RX0) (T := TX0) (N := 9) hx hb hts (fun w hw => List.mem_cons_of_mem _ (inX0 w hw)) hown hK hP 0 rfl rfl 0 (by decide) (hts _ (List.mem_cons_of_mem _ mw_61)) (fun _ h9 => h9) rfl dX0_setField_14 ?_
  refine lv_iload_n hx hb dX0_setField_17 rfl (lv_at hl 3 rfl) ?_
  obtain ⟨v1, hv, hf⟩ := bd hf
  refine q_ild hx hb hK hP 1 0 rfl rfl hv dX0_setField_18 ?_
  refine lv_iload hx hb dX0_setField_19 (lv_at hl 1 rfl) ?_
  refine lv_iload hx hb dX0_setField_21 (lv_at hl 0 rfl) ?_
  refine lv_ior hx hb dX0_setField_23 ?_
  refine lv_iconst (v := (-1 : Int32)) hx hb dX0_setField_24 (by decide) ?_
  refine lv_ixor hx hb dX0_setField_25 ?_
  refine lv_iand hx hb dX0_setField_26 ?_
  refine lv_istore hx hb dX0_setField_27 hl (by decide) rfl (fun ls hl => ?_)
  have hl : lv_has ls 8 [(7, .int (v1 &&& ((((16 : Int32) <<< (x2 &&& 31)) ||| ((1024 : Int32) <<< (x2 &&& 31))) ^^^ (-1 : Int32)))), (6, .int ((1024 : Int32) <<< (x2 &&& 31))), (5, .int ((16 : Int32) <<< (x2 &&& 31))), (0, .ref h), (1, .int x1), (2, .int x2), (3, .int x3), (4, .int x4)] := hl
  refine lv_iload_n hx hb dX0_setField_29 rfl (lv_at hl 6 rfl) ?_
  refine lv_iconst (v := (1 : Int32)) hx hb dX0_setField_30 (by decide) ?_
  refine lv_icmp_ne (tgt := 44) hx hb dX0_setField_31 (by decide) (fun h2 => ?_) (fun h2 => ?_)
  · have hf := ifn h2 hf
    refine lv_iload_n hx hb dX0_setField_44 rfl (lv_at hl 6 rfl) ?_
    refine lv_iconst (v := (2 : Int32)) hx hb dX0_setField_45 (by decide) ?_
    refine lv_icmp_ne (tgt := 56) hx hb dX0_setField_46 (by decide) (fun h3 => ?_) (fun h3 => ?_)
    · have hf := ifn h3 hf
      refine lv_aload_n hx hb dX0_setField_56 rfl (lv_at hl 3 rfl) ?_
      refine va_get (D := (dC, dI)) (ci := 0) (v := .ref a1) (C := RX0) (T := TX0) (N := 9) hx hb hts (fun w hw => List.mem_cons_of_mem _ (inX0 w hw)) hown hK hP 0 rfl rfl 0 (by decide) (hts _ (List.mem_cons_of_mem _ mw_61)) (fun _ h9 => h9) rfl dX0_setField_57 ?_
      refine lv_iload_n hx hb dX0_setField_60 rfl (lv_at hl 4 rfl) ?_
      refine lv_iload hx hb dX0_setField_61 (lv_at hl 0 rfl) ?_
      obtain ⟨w_4, hv, hf⟩ := bd hf
      refine q_ist hx hb hK hP hD hS 1 0 rfl rfl hv dX0_setField_63 (fun H locs hP hD hS => ?_)
      have hP : va_P (dC, dI) vwCl (wX cI h a1 a2 a3 a4 a5 w_4 r st rc na tp cn rh sr) _ := hP
      have hD : va_D A (wX cI h a1 a2 a3 a4 a5 w_4 r st rc na tp cn rh sr) := hD
      refine lv_aload_n hx hb dX0_setField_64 rfl (lv_at hl 3 rfl) ?_
      refine va_get (D := (dC, dI)) (ci := 0) (v := .ref a1) (C := RX0) (T := TX0) (N := 9) hx hb hts (fun w hw => List.mem_cons_of_mem _ (inX0 w hw)) hown hK hP 0 rfl rfl 0 (by decide) (hts _ (List.mem_cons_of_mem _ mw_61)) (fun _ h9 => h9) rfl dX0_setField_65 ?_
      refine lv_iload_n hx hb dX0_setField_68 rfl (lv_at hl 4 rfl) ?_
      refine lv_iload_n hx hb dX0_setField_69 rfl (lv_at hl 5 rfl) ?_
      obtain ⟨v5, hv, hf⟩ := bd hf
      refine q_ci (wr := (wX cI h a1 a2 a3 a4 a5 w_4 r st rc na tp cn rh sr)) (va_runS (As := [.int x1, .int x2]) (rest := [.ref a1]) ⟨hx, hb, hml, hown, hts⟩ (ctX0_fieldAddress l dC dI cI cZ cL _ x1 x2 v5 hv) (va_cwS 2 hts (gS mw_122 mw_123 mw_38 mw_124) rfl rfl rfl (by decide +kernel) ⟨Nat.le_of_ble_eq_true rfl, Nat.le_of_ble_eq_true rfl⟩) (q_preS [.int x1, .int x2] hK hP hD [] (by decide) rfl) rfl rfl hl.1 rfl (lv_room (Nat.le_of_ble_eq_true rfl)) dX0_setField_70 ⟨Nat.le_of_ble_eq_true rfl, Nat.le_of_ble_eq_true rfl⟩) hP hD hS hA [] [0, 1, 2, 3, 4, 5] rfl rfl (by decide) (by decide) (fun H locs hP hD hS => ?_)
      have hP : va_P (dC, dI) vwCl (wX cI h a1 a2 a3 a4 a5 w_4 r st rc na tp cn rh sr) _ := hP
      have hD : va_D A (wX cI h a1 a2 a3 a4 a5 w_4 r st rc na tp cn rh sr) := hD
      refine lv_iload hx hb dX0_setField_73 (lv_at hl 7 rfl) ?_
      obtain ⟨w_6, hv, hf⟩ := bd hf
      refine q_ist hx hb hK hP hD hS 1 0 rfl rfl hv dX0_setField_75 (fun H locs hP hD hS => ?_)
      have hP : va_P (dC, dI) vwCl (wX cI h a1 a2 a3 a4 a5 w_6 r st rc na tp cn rh sr) _ := hP
      have hD : va_D A (wX cI h a1 a2 a3 a4 a5 w_6 r st rc na tp cn rh sr) := hD
      have hg0 := Option.some.inj hf
      subst hg0
      exact W.vret hx hb hr (fun t ht hW => ⟨⟨(), rfl, trivial, by rw [ht]; exact hP, va_K.moved hW.alike hK, hD⟩, hS.F ht⟩) hS.2.2 dX0_setField_76
    · have hf := ift h3 hf
      refine lv_iload hx hb dX0_setField_49 (lv_at hl 0 rfl) ?_
      refine lv_iload hx hb dX0_setField_51 (lv_at hl 1 rfl) ?_
      refine lv_ior hx hb dX0_setField_53 ?_
      refine lv_istore hx hb dX0_setField_54 hl (by decide) rfl (fun ls hl => ?_)
      have hl : lv_has ls 8 [(7, .int ((v1 &&& ((((16 : Int32) <<< (x2 &&& 31)) ||| ((1024 : Int32) <<< (x2 &&& 31))) ^^^ (-1 : Int32))) ||| ((1024 : Int32) <<< (x2 &&& 31)))), (6, .int ((1024 : Int32) <<< (x2 &&& 31))), (5, .int ((16 : Int32) <<< (x2 &&& 31))), (0, .ref h), (1, .int x1), (2, .int x2), (3, .int x3), (4, .int x4)] := hl
      refine lv_aload_n hx hb dX0_setField_56 rfl (lv_at hl 3 rfl) ?_
      refine va_get (D := (dC, dI)) (ci := 0) (v := .ref a1) (C := RX0) (T := TX0) (N := 9) hx hb hts (fun w hw => List.mem_cons_of_mem _ (inX0 w hw)) hown hK hP 0 rfl rfl 0 (by decide) (hts _ (List.mem_cons_of_mem _ mw_61)) (fun _ h9 => h9) rfl dX0_setField_57 ?_
      refine lv_iload_n hx hb dX0_setField_60 rfl (lv_at hl 4 rfl) ?_
      refine lv_iload hx hb dX0_setField_61 (lv_at hl 0 rfl) ?_
      obtain ⟨w_7, hv, hf⟩ := bd hf
      refine q_ist hx hb hK hP hD hS 1 0 rfl rfl hv dX0_setField_63 (fun H locs hP hD hS => ?_)
      have hP : va_P (dC, dI) vwCl (wX cI h a1 a2 a3 a4 a5 w_7 r st rc na tp cn rh sr) _ := hP
      have hD : va_D A (wX cI h a1 a2 a3 a4 a5 w_7 r st rc na tp cn rh sr) := hD
      refine lv_aload_n hx hb dX0_setField_64 rfl (lv_at hl 3 rfl) ?_
      refine va_get (D := (dC, dI)) (ci := 0) (v := .ref a1) (C := RX0) (T := TX0) (N := 9) hx hb hts (fun w hw => List.mem_cons_of_mem _ (inX0 w hw)) hown hK hP 0 rfl rfl 0 (by decide) (hts _ (List.mem_cons_of_mem _ mw_61)) (fun _ h9 => h9) rfl dX0_setField_65 ?_
      refine lv_iload_n hx hb dX0_setField_68 rfl (lv_at hl 4 rfl) ?_
      refine lv_iload_n hx hb dX0_setField_69 rfl (lv_at hl 5 rfl) ?_
      obtain ⟨v8, hv, hf⟩ := bd hf
      refine q_ci (wr := (wX cI h a1 a2 a3 a4 a5 w_7 r st rc na tp cn rh sr)) (va_runS (As := [.int x1, .int x2]) (rest := [.ref a1]) ⟨hx, hb, hml, hown, hts⟩ (ctX0_fieldAddress l dC dI cI cZ cL _ x1 x2 v8 hv) (va_cwS 2 hts (gS mw_122 mw_123 mw_38 mw_124) rfl rfl rfl (by decide +kernel) ⟨Nat.le_of_ble_eq_true rfl, Nat.le_of_ble_eq_true rfl⟩) (q_preS [.int x1, .int x2] hK hP hD [] (by decide) rfl) rfl rfl hl.1 rfl (lv_room (Nat.le_of_ble_eq_true rfl)) dX0_setField_70 ⟨Nat.le_of_ble_eq_true rfl, Nat.le_of_ble_eq_true rfl⟩) hP hD hS hA [] [0, 1, 2, 3, 4, 5] rfl rfl (by decide) (by decide) (fun H locs hP hD hS => ?_)
      have hP : va_P (dC, dI) vwCl (wX cI h a1 a2 a3 a4 a5 w_7 r st rc na tp cn rh sr) _ := hP
      have hD : va_D A (wX cI h a1 a2 a3 a4 a5 w_7 r st rc na tp cn rh sr) := hD
      refine lv_iload hx hb dX0_setField_73 (lv_at hl 7 rfl) ?_
      obtain ⟨w_9, hv, hf⟩ := bd hf
      refine q_ist hx hb hK hP hD hS 1 0 rfl rfl hv dX0_setField_75 (fun H locs hP hD hS => ?_)
      have hP : va_P (dC, dI) vwCl (wX cI h a1 a2 a3 a4 a5 w_9 r st rc na tp cn rh sr) _ := hP
      have hD : va_D A (wX cI h a1 a2 a3 a4 a5 w_9 r st rc na tp cn rh sr) := hD
      have hg0 := Option.some.inj hf
      subst hg0
      exact W.vret hx hb hr (fun t ht hW => ⟨⟨(), rfl, trivial, by rw [ht]; exact hP, va_K.moved hW.alike hK, hD⟩, hS.F ht⟩) hS.2.2 dX0_setField_76
  · have hf := ift h2 hf
    refine lv_iload hx hb dX0_setField_34 (lv_at hl 0 rfl) ?_
    refine lv_iload hx hb dX0_setField_36 (lv_at hl 2 rfl) ?_
    refine lv_ior hx hb dX0_setField_38 ?_
    refine lv_istore hx hb dX0_setField_39 hl (by decide) rfl (fun ls hl => ?_)
    have hl : lv_has ls 8 [(7, .int ((v1 &&& ((((16 : Int32) <<< (x2 &&& 31)) ||| ((1024 : Int32) <<< (x2 &&& 31))) ^^^ (-1 : Int32))) ||| ((16 : Int32) <<< (x2 &&& 31)))), (6, .int ((1024 : Int32) <<< (x2 &&& 31))), (5, .int ((16 : Int32) <<< (x2 &&& 31))), (0, .ref h), (1, .int x1), (2, .int x2), (3, .int x3), (4, .int x4)] := hl
    refine lv_goto (tgt := 56) hx hb dX0_setField_41 (by decide) ?_
    refine lv_aload_n hx hb dX0_setField_56 rfl (lv_at hl 3 rfl) ?_
    refine va_get (D := (dC, dI)) (ci := 0) (v := .ref a1) (C := RX0) (T := TX0) (N := 9) hx hb hts (fun w hw => List.mem_cons_of_mem _ (inX0 w hw)) hown hK hP 0 rfl rfl 0 (by decide) (hts _ (List.mem_cons_of_mem _ mw_61)) (fun _ h9 => h9) rfl dX0_setField_57 ?_
    refine lv_iload_n hx hb dX0_setField_60 rfl (lv_at hl 4 rfl) ?_
    refine lv_iload hx hb dX0_setField_61 (lv_at hl 0 rfl) ?_
    obtain ⟨w_10, hv, hf⟩ := bd hf
    refine q_ist hx hb hK hP hD hS 1 0 rfl rfl hv dX0_setField_63 (fun H locs hP hD hS => ?_)
    have hP : va_P (dC, dI) vwCl (wX cI h a1 a2 a3 a4 a5 w_10 r st rc na tp cn rh sr) _ := hP
    have hD : va_D A (wX cI h a1 a2 a3 a4 a5 w_10 r st rc na tp cn rh sr) := hD
    refine lv_aload_n hx hb dX0_setField_64 rfl (lv_at hl 3 rfl) ?_
    refine va_get (D := (dC, dI)) (ci := 0) (v := .ref a1) (C := RX0) (T := TX0) (N := 9) hx hb hts (fun w hw => List.mem_cons_of_mem _ (inX0 w hw)) hown hK hP 0 rfl rfl 0 (by decide) (hts _ (List.mem_cons_of_mem _ mw_61)) (fun _ h9 => h9) rfl dX0_setField_65 ?_
    refine lv_iload_n hx hb dX0_setField_68 rfl (lv_at hl 4 rfl) ?_
    refine lv_iload_n hx hb dX0_setField_69 rfl (lv_at hl 5 rfl) ?_
    obtain ⟨v11, hv, hf⟩ := bd hf
    refine q_ci (wr := (wX cI h a1 a2 a3 a4 a5 w_10 r st rc na tp cn rh sr)) (va_runS (As := [.int x1, .int x2]) (rest := [.ref a1]) ⟨hx, hb, hml, hown, hts⟩ (ctX0_fieldAddress l dC dI cI cZ cL _ x1 x2 v11 hv) (va_cwS 2 hts (gS mw_122 mw_123 mw_38 mw_124) rfl rfl rfl (by decide +kernel) ⟨Nat.le_of_ble_eq_true rfl, Nat.le_of_ble_eq_true rfl⟩) (q_preS [.int x1, .int x2] hK hP hD [] (by decide) rfl) rfl rfl hl.1 rfl (lv_room (Nat.le_of_ble_eq_true rfl)) dX0_setField_70 ⟨Nat.le_of_ble_eq_true rfl, Nat.le_of_ble_eq_true rfl⟩) hP hD hS hA [] [0, 1, 2, 3, 4, 5] rfl rfl (by decide) (by decide) (fun H locs hP hD hS => ?_)
    have hP : va_P (dC, dI) vwCl (wX cI h a1 a2 a3 a4 a5 w_10 r st rc na tp cn rh sr) _ := hP
    have hD : va_D A (wX cI h a1 a2 a3 a4 a5 w_10 r st rc na tp cn rh sr) := hD
    refine lv_iload hx hb dX0_setField_73 (lv_at hl 7 rfl) ?_
    obtain ⟨w_12, hv, hf⟩ := bd hf
    refine q_ist hx hb hK hP hD hS 1 0 rfl rfl hv dX0_setField_75 (fun H locs hP hD hS => ?_)
    have hP : va_P (dC, dI) vwCl (wX cI h a1 a2 a3 a4 a5 w_12 r st rc na tp cn rh sr) _ := hP
    have hD : va_D A (wX cI h a1 a2 a3 a4 a5 w_12 r st rc na tp cn rh sr) := hD
    have hg0 := Option.some.inj hf
    subst hg0
    exact W.vret hx hb hr (fun t ht hW => ⟨⟨(), rfl, trivial, by rw [ht]; exact hP, va_K.moved hW.alike hK, hD⟩, hS.F ht⟩) hS.2.2 dX0_setField_76
set_option maxHeartbeats 4000000 in
set_option maxRecDepth 100000 in
theorem ctX0_makeObject (l : Launch) (dC : Nat → ClassId) (dI : Nat → Nat → Nat) (cI cZ cL : ClassId) (h a1 a2 a3 a4 a5 : Nat) (sz : Nat) (w : Nat → Int32) (r : Nat → Int32) (st : Nat → Int32) (rc : Nat → Int32) (na : Nat → Int32) (tp : Int32) (cn : Int32) (rh : Int32) (sr : Int32) (x1 : Int32) (x2 : Int32) (rs : Int32) (w' : Nat → Int32) (r' : Nat → Int32) (st' : Nat → Int32) (tp' : Int32) (cn' : Int32) (sr' : Int32) (hf : fX0_makeObject w r st tp cn sr x1 x2 = some (rs, w', r', st', tp', cn', sr')) : Met l yX0_makeObject wsX0_makeObject rmX0_makeObject (va_Pc [.ref h, .int x1, .int x2] (q_pre (dC, dI) vwCl (tyA cI cZ cL) sz (wX cI h a1 a2 a3 a4 a5 w r st rc na tp cn rh sr))) (va_Qi (fun r (_ : Unit) => r = rs) (fun _ => q_post (dC, dI) vwCl (tyA cI cZ cL) (va_A (wX cI h a1 a2 a3 a4 a5 w r st rc na tp cn rh sr) sz) (wX cI h a1 a2 a3 a4 a5 w' r' st' rc na tp' cn' rh sr')) (va_A (wX cI h a1 a2 a3 a4 a5 w r st rc na tp cn rh sr) sz)) 0 0 (va_A (wX cI h a1 a2 a3 a4 a5 w r st rc na tp cn rh sr) sz) := by
  refine Met.ofW (cc := cX0_makeObject) (maxL := 3) (ret := (some .int)) (by decide) rfl ?_
  intro p e s m args below meth c s₁ B hml hv
  obtain ⟨rfl, hsz, hP, hK, hD0⟩ := hv
  have hx := B.exec
  have hb := B.bytes
  have hr := B.returns
  have hts := atoms_spec (ws := wsX0_makeObject) B.pre
  have hown : s.vm.findClass RX0 = some m.cls := findClass_of_methodNamed B.named
  subst hsz
  have hD := hD0.self (sz := s.heap.size)
  generalize hAe : va_A (wX cI h a1 a2 a3 a4 a5 w r st rc na tp cn rh sr) s.heap.size = A at hD ⊢
  have hA : ∀ q : Nat, s.heap.size ≤ q → A q := fun q h => by rw [← hAe]; exact Or.inr h
  have hS : va_S A s.heap s.heap [] := va_S.rf
  have hl := lv_entry ([.ref h, .int x1, .int x2]) (n := 3) (Nat.le_of_ble_eq_true rfl)
  rw [lg_entry_eq]
  generalize (lg_sl ([.ref h, .int x1, .int x2]) ++ List.replicate (3 - (lg_sl ([.ref h, .int x1, .int x2])).length) Slot.unset).toArray = ls at hl ⊢
  have hl : lv_has ls 3 [(0, .ref h), (1, .int x1), (2, .int x2)] := hl
  unfold fX0_makeObject at hf
  refine lv_aload_n hx hb dX0_makeObject_0 rfl (lv_at hl 0 rfl) ?_
  refine lv_dup hx hb dX0_makeObject_1 rfl ?_
  refine va_get (D := (dC, dI)) (ci := 0) (v := .int sr) (C := RX0) (T := TX0) (N := 9) hx hb hts (fun w hw => List.mem_cons_of_mem _ (inX0 w hw)) hown hK hP 0 rfl rfl 8 (by decide) (hts _ (List.mem_cons_of_mem _ mw_69)) (fun _ h9 => h9) rfl dX0_makeObject_2 ?_
  refine lv_iconst (v := (1 : Int32)) hx hb dX0_makeObject_5 (by decide) ?_
  refine lv_iadd hx hb dX0_makeObject_6 ?_
  refine va_put (D := (dC, dI)) (ci := 0) (v := .int (sr + (1 : Int32))) (ty := .int) (C := RX0) (T := TX0) (N := 9) hx hb hts (fun w hw => List.mem_cons_of_mem _ (inX0 w hw)) tyX0 tyX0_ok nmX0 hown hK hP hD hS 0 rfl rfl 8 (by decide) (hts _ (List.mem_cons_of_mem _ mw_69)) (fun _ h9 => h9) rfl (by decide +kernel) rfl rfl (Nat.le_of_ble_eq_true rfl) dX0_makeObject_7 (fun H locs hP hD hS => ?_)
  have hP : va_P (dC, dI) vwCl (wX cI h a1 a2 a3 a4 a5 w r st rc na tp cn rh (sr + (1 : Int32))) _ := hP
  have hD : va_D A (wX cI h a1 a2 a3 a4 a5 w r st rc na tp cn rh (sr + (1 : Int32))) := hD
  refine lv_aload_n hx hb dX0_makeObject_10 rfl (lv_at hl 0 rfl) ?_
  refine va_get (D := (dC, dI)) (ci := 0) (v := .ref a1) (C := RX0) (T := TX0) (N := 9) hx hb hts (fun w hw => List.mem_cons_of_mem _ (inX0 w hw)) hown hK hP 0 rfl rfl 0 (by decide) (hts _ (List.mem_cons_of_mem _ mw_61)) (fun _ h9 => h9) rfl dX0_makeObject_11 ?_
  refine lv_aload_n hx hb dX0_makeObject_14 rfl (lv_at hl 0 rfl) ?_
  refine va_get (D := (dC, dI)) (ci := 0) (v := .int tp) (C := RX0) (T := TX0) (N := 9) hx hb hts (fun w hw => List.mem_cons_of_mem _ (inX0 w hw)) hown hK hP 0 rfl rfl 5 (by decide) (hts _ (List.mem_cons_of_mem _ mw_66)) (fun _ h9 => h9) rfl dX0_makeObject_15 ?_
  refine lv_iload_n hx hb dX0_makeObject_18 rfl (lv_at hl 2 rfl) ?_
  obtain ⟨w_1, hv, hf⟩ := bd hf
  refine q_ist hx hb hK hP hD hS 1 0 rfl rfl hv dX0_makeObject_19 (fun H locs hP hD hS => ?_)
  have hP : va_P (dC, dI) vwCl (wX cI h a1 a2 a3 a4 a5 w_1 r st rc na tp cn rh (sr + (1 : Int32))) _ := hP
  have hD : va_D A (wX cI h a1 a2 a3 a4 a5 w_1 r st rc na tp cn rh (sr + (1 : Int32))) := hD
  refine lv_aload_n hx hb dX0_makeObject_20 rfl (lv_at hl 0 rfl) ?_
  refine va_get (D := (dC, dI)) (ci := 0) (v := .ref a1) (C := RX0) (T := TX0) (N := 9) hx hb hts (fun w hw => List.mem_cons_of_mem _ (inX0 w hw)) hown hK hP 0 rfl rfl 0 (by decide) (hts _ (List.mem_cons_of_mem _ mw_61)) (fun _ h9 => h9) rfl dX0_makeObject_21 ?_
  refine lv_aload_n hx hb dX0_makeObject_24 rfl (lv_at hl 0 rfl) ?_
  refine va_get (D := (dC, dI)) (ci := 0) (v := .int tp) (C := RX0) (T := TX0) (N := 9) hx hb hts (fun w hw => List.mem_cons_of_mem _ (inX0 w hw)) hown hK hP 0 rfl rfl 5 (by decide) (hts _ (List.mem_cons_of_mem _ mw_66)) (fun _ h9 => h9) rfl dX0_makeObject_25 ?_
  refine lv_iconst (v := (1 : Int32)) hx hb dX0_makeObject_28 (by decide) ?_
  refine lv_iadd hx hb dX0_makeObject_29 ?_
  refine lv_aload_n hx hb dX0_makeObject_30 rfl (lv_at hl 0 rfl) ?_
  refine va_get (D := (dC, dI)) (ci := 0) (v := .int (sr + (1 : Int32))) (C := RX0) (T := TX0) (N := 9) hx hb hts (fun w hw => List.mem_cons_of_mem _ (inX0 w hw)) hown hK hP 0 rfl rfl 8 (by decide) (hts _ (List.mem_cons_of_mem _ mw_69)) (fun _ h9 => h9) rfl dX0_makeObject_31 ?_
  obtain ⟨w_2, hv, hf⟩ := bd hf
  refine q_ist hx hb hK hP hD hS 1 0 rfl rfl hv dX0_makeObject_34 (fun H locs hP hD hS => ?_)
  have hP : va_P (dC, dI) vwCl (wX cI h a1 a2 a3 a4 a5 w_2 r st rc na tp cn rh (sr + (1 : Int32))) _ := hP
  have hD : va_D A (wX cI h a1 a2 a3 a4 a5 w_2 r st rc na tp cn rh (sr + (1 : Int32))) := hD
  refine lv_aload_n hx hb dX0_makeObject_35 rfl (lv_at hl 0 rfl) ?_
  refine va_get (D := (dC, dI)) (ci := 0) (v := .ref a2) (C := RX0) (T := TX0) (N := 9) hx hb hts (fun w hw => List.mem_cons_of_mem _ (inX0 w hw)) hown hK hP 0 rfl rfl 1 (by decide) (hts _ (List.mem_cons_of_mem _ mw_62)) (fun _ h9 => h9) rfl dX0_makeObject_36 ?_
  refine lv_iload_n hx hb dX0_makeObject_39 rfl (lv_at hl 1 rfl) ?_
  refine lv_aload_n hx hb dX0_makeObject_40 rfl (lv_at hl 0 rfl) ?_
  refine va_get (D := (dC, dI)) (ci := 0) (v := .int tp) (C := RX0) (T := TX0) (N := 9) hx hb hts (fun w hw => List.mem_cons_of_mem _ (inX0 w hw)) hown hK hP 0 rfl rfl 5 (by decide) (hts _ (List.mem_cons_of_mem _ mw_66)) (fun _ h9 => h9) rfl dX0_makeObject_41 ?_
  obtain ⟨r_3, hv, hf⟩ := bd hf
  refine q_ist hx hb hK hP hD hS 2 0 rfl rfl hv dX0_makeObject_44 (fun H locs hP hD hS => ?_)
  have hP : va_P (dC, dI) vwCl (wX cI h a1 a2 a3 a4 a5 w_2 r_3 st rc na tp cn rh (sr + (1 : Int32))) _ := hP
  have hD : va_D A (wX cI h a1 a2 a3 a4 a5 w_2 r_3 st rc na tp cn rh (sr + (1 : Int32))) := hD
  refine lv_aload_n hx hb dX0_makeObject_45 rfl (lv_at hl 0 rfl) ?_
  refine va_get (D := (dC, dI)) (ci := 0) (v := .ref a3) (C := RX0) (T := TX0) (N := 9) hx hb hts (fun w hw => List.mem_cons_of_mem _ (inX0 w hw)) hown hK hP 0 rfl rfl 2 (by decide) (hts _ (List.mem_cons_of_mem _ mw_63)) (fun _ h9 => h9) rfl dX0_makeObject_46 ?_
  refine lv_aload_n hx hb dX0_makeObject_49 rfl (lv_at hl 0 rfl) ?_
  refine va_get (D := (dC, dI)) (ci := 0) (v := .int cn) (C := RX0) (T := TX0) (N := 9) hx hb hts (fun w hw => List.mem_cons_of_mem _ (inX0 w hw)) hown hK hP 0 rfl rfl 6 (by decide) (hts _ (List.mem_cons_of_mem _ mw_67)) (fun _ h9 => h9) rfl dX0_makeObject_50 ?_
  refine lv_aload_n hx hb dX0_makeObject_53 rfl (lv_at hl 0 rfl) ?_
  refine va_get (D := (dC, dI)) (ci := 0) (v := .int tp) (C := RX0) (T := TX0) (N := 9) hx hb hts (fun w hw => List.mem_cons_of_mem _ (inX0 w hw)) hown hK hP 0 rfl rfl 5 (by decide) (hts _ (List.mem_cons_of_mem _ mw_66)) (fun _ h9 => h9) rfl dX0_makeObject_54 ?_
  obtain ⟨st_4, hv, hf⟩ := bd hf
  refine q_ist hx hb hK hP hD hS 3 0 rfl rfl hv dX0_makeObject_57 (fun H locs hP hD hS => ?_)
  have hP : va_P (dC, dI) vwCl (wX cI h a1 a2 a3 a4 a5 w_2 r_3 st_4 rc na tp cn rh (sr + (1 : Int32))) _ := hP
  have hD : va_D A (wX cI h a1 a2 a3 a4 a5 w_2 r_3 st_4 rc na tp cn rh (sr + (1 : Int32))) := hD
  refine lv_aload_n hx hb dX0_makeObject_58 rfl (lv_at hl 0 rfl) ?_
  refine lv_dup hx hb dX0_makeObject_59 rfl ?_
  refine va_get (D := (dC, dI)) (ci := 0) (v := .int cn) (C := RX0) (T := TX0) (N := 9) hx hb hts (fun w hw => List.mem_cons_of_mem _ (inX0 w hw)) hown hK hP 0 rfl rfl 6 (by decide) (hts _ (List.mem_cons_of_mem _ mw_67)) (fun _ h9 => h9) rfl dX0_makeObject_60 ?_
  refine lv_iconst (v := (1 : Int32)) hx hb dX0_makeObject_63 (by decide) ?_
  refine lv_iadd hx hb dX0_makeObject_64 ?_
  refine va_put (D := (dC, dI)) (ci := 0) (v := .int (cn + (1 : Int32))) (ty := .int) (C := RX0) (T := TX0) (N := 9) hx hb hts (fun w hw => List.mem_cons_of_mem _ (inX0 w hw)) tyX0 tyX0_ok nmX0 hown hK hP hD hS 0 rfl rfl 6 (by decide) (hts _ (List.mem_cons_of_mem _ mw_67)) (fun _ h9 => h9) rfl (by decide +kernel) rfl rfl (Nat.le_of_ble_eq_true rfl) dX0_makeObject_65 (fun H locs hP hD hS => ?_)
  have hP : va_P (dC, dI) vwCl (wX cI h a1 a2 a3 a4 a5 w_2 r_3 st_4 rc na tp (cn + (1 : Int32)) rh (sr + (1 : Int32))) _ := hP
  have hD : va_D A (wX cI h a1 a2 a3 a4 a5 w_2 r_3 st_4 rc na tp (cn + (1 : Int32)) rh (sr + (1 : Int32))) := hD
  refine lv_aload_n hx hb dX0_makeObject_68 rfl (lv_at hl 0 rfl) ?_
  refine lv_dup hx hb dX0_makeObject_69 rfl ?_
  refine va_get (D := (dC, dI)) (ci := 0) (v := .int tp) (C := RX0) (T := TX0) (N := 9) hx hb hts (fun w hw => List.mem_cons_of_mem _ (inX0 w hw)) hown hK hP 0 rfl rfl 5 (by decide) (hts _ (List.mem_cons_of_mem _ mw_66)) (fun _ h9 => h9) rfl dX0_makeObject_70 ?_
  refine lv_iconst (v := (2 : Int32)) hx hb dX0_makeObject_73 (by decide) ?_
  refine lv_iload_n hx hb dX0_makeObject_74 rfl (lv_at hl 2 rfl) ?_
  refine lv_iadd hx hb dX0_makeObject_75 ?_
  refine lv_iadd hx hb dX0_makeObject_76 ?_
  refine va_put (D := (dC, dI)) (ci := 0) (v := .int (tp + ((2 : Int32) + x2))) (ty := .int) (C := RX0) (T := TX0) (N := 9) hx hb hts (fun w hw => List.mem_cons_of_mem _ (inX0 w hw)) tyX0 tyX0_ok nmX0 hown hK hP hD hS 0 rfl rfl 5 (by decide) (hts _ (List.mem_cons_of_mem _ mw_66)) (fun _ h9 => h9) rfl (by decide +kernel) rfl rfl (Nat.le_of_ble_eq_true rfl) dX0_makeObject_77 (fun H locs hP hD hS => ?_)
  have hP : va_P (dC, dI) vwCl (wX cI h a1 a2 a3 a4 a5 w_2 r_3 st_4 rc na (tp + ((2 : Int32) + x2)) (cn + (1 : Int32)) rh (sr + (1 : Int32))) _ := hP
  have hD : va_D A (wX cI h a1 a2 a3 a4 a5 w_2 r_3 st_4 rc na (tp + ((2 : Int32) + x2)) (cn + (1 : Int32)) rh (sr + (1 : Int32))) := hD
  refine lv_aload_n hx hb dX0_makeObject_80 rfl (lv_at hl 0 rfl) ?_
  refine va_get (D := (dC, dI)) (ci := 0) (v := .int (sr + (1 : Int32))) (C := RX0) (T := TX0) (N := 9) hx hb hts (fun w hw => List.mem_cons_of_mem _ (inX0 w hw)) hown hK hP 0 rfl rfl 8 (by decide) (hts _ (List.mem_cons_of_mem _ mw_69)) (fun _ h9 => h9) rfl dX0_makeObject_81 ?_
  have hg0 := Option.some.inj hf
  obtain ⟨hq1, hg1⟩ := Prod.mk.inj hg0
  subst hq1
  obtain ⟨hq2, hg2⟩ := Prod.mk.inj hg1
  subst hq2
  obtain ⟨hq3, hg3⟩ := Prod.mk.inj hg2
  subst hq3
  obtain ⟨hq4, hg4⟩ := Prod.mk.inj hg3
  subst hq4
  obtain ⟨hq5, hg5⟩ := Prod.mk.inj hg4
  subst hq5
  obtain ⟨hq6, hg6⟩ := Prod.mk.inj hg5
  subst hq6
  subst hg6
  exact W.iret hx hb hr (fun t ht hW => ⟨⟨_, (), rfl, rfl, by rw [ht]; exact hP, va_K.moved hW.alike hK, hD⟩, hS.F ht⟩) hS.2.2 dX0_makeObject_84
set_option maxHeartbeats 4000000 in
set_option maxRecDepth 100000 in
theorem ctX0_reach (l : Launch) (dC : Nat → ClassId) (dI : Nat → Nat → Nat) (cI cZ cL : ClassId) (h a1 a2 a3 a4 a5 : Nat) (sz : Nat) (w : Nat → Int32) (r : Nat → Int32) (st : Nat → Int32) (rc : Nat → Int32) (na : Nat → Int32) (tp : Int32) (cn : Int32) (rh : Int32) (sr : Int32) (x1 : Int32) (rc' : Nat → Int32) (na' : Nat → Int32) (rh' : Int32) (hf : fX0_reach rc na rh x1 = some (rc', na', rh')) : Met l yX0_reach wsX0_reach rmX0_reach (va_Pc [.ref h, .int x1] (q_pre (dC, dI) vwCl (tyA cI cZ cL) sz (wX cI h a1 a2 a3 a4 a5 w r st rc na tp cn rh sr))) (va_Qv (fun (_ : Unit) => True) (fun _ => q_post (dC, dI) vwCl (tyA cI cZ cL) (va_A (wX cI h a1 a2 a3 a4 a5 w r st rc na tp cn rh sr) sz) (wX cI h a1 a2 a3 a4 a5 w r st rc' na' tp cn rh' sr)) (va_A (wX cI h a1 a2 a3 a4 a5 w r st rc na tp cn rh sr) sz)) 0 0 (va_A (wX cI h a1 a2 a3 a4 a5 w r st rc na tp cn rh sr) sz) := by
  refine Met.ofW (cc := cX0_reach) (maxL := 2) (ret := (none)) (by decide) rfl ?_
  intro p e s m args below meth c s₁ B hml hv
  obtain ⟨rfl, hsz, hP, hK, hD0⟩ := hv
  have hx := B.exec
  have hb := B.bytes
  have hr := B.returns
  have hts := atoms_spec (ws := wsX0_reach) B.pre
  have hown : s.vm.findClass RX0 = some m.cls := findClass_of_methodNamed B.named
  subst hsz
  have hD := hD0.self (sz := s.heap.size)
  generalize hAe : va_A (wX cI h a1 a2 a3 a4 a5 w r st rc na tp cn rh sr) s.heap.size = A at hD ⊢
  have hA : ∀ q : Nat, s.heap.size ≤ q → A q := fun q h => by rw [← hAe]; exact Or.inr h
  have hS : va_S A s.heap s.heap [] := va_S.rf
  have hl := lv_entry ([.ref h, .int x1]) (n := 2) (Nat.le_of_ble_eq_true rfl)
  rw [lg_entry_eq]
  generalize (lg_sl ([.ref h, .int x1]) ++ List.replicate (2 - (lg_sl ([.ref h, .int x1])).length) Slot.unset).toArray = ls at hl ⊢
  have hl : lv_has ls 2 [(0, .ref h), (1, .int x1)] := hl
  unfold fX0_reach at hf
  refine lv_iload_n hx hb dX0_reach_0 rfl (lv_at hl 1 rfl) ?_
  refine lv_iconst (v := (-1 : Int32)) hx hb dX0_reach_1 (by decide) ?_
  refine lv_icmp_eq (tgt := 42) hx hb dX0_reach_2 (by decide) (fun h1 => ?_) (fun h1 => ?_)
  · have hf := ift h1 hf
    have hg0 := Option.some.inj hf
    obtain ⟨hq1, hg1⟩ := Prod.mk.inj hg0
    subst hq1
    obtain ⟨hq2, hg2⟩ := Prod.mk.inj hg1
    subst hq2
    subst hg2
    exact W.vret hx hb hr (fun t ht hW => ⟨⟨(), rfl, trivial, by rw [ht]; exact hP, va_K.moved hW.alike hK, hD⟩, hS.F ht⟩) hS.2.2 dX0_reach_42
  · have hf := ifn h1 hf
    refine lv_aload_n hx hb dX0_reach_5 rfl (lv_at hl 0 rfl) ?_
    refine va_get (D := (dC, dI)) (ci := 0) (v := .ref a5) (C := RX0) (T := TX0) (N := 9) hx hb hts (fun w hw => List.mem_cons_of_mem _ (inX0 w hw)) hown hK hP 0 rfl rfl 4 (by decide) (hts _ (List.mem_cons_of_mem _ mw_65)) (fun _ h9 => h9) rfl dX0_reach_6 ?_
    refine lv_iload_n hx hb dX0_reach_9 rfl (lv_at hl 1 rfl) ?_
    obtain ⟨v2, hv, hf⟩ := bd hf
    refine q_ild hx hb hK hP 5 0 rfl rfl hv dX0_reach_10 ?_
    refine lv_iconst (v := (-1 : Int32)) hx hb dX0_reach_11 (by decide) ?_
    refine lv_icmp_ne (tgt := 42) hx hb dX0_reach_12 (by decide) (fun h3 => ?_) (fun h3 => ?_)
    · have hf := ifn h3 hf
      have hg0 := Option.some.inj hf
      obtain ⟨hq1, hg1⟩ := Prod.mk.inj hg0
      subst hq1
      obtain ⟨hq2, hg2⟩ := Prod.mk.inj hg1
      subst hq2
      subst hg2
      exact W.vret hx hb hr (fun t ht hW => ⟨⟨(), rfl, trivial, by rw [ht]; exact hP, va_K.moved hW.alike hK, hD⟩, hS.F ht⟩) hS.2.2 dX0_reach_42
    · have hf := ift h3 hf
      refine lv_aload_n hx hb dX0_reach_15 rfl (lv_at hl 0 rfl) ?_
      refine va_get (D := (dC, dI)) (ci := 0) (v := .ref a5) (C := RX0) (T := TX0) (N := 9) hx hb hts (fun w hw => List.mem_cons_of_mem _ (inX0 w hw)) hown hK hP 0 rfl rfl 4 (by decide) (hts _ (List.mem_cons_of_mem _ mw_65)) (fun _ h9 => h9) rfl dX0_reach_16 ?_
      refine lv_iload_n hx hb dX0_reach_19 rfl (lv_at hl 1 rfl) ?_
      refine lv_iload_n hx hb dX0_reach_20 rfl (lv_at hl 1 rfl) ?_
      obtain ⟨na_4, hv, hf⟩ := bd hf
      refine q_ist hx hb hK hP hD hS 5 0 rfl rfl hv dX0_reach_21 (fun H locs hP hD hS => ?_)
      have hP : va_P (dC, dI) vwCl (wX cI h a1 a2 a3 a4 a5 w r st rc na_4 tp cn rh sr) _ := hP
      have hD : va_D A (wX cI h a1 a2 a3 a4 a5 w r st rc na_4 tp cn rh sr) := hD
      refine lv_aload_n hx hb dX0_reach_22 rfl (lv_at hl 0 rfl) ?_
      refine va_get (D := (dC, dI)) (ci := 0) (v := .ref a4) (C := RX0) (T := TX0) (N := 9) hx hb hts (fun w hw => List.mem_cons_of_mem _ (inX0 w hw)) hown hK hP 0 rfl rfl 3 (by decide) (hts _ (List.mem_cons_of_mem _ mw_64)) (fun _ h9 => h9) rfl dX0_reach_23 ?_
      refine lv_aload_n hx hb dX0_reach_26 rfl (lv_at hl 0 rfl) ?_
      refine va_get (D := (dC, dI)) (ci := 0) (v := .int rh) (C := RX0) (T := TX0) (N := 9) hx hb hts (fun w hw => List.mem_cons_of_mem _ (inX0 w hw)) hown hK hP 0 rfl rfl 7 (by decide) (hts _ (List.mem_cons_of_mem _ mw_68)) (fun _ h9 => h9) rfl dX0_reach_27 ?_
      refine lv_iload_n hx hb dX0_reach_30 rfl (lv_at hl 1 rfl) ?_
      obtain ⟨rc_5, hv, hf⟩ := bd hf
      refine q_ist hx hb hK hP hD hS 4 0 rfl rfl hv dX0_reach_31 (fun H locs hP hD hS => ?_)
      have hP : va_P (dC, dI) vwCl (wX cI h a1 a2 a3 a4 a5 w r st rc_5 na_4 tp cn rh sr) _ := hP
      have hD : va_D A (wX cI h a1 a2 a3 a4 a5 w r st rc_5 na_4 tp cn rh sr) := hD
      refine lv_aload_n hx hb dX0_reach_32 rfl (lv_at hl 0 rfl) ?_
      refine lv_dup hx hb dX0_reach_33 rfl ?_
      refine va_get (D := (dC, dI)) (ci := 0) (v := .int rh) (C := RX0) (T := TX0) (N := 9) hx hb hts (fun w hw => List.mem_cons_of_mem _ (inX0 w hw)) hown hK hP 0 rfl rfl 7 (by decide) (hts _ (List.mem_cons_of_mem _ mw_68)) (fun _ h9 => h9) rfl dX0_reach_34 ?_
      refine lv_iconst (v := (1 : Int32)) hx hb dX0_reach_37 (by decide) ?_
      refine lv_iadd hx hb dX0_reach_38 ?_
      refine va_put (D := (dC, dI)) (ci := 0) (v := .int (rh + (1 : Int32))) (ty := .int) (C := RX0) (T := TX0) (N := 9) hx hb hts (fun w hw => List.mem_cons_of_mem _ (inX0 w hw)) tyX0 tyX0_ok nmX0 hown hK hP hD hS 0 rfl rfl 7 (by decide) (hts _ (List.mem_cons_of_mem _ mw_68)) (fun _ h9 => h9) rfl (by decide +kernel) rfl rfl (Nat.le_of_ble_eq_true rfl) dX0_reach_39 (fun H locs hP hD hS => ?_)
      have hP : va_P (dC, dI) vwCl (wX cI h a1 a2 a3 a4 a5 w r st rc_5 na_4 tp cn (rh + (1 : Int32)) sr) _ := hP
      have hD : va_D A (wX cI h a1 a2 a3 a4 a5 w r st rc_5 na_4 tp cn (rh + (1 : Int32)) sr) := hD
      have hg0 := Option.some.inj hf
      obtain ⟨hq1, hg1⟩ := Prod.mk.inj hg0
      subst hq1
      obtain ⟨hq2, hg2⟩ := Prod.mk.inj hg1
      subst hq2
      subst hg2
      exact W.vret hx hb hr (fun t ht hW => ⟨⟨(), rfl, trivial, by rw [ht]; exact hP, va_K.moved hW.alike hK, hD⟩, hS.F ht⟩) hS.2.2 dX0_reach_42
set_option maxHeartbeats 4000000 in
set_option maxRecDepth 100000 in
theorem wX0_reachFrom_L8 {p : Program} {l : Launch} {e : Env} {s : State} {m : MethodId} {args : Array Value} {below : List Frame} {meth : Method} {c : Code} {Q : State → Prop} {A : Nat → Prop} (dC : Nat → ClassId) (dI : Nat → Nat → Nat) (cI cZ cL : ClassId) (h a1 a2 a3 a4 a5 : Nat) (hx : p.tables.exec = Jvm.exec) (hb : c.code = cX0_reachFrom) (hml : c.maxLocals = 4) (hown : s.vm.findClass RX0 = some m.cls) (hts : ∀ w ∈ wsX0_reachFrom, w.before args s = true) (hK : va_K (dC, dI) vwCl (tyA cI cZ cL) s) (hA : ∀ q : Nat, s.heap.size ≤ q → A q) (x1_ : Int32) (x2_ : Int32) (w : Nat → Int32) (r : Nat → Int32) (st : Nat → Int32) (tp : Int32) (cn : Int32) (sr : Int32) (n : Nat) :
    ∀ (x3_ : Int32) (rc : Nat → Int32) (na : Nat → Int32) (rh : Int32) (x3_' : Int32) (rc' : Nat → Int32) (na' : Nat → Int32) (rh' : Int32), fX0_reachFrom_L8 x1_ x2_ w n x3_ rc na rh = some (x3_', rc', na', rh') → ∀ (H : Heap) (locs : List Loc) (ls : Array Slot), va_P (dC, dI) vwCl (wX cI h a1 a2 a3 a4 a5 w r st rc na tp cn rh sr) H → va_D A (wX cI h a1 a2 a3 a4 a5 w r st rc na tp cn rh sr) → va_S A s.heap H locs → lv_has ls 4 [(0, .ref h), (1, .int x1_), (2, .int x2_), (3, .int x3_)] → (∀ (H : Heap) (locs : List Loc) (ls : Array Slot), va_P (dC, dI) vwCl (wX cI h a1 a2 a3 a4 a5 w r st rc' na' tp cn rh' sr) H → va_D A (wX cI h a1 a2 a3 a4 a5 w r st rc' na' tp cn rh' sr) → va_S A s.heap H locs → lv_has ls 4 [(0, .ref h), (1, .int x1_), (2, .int x2_), (3, .int x3_')] → W p l e (headSpec wsX0_reachFrom rmX0_reachFrom).room s m args below meth c H locs 0 0 Q (F0 m 43 ls [])) → W p l e (headSpec wsX0_reachFrom rmX0_reachFrom).room s m args below meth c H locs 0 0 Q (F0 m 8 ls []) := by
  induction n with
  | zero => intro x3_ rc na rh x3_' rc' na' rh' hf; cases hf
  | succ n ih =>
    intro x3_ rc na rh x3_' rc' na' rh' hf H locs ls hP hD hS hl k0
    have hf := (fX0_reachFrom_L8_s x1_ x2_ w n x3_ rc na rh).symm.trans hf
    refine lv_iload_n hx hb dX0_reachFrom_8 rfl (lv_at hl 3 rfl) ?_
    refine lv_iload_n hx hb dX0_reachFrom_9 rfl (lv_at hl 2 rfl) ?_
    refine lv_icmp_ge (tgt := 43) hx hb dX0_reachFrom_10 (by decide) (fun h2 => ?_) (fun h2 => ?_)
    · have hf := ift h2 hf
      cases hf
      exact k0 _ _ _ hP hD hS (lv_sub hl [0, 1, 2, 3] rfl)
    · have hf := ifn h2 hf
      refine lv_aload_n hx hb dX0_reachFrom_13 rfl (lv_at hl 0 rfl) ?_
      refine lv_iload_n hx hb dX0_reachFrom_14 rfl (lv_at hl 1 rfl) ?_
      refine lv_iload_n hx hb dX0_reachFrom_15 rfl (lv_at hl 3 rfl) ?_
      obtain ⟨v3, hv, hf⟩ := bd hf
      refine q_ci (wr := []) (va_runV (As := [.int x1_, .int x3_]) (rest := []) ⟨hx, hb, hml, hown, hts⟩ (ctX0_fieldKind l dC dI cI cZ cL h a1 a2 a3 a4 a5 _ w r st rc na tp cn rh sr x1_ x3_ v3 hv) (cwV 2 hts (gV mw_118 mw_120 mw_4 mw_38 mw_121) rfl rfl rfl (by decide +kernel) ⟨Nat.le_of_ble_eq_true rfl, Nat.le_of_ble_eq_true rfl⟩) (q_preV [.int x1_, .int x3_] hK hP hD [0, 1, 2, 3, 4, 5] (by decide) rfl (ci := 0) rfl rfl) rfl rfl hl.1 rfl (lv_room (Nat.le_of_ble_eq_true rfl)) dX0_reachFrom_16 ⟨Nat.le_of_ble_eq_true rfl, Nat.le_of_ble_eq_true rfl⟩) hP hD hS hA [0, 1, 2, 3, 4, 5] [] rfl rfl (by decide) (by decide) (fun H locs hP hD hS => ?_)
      have hP : va_P (dC, dI) vwCl (wX cI h a1 a2 a3 a4 a5 w r st rc na tp cn rh sr) _ := hP
      have hD : va_D A (wX cI h a1 a2 a3 a4 a5 w r st rc na tp cn rh sr) := hD
      refine lv_iconst (v := (1 : Int32)) hx hb dX0_reachFrom_19 (by decide) ?_
      refine lv_icmp_ne (tgt := 37) hx hb dX0_reachFrom_20 (by decide) (fun h4 => ?_) (fun h4 => ?_)
      · have hf := ifn h4 hf
        refine lv_iinc (v := x3_ + (1 : Int32)) hx hb dX0_reachFrom_37 hl (k := 3) rfl (by rfl) (by decide) rfl (fun ls hl => ?_)
        have hl : lv_has ls 4 [(3, .int (x3_ + (1 : Int32))), (0, .ref h), (1, .int x1_), (2, .int x2_)] := hl
        refine lv_goto (tgt := 8) hx hb dX0_reachFrom_40 (by decide) ?_
        exact ih _ _ _ _ _ _ _ _ hf _ _ _ hP hD hS (lv_sub hl [1, 2, 3, 0] rfl) k0
      · have hf := ift h4 hf
        refine lv_aload_n hx hb dX0_reachFrom_23 rfl (lv_at hl 0 rfl) ?_
        refine lv_aload_n hx hb dX0_reachFrom_24 rfl (lv_at hl 0 rfl) ?_
        refine va_get (D := (dC, dI)) (ci := 0) (v := .ref a1) (C := RX0) (T := TX0) (N := 9) hx hb hts (fun w hw => List.mem_cons_of_mem _ (inX0 w hw)) hown hK hP 0 rfl rfl 0 (by decide) (hts _ (List.mem_cons_of_mem _ mw_61)) (fun _ h9 => h9) rfl dX0_reachFrom_25 ?_
        refine lv_iload_n hx hb dX0_reachFrom_28 rfl (lv_at hl 1 rfl) ?_
        refine lv_iload_n hx hb dX0_reachFrom_29 rfl (lv_at hl 3 rfl) ?_
        obtain ⟨v5, hv, hf⟩ := bd hf
        refine q_ci (wr := (wX cI h a1 a2 a3 a4 a5 w r st rc na tp cn rh sr)) (va_runS (As := [.int x1_, .int x3_]) (rest := [.ref a1, .ref h]) ⟨hx, hb, hml, hown, hts⟩ (ctX0_fieldAddress l dC dI cI cZ cL _ x1_ x3_ v5 hv) (va_cwS 2 hts (gS mw_122 mw_123 mw_38 mw_124) rfl rfl rfl (by decide +kernel) ⟨Nat.le_of_ble_eq_true rfl, Nat.le_of_ble_eq_true rfl⟩) (q_preS [.int x1_, .int x3_] hK hP hD [] (by decide) rfl) rfl rfl hl.1 rfl (lv_room (Nat.le_of_ble_eq_true rfl)) dX0_reachFrom_30 ⟨Nat.le_of_ble_eq_true rfl, Nat.le_of_ble_eq_true rfl⟩) hP hD hS hA [] [0, 1, 2, 3, 4, 5] rfl rfl (by decide) (by decide) (fun H locs hP hD hS => ?_)
        have hP : va_P (dC, dI) vwCl (wX cI h a1 a2 a3 a4 a5 w r st rc na tp cn rh sr) _ := hP
        have hD : va_D A (wX cI h a1 a2 a3 a4 a5 w r st rc na tp cn rh sr) := hD
        obtain ⟨v6, hv, hf⟩ := bd hf
        refine q_ild hx hb hK hP 1 0 rfl rfl hv dX0_reachFrom_33 ?_
        obtain ⟨⟨rc_7, na_8, rh_9⟩, hv, hf⟩ := bd hf
        dsimp only at hf
        refine q_cv (wr := []) (va_runV (As := [.int v6]) (rest := []) ⟨hx, hb, hml, hown, hts⟩ (ctX0_reach l dC dI cI cZ cL h a1 a2 a3 a4 a5 _ w r st rc na tp cn rh sr v6 rc_7 na_8 rh_9 hv) (cwV 1 hts (gV mw_106 mw_108 mw_1 mw_38 mw_109) rfl rfl rfl (by decide +kernel) ⟨Nat.le_of_ble_eq_true rfl, Nat.le_of_ble_eq_true rfl⟩) (q_preV [.int v6] hK hP hD [0, 1, 2, 3, 4, 5] (by decide) rfl (ci := 0) rfl rfl) rfl rfl hl.1 rfl (lv_room (Nat.le_of_ble_eq_true rfl)) dX0_reachFrom_34 ⟨Nat.le_of_ble_eq_true rfl, Nat.le_of_ble_eq_true rfl⟩) hP hD hS hA [0, 1, 2, 3, 4, 5] [] rfl rfl (by decide) (by decide) (fun H locs hP hD hS => ?_)
        have hP : va_P (dC, dI) vwCl (wX cI h a1 a2 a3 a4 a5 w r st rc_7 na_8 tp cn rh_9 sr) _ := hP
        have hD : va_D A (wX cI h a1 a2 a3 a4 a5 w r st rc_7 na_8 tp cn rh_9 sr) := hD
        refine lv_iinc (v := x3_ + (1 : Int32)) hx hb dX0_reachFrom_37 hl (k := 3) rfl (by rfl) (by decide) rfl (fun ls hl => ?_)
        have hl : lv_has ls 4 [(3, .int (x3_ + (1 : Int32))), (0, .ref h), (1, .int x1_), (2, .int x2_)] := hl
        refine lv_goto (tgt := 8) hx hb dX0_reachFrom_40 (by decide) ?_
        exact ih _ _ _ _ _ _ _ _ hf _ _ _ hP hD hS (lv_sub hl [1, 2, 3, 0] rfl) k0
set_option maxHeartbeats 4000000 in
set_option maxRecDepth 100000 in
theorem ctX0_reachFrom (l : Launch) (dC : Nat → ClassId) (dI : Nat → Nat → Nat) (cI cZ cL : ClassId) (h a1 a2 a3 a4 a5 : Nat) (sz : Nat) (w : Nat → Int32) (r : Nat → Int32) (st : Nat → Int32) (rc : Nat → Int32) (na : Nat → Int32) (tp : Int32) (cn : Int32) (rh : Int32) (sr : Int32) (x1 : Int32) (rc' : Nat → Int32) (na' : Nat → Int32) (rh' : Int32) (hf : fX0_reachFrom w rc na rh x1 = some (rc', na', rh')) : Met l yX0_reachFrom wsX0_reachFrom rmX0_reachFrom (va_Pc [.ref h, .int x1] (q_pre (dC, dI) vwCl (tyA cI cZ cL) sz (wX cI h a1 a2 a3 a4 a5 w r st rc na tp cn rh sr))) (va_Qv (fun (_ : Unit) => True) (fun _ => q_post (dC, dI) vwCl (tyA cI cZ cL) (va_A (wX cI h a1 a2 a3 a4 a5 w r st rc na tp cn rh sr) sz) (wX cI h a1 a2 a3 a4 a5 w r st rc' na' tp cn rh' sr)) (va_A (wX cI h a1 a2 a3 a4 a5 w r st rc na tp cn rh sr) sz)) 0 0 (va_A (wX cI h a1 a2 a3 a4 a5 w r st rc na tp cn rh sr) sz) := by
  refine Met.ofW (cc := cX0_reachFrom) (maxL := 4) (ret := (none)) (by decide) rfl ?_
  intro p e s m args below meth c s₁ B hml hv
  obtain ⟨rfl, hsz, hP, hK, hD0⟩ := hv
  have hx := B.exec
  have hb := B.bytes
  have hr := B.returns
  have hts := atoms_spec (ws := wsX0_reachFrom) B.pre
  have hown : s.vm.findClass RX0 = some m.cls := findClass_of_methodNamed B.named
  subst hsz
  have hD := hD0.self (sz := s.heap.size)
  generalize hAe : va_A (wX cI h a1 a2 a3 a4 a5 w r st rc na tp cn rh sr) s.heap.size = A at hD ⊢
  have hA : ∀ q : Nat, s.heap.size ≤ q → A q := fun q h => by rw [← hAe]; exact Or.inr h
  have hS : va_S A s.heap s.heap [] := va_S.rf
  have hl := lv_entry ([.ref h, .int x1]) (n := 4) (Nat.le_of_ble_eq_true rfl)
  rw [lg_entry_eq]
  generalize (lg_sl ([.ref h, .int x1]) ++ List.replicate (4 - (lg_sl ([.ref h, .int x1])).length) Slot.unset).toArray = ls at hl ⊢
  have hl : lv_has ls 4 [(0, .ref h), (1, .int x1)] := hl
  unfold fX0_reachFrom at hf
  refine lv_aload_n hx hb dX0_reachFrom_0 rfl (lv_at hl 0 rfl) ?_
  refine lv_iload_n hx hb dX0_reachFrom_1 rfl (lv_at hl 1 rfl) ?_
  obtain ⟨v1, hv, hf⟩ := bd hf
  refine q_ci (wr := []) (va_runV (As := [.int x1]) (rest := []) ⟨hx, hb, hml, hown, hts⟩ (ctX0_fieldCount l dC dI cI cZ cL h a1 a2 a3 a4 a5 _ w r st rc na tp cn rh sr x1 v1 hv) (cwV 1 hts (gV mw_114 mw_116 mw_3 mw_38 mw_117) rfl rfl rfl (by decide +kernel) ⟨Nat.le_of_ble_eq_true rfl, Nat.le_of_ble_eq_true rfl⟩) (q_preV [.int x1] hK hP hD [0, 1, 2, 3, 4, 5] (by decide) rfl (ci := 0) rfl rfl) rfl rfl hl.1 rfl (lv_room (Nat.le_of_ble_eq_true rfl)) dX0_reachFrom_2 ⟨Nat.le_of_ble_eq_true rfl, Nat.le_of_ble_eq_true rfl⟩) hP hD hS hA [0, 1, 2, 3, 4, 5] [] rfl rfl (by decide) (by decide) (fun H locs hP hD hS => ?_)
  have hP : va_P (dC, dI) vwCl (wX cI h a1 a2 a3 a4 a5 w r st rc na tp cn rh sr) _ := hP
  have hD : va_D A (wX cI h a1 a2 a3 a4 a5 w r st rc na tp cn rh sr) := hD
  refine lv_istore_n hx hb dX0_reachFrom_5 rfl hl (by decide) rfl (fun ls hl => ?_)
  have hl : lv_has ls 4 [(2, .int v1), (0, .ref h), (1, .int x1)] := hl
  refine lv_iconst (v := (0 : Int32)) hx hb dX0_reachFrom_6 (by decide) ?_
  refine lv_istore_n hx hb dX0_reachFrom_7 rfl hl (by decide) rfl (fun ls hl => ?_)
  have hl : lv_has ls 4 [(3, .int (0 : Int32)), (2, .int v1), (0, .ref h), (1, .int x1)] := hl
  obtain ⟨⟨x_10, rc_11, na_12, rh_13⟩, hv, hf⟩ := bd hf
  dsimp only at hf
  refine wX0_reachFrom_L8 dC dI cI cZ cL h a1 a2 a3 a4 a5 hx hb hml hown hts hK hA x1 v1 w r st tp cn sr FU (0 : Int32) rc na rh x_10 rc_11 na_12 rh_13 hv _ _ _ hP hD hS (lv_sub hl [2, 3, 1, 0] rfl) (fun H locs ls hP hD hS hl => ?_)
  have hg0 := Option.some.inj hf
  obtain ⟨hq1, hg1⟩ := Prod.mk.inj hg0
  subst hq1
  obtain ⟨hq2, hg2⟩ := Prod.mk.inj hg1
  subst hq2
  subst hg2
  exact W.vret hx hb hr (fun t ht hW => ⟨⟨(), rfl, trivial, by rw [ht]; exact hP, va_K.moved hW.alike hK, hD⟩, hS.F ht⟩) hS.2.2 dX0_reachFrom_43
set_option maxHeartbeats 4000000 in
set_option maxRecDepth 100000 in
theorem wX0_findAlive_L15 {p : Program} {l : Launch} {e : Env} {s : State} {m : MethodId} {args : Array Value} {below : List Frame} {meth : Method} {c : Code} {Q : State → Prop} {A : Nat → Prop} (dC : Nat → ClassId) (dI : Nat → Nat → Nat) (cI cZ cL : ClassId) (h a1 a2 a3 a4 a5 : Nat) (hx : p.tables.exec = Jvm.exec) (hb : c.code = cX0_findAlive) (hml : c.maxLocals = 2) (hown : s.vm.findClass RX0 = some m.cls) (hts : ∀ w ∈ wsX0_findAlive, w.before args s = true) (hK : va_K (dC, dI) vwCl (tyA cI cZ cL) s) (hA : ∀ q : Nat, s.heap.size ≤ q → A q) (w : Nat → Int32) (r : Nat → Int32) (st : Nat → Int32) (tp : Int32) (cn : Int32) (sr : Int32) (n : Nat) :
    ∀ (x1_ : Int32) (rc : Nat → Int32) (na : Nat → Int32) (rh : Int32) (x1_' : Int32) (rc' : Nat → Int32) (na' : Nat → Int32) (rh' : Int32), fX0_findAlive_L15 r n x1_ rc na rh = some (x1_', rc', na', rh') → ∀ (H : Heap) (locs : List Loc) (ls : Array Slot), va_P (dC, dI) vwCl (wX cI h a1 a2 a3 a4 a5 w r st rc na tp cn rh sr) H → va_D A (wX cI h a1 a2 a3 a4 a5 w r st rc na tp cn rh sr) → va_S A s.heap H locs → lv_has ls 2 [(0, .ref h), (1, .int x1_)] → (∀ (H : Heap) (locs : List Loc) (ls : Array Slot), va_P (dC, dI) vwCl (wX cI h a1 a2 a3 a4 a5 w r st rc' na' tp cn rh' sr) H → va_D A (wX cI h a1 a2 a3 a4 a5 w r st rc' na' tp cn rh' sr) → va_S A s.heap H locs → lv_has ls 2 [(0, .ref h), (1, .int x1_')] → W p l e (headSpec wsX0_findAlive rmX0_findAlive).room s m args below meth c H locs 0 0 Q (F0 m 37 ls [])) → W p l e (headSpec wsX0_findAlive rmX0_findAlive).room s m args below meth c H locs 0 0 Q (F0 m 15 ls []) := by
  induction n with
  | zero => intro x1_ rc na rh x1_' rc' na' rh' hf; cases hf
  | succ n ih =>
    intro x1_ rc na rh x1_' rc' na' rh' hf H locs ls hP hD hS hl k0
    have hf := (fX0_findAlive_L15_s r n x1_ rc na rh).symm.trans hf
    refine lv_iload_n hx hb dX0_findAlive_15 rfl (lv_at hl 1 rfl) ?_
    refine lv_bipush (v := (8 : Int32)) hx hb dX0_findAlive_16 (by decide) ?_
    refine lv_icmp_ge (tgt := 37) hx hb dX0_findAlive_18 (by decide) (fun h2 => ?_) (fun h2 => ?_)
    · have hf := ift h2 hf
      cases hf
      exact k0 _ _ _ hP hD hS (lv_sub hl [0, 1] rfl)
    · have hf := ifn h2 hf
      refine lv_aload_n hx hb dX0_findAlive_21 rfl (lv_at hl 0 rfl) ?_
      refine lv_aload_n hx hb dX0_findAlive_22 rfl (lv_at hl 0 rfl) ?_
      refine va_get (D := (dC, dI)) (ci := 0) (v := .ref a2) (C := RX0) (T := TX0) (N := 9) hx hb hts (fun w hw => List.mem_cons_of_mem _ (inX0 w hw)) hown hK hP 0 rfl rfl 1 (by decide) (hts _ (List.mem_cons_of_mem _ mw_62)) (fun _ h9 => h9) rfl dX0_findAlive_23 ?_
      refine lv_iload_n hx hb dX0_findAlive_26 rfl (lv_at hl 1 rfl) ?_
      obtain ⟨v3, hv, hf⟩ := bd hf
      refine q_ild hx hb hK hP 2 0 rfl rfl hv dX0_findAlive_27 ?_
      obtain ⟨⟨rc_4, na_5, rh_6⟩, hv, hf⟩ := bd hf
      dsimp only at hf
      refine q_cv (wr := []) (va_runV (As := [.int v3]) (rest := []) ⟨hx, hb, hml, hown, hts⟩ (ctX0_reach l dC dI cI cZ cL h a1 a2 a3 a4 a5 _ w r st rc na tp cn rh sr v3 rc_4 na_5 rh_6 hv) (cwV 1 hts (gV mw_106 mw_108 mw_1 mw_38 mw_109) rfl rfl rfl (by decide +kernel) ⟨Nat.le_of_ble_eq_true rfl, Nat.le_of_ble_eq_true rfl⟩) (q_preV [.int v3] hK hP hD [0, 1, 2, 3, 4, 5] (by decide) rfl (ci := 0) rfl rfl) rfl rfl hl.1 rfl (lv_room (Nat.le_of_ble_eq_true rfl)) dX0_findAlive_28 ⟨Nat.le_of_ble_eq_true rfl, Nat.le_of_ble_eq_true rfl⟩) hP hD hS hA [0, 1, 2, 3, 4, 5] [] rfl rfl (by decide) (by decide) (fun H locs hP hD hS => ?_)
      have hP : va_P (dC, dI) vwCl (wX cI h a1 a2 a3 a4 a5 w r st rc_4 na_5 tp cn rh_6 sr) _ := hP
      have hD : va_D A (wX cI h a1 a2 a3 a4 a5 w r st rc_4 na_5 tp cn rh_6 sr) := hD
      refine lv_iinc (v := x1_ + (1 : Int32)) hx hb dX0_findAlive_31 hl (k := 1) rfl (by rfl) (by decide) rfl (fun ls hl => ?_)
      have hl : lv_has ls 2 [(1, .int (x1_ + (1 : Int32))), (0, .ref h)] := hl
      refine lv_goto (tgt := 15) hx hb dX0_findAlive_34 (by decide) ?_
      exact ih _ _ _ _ _ _ _ _ hf _ _ _ hP hD hS (lv_sub hl [1, 0] rfl) k0
set_option maxHeartbeats 4000000 in
set_option maxRecDepth 100000 in
theorem wX0_findAlive_L39 {p : Program} {l : Launch} {e : Env} {s : State} {m : MethodId} {args : Array Value} {below : List Frame} {meth : Method} {c : Code} {Q : State → Prop} {A : Nat → Prop} (dC : Nat → ClassId) (dI : Nat → Nat → Nat) (cI cZ cL : ClassId) (h a1 a2 a3 a4 a5 : Nat) (hx : p.tables.exec = Jvm.exec) (hb : c.code = cX0_findAlive) (hml : c.maxLocals = 2) (hown : s.vm.findClass RX0 = some m.cls) (hts : ∀ w ∈ wsX0_findAlive, w.before args s = true) (hK : va_K (dC, dI) vwCl (tyA cI cZ cL) s) (hA : ∀ q : Nat, s.heap.size ≤ q → A q) (w : Nat → Int32) (r : Nat → Int32) (st : Nat → Int32) (tp : Int32) (cn : Int32) (sr : Int32) (n : Nat) :
    ∀ (x1_ : Int32) (rc : Nat → Int32) (na : Nat → Int32) (rh : Int32) (x1_' : Int32) (rc' : Nat → Int32) (na' : Nat → Int32) (rh' : Int32), fX0_findAlive_L39 w n x1_ rc na rh = some (x1_', rc', na', rh') → ∀ (H : Heap) (locs : List Loc) (ls : Array Slot), va_P (dC, dI) vwCl (wX cI h a1 a2 a3 a4 a5 w r st rc na tp cn rh sr) H → va_D A (wX cI h a1 a2 a3 a4 a5 w r st rc na tp cn rh sr) → va_S A s.heap H locs → lv_has ls 2 [(0, .ref h), (1, .int x1_)] → (∀ (H : Heap) (locs : List Loc) (ls : Array Slot), va_P (dC, dI) vwCl (wX cI h a1 a2 a3 a4 a5 w r st rc' na' tp cn rh' sr) H → va_D A (wX cI h a1 a2 a3 a4 a5 w r st rc' na' tp cn rh' sr) → va_S A s.heap H locs → lv_has ls 2 [(0, .ref h), (1, .int x1_')] → W p l e (headSpec wsX0_findAlive rmX0_findAlive).room s m args below meth c H locs 0 0 Q (F0 m 70 ls [])) → W p l e (headSpec wsX0_findAlive rmX0_findAlive).room s m args below meth c H locs 0 0 Q (F0 m 39 ls []) := by
  induction n with
  | zero => intro x1_ rc na rh x1_' rc' na' rh' hf; cases hf
  | succ n ih =>
    intro x1_ rc na rh x1_' rc' na' rh' hf H locs ls hP hD hS hl k0
    have hf := (fX0_findAlive_L39_s w n x1_ rc na rh).symm.trans hf
    refine lv_iload_n hx hb dX0_findAlive_39 rfl (lv_at hl 1 rfl) ?_
    refine lv_aload_n hx hb dX0_findAlive_40 rfl (lv_at hl 0 rfl) ?_
    refine va_get (D := (dC, dI)) (ci := 0) (v := .int rh) (C := RX0) (T := TX0) (N := 9) hx hb hts (fun w hw => List.mem_cons_of_mem _ (inX0 w hw)) hown hK hP 0 rfl rfl 7 (by decide) (hts _ (List.mem_cons_of_mem _ mw_68)) (fun _ h9 => h9) rfl dX0_findAlive_41 ?_
    refine lv_icmp_ge (tgt := 70) hx hb dX0_findAlive_44 (by decide) (fun h11 => ?_) (fun h11 => ?_)
    · have hf := ift h11 hf
      cases hf
      exact k0 _ _ _ hP hD hS (lv_sub hl [0, 1] rfl)
    · have hf := ifn h11 hf
      refine lv_iload_n hx hb dX0_findAlive_47 rfl (lv_at hl 1 rfl) ?_
      refine lv_sipush (v := (128 : Int32)) hx hb dX0_findAlive_48 (by decide) ?_
      refine lv_icmp_ge (tgt := 70) hx hb dX0_findAlive_51 (by decide) (fun h12 => ?_) (fun h12 => ?_)
      · have hf := ift h12 hf
        cases hf
        exact k0 _ _ _ hP hD hS (lv_sub hl [0, 1] rfl)
      · have hf := ifn h12 hf
        refine lv_aload_n hx hb dX0_findAlive_54 rfl (lv_at hl 0 rfl) ?_
        refine lv_aload_n hx hb dX0_findAlive_55 rfl (lv_at hl 0 rfl) ?_
        refine va_get (D := (dC, dI)) (ci := 0) (v := .ref a4) (C := RX0) (T := TX0) (N := 9) hx hb hts (fun w hw => List.mem_cons_of_mem _ (inX0 w hw)) hown hK hP 0 rfl rfl 3 (by decide) (hts _ (List.mem_cons_of_mem _ mw_64)) (fun _ h9 => h9) rfl dX0_findAlive_56 ?_
        refine lv_iload_n hx hb dX0_findAlive_59 rfl (lv_at hl 1 rfl) ?_
        obtain ⟨v13, hv, hf⟩ := bd hf
        refine q_ild hx hb hK hP 4 0 rfl rfl hv dX0_findAlive_60 ?_
        obtain ⟨⟨rc_14, na_15, rh_16⟩, hv, hf⟩ := bd hf
        dsimp only at hf
        refine q_cv (wr := []) (va_runV (As := [.int v13]) (rest := []) ⟨hx, hb, hml, hown, hts⟩ (ctX0_reachFrom l dC dI cI cZ cL h a1 a2 a3 a4 a5 _ w r st rc na tp cn rh sr v13 rc_14 na_15 rh_16 hv) (cwV 1 hts (gV mw_110 mw_112 mw_2 mw_38 mw_113) rfl rfl rfl (by decide +kernel) ⟨Nat.le_of_ble_eq_true rfl, Nat.le_of_ble_eq_true rfl⟩) (q_preV [.int v13] hK hP hD [0, 1, 2, 3, 4, 5] (by decide) rfl (ci := 0) rfl rfl) rfl rfl hl.1 rfl (lv_room (Nat.le_of_ble_eq_true rfl)) dX0_findAlive_61 ⟨Nat.le_of_ble_eq_true rfl, Nat.le_of_ble_eq_true rfl⟩) hP hD hS hA [0, 1, 2, 3, 4, 5] [] rfl rfl (by decide) (by decide) (fun H locs hP hD hS => ?_)
        have hP : va_P (dC, dI) vwCl (wX cI h a1 a2 a3 a4 a5 w r st rc_14 na_15 tp cn rh_16 sr) _ := hP
        have hD : va_D A (wX cI h a1 a2 a3 a4 a5 w r st rc_14 na_15 tp cn rh_16 sr) := hD
        refine lv_iinc (v := x1_ + (1 : Int32)) hx hb dX0_findAlive_64 hl (k := 1) rfl (by rfl) (by decide) rfl (fun ls hl => ?_)
        have hl : lv_has ls 2 [(1, .int (x1_ + (1 : Int32))), (0, .ref h)] := hl
        refine lv_goto (tgt := 39) hx hb dX0_findAlive_67 (by decide) ?_
        exact ih _ _ _ _ _ _ _ _ hf _ _ _ hP hD hS (lv_sub hl [1, 0] rfl) k0
set_option maxHeartbeats 4000000 in
set_option maxRecDepth 100000 in
theorem ctX0_findAlive (l : Launch) (dC : Nat → ClassId) (dI : Nat → Nat → Nat) (cI cZ cL : ClassId) (h a1 a2 a3 a4 a5 : Nat) (sz : Nat) (w : Nat → Int32) (r : Nat → Int32) (st : Nat → Int32) (rc : Nat → Int32) (na : Nat → Int32) (tp : Int32) (cn : Int32) (rh : Int32) (sr : Int32) (rc' : Nat → Int32) (na' : Nat → Int32) (rh' : Int32) (hf : fX0_findAlive w r rc na rh = some (rc', na', rh')) : Met l yX0_findAlive wsX0_findAlive rmX0_findAlive (va_Pc [.ref h] (q_pre (dC, dI) vwCl (tyA cI cZ cL) sz (wX cI h a1 a2 a3 a4 a5 w r st rc na tp cn rh sr))) (va_Qv (fun (_ : Unit) => True) (fun _ => q_post (dC, dI) vwCl (tyA cI cZ cL) (va_A (wX cI h a1 a2 a3 a4 a5 w r st rc na tp cn rh sr) sz) (wX cI h a1 a2 a3 a4 a5 w r st rc' na' tp cn rh' sr)) (va_A (wX cI h a1 a2 a3 a4 a5 w r st rc na tp cn rh sr) sz)) 0 0 (va_A (wX cI h a1 a2 a3 a4 a5 w r st rc na tp cn rh sr) sz) := by
  refine Met.ofW (cc := cX0_findAlive) (maxL := 2) (ret := (none)) (by decide) rfl ?_
  intro p e s m args below meth c s₁ B hml hv
  obtain ⟨rfl, hsz, hP, hK, hD0⟩ := hv
  have hx := B.exec
  have hb := B.bytes
  have hr := B.returns
  have hts := atoms_spec (ws := wsX0_findAlive) B.pre
  have hown : s.vm.findClass RX0 = some m.cls := findClass_of_methodNamed B.named
  subst hsz
  have hD := hD0.self (sz := s.heap.size)
  generalize hAe : va_A (wX cI h a1 a2 a3 a4 a5 w r st rc na tp cn rh sr) s.heap.size = A at hD ⊢
  have hA : ∀ q : Nat, s.heap.size ≤ q → A q := fun q h => by rw [← hAe]; exact Or.inr h
  have hS : va_S A s.heap s.heap [] := va_S.rf
  have hl := lv_entry ([.ref h]) (n := 2) (Nat.le_of_ble_eq_true rfl)
  rw [lg_entry_eq]
  generalize (lg_sl ([.ref h]) ++ List.replicate (2 - (lg_sl ([.ref h])).length) Slot.unset).toArray = ls at hl ⊢
  have hl : lv_has ls 2 [(0, .ref h)] := hl
  unfold fX0_findAlive at hf
  refine lv_aload_n hx hb dX0_findAlive_0 rfl (lv_at hl 0 rfl) ?_
  refine va_get (D := (dC, dI)) (ci := 0) (v := .ref a5) (C := RX0) (T := TX0) (N := 9) hx hb hts (fun w hw => List.mem_cons_of_mem _ (inX0 w hw)) hown hK hP 0 rfl rfl 4 (by decide) (hts _ (List.mem_cons_of_mem _ mw_65)) (fun _ h9 => h9) rfl dX0_findAlive_1 ?_
  refine lv_iconst (v := (-1 : Int32)) hx hb dX0_findAlive_4 (by decide) ?_
  obtain ⟨na_1, hv, hf⟩ := bd hf
  refine q_cv (wr := [(h, .inr (0, [.ref a1, .ref a2, .ref a3, .ref a4, .ref a5, .int tp, .int cn, .int rh, .int sr])), (a1, .inl (cI, 256, .inl w)), (a2, .inl (cI, 8, .inl r)), (a3, .inl (cI, 128, .inl st)), (a4, .inl (cI, 128, .inl rc))]) (va_runS (As := [.ref a5, .int (-1 : Int32)]) (rest := []) ⟨hx, hb, hml, hown, hts⟩ (ctXA_fill l dC dI cI cZ cL a5 256 _ na (-1 : Int32) na_1 hv) (va_cwS 2 hts (gS mw_58 mw_59 mw_39 mw_60) rfl rfl rfl (by decide +kernel) ⟨Nat.le_of_ble_eq_true rfl, Nat.le_of_ble_eq_true rfl⟩) (q_preS [.ref a5, .int (-1 : Int32)] hK hP hD [5] (by decide) rfl) rfl rfl hl.1 rfl (lv_room (Nat.le_of_ble_eq_true rfl)) dX0_findAlive_5 ⟨Nat.le_of_ble_eq_true rfl, Nat.le_of_ble_eq_true rfl⟩) hP hD hS hA [5] [0, 1, 2, 3, 4] rfl rfl (by decide) (by decide) (fun H locs hP hD hS => ?_)
  have hP : va_P (dC, dI) vwCl (wX cI h a1 a2 a3 a4 a5 w r st rc na_1 tp cn rh sr) _ := hP
  have hD : va_D A (wX cI h a1 a2 a3 a4 a5 w r st rc na_1 tp cn rh sr) := hD
  refine lv_aload_n hx hb dX0_findAlive_8 rfl (lv_at hl 0 rfl) ?_
  refine lv_iconst (v := (0 : Int32)) hx hb dX0_findAlive_9 (by decide) ?_
  refine va_put (D := (dC, dI)) (ci := 0) (v := .int (0 : Int32)) (ty := .int) (C := RX0) (T := TX0) (N := 9) hx hb hts (fun w hw => List.mem_cons_of_mem _ (inX0 w hw)) tyX0 tyX0_ok nmX0 hown hK hP hD hS 0 rfl rfl 7 (by decide) (hts _ (List.mem_cons_of_mem _ mw_68)) (fun _ h9 => h9) rfl (by decide +kernel) rfl rfl (Nat.le_of_ble_eq_true rfl) dX0_findAlive_10 (fun H locs hP hD hS => ?_)
  have hP : va_P (dC, dI) vwCl (wX cI h a1 a2 a3 a4 a5 w r st rc na_1 tp cn (0 : Int32) sr) _ := hP
  have hD : va_D A (wX cI h a1 a2 a3 a4 a5 w r st rc na_1 tp cn (0 : Int32) sr) := hD
  refine lv_iconst (v := (0 : Int32)) hx hb dX0_findAlive_13 (by decide) ?_
  refine lv_istore_n hx hb dX0_findAlive_14 rfl hl (by decide) rfl (fun ls hl => ?_)
  have hl : lv_has ls 2 [(1, .int (0 : Int32)), (0, .ref h)] := hl
  obtain ⟨⟨x_7, rc_8, na_9, rh_10⟩, hv, hf⟩ := bd hf
  dsimp only at hf
  refine wX0_findAlive_L15 dC dI cI cZ cL h a1 a2 a3 a4 a5 hx hb hml hown hts hK hA w r st tp cn sr FU (0 : Int32) rc na_1 (0 : Int32) x_7 rc_8 na_9 rh_10 hv _ _ _ hP hD hS (lv_sub hl [1, 0] rfl) (fun H locs ls hP hD hS hl => ?_)
  refine lv_iconst (v := (0 : Int32)) hx hb dX0_findAlive_37 (by decide) ?_
  refine lv_istore_n hx hb dX0_findAlive_38 rfl hl (by decide) rfl (fun ls hl => ?_)
  have hl : lv_has ls 2 [(1, .int (0 : Int32)), (0, .ref h)] := hl
  obtain ⟨⟨x_17, rc_18, na_19, rh_20⟩, hv, hf⟩ := bd hf
  dsimp only at hf
  refine wX0_findAlive_L39 dC dI cI cZ cL h a1 a2 a3 a4 a5 hx hb hml hown hts hK hA w r st tp cn sr FU (0 : Int32) rc_8 na_9 rh_10 x_17 rc_18 na_19 rh_20 hv _ _ _ hP hD hS (lv_sub hl [1, 0] rfl) (fun H locs ls hP hD hS hl => ?_)
  have hg0 := Option.some.inj hf
  obtain ⟨hq1, hg1⟩ := Prod.mk.inj hg0
  subst hq1
  obtain ⟨hq2, hg2⟩ := Prod.mk.inj hg1
  subst hq2
  subst hg2
  exact W.vret hx hb hr (fun t ht hW => ⟨⟨(), rfl, trivial, by rw [ht]; exact hP, va_K.moved hW.alike hK, hD⟩, hS.F ht⟩) hS.2.2 dX0_findAlive_70
end
section
set_option maxHeartbeats 4000000 in
set_option maxRecDepth 100000 in
theorem ctX0_addressAfterMove (l : Launch) (dC : Nat → ClassId) (dI : Nat → Nat → Nat) (cI cZ cL : ClassId) (h a1 a2 a3 a4 a5 : Nat) (sz : Nat) (w : Nat → Int32) (r : Nat → Int32) (st : Nat → Int32) (rc : Nat → Int32) (na : Nat → Int32) (tp : Int32) (cn : Int32) (rh : Int32) (sr : Int32) (x1 : Int32) (rs : Int32) (hf : fX0_addressAfterMove na x1 = some rs) : Met l yX0_addressAfterMove wsX0_addressAfterMove rmX0_addressAfterMove (va_Pc [.ref h, .int x1] (q_pre (dC, dI) vwCl (tyA cI cZ cL) sz (wX cI h a1 a2 a3 a4 a5 w r st rc na tp cn rh sr))) (va_Qi (fun r (_ : Unit) => r = rs) (fun _ => q_post (dC, dI) vwCl (tyA cI cZ cL) (va_A (wX cI h a1 a2 a3 a4 a5 w r st rc na tp cn rh sr) sz) (wX cI h a1 a2 a3 a4 a5 w r st rc na tp cn rh sr)) (va_A (wX cI h a1 a2 a3 a4 a5 w r st rc na tp cn rh sr) sz)) 0 0 (va_A (wX cI h a1 a2 a3 a4 a5 w r st rc na tp cn rh sr) sz) := by
  refine Met.ofW (cc := cX0_addressAfterMove) (maxL := 2) (ret := (some .int)) (by decide) rfl ?_
  intro p e s m args below meth c s₁ B hml hv
  obtain ⟨rfl, hsz, hP, hK, hD0⟩ := hv
  have hx := B.exec
  have hb := B.bytes
  have hr := B.returns
  have hts := atoms_spec (ws := wsX0_addressAfterMove) B.pre
  have hown : s.vm.findClass RX0 = some m.cls := findClass_of_methodNamed B.named
  subst hsz
  have hD := hD0.self (sz := s.heap.size)
  generalize hAe : va_A (wX cI h a1 a2 a3 a4 a5 w r st rc na tp cn rh sr) s.heap.size = A at hD ⊢
  have hA : ∀ q : Nat, s.heap.size ≤ q → A q := fun q h => by rw [← hAe]; exact Or.inr h
  have hS : va_S A s.heap s.heap [] := va_S.rf
  have hl := lv_entry ([.ref h, .int x1]) (n := 2) (Nat.le_of_ble_eq_true rfl)
  rw [lg_entry_eq]
  generalize (lg_sl ([.ref h, .int x1]) ++ List.replicate (2 - (lg_sl ([.ref h, .int x1])).length) Slot.unset).toArray = ls at hl ⊢
  have hl : lv_has ls 2 [(0, .ref h), (1, .int x1)] := hl
  unfold fX0_addressAfterMove at hf
  refine lv_iload_n hx hb dX0_addressAfterMove_0 rfl (lv_at hl 1 rfl) ?_
  refine lv_iconst (v := (-1 : Int32)) hx hb dX0_addressAfterMove_1 (by decide) ?_
  refine lv_icmp_ne (tgt := 9) hx hb dX0_addressAfterMove_2 (by decide) (fun h1 => ?_) (fun h1 => ?_)
  · have hf := ifn h1 hf
    refine lv_aload_n hx hb dX0_addressAfterMove_9 rfl (lv_at hl 0 rfl) ?_
    refine va_get (D := (dC, dI)) (ci := 0) (v := .ref a5) (C := RX0) (T := TX0) (N := 9) hx hb hts (fun w hw => List.mem_cons_of_mem _ (inX0 w hw)) hown hK hP 0 rfl rfl 4 (by decide) (hts _ (List.mem_cons_of_mem _ mw_65)) (fun _ h9 => h9) rfl dX0_addressAfterMove_10 ?_
    refine lv_iload_n hx hb dX0_addressAfterMove_13 rfl (lv_at hl 1 rfl) ?_
    obtain ⟨v2, hv, hf⟩ := bd hf
    refine q_ild hx hb hK hP 5 0 rfl rfl hv dX0_addressAfterMove_14 ?_
    have hg0 := Option.some.inj hf
    subst hg0
    exact W.iret hx hb hr (fun t ht hW => ⟨⟨_, (), rfl, rfl, by rw [ht]; exact hP, va_K.moved hW.alike hK, hD⟩, hS.F ht⟩) hS.2.2 dX0_addressAfterMove_15
  · have hf := ift h1 hf
    refine lv_iconst (v := (-1 : Int32)) hx hb dX0_addressAfterMove_5 (by decide) ?_
    refine lv_goto (tgt := 15) hx hb dX0_addressAfterMove_6 (by decide) ?_
    have hg0 := Option.some.inj hf
    subst hg0
    exact W.iret hx hb hr (fun t ht hW => ⟨⟨_, (), rfl, rfl, by rw [ht]; exact hP, va_K.moved hW.alike hK, hD⟩, hS.F ht⟩) hS.2.2 dX0_addressAfterMove_15
set_option maxHeartbeats 4000000 in
set_option maxRecDepth 100000 in
theorem wX0_isOneSize_L2 {p : Program} {l : Launch} {e : Env} {s : State} {m : MethodId} {args : Array Value} {below : List Frame} {meth : Method} {c : Code} {Q : State → Prop} {A : Nat → Prop} (dC : Nat → ClassId) (dI : Nat → Nat → Nat) (cI cZ cL : ClassId) (h a1 a2 a3 a4 a5 : Nat) (hx : p.tables.exec = Jvm.exec) (hb : c.code = cX0_isOneSize) (hml : c.maxLocals = 2) (hown : s.vm.findClass RX0 = some m.cls) (hts : ∀ w ∈ wsX0_isOneSize, w.before args s = true) (hK : va_K (dC, dI) vwCl (tyA cI cZ cL) s) (hA : ∀ q : Nat, s.heap.size ≤ q → A q) (w : Nat → Int32) (r : Nat → Int32) (st : Nat → Int32) (rc : Nat → Int32) (na : Nat → Int32) (tp : Int32) (cn : Int32) (rh : Int32) (sr : Int32) (n : Nat) :
    ∀ (x1_ : Int32) (tg : Nat) (x1_' : Int32) (rv : Int32), fX0_isOneSize_L2 w st cn n x1_ = some (tg, x1_', rv) → ∀ (H : Heap) (locs : List Loc) (ls : Array Slot), va_P (dC, dI) vwCl (wX cI h a1 a2 a3 a4 a5 w r st rc na tp cn rh sr) H → va_D A (wX cI h a1 a2 a3 a4 a5 w r st rc na tp cn rh sr) → va_S A s.heap H locs → lv_has ls 2 [(0, .ref h), (1, .int x1_)] → (tg = 0 → ∀ (H : Heap) (locs : List Loc) (ls : Array Slot), va_P (dC, dI) vwCl (wX cI h a1 a2 a3 a4 a5 w r st rc na tp cn rh sr) H → va_D A (wX cI h a1 a2 a3 a4 a5 w r st rc na tp cn rh sr) → va_S A s.heap H locs → lv_has ls 2 [(0, .ref h), (1, .int x1_')] → W p l e (headSpec wsX0_isOneSize rmX0_isOneSize).room s m args below meth c H locs 0 0 Q (F0 m 41 ls [])) → (tg = 1 → ∀ (H : Heap) (locs : List Loc) (ls : Array Slot), va_P (dC, dI) vwCl (wX cI h a1 a2 a3 a4 a5 w r st rc na tp cn rh sr) H → va_D A (wX cI h a1 a2 a3 a4 a5 w r st rc na tp cn rh sr) → va_S A s.heap H locs → lv_has ls 2 [(0, .ref h), (1, .int x1_')] → W p l e (headSpec wsX0_isOneSize rmX0_isOneSize).room s m args below meth c H locs 0 0 Q (F0 m 34 ls [.int rv])) → W p l e (headSpec wsX0_isOneSize rmX0_isOneSize).room s m args below meth c H locs 0 0 Q (F0 m 2 ls []) := by
  induction n with
  | zero => intro x1_ tg x1_' rv hf; cases hf
  | succ n ih =>
    intro x1_ tg x1_' rv hf H locs ls hP hD hS hl k0 k1
    have hf := (fX0_isOneSize_L2_s w st cn n x1_).symm.trans hf
    refine lv_iload_n hx hb dX0_isOneSize_2 rfl (lv_at hl 1 rfl) ?_
    refine lv_aload_n hx hb dX0_isOneSize_3 rfl (lv_at hl 0 rfl) ?_
    refine va_get (D := (dC, dI)) (ci := 0) (v := .int cn) (C := RX0) (T := TX0) (N := 9) hx hb hts (fun w hw => List.mem_cons_of_mem _ (inX0 w hw)) hown hK hP 0 rfl rfl 6 (by decide) (hts _ (List.mem_cons_of_mem _ mw_67)) (fun _ h9 => h9) rfl dX0_isOneSize_4 ?_
    refine lv_icmp_ge (tgt := 41) hx hb dX0_isOneSize_7 (by decide) (fun h1 => ?_) (fun h1 => ?_)
    · have hf := ift h1 hf
      cases hf
      exact k0 rfl _ _ _ hP hD hS (lv_sub hl [0, 1] rfl)
    · have hf := ifn h1 hf
      refine lv_aload_n hx hb dX0_isOneSize_10 rfl (lv_at hl 0 rfl) ?_
      refine lv_aload_n hx hb dX0_isOneSize_11 rfl (lv_at hl 0 rfl) ?_
      refine va_get (D := (dC, dI)) (ci := 0) (v := .ref a3) (C := RX0) (T := TX0) (N := 9) hx hb hts (fun w hw => List.mem_cons_of_mem _ (inX0 w hw)) hown hK hP 0 rfl rfl 2 (by decide) (hts _ (List.mem_cons_of_mem _ mw_63)) (fun _ h9 => h9) rfl dX0_isOneSize_12 ?_
      refine lv_iload_n hx hb dX0_isOneSize_15 rfl (lv_at hl 1 rfl) ?_
      obtain ⟨v2, hv, hf⟩ := bd hf
      refine q_ild hx hb hK hP 3 0 rfl rfl hv dX0_isOneSize_16 ?_
      obtain ⟨v3, hv, hf⟩ := bd hf
      refine q_ci (wr := []) (va_runV (As := [.int v2]) (rest := []) ⟨hx, hb, hml, hown, hts⟩ (ctX0_fieldCount l dC dI cI cZ cL h a1 a2 a3 a4 a5 _ w r st rc na tp cn rh sr v2 v3 hv) (cwV 1 hts (gV mw_114 mw_116 mw_3 mw_38 mw_117) rfl rfl rfl (by decide +kernel) ⟨Nat.le_of_ble_eq_true rfl, Nat.le_of_ble_eq_true rfl⟩) (q_preV [.int v2] hK hP hD [0, 1, 2, 3, 4, 5] (by decide) rfl (ci := 0) rfl rfl) rfl rfl hl.1 rfl (lv_room (Nat.le_of_ble_eq_true rfl)) dX0_isOneSize_17 ⟨Nat.le_of_ble_eq_true rfl, Nat.le_of_ble_eq_true rfl⟩) hP hD hS hA [0, 1, 2, 3, 4, 5] [] rfl rfl (by decide) (by decide) (fun H locs hP hD hS => ?_)
      have hP : va_P (dC, dI) vwCl (wX cI h a1 a2 a3 a4 a5 w r st rc na tp cn rh sr) _ := hP
      have hD : va_D A (wX cI h a1 a2 a3 a4 a5 w r st rc na tp cn rh sr) := hD
      refine lv_aload_n hx hb dX0_isOneSize_20 rfl (lv_at hl 0 rfl) ?_
      refine lv_aload_n hx hb dX0_isOneSize_21 rfl (lv_at hl 0 rfl) ?_
      refine va_get (D := (dC, dI)) (ci := 0) (v := .ref a3) (C := RX0) (T := TX0) (N := 9) hx hb hts (fun w hw => List.mem_cons_of_mem _ (inX0 w hw)) hown hK hP 0 rfl rfl 2 (by decide) (hts _ (List.mem_cons_of_mem _ mw_63)) (fun _ h9 => h9) rfl dX0_isOneSize_22 ?_
      refine lv_iconst (v := (0 : Int32)) hx hb dX0_isOneSize_25 (by decide) ?_
      obtain ⟨v4, hv, hf⟩ := bd hf
      refine q_ild hx hb hK hP 3 0 rfl rfl hv dX0_isOneSize_26 ?_
      obtain ⟨v5, hv, hf⟩ := bd hf
      refine q_ci (wr := []) (va_runV (As := [.int v4]) (rest := [.int v3]) ⟨hx, hb, hml, hown, hts⟩ (ctX0_fieldCount l dC dI cI cZ cL h a1 a2 a3 a4 a5 _ w r st rc na tp cn rh sr v4 v5 hv) (cwV 1 hts (gV mw_114 mw_116 mw_3 mw_38 mw_117) rfl rfl rfl (by decide +kernel) ⟨Nat.le_of_ble_eq_true rfl, Nat.le_of_ble_eq_true rfl⟩) (q_preV [.int v4] hK hP hD [0, 1, 2, 3, 4, 5] (by decide) rfl (ci := 0) rfl rfl) rfl rfl hl.1 rfl (lv_room (Nat.le_of_ble_eq_true rfl)) dX0_isOneSize_27 ⟨Nat.le_of_ble_eq_true rfl, Nat.le_of_ble_eq_true rfl⟩) hP hD hS hA [0, 1, 2, 3, 4, 5] [] rfl rfl (by decide) (by decide) (fun H locs hP hD hS => ?_)
      have hP : va_P (dC, dI) vwCl (wX cI h a1 a2 a3 a4 a5 w r st rc na tp cn rh sr) _ := hP
      have hD : va_D A (wX cI h a1 a2 a3 a4 a5 w r st rc na tp cn rh sr) := hD
      refine lv_icmp_eq (tgt := 35) hx hb dX0_isOneSize_30 (by decide) (fun h6 => ?_) (fun h6 => ?_)
      · have hf := ift h6 hf
        refine lv_iinc (v := x1_ + (1 : Int32)) hx hb dX0_isOneSize_35 hl (k := 1) rfl (by rfl) (by decide) rfl (fun ls hl => ?_)
        have hl : lv_has ls 2 [(1, .int (x1_ + (1 : Int32))), (0, .ref h)] := hl
        refine lv_goto (tgt := 2) hx hb dX0_isOneSize_38 (by decide) ?_
        exact ih _ _ _ _ hf _ _ _ hP hD hS (lv_sub hl [1, 0] rfl) k0 k1
      · have hf := ifn h6 hf
        refine lv_iconst (v := (0 : Int32)) hx hb dX0_isOneSize_33 (by decide) ?_
        cases hf
        exact k1 rfl _ _ _ hP hD hS (lv_sub hl [0, 1] rfl)
set_option maxHeartbeats 4000000 in
set_option maxRecDepth 100000 in
theorem ctX0_isOneSize (l : Launch) (dC : Nat → ClassId) (dI : Nat → Nat → Nat) (cI cZ cL : ClassId) (h a1 a2 a3 a4 a5 : Nat) (sz : Nat) (w : Nat → Int32) (r : Nat → Int32) (st : Nat → Int32) (rc : Nat → Int32) (na : Nat → Int32) (tp : Int32) (cn : Int32) (rh : Int32) (sr : Int32) (rs : Int32) (hf : fX0_isOneSize w st cn = some rs) : Met l yX0_isOneSize wsX0_isOneSize rmX0_isOneSize (va_Pc [.ref h] (q_pre (dC, dI) vwCl (tyA cI cZ cL) sz (wX cI h a1 a2 a3 a4 a5 w r st rc na tp cn rh sr))) (va_Qi (fun r (_ : Unit) => r = rs) (fun _ => q_post (dC, dI) vwCl (tyA cI cZ cL) (va_A (wX cI h a1 a2 a3 a4 a5 w r st rc na tp cn rh sr) sz) (wX cI h a1 a2 a3 a4 a5 w r st rc na tp cn rh sr)) (va_A (wX cI h a1 a2 a3 a4 a5 w r st rc na tp cn rh sr) sz)) 0 0 (va_A (wX cI h a1 a2 a3 a4 a5 w r st rc na tp cn rh sr) sz) := by
  refine Met.ofW (cc := cX0_isOneSize) (maxL := 2) (ret := (some .boolean)) (by decide) rfl ?_
  intro p e s m args below meth c s₁ B hml hv
  obtain ⟨rfl, hsz, hP, hK, hD0⟩ := hv
  have hx := B.exec
  have hb := B.bytes
  have hr := B.returns
  have hts := atoms_spec (ws := wsX0_isOneSize) B.pre
  have hown : s.vm.findClass RX0 = some m.cls := findClass_of_methodNamed B.named
  subst hsz
  have hD := hD0.self (sz := s.heap.size)
  generalize hAe : va_A (wX cI h a1 a2 a3 a4 a5 w r st rc na tp cn rh sr) s.heap.size = A at hD ⊢
  have hA : ∀ q : Nat, s.heap.size ≤ q → A q := fun q h => by rw [← hAe]; exact Or.inr h
  have hS : va_S A s.heap s.heap [] := va_S.rf
  have hl := lv_entry ([.ref h]) (n := 2) (Nat.le_of_ble_eq_true rfl)
  rw [lg_entry_eq]
  generalize (lg_sl ([.ref h]) ++ List.replicate (2 - (lg_sl ([.ref h])).length) Slot.unset).toArray = ls at hl ⊢
  have hl : lv_has ls 2 [(0, .ref h)] := hl
  unfold fX0_isOneSize at hf
  refine lv_iconst (v := (1 : Int32)) hx hb dX0_isOneSize_0 (by decide) ?_
  refine lv_istore_n hx hb dX0_isOneSize_1 rfl hl (by decide) rfl (fun ls hl => ?_)
  have hl : lv_has ls 2 [(1, .int (1 : Int32)), (0, .ref h)] := hl
  obtain ⟨⟨t8, x_7, y9⟩, hv, hf⟩ := bd hf
  dsimp only at hf
  refine wX0_isOneSize_L2 dC dI cI cZ cL h a1 a2 a3 a4 a5 hx hb hml hown hts hK hA w r st rc na tp cn rh sr FU (1 : Int32) t8 x_7 y9 hv _ _ _ hP hD hS (lv_sub hl [1, 0] rfl) (fun ht H locs ls hP hD hS hl => ?_) (fun ht H locs ls hP hD hS hl => ?_)
  · have hf := ift ht hf
    refine lv_iconst (v := (1 : Int32)) hx hb dX0_isOneSize_41 (by decide) ?_
    have hg0 := Option.some.inj hf
    subst hg0
    exact W.zret hx hb hr rfl (fun t ht hW => ⟨⟨_, (), rfl, rfl, by rw [ht]; exact hP, va_K.moved hW.alike hK, hD⟩, hS.F ht⟩) hS.2.2 dX0_isOneSize_42
  · have hf := ifn (by rw [ht]; decide) hf
    obtain ⟨z10, hv, hf⟩ := bd hf
    obtain ⟨hz0, hz⟩ := rtZ_some hv
    have hg0 := Option.some.inj hf
    subst hg0
    subst hz0
    exact W.zret hx hb hr hz (fun t ht hW => ⟨⟨_, (), rfl, rfl, by rw [ht]; exact hP, va_K.moved hW.alike hK, hD⟩, hS.F ht⟩) hS.2.2 dX0_isOneSize_34
set_option maxHeartbeats 4000000 in
set_option maxRecDepth 100000 in
theorem wX0_planSlide_L4 {p : Program} {l : Launch} {e : Env} {s : State} {m : MethodId} {args : Array Value} {below : List Frame} {meth : Method} {c : Code} {Q : State → Prop} {A : Nat → Prop} (dC : Nat → ClassId) (dI : Nat → Nat → Nat) (cI cZ cL : ClassId) (h a1 a2 a3 a4 a5 : Nat) (hx : p.tables.exec = Jvm.exec) (hb : c.code = cX0_planSlide) (hml : c.maxLocals = 4) (hown : s.vm.findClass RX0 = some m.cls) (hts : ∀ w ∈ wsX0_planSlide, w.before args s = true) (hK : va_K (dC, dI) vwCl (tyA cI cZ cL) s) (hA : ∀ q : Nat, s.heap.size ≤ q → A q) (w : Nat → Int32) (r : Nat → Int32) (st : Nat → Int32) (rc : Nat → Int32) (tp : Int32) (cn : Int32) (rh : Int32) (sr : Int32) (n : Nat) :
    ∀ (x1_ : Int32) (x2_ : Int32) (na : Nat → Int32) (x1_' : Int32) (x2_' : Int32) (na' : Nat → Int32), fX0_planSlide_L4 w st cn n x1_ x2_ na = some (x1_', x2_', na') → ∀ (H : Heap) (locs : List Loc) (ls : Array Slot), va_P (dC, dI) vwCl (wX cI h a1 a2 a3 a4 a5 w r st rc na tp cn rh sr) H → va_D A (wX cI h a1 a2 a3 a4 a5 w r st rc na tp cn rh sr) → va_S A s.heap H locs → lv_has ls 4 [(0, .ref h), (1, .int x1_), (2, .int x2_)] → (∀ (H : Heap) (locs : List Loc) (ls : Array Slot), va_P (dC, dI) vwCl (wX cI h a1 a2 a3 a4 a5 w r st rc na' tp cn rh sr) H → va_D A (wX cI h a1 a2 a3 a4 a5 w r st rc na' tp cn rh sr) → va_S A s.heap H locs → lv_has ls 4 [(0, .ref h), (1, .int x1_'), (2, .int x2_')] → W p l e (headSpec wsX0_planSlide rmX0_planSlide).room s m args below meth c H locs 0 0 Q (F0 m 50 ls [])) → W p l e (headSpec wsX0_planSlide rmX0_planSlide).room s m args below meth c H locs 0 0 Q (F0 m 4 ls []) := by
  induction n with
  | zero => intro x1_ x2_ na x1_' x2_' na' hf; cases hf
  | succ n ih =>
    intro x1_ x2_ na x1_' x2_' na' hf H locs ls hP hD hS hl k0
    have hf := (fX0_planSlide_L4_s w st cn n x1_ x2_ na).symm.trans hf
    refine lv_iload_n hx hb dX0_planSlide_4 rfl (lv_at hl 2 rfl) ?_
    refine lv_aload_n hx hb dX0_planSlide_5 rfl (lv_at hl 0 rfl) ?_
    refine va_get (D := (dC, dI)) (ci := 0) (v := .int cn) (C := RX0) (T := TX0) (N := 9) hx hb hts (fun w hw => List.mem_cons_of_mem _ (inX0 w hw)) hown hK hP 0 rfl rfl 6 (by decide) (hts _ (List.mem_cons_of_mem _ mw_67)) (fun _ h9 => h9) rfl dX0_planSlide_6 ?_
    refine lv_icmp_ge (tgt := 50) hx hb dX0_planSlide_9 (by decide) (fun h1 => ?_) (fun h1 => ?_)
    · have hf := ift h1 hf
      cases hf
      exact k0 _ _ _ hP hD hS (lv_sub hl [0, 1, 2] rfl)
    · have hf := ifn h1 hf
      refine lv_aload_n hx hb dX0_planSlide_12 rfl (lv_at hl 0 rfl) ?_
      refine va_get (D := (dC, dI)) (ci := 0) (v := .ref a3) (C := RX0) (T := TX0) (N := 9) hx hb hts (fun w hw => List.mem_cons_of_mem _ (inX0 w hw)) hown hK hP 0 rfl rfl 2 (by decide) (hts _ (List.mem_cons_of_mem _ mw_63)) (fun _ h9 => h9) rfl dX0_planSlide_13 ?_
      refine lv_iload_n hx hb dX0_planSlide_16 rfl (lv_at hl 2 rfl) ?_
      obtain ⟨v2, hv, hf⟩ := bd hf
      refine q_ild hx hb hK hP 3 0 rfl rfl hv dX0_planSlide_17 ?_
      refine lv_istore_n hx hb dX0_planSlide_18 rfl hl (by decide) rfl (fun ls hl => ?_)
      have hl : lv_has ls 4 [(3, .int v2), (0, .ref h), (1, .int x1_), (2, .int x2_)] := hl
      refine lv_aload_n hx hb dX0_planSlide_19 rfl (lv_at hl 1 rfl) ?_
      refine va_get (D := (dC, dI)) (ci := 0) (v := .ref a5) (C := RX0) (T := TX0) (N := 9) hx hb hts (fun w hw => List.mem_cons_of_mem _ (inX0 w hw)) hown hK hP 0 rfl rfl 4 (by decide) (hts _ (List.mem_cons_of_mem _ mw_65)) (fun _ h9 => h9) rfl dX0_planSlide_20 ?_
      refine lv_iload_n hx hb dX0_planSlide_23 rfl (lv_at hl 0 rfl) ?_
      obtain ⟨v3, hv, hf⟩ := bd hf
      refine q_ild hx hb hK hP 5 0 rfl rfl hv dX0_planSlide_24 ?_
      refine lv_iconst (v := (-1 : Int32)) hx hb dX0_planSlide_25 (by decide) ?_
      refine lv_icmp_eq (tgt := 44) hx hb dX0_planSlide_26 (by decide) (fun h4 => ?_) (fun h4 => ?_)
      · have hf := ift h4 hf
        refine lv_iinc (v := x2_ + (1 : Int32)) hx hb dX0_planSlide_44 hl (k := 3) rfl (by rfl) (by decide) rfl (fun ls hl => ?_)
        have hl : lv_has ls 4 [(2, .int (x2_ + (1 : Int32))), (3, .int v2), (0, .ref h), (1, .int x1_)] := hl
        refine lv_goto (tgt := 4) hx hb dX0_planSlide_47 (by decide) ?_
        exact ih _ _ _ _ _ _ hf _ _ _ hP hD hS (lv_sub hl [2, 3, 0] rfl) k0
      · have hf := ifn h4 hf
        refine lv_aload_n hx hb dX0_planSlide_29 rfl (lv_at hl 1 rfl) ?_
        refine va_get (D := (dC, dI)) (ci := 0) (v := .ref a5) (C := RX0) (T := TX0) (N := 9) hx hb hts (fun w hw => List.mem_cons_of_mem _ (inX0 w hw)) hown hK hP 0 rfl rfl 4 (by decide) (hts _ (List.mem_cons_of_mem _ mw_65)) (fun _ h9 => h9) rfl dX0_planSlide_30 ?_
        refine lv_iload_n hx hb dX0_planSlide_33 rfl (lv_at hl 0 rfl) ?_
        refine lv_iload_n hx hb dX0_planSlide_34 rfl (lv_at hl 2 rfl) ?_
        obtain ⟨na_5, hv, hf⟩ := bd hf
        refine q_ist hx hb hK hP hD hS 5 0 rfl rfl hv dX0_planSlide_35 (fun H locs hP hD hS => ?_)
        have hP : va_P (dC, dI) vwCl (wX cI h a1 a2 a3 a4 a5 w r st rc na_5 tp cn rh sr) _ := hP
        have hD : va_D A (wX cI h a1 a2 a3 a4 a5 w r st rc na_5 tp cn rh sr) := hD
        refine lv_iload_n hx hb dX0_planSlide_36 rfl (lv_at hl 2 rfl) ?_
        refine lv_aload_n hx hb dX0_planSlide_37 rfl (lv_at hl 1 rfl) ?_
        refine lv_iload_n hx hb dX0_planSlide_38 rfl (lv_at hl 0 rfl) ?_
        obtain ⟨v6, hv, hf⟩ := bd hf
        refine q_ci (wr := []) (va_runV (As := [.int v2]) (rest := [.int x1_]) ⟨hx, hb, hml, hown, hts⟩ (ctX0_sizeOf l dC dI cI cZ cL h a1 a2 a3 a4 a5 _ w r st rc na_5 tp cn rh sr v2 v6 hv) (cwV 1 hts (gV mw_303 mw_305 mw_14 mw_38 mw_306) rfl rfl rfl (by decide +kernel) ⟨Nat.le_of_ble_eq_true rfl, Nat.le_of_ble_eq_true rfl⟩) (q_preV [.int v2] hK hP hD [0, 1, 2, 3, 4, 5] (by decide) rfl (ci := 0) rfl rfl) rfl rfl hl.1 rfl (lv_room (Nat.le_of_ble_eq_true rfl)) dX0_planSlide_39 ⟨Nat.le_of_ble_eq_true rfl, Nat.le_of_ble_eq_true rfl⟩) hP hD hS hA [0, 1, 2, 3, 4, 5] [] rfl rfl (by decide) (by decide) (fun H locs hP hD hS => ?_)
        have hP : va_P (dC, dI) vwCl (wX cI h a1 a2 a3 a4 a5 w r st rc na_5 tp cn rh sr) _ := hP
        have hD : va_D A (wX cI h a1 a2 a3 a4 a5 w r st rc na_5 tp cn rh sr) := hD
        refine lv_iadd hx hb dX0_planSlide_42 ?_
        refine lv_istore_n hx hb dX0_planSlide_43 rfl hl (by decide) rfl (fun ls hl => ?_)
        have hl : lv_has ls 4 [(1, .int (x1_ + v6)), (3, .int v2), (0, .ref h), (2, .int x2_)] := hl
        refine lv_iinc (v := x2_ + (1 : Int32)) hx hb dX0_planSlide_44 hl (k := 3) rfl (by rfl) (by decide) rfl (fun ls hl => ?_)
        have hl : lv_has ls 4 [(2, .int (x2_ + (1 : Int32))), (1, .int (x1_ + v6)), (3, .int v2), (0, .ref h)] := hl
        refine lv_goto (tgt := 4) hx hb dX0_planSlide_47 (by decide) ?_
        exact ih _ _ _ _ _ _ hf _ _ _ hP hD hS (lv_sub hl [3, 1, 0] rfl) k0
set_option maxHeartbeats 4000000 in
set_option maxRecDepth 100000 in
theorem ctX0_planSlide (l : Launch) (dC : Nat → ClassId) (dI : Nat → Nat → Nat) (cI cZ cL : ClassId) (h a1 a2 a3 a4 a5 : Nat) (sz : Nat) (w : Nat → Int32) (r : Nat → Int32) (st : Nat → Int32) (rc : Nat → Int32) (na : Nat → Int32) (tp : Int32) (cn : Int32) (rh : Int32) (sr : Int32) (na' : Nat → Int32) (hf : fX0_planSlide w st na cn = some na') : Met l yX0_planSlide wsX0_planSlide rmX0_planSlide (va_Pc [.ref h] (q_pre (dC, dI) vwCl (tyA cI cZ cL) sz (wX cI h a1 a2 a3 a4 a5 w r st rc na tp cn rh sr))) (va_Qv (fun (_ : Unit) => True) (fun _ => q_post (dC, dI) vwCl (tyA cI cZ cL) (va_A (wX cI h a1 a2 a3 a4 a5 w r st rc na tp cn rh sr) sz) (wX cI h a1 a2 a3 a4 a5 w r st rc na' tp cn rh sr)) (va_A (wX cI h a1 a2 a3 a4 a5 w r st rc na tp cn rh sr) sz)) 0 0 (va_A (wX cI h a1 a2 a3 a4 a5 w r st rc na tp cn rh sr) sz) := by
  refine Met.ofW (cc := cX0_planSlide) (maxL := 4) (ret := (none)) (by decide) rfl ?_
  intro p e s m args below meth c s₁ B hml hv
  obtain ⟨rfl, hsz, hP, hK, hD0⟩ := hv
  have hx := B.exec
  have hb := B.bytes
  have hr := B.returns
  have hts := atoms_spec (ws := wsX0_planSlide) B.pre
  have hown : s.vm.findClass RX0 = some m.cls := findClass_of_methodNamed B.named
  subst hsz
  have hD := hD0.self (sz := s.heap.size)
  generalize hAe : va_A (wX cI h a1 a2 a3 a4 a5 w r st rc na tp cn rh sr) s.heap.size = A at hD ⊢
  have hA : ∀ q : Nat, s.heap.size ≤ q → A q := fun q h => by rw [← hAe]; exact Or.inr h
  have hS : va_S A s.heap s.heap [] := va_S.rf
  have hl := lv_entry ([.ref h]) (n := 4) (Nat.le_of_ble_eq_true rfl)
  rw [lg_entry_eq]
  generalize (lg_sl ([.ref h]) ++ List.replicate (4 - (lg_sl ([.ref h])).length) Slot.unset).toArray = ls at hl ⊢
  have hl : lv_has ls 4 [(0, .ref h)] := hl
  unfold fX0_planSlide at hf
  refine lv_iconst (v := (0 : Int32)) hx hb dX0_planSlide_0 (by decide) ?_
  refine lv_istore_n hx hb dX0_planSlide_1 rfl hl (by decide) rfl (fun ls hl => ?_)
  have hl : lv_has ls 4 [(1, .int (0 : Int32)), (0, .ref h)] := hl
  refine lv_iconst (v := (0 : Int32)) hx hb dX0_planSlide_2 (by decide) ?_
  refine lv_istore_n hx hb dX0_planSlide_3 rfl hl (by decide) rfl (fun ls hl => ?_)
  have hl : lv_has ls 4 [(2, .int (0 : Int32)), (1, .int (0 : Int32)), (0, .ref h)] := hl
  obtain ⟨⟨x_7, x_8, na_9⟩, hv, hf⟩ := bd hf
  dsimp only at hf
  refine wX0_planSlide_L4 dC dI cI cZ cL h a1 a2 a3 a4 a5 hx hb hml hown hts hK hA w r st rc tp cn rh sr FU (0 : Int32) (0 : Int32) na x_7 x_8 na_9 hv _ _ _ hP hD hS (lv_sub hl [2, 1, 0] rfl) (fun H locs ls hP hD hS hl => ?_)
  have hg0 := Option.some.inj hf
  subst hg0
  exact W.vret hx hb hr (fun t ht hW => ⟨⟨(), rfl, trivial, by rw [ht]; exact hP, va_K.moved hW.alike hK, hD⟩, hS.F ht⟩) hS.2.2 dX0_planSlide_50
set_option maxHeartbeats 4000000 in
set_option maxRecDepth 100000 in
theorem wX0_planTwoFingers_L9 {p : Program} {l : Launch} {e : Env} {s : State} {m : MethodId} {args : Array Value} {below : List Frame} {meth : Method} {c : Code} {Q : State → Prop} {A : Nat → Prop} (dC : Nat → ClassId) (dI : Nat → Nat → Nat) (cI cZ cL : ClassId) (h a1 a2 a3 a4 a5 : Nat) (hx : p.tables.exec = Jvm.exec) (hb : c.code = cX0_planTwoFingers) (hml : c.maxLocals = 3) (hown : s.vm.findClass RX0 = some m.cls) (hts : ∀ w ∈ wsX0_planTwoFingers, w.before args s = true) (hK : va_K (dC, dI) vwCl (tyA cI cZ cL) s) (hA : ∀ q : Nat, s.heap.size ≤ q → A q) (w : Nat → Int32) (r : Nat → Int32) (st : Nat → Int32) (rc : Nat → Int32) (tp : Int32) (cn : Int32) (rh : Int32) (sr : Int32) (n : Nat) :
    ∀ (x1_ : Int32) (x2_ : Int32) (na : Nat → Int32) (x1_' : Int32) (x2_' : Int32) (na' : Nat → Int32), fX0_planTwoFingers_L9 st n x1_ x2_ na = some (x1_', x2_', na') → ∀ (H : Heap) (locs : List Loc) (ls : Array Slot), va_P (dC, dI) vwCl (wX cI h a1 a2 a3 a4 a5 w r st rc na tp cn rh sr) H → va_D A (wX cI h a1 a2 a3 a4 a5 w r st rc na tp cn rh sr) → va_S A s.heap H locs → lv_has ls 3 [(0, .ref h), (1, .int x1_), (2, .int x2_)] → (∀ (H : Heap) (locs : List Loc) (ls : Array Slot), va_P (dC, dI) vwCl (wX cI h a1 a2 a3 a4 a5 w r st rc na' tp cn rh sr) H → va_D A (wX cI h a1 a2 a3 a4 a5 w r st rc na' tp cn rh sr) → va_S A s.heap H locs → lv_has ls 3 [(0, .ref h), (1, .int x1_'), (2, .int x2_')] → W p l e (headSpec wsX0_planTwoFingers rmX0_planTwoFingers).room s m args below meth c H locs 0 0 Q (F0 m 82 ls [])) → W p l e (headSpec wsX0_planTwoFingers rmX0_planTwoFingers).room s m args below meth c H locs 0 0 Q (F0 m 9 ls []) := by
  induction n with
  | zero => intro x1_ x2_ na x1_' x2_' na' hf; cases hf
  | succ n ih =>
    intro x1_ x2_ na x1_' x2_' na' hf H locs ls hP hD hS hl k0
    have hf := (fX0_planTwoFingers_L9_s st n x1_ x2_ na).symm.trans hf
    refine lv_iload_n hx hb dX0_planTwoFingers_9 rfl (lv_at hl 1 rfl) ?_
    refine lv_iload_n hx hb dX0_planTwoFingers_10 rfl (lv_at hl 2 rfl) ?_
    refine lv_icmp_ge (tgt := 82) hx hb dX0_planTwoFingers_11 (by decide) (fun h1 => ?_) (fun h1 => ?_)
    · have hf := ift h1 hf
      cases hf
      exact k0 _ _ _ hP hD hS (lv_sub hl [0, 1, 2] rfl)
    · have hf := ifn h1 hf
      refine lv_aload_n hx hb dX0_planTwoFingers_14 rfl (lv_at hl 0 rfl) ?_
      refine va_get (D := (dC, dI)) (ci := 0) (v := .ref a5) (C := RX0) (T := TX0) (N := 9) hx hb hts (fun w hw => List.mem_cons_of_mem _ (inX0 w hw)) hown hK hP 0 rfl rfl 4 (by decide) (hts _ (List.mem_cons_of_mem _ mw_65)) (fun _ h9 => h9) rfl dX0_planTwoFingers_15 ?_
      refine lv_aload_n hx hb dX0_planTwoFingers_18 rfl (lv_at hl 0 rfl) ?_
      refine va_get (D := (dC, dI)) (ci := 0) (v := .ref a3) (C := RX0) (T := TX0) (N := 9) hx hb hts (fun w hw => List.mem_cons_of_mem _ (inX0 w hw)) hown hK hP 0 rfl rfl 2 (by decide) (hts _ (List.mem_cons_of_mem _ mw_63)) (fun _ h9 => h9) rfl dX0_planTwoFingers_19 ?_
      refine lv_iload_n hx hb dX0_planTwoFingers_22 rfl (lv_at hl 1 rfl) ?_
      obtain ⟨v2, hv, hf⟩ := bd hf
      refine q_ild hx hb hK hP 3 0 rfl rfl hv dX0_planTwoFingers_23 ?_
      obtain ⟨v3, hv, hf⟩ := bd hf
      refine q_ild hx hb hK hP 5 0 rfl rfl hv dX0_planTwoFingers_24 ?_
      refine lv_iconst (v := (-1 : Int32)) hx hb dX0_planTwoFingers_25 (by decide) ?_
      refine lv_icmp_eq (tgt := 35) hx hb dX0_planTwoFingers_26 (by decide) (fun h4 => ?_) (fun h4 => ?_)
      · have hf := ift h4 hf
        refine lv_aload_n hx hb dX0_planTwoFingers_35 rfl (lv_at hl 0 rfl) ?_
        refine va_get (D := (dC, dI)) (ci := 0) (v := .ref a5) (C := RX0) (T := TX0) (N := 9) hx hb hts (fun w hw => List.mem_cons_of_mem _ (inX0 w hw)) hown hK hP 0 rfl rfl 4 (by decide) (hts _ (List.mem_cons_of_mem _ mw_65)) (fun _ h9 => h9) rfl dX0_planTwoFingers_36 ?_
        refine lv_aload_n hx hb dX0_planTwoFingers_39 rfl (lv_at hl 0 rfl) ?_
        refine va_get (D := (dC, dI)) (ci := 0) (v := .ref a3) (C := RX0) (T := TX0) (N := 9) hx hb hts (fun w hw => List.mem_cons_of_mem _ (inX0 w hw)) hown hK hP 0 rfl rfl 2 (by decide) (hts _ (List.mem_cons_of_mem _ mw_63)) (fun _ h9 => h9) rfl dX0_planTwoFingers_40 ?_
        refine lv_iload_n hx hb dX0_planTwoFingers_43 rfl (lv_at hl 2 rfl) ?_
        obtain ⟨v5, hv, hf⟩ := bd hf
        refine q_ild hx hb hK hP 3 0 rfl rfl hv dX0_planTwoFingers_44 ?_
        obtain ⟨v6, hv, hf⟩ := bd hf
        refine q_ild hx hb hK hP 5 0 rfl rfl hv dX0_planTwoFingers_45 ?_
        refine lv_iconst (v := (-1 : Int32)) hx hb dX0_planTwoFingers_46 (by decide) ?_
        refine lv_icmp_ne (tgt := 56) hx hb dX0_planTwoFingers_47 (by decide) (fun h7 => ?_) (fun h7 => ?_)
        · have hf := ifn h7 hf
          refine lv_aload_n hx hb dX0_planTwoFingers_56 rfl (lv_at hl 0 rfl) ?_
          refine va_get (D := (dC, dI)) (ci := 0) (v := .ref a5) (C := RX0) (T := TX0) (N := 9) hx hb hts (fun w hw => List.mem_cons_of_mem _ (inX0 w hw)) hown hK hP 0 rfl rfl 4 (by decide) (hts _ (List.mem_cons_of_mem _ mw_65)) (fun _ h9 => h9) rfl dX0_planTwoFingers_57 ?_
          refine lv_aload_n hx hb dX0_planTwoFingers_60 rfl (lv_at hl 0 rfl) ?_
          refine va_get (D := (dC, dI)) (ci := 0) (v := .ref a3) (C := RX0) (T := TX0) (N := 9) hx hb hts (fun w hw => List.mem_cons_of_mem _ (inX0 w hw)) hown hK hP 0 rfl rfl 2 (by decide) (hts _ (List.mem_cons_of_mem _ mw_63)) (fun _ h9 => h9) rfl dX0_planTwoFingers_61 ?_
          refine lv_iload_n hx hb dX0_planTwoFingers_64 rfl (lv_at hl 2 rfl) ?_
          obtain ⟨v8, hv, hf⟩ := bd hf
          refine q_ild hx hb hK hP 3 0 rfl rfl hv dX0_planTwoFingers_65 ?_
          refine lv_aload_n hx hb dX0_planTwoFingers_66 rfl (lv_at hl 0 rfl) ?_
          refine va_get (D := (dC, dI)) (ci := 0) (v := .ref a3) (C := RX0) (T := TX0) (N := 9) hx hb hts (fun w hw => List.mem_cons_of_mem _ (inX0 w hw)) hown hK hP 0 rfl rfl 2 (by decide) (hts _ (List.mem_cons_of_mem _ mw_63)) (fun _ h9 => h9) rfl dX0_planTwoFingers_67 ?_
          refine lv_iload_n hx hb dX0_planTwoFingers_70 rfl (lv_at hl 1 rfl) ?_
          obtain ⟨v9, hv, hf⟩ := bd hf
          refine q_ild hx hb hK hP 3 0 rfl rfl hv dX0_planTwoFingers_71 ?_
          obtain ⟨na_10, hv, hf⟩ := bd hf
          refine q_ist hx hb hK hP hD hS 5 0 rfl rfl hv dX0_planTwoFingers_72 (fun H locs hP hD hS => ?_)
          have hP : va_P (dC, dI) vwCl (wX cI h a1 a2 a3 a4 a5 w r st rc na_10 tp cn rh sr) _ := hP
          have hD : va_D A (wX cI h a1 a2 a3 a4 a5 w r st rc na_10 tp cn rh sr) := hD
          refine lv_iinc (v := x1_ + (1 : Int32)) hx hb dX0_planTwoFingers_73 hl (k := 1) rfl (by rfl) (by decide) rfl (fun ls hl => ?_)
          have hl : lv_has ls 3 [(1, .int (x1_ + (1 : Int32))), (0, .ref h), (2, .int x2_)] := hl
          refine lv_iinc (v := x2_ + (-1 : Int32)) hx hb dX0_planTwoFingers_76 hl (k := 2) rfl (by rfl) (by decide) rfl (fun ls hl => ?_)
          have hl : lv_has ls 3 [(2, .int (x2_ + (-1 : Int32))), (1, .int (x1_ + (1 : Int32))), (0, .ref h)] := hl
          refine lv_goto (tgt := 9) hx hb dX0_planTwoFingers_79 (by decide) ?_
          exact ih _ _ _ _ _ _ hf _ _ _ hP hD hS (lv_sub hl [2, 1, 0] rfl) k0
        · have hf := ift h7 hf
          refine lv_iinc (v := x2_ + (-1 : Int32)) hx hb dX0_planTwoFingers_50 hl (k := 2) rfl (by rfl) (by decide) rfl (fun ls hl => ?_)
          have hl : lv_has ls 3 [(2, .int (x2_ + (-1 : Int32))), (0, .ref h), (1, .int x1_)] := hl
          refine lv_goto (tgt := 9) hx hb dX0_planTwoFingers_53 (by decide) ?_
          exact ih _ _ _ _ _ _ hf _ _ _ hP hD hS (lv_sub hl [1, 2, 0] rfl) k0
      · have hf := ifn h4 hf
        refine lv_iinc (v := x1_ + (1 : Int32)) hx hb dX0_planTwoFingers_29 hl (k := 1) rfl (by rfl) (by decide) rfl (fun ls hl => ?_)
        have hl : lv_has ls 3 [(1, .int (x1_ + (1 : Int32))), (0, .ref h), (2, .int x2_)] := hl
        refine lv_goto (tgt := 9) hx hb dX0_planTwoFingers_32 (by decide) ?_
        exact ih _ _ _ _ _ _ hf _ _ _ hP hD hS (lv_sub hl [1, 0, 2] rfl) k0
set_option maxHeartbeats 4000000 in
set_option maxRecDepth 100000 in
theorem ctX0_planTwoFingers (l : Launch) (dC : Nat → ClassId) (dI : Nat → Nat → Nat) (cI cZ cL : ClassId) (h a1 a2 a3 a4 a5 : Nat) (sz : Nat) (w : Nat → Int32) (r : Nat → Int32) (st : Nat → Int32) (rc : Nat → Int32) (na : Nat → Int32) (tp : Int32) (cn : Int32) (rh : Int32) (sr : Int32) (na' : Nat → Int32) (hf : fX0_planTwoFingers st na cn = some na') : Met l yX0_planTwoFingers wsX0_planTwoFingers rmX0_planTwoFingers (va_Pc [.ref h] (q_pre (dC, dI) vwCl (tyA cI cZ cL) sz (wX cI h a1 a2 a3 a4 a5 w r st rc na tp cn rh sr))) (va_Qv (fun (_ : Unit) => True) (fun _ => q_post (dC, dI) vwCl (tyA cI cZ cL) (va_A (wX cI h a1 a2 a3 a4 a5 w r st rc na tp cn rh sr) sz) (wX cI h a1 a2 a3 a4 a5 w r st rc na' tp cn rh sr)) (va_A (wX cI h a1 a2 a3 a4 a5 w r st rc na tp cn rh sr) sz)) 0 0 (va_A (wX cI h a1 a2 a3 a4 a5 w r st rc na tp cn rh sr) sz) := by
  refine Met.ofW (cc := cX0_planTwoFingers) (maxL := 3) (ret := (none)) (by decide) rfl ?_
  intro p e s m args below meth c s₁ B hml hv
  obtain ⟨rfl, hsz, hP, hK, hD0⟩ := hv
  have hx := B.exec
  have hb := B.bytes
  have hr := B.returns
  have hts := atoms_spec (ws := wsX0_planTwoFingers) B.pre
  have hown : s.vm.findClass RX0 = some m.cls := findClass_of_methodNamed B.named
  subst hsz
  have hD := hD0.self (sz := s.heap.size)
  generalize hAe : va_A (wX cI h a1 a2 a3 a4 a5 w r st rc na tp cn rh sr) s.heap.size = A at hD ⊢
  have hA : ∀ q : Nat, s.heap.size ≤ q → A q := fun q h => by rw [← hAe]; exact Or.inr h
  have hS : va_S A s.heap s.heap [] := va_S.rf
  have hl := lv_entry ([.ref h]) (n := 3) (Nat.le_of_ble_eq_true rfl)
  rw [lg_entry_eq]
  generalize (lg_sl ([.ref h]) ++ List.replicate (3 - (lg_sl ([.ref h])).length) Slot.unset).toArray = ls at hl ⊢
  have hl : lv_has ls 3 [(0, .ref h)] := hl
  unfold fX0_planTwoFingers at hf
  refine lv_iconst (v := (0 : Int32)) hx hb dX0_planTwoFingers_0 (by decide) ?_
  refine lv_istore_n hx hb dX0_planTwoFingers_1 rfl hl (by decide) rfl (fun ls hl => ?_)
  have hl : lv_has ls 3 [(1, .int (0 : Int32)), (0, .ref h)] := hl
  refine lv_aload_n hx hb dX0_planTwoFingers_2 rfl (lv_at hl 1 rfl) ?_
  refine va_get (D := (dC, dI)) (ci := 0) (v := .int cn) (C := RX0) (T := TX0) (N := 9) hx hb hts (fun w hw => List.mem_cons_of_mem _ (inX0 w hw)) hown hK hP 0 rfl rfl 6 (by decide) (hts _ (List.mem_cons_of_mem _ mw_67)) (fun _ h9 => h9) rfl dX0_planTwoFingers_3 ?_
  refine lv_iconst (v := (1 : Int32)) hx hb dX0_planTwoFingers_6 (by decide) ?_
  refine lv_isub hx hb dX0_planTwoFingers_7 ?_
  refine lv_istore_n hx hb dX0_planTwoFingers_8 rfl hl (by decide) rfl (fun ls hl => ?_)
  have hl : lv_has ls 3 [(2, .int (cn - (1 : Int32))), (1, .int (0 : Int32)), (0, .ref h)] := hl
  obtain ⟨⟨x_11, x_12, na_13⟩, hv, hf⟩ := bd hf
  dsimp only at hf
  refine wX0_planTwoFingers_L9 dC dI cI cZ cL h a1 a2 a3 a4 a5 hx hb hml hown hts hK hA w r st rc tp cn rh sr FU (0 : Int32) (cn - (1 : Int32)) na x_11 x_12 na_13 hv _ _ _ hP hD hS (lv_sub hl [2, 1, 0] rfl) (fun H locs ls hP hD hS hl => ?_)
  have hg0 := Option.some.inj hf
  subst hg0
  exact W.vret hx hb hr (fun t ht hW => ⟨⟨(), rfl, trivial, by rw [ht]; exact hP, va_K.moved hW.alike hK, hD⟩, hS.F ht⟩) hS.2.2 dX0_planTwoFingers_82
set_option maxHeartbeats 4000000 in
set_option maxRecDepth 100000 in
theorem wX0_redirectRoots_L2 {p : Program} {l : Launch} {e : Env} {s : State} {m : MethodId} {args : Array Value} {below : List Frame} {meth : Method} {c : Code} {Q : State → Prop} {A : Nat → Prop} (dC : Nat → ClassId) (dI : Nat → Nat → Nat) (cI cZ cL : ClassId) (h a1 a2 a3 a4 a5 : Nat) (hx : p.tables.exec = Jvm.exec) (hb : c.code = cX0_redirectRoots) (hml : c.maxLocals = 2) (hown : s.vm.findClass RX0 = some m.cls) (hts : ∀ w ∈ wsX0_redirectRoots, w.before args s = true) (hK : va_K (dC, dI) vwCl (tyA cI cZ cL) s) (hA : ∀ q : Nat, s.heap.size ≤ q → A q) (w : Nat → Int32) (st : Nat → Int32) (rc : Nat → Int32) (na : Nat → Int32) (tp : Int32) (cn : Int32) (rh : Int32) (sr : Int32) (n : Nat) :
    ∀ (x1_ : Int32) (r : Nat → Int32) (x1_' : Int32) (r' : Nat → Int32), fX0_redirectRoots_L2 na n x1_ r = some (x1_', r') → ∀ (H : Heap) (locs : List Loc) (ls : Array Slot), va_P (dC, dI) vwCl (wX cI h a1 a2 a3 a4 a5 w r st rc na tp cn rh sr) H → va_D A (wX cI h a1 a2 a3 a4 a5 w r st rc na tp cn rh sr) → va_S A s.heap H locs → lv_has ls 2 [(0, .ref h), (1, .int x1_)] → (∀ (H : Heap) (locs : List Loc) (ls : Array Slot), va_P (dC, dI) vwCl (wX cI h a1 a2 a3 a4 a5 w r' st rc na tp cn rh sr) H → va_D A (wX cI h a1 a2 a3 a4 a5 w r' st rc na tp cn rh sr) → va_S A s.heap H locs → lv_has ls 2 [(0, .ref h), (1, .int x1_')] → W p l e (headSpec wsX0_redirectRoots rmX0_redirectRoots).room s m args below meth c H locs 0 0 Q (F0 m 30 ls [])) → W p l e (headSpec wsX0_redirectRoots rmX0_redirectRoots).room s m args below meth c H locs 0 0 Q (F0 m 2 ls []) := by
  induction n with
  | zero => intro x1_ r x1_' r' hf; cases hf
  | succ n ih =>
    intro x1_ r x1_' r' hf H locs ls hP hD hS hl k0
    have hf := (fX0_redirectRoots_L2_s na n x1_ r).symm.trans hf
    refine lv_iload_n hx hb dX0_redirectRoots_2 rfl (lv_at hl 1 rfl) ?_
    refine lv_bipush (v := (8 : Int32)) hx hb dX0_redirectRoots_3 (by decide) ?_
    refine lv_icmp_ge (tgt := 30) hx hb dX0_redirectRoots_5 (by decide) (fun h1 => ?_) (fun h1 => ?_)
    · have hf := ift h1 hf
      cases hf
      exact k0 _ _ _ hP hD hS (lv_sub hl [0, 1] rfl)
    · have hf := ifn h1 hf
      refine lv_aload_n hx hb dX0_redirectRoots_8 rfl (lv_at hl 0 rfl) ?_
      refine va_get (D := (dC, dI)) (ci := 0) (v := .ref a2) (C := RX0) (T := TX0) (N := 9) hx hb hts (fun w hw => List.mem_cons_of_mem _ (inX0 w hw)) hown hK hP 0 rfl rfl 1 (by decide) (hts _ (List.mem_cons_of_mem _ mw_62)) (fun _ h9 => h9) rfl dX0_redirectRoots_9 ?_
      refine lv_iload_n hx hb dX0_redirectRoots_12 rfl (lv_at hl 1 rfl) ?_
      refine lv_aload_n hx hb dX0_redirectRoots_13 rfl (lv_at hl 0 rfl) ?_
      refine lv_aload_n hx hb dX0_redirectRoots_14 rfl (lv_at hl 0 rfl) ?_
      refine va_get (D := (dC, dI)) (ci := 0) (v := .ref a2) (C := RX0) (T := TX0) (N := 9) hx hb hts (fun w hw => List.mem_cons_of_mem _ (inX0 w hw)) hown hK hP 0 rfl rfl 1 (by decide) (hts _ (List.mem_cons_of_mem _ mw_62)) (fun _ h9 => h9) rfl dX0_redirectRoots_15 ?_
      refine lv_iload_n hx hb dX0_redirectRoots_18 rfl (lv_at hl 1 rfl) ?_
      obtain ⟨v2, hv, hf⟩ := bd hf
      refine q_ild hx hb hK hP 2 0 rfl rfl hv dX0_redirectRoots_19 ?_
      obtain ⟨v3, hv, hf⟩ := bd hf
      refine q_ci (wr := []) (va_runV (As := [.int v2]) (rest := [.int x1_, .ref a2]) ⟨hx, hb, hml, hown, hts⟩ (ctX0_addressAfterMove l dC dI cI cZ cL h a1 a2 a3 a4 a5 _ w r st rc na tp cn rh sr v2 v3 hv) (cwV 1 hts (gV mw_311 mw_313 mw_16 mw_38 mw_314) rfl rfl rfl (by decide +kernel) ⟨Nat.le_of_ble_eq_true rfl, Nat.le_of_ble_eq_true rfl⟩) (q_preV [.int v2] hK hP hD [0, 1, 2, 3, 4, 5] (by decide) rfl (ci := 0) rfl rfl) rfl rfl hl.1 rfl (lv_room (Nat.le_of_ble_eq_true rfl)) dX0_redirectRoots_20 ⟨Nat.le_of_ble_eq_true rfl, Nat.le_of_ble_eq_true rfl⟩) hP hD hS hA [0, 1, 2, 3, 4, 5] [] rfl rfl (by decide) (by decide) (fun H locs hP hD hS => ?_)
      have hP : va_P (dC, dI) vwCl (wX cI h a1 a2 a3 a4 a5 w r st rc na tp cn rh sr) _ := hP
      have hD : va_D A (wX cI h a1 a2 a3 a4 a5 w r st rc na tp cn rh sr) := hD
      obtain ⟨r_4, hv, hf⟩ := bd hf
      refine q_ist hx hb hK hP hD hS 2 0 rfl rfl hv dX0_redirectRoots_23 (fun H locs hP hD hS => ?_)
      have hP : va_P (dC, dI) vwCl (wX cI h a1 a2 a3 a4 a5 w r_4 st rc na tp cn rh sr) _ := hP
      have hD : va_D A (wX cI h a1 a2 a3 a4 a5 w r_4 st rc na tp cn rh sr) := hD
      refine lv_iinc (v := x1_ + (1 : Int32)) hx hb dX0_redirectRoots_24 hl (k := 1) rfl (by rfl) (by decide) rfl (fun ls hl => ?_)
      have hl : lv_has ls 2 [(1, .int (x1_ + (1 : Int32))), (0, .ref h)] := hl
      refine lv_goto (tgt := 2) hx hb dX0_redirectRoots_27 (by decide) ?_
      exact ih _ _ _ _ hf _ _ _ hP hD hS (lv_sub hl [1, 0] rfl) k0
set_option maxHeartbeats 4000000 in
set_option maxRecDepth 100000 in
theorem ctX0_redirectRoots (l : Launch) (dC : Nat → ClassId) (dI : Nat → Nat → Nat) (cI cZ cL : ClassId) (h a1 a2 a3 a4 a5 : Nat) (sz : Nat) (w : Nat → Int32) (r : Nat → Int32) (st : Nat → Int32) (rc : Nat → Int32) (na : Nat → Int32) (tp : Int32) (cn : Int32) (rh : Int32) (sr : Int32) (r' : Nat → Int32) (hf : fX0_redirectRoots r na = some r') : Met l yX0_redirectRoots wsX0_redirectRoots rmX0_redirectRoots (va_Pc [.ref h] (q_pre (dC, dI) vwCl (tyA cI cZ cL) sz (wX cI h a1 a2 a3 a4 a5 w r st rc na tp cn rh sr))) (va_Qv (fun (_ : Unit) => True) (fun _ => q_post (dC, dI) vwCl (tyA cI cZ cL) (va_A (wX cI h a1 a2 a3 a4 a5 w r st rc na tp cn rh sr) sz) (wX cI h a1 a2 a3 a4 a5 w r' st rc na tp cn rh sr)) (va_A (wX cI h a1 a2 a3 a4 a5 w r st rc na tp cn rh sr) sz)) 0 0 (va_A (wX cI h a1 a2 a3 a4 a5 w r st rc na tp cn rh sr) sz) := by
  refine Met.ofW (cc := cX0_redirectRoots) (maxL := 2) (ret := (none)) (by decide) rfl ?_
  intro p e s m args below meth c s₁ B hml hv
  obtain ⟨rfl, hsz, hP, hK, hD0⟩ := hv
  have hx := B.exec
  have hb := B.bytes
  have hr := B.returns
  have hts := atoms_spec (ws := wsX0_redirectRoots) B.pre
  have hown : s.vm.findClass RX0 = some m.cls := findClass_of_methodNamed B.named
  subst hsz
  have hD := hD0.self (sz := s.heap.size)
  generalize hAe : va_A (wX cI h a1 a2 a3 a4 a5 w r st rc na tp cn rh sr) s.heap.size = A at hD ⊢
  have hA : ∀ q : Nat, s.heap.size ≤ q → A q := fun q h => by rw [← hAe]; exact Or.inr h
  have hS : va_S A s.heap s.heap [] := va_S.rf
  have hl := lv_entry ([.ref h]) (n := 2) (Nat.le_of_ble_eq_true rfl)
  rw [lg_entry_eq]
  generalize (lg_sl ([.ref h]) ++ List.replicate (2 - (lg_sl ([.ref h])).length) Slot.unset).toArray = ls at hl ⊢
  have hl : lv_has ls 2 [(0, .ref h)] := hl
  unfold fX0_redirectRoots at hf
  refine lv_iconst (v := (0 : Int32)) hx hb dX0_redirectRoots_0 (by decide) ?_
  refine lv_istore_n hx hb dX0_redirectRoots_1 rfl hl (by decide) rfl (fun ls hl => ?_)
  have hl : lv_has ls 2 [(1, .int (0 : Int32)), (0, .ref h)] := hl
  obtain ⟨⟨x_5, r_6⟩, hv, hf⟩ := bd hf
  dsimp only at hf
  refine wX0_redirectRoots_L2 dC dI cI cZ cL h a1 a2 a3 a4 a5 hx hb hml hown hts hK hA w st rc na tp cn rh sr FU (0 : Int32) r x_5 r_6 hv _ _ _ hP hD hS (lv_sub hl [1, 0] rfl) (fun H locs ls hP hD hS hl => ?_)
  have hg0 := Option.some.inj hf
  subst hg0
  exact W.vret hx hb hr (fun t ht hW => ⟨⟨(), rfl, trivial, by rw [ht]; exact hP, va_K.moved hW.alike hK, hD⟩, hS.F ht⟩) hS.2.2 dX0_redirectRoots_30
set_option maxHeartbeats 4000000 in
set_option maxRecDepth 100000 in
theorem wX0_redirectFields_L8 {p : Program} {l : Launch} {e : Env} {s : State} {m : MethodId} {args : Array Value} {below : List Frame} {meth : Method} {c : Code} {Q : State → Prop} {A : Nat → Prop} (dC : Nat → ClassId) (dI : Nat → Nat → Nat) (cI cZ cL : ClassId) (h a1 a2 a3 a4 a5 : Nat) (hx : p.tables.exec = Jvm.exec) (hb : c.code = cX0_redirectFields) (hml : c.maxLocals = 5) (hown : s.vm.findClass RX0 = some m.cls) (hts : ∀ w ∈ wsX0_redirectFields, w.before args s = true) (hK : va_K (dC, dI) vwCl (tyA cI cZ cL) s) (hA : ∀ q : Nat, s.heap.size ≤ q → A q) (x1_ : Int32) (x2_ : Int32) (r : Nat → Int32) (st : Nat → Int32) (rc : Nat → Int32) (na : Nat → Int32) (tp : Int32) (cn : Int32) (rh : Int32) (sr : Int32) (n : Nat) :
    ∀ (x3_ : Int32) (w : Nat → Int32) (x3_' : Int32) (w' : Nat → Int32), fX0_redirectFields_L8 x1_ x2_ na n x3_ w = some (x3_', w') → ∀ (H : Heap) (locs : List Loc) (ls : Array Slot), va_P (dC, dI) vwCl (wX cI h a1 a2 a3 a4 a5 w r st rc na tp cn rh sr) H → va_D A (wX cI h a1 a2 a3 a4 a5 w r st rc na tp cn rh sr) → va_S A s.heap H locs → lv_has ls 5 [(0, .ref h), (1, .int x1_), (2, .int x2_), (3, .int x3_)] → (∀ (H : Heap) (locs : List Loc) (ls : Array Slot), va_P (dC, dI) vwCl (wX cI h a1 a2 a3 a4 a5 w' r st rc na tp cn rh sr) H → va_D A (wX cI h a1 a2 a3 a4 a5 w' r st rc na tp cn rh sr) → va_S A s.heap H locs → lv_has ls 5 [(0, .ref h), (1, .int x1_), (2, .int x2_), (3, .int x3_')] → W p l e (headSpec wsX0_redirectFields rmX0_redirectFields).room s m args below meth c H locs 0 0 Q (F0 m 53 ls [])) → W p l e (headSpec wsX0_redirectFields rmX0_redirectFields).room s m args below meth c H locs 0 0 Q (F0 m 8 ls []) := by
  induction n with
  | zero => intro x3_ w x3_' w' hf; cases hf
  | succ n ih =>
    intro x3_ w x3_' w' hf H locs ls hP hD hS hl k0
    have hf := (fX0_redirectFields_L8_s x1_ x2_ na n x3_ w).symm.trans hf
    refine lv_iload_n hx hb dX0_redirectFields_8 rfl (lv_at hl 3 rfl) ?_
    refine lv_iload_n hx hb dX0_redirectFields_9 rfl (lv_at hl 2 rfl) ?_
    refine lv_icmp_ge (tgt := 53) hx hb dX0_redirectFields_10 (by decide) (fun h2 => ?_) (fun h2 => ?_)
    · have hf := ift h2 hf
      cases hf
      exact k0 _ _ _ hP hD hS (lv_sub hl [0, 1, 2, 3] rfl)
    · have hf := ifn h2 hf
      refine lv_aload_n hx hb dX0_redirectFields_13 rfl (lv_at hl 0 rfl) ?_
      refine lv_iload_n hx hb dX0_redirectFields_14 rfl (lv_at hl 1 rfl) ?_
      refine lv_iload_n hx hb dX0_redirectFields_15 rfl (lv_at hl 3 rfl) ?_
      obtain ⟨v3, hv, hf⟩ := bd hf
      refine q_ci (wr := []) (va_runV (As := [.int x1_, .int x3_]) (rest := []) ⟨hx, hb, hml, hown, hts⟩ (ctX0_fieldKind l dC dI cI cZ cL h a1 a2 a3 a4 a5 _ w r st rc na tp cn rh sr x1_ x3_ v3 hv) (cwV 2 hts (gV mw_118 mw_120 mw_4 mw_38 mw_121) rfl rfl rfl (by decide +kernel) ⟨Nat.le_of_ble_eq_true rfl, Nat.le_of_ble_eq_true rfl⟩) (q_preV [.int x1_, .int x3_] hK hP hD [0, 1, 2, 3, 4, 5] (by decide) rfl (ci := 0) rfl rfl) rfl rfl hl.1 rfl (lv_room (Nat.le_of_ble_eq_true rfl)) dX0_redirectFields_16 ⟨Nat.le_of_ble_eq_true rfl, Nat.le_of_ble_eq_true rfl⟩) hP hD hS hA [0, 1, 2, 3, 4, 5] [] rfl rfl (by decide) (by decide) (fun H locs hP hD hS => ?_)
      have hP : va_P (dC, dI) vwCl (wX cI h a1 a2 a3 a4 a5 w r st rc na tp cn rh sr) _ := hP
      have hD : va_D A (wX cI h a1 a2 a3 a4 a5 w r st rc na tp cn rh sr) := hD
      refine lv_if_eq (tgt := 47) hx hb dX0_redirectFields_19 (by decide) (fun h4 => ?_) (fun h4 => ?_)
      · have hf := ift h4 hf
        refine lv_iinc (v := x3_ + (1 : Int32)) hx hb dX0_redirectFields_47 hl (k := 3) rfl (by rfl) (by decide) rfl (fun ls hl => ?_)
        have hl : lv_has ls 5 [(3, .int (x3_ + (1 : Int32))), (0, .ref h), (1, .int x1_), (2, .int x2_)] := hl
        refine lv_goto (tgt := 8) hx hb dX0_redirectFields_50 (by decide) ?_
        exact ih _ _ _ _ hf _ _ _ hP hD hS (lv_sub hl [1, 2, 3, 0] rfl) k0
      · have hf := ifn h4 hf
        refine lv_iload_n hx hb dX0_redirectFields_22 rfl (lv_at hl 1 rfl) ?_
        refine lv_iload_n hx hb dX0_redirectFields_23 rfl (lv_at hl 3 rfl) ?_
        obtain ⟨v5, hv, hf⟩ := bd hf
        refine q_ci (wr := (wX cI h a1 a2 a3 a4 a5 w r st rc na tp cn rh sr)) (va_runS (As := [.int x1_, .int x3_]) (rest := []) ⟨hx, hb, hml, hown, hts⟩ (ctX0_fieldAddress l dC dI cI cZ cL _ x1_ x3_ v5 hv) (va_cwS 2 hts (gS mw_122 mw_123 mw_38 mw_124) rfl rfl rfl (by decide +kernel) ⟨Nat.le_of_ble_eq_true rfl, Nat.le_of_ble_eq_true rfl⟩) (q_preS [.int x1_, .int x3_] hK hP hD [] (by decide) rfl) rfl rfl hl.1 rfl (lv_room (Nat.le_of_ble_eq_true rfl)) dX0_redirectFields_24 ⟨Nat.le_of_ble_eq_true rfl, Nat.le_of_ble_eq_true rfl⟩) hP hD hS hA [] [0, 1, 2, 3, 4, 5] rfl rfl (by decide) (by decide) (fun H locs hP hD hS => ?_)
        have hP : va_P (dC, dI) vwCl (wX cI h a1 a2 a3 a4 a5 w r st rc na tp cn rh sr) _ := hP
        have hD : va_D A (wX cI h a1 a2 a3 a4 a5 w r st rc na tp cn rh sr) := hD
        refine lv_istore hx hb dX0_redirectFields_27 hl (by decide) rfl (fun ls hl => ?_)
        have hl : lv_has ls 5 [(4, .int v5), (0, .ref h), (1, .int x1_), (2, .int x2_), (3, .int x3_)] := hl
        refine lv_aload_n hx hb dX0_redirectFields_29 rfl (lv_at hl 1 rfl) ?_
        refine va_get (D := (dC, dI)) (ci := 0) (v := .ref a1) (C := RX0) (T := TX0) (N := 9) hx hb hts (fun w hw => List.mem_cons_of_mem _ (inX0 w hw)) hown hK hP 0 rfl rfl 0 (by decide) (hts _ (List.mem_cons_of_mem _ mw_61)) (fun _ h9 => h9) rfl dX0_redirectFields_30 ?_
        refine lv_iload hx hb dX0_redirectFields_33 (lv_at hl 0 rfl) ?_
        refine lv_aload_n hx hb dX0_redirectFields_35 rfl (lv_at hl 1 rfl) ?_
        refine lv_aload_n hx hb dX0_redirectFields_36 rfl (lv_at hl 1 rfl) ?_
        refine va_get (D := (dC, dI)) (ci := 0) (v := .ref a1) (C := RX0) (T := TX0) (N := 9) hx hb hts (fun w hw => List.mem_cons_of_mem _ (inX0 w hw)) hown hK hP 0 rfl rfl 0 (by decide) (hts _ (List.mem_cons_of_mem _ mw_61)) (fun _ h9 => h9) rfl dX0_redirectFields_37 ?_
        refine lv_iload hx hb dX0_redirectFields_40 (lv_at hl 0 rfl) ?_
        obtain ⟨v6, hv, hf⟩ := bd hf
        refine q_ild hx hb hK hP 1 0 rfl rfl hv dX0_redirectFields_42 ?_
        obtain ⟨v7, hv, hf⟩ := bd hf
        refine q_ci (wr := []) (va_runV (As := [.int v6]) (rest := [.int v5, .ref a1]) ⟨hx, hb, hml, hown, hts⟩ (ctX0_addressAfterMove l dC dI cI cZ cL h a1 a2 a3 a4 a5 _ w r st rc na tp cn rh sr v6 v7 hv) (cwV 1 hts (gV mw_311 mw_313 mw_16 mw_38 mw_314) rfl rfl rfl (by decide +kernel) ⟨Nat.le_of_ble_eq_true rfl, Nat.le_of_ble_eq_true rfl⟩) (q_preV [.int v6] hK hP hD [0, 1, 2, 3, 4, 5] (by decide) rfl (ci := 0) rfl rfl) rfl rfl hl.1 rfl (lv_room (Nat.le_of_ble_eq_true rfl)) dX0_redirectFields_43 ⟨Nat.le_of_ble_eq_true rfl, Nat.le_of_ble_eq_true rfl⟩) hP hD hS hA [0, 1, 2, 3, 4, 5] [] rfl rfl (by decide) (by decide) (fun H locs hP hD hS => ?_)
        have hP : va_P (dC, dI) vwCl (wX cI h a1 a2 a3 a4 a5 w r st rc na tp cn rh sr) _ := hP
        have hD : va_D A (wX cI h a1 a2 a3 a4 a5 w r st rc na tp cn rh sr) := hD
        obtain ⟨w_8, hv, hf⟩ := bd hf
        refine q_ist hx hb hK hP hD hS 1 0 rfl rfl hv dX0_redirectFields_46 (fun H locs hP hD hS => ?_)
        have hP : va_P (dC, dI) vwCl (wX cI h a1 a2 a3 a4 a5 w_8 r st rc na tp cn rh sr) _ := hP
        have hD : va_D A (wX cI h a1 a2 a3 a4 a5 w_8 r st rc na tp cn rh sr) := hD
        refine lv_iinc (v := x3_ + (1 : Int32)) hx hb dX0_redirectFields_47 hl (k := 4) rfl (by rfl) (by decide) rfl (fun ls hl => ?_)
        have hl : lv_has ls 5 [(3, .int (x3_ + (1 : Int32))), (4, .int v5), (0, .ref h), (1, .int x1_), (2, .int x2_)] := hl
        refine lv_goto (tgt := 8) hx hb dX0_redirectFields_50 (by decide) ?_
        exact ih _ _ _ _ hf _ _ _ hP hD hS (lv_sub hl [2, 3, 4, 0] rfl) k0
set_option maxHeartbeats 4000000 in
set_option maxRecDepth 100000 in
theorem ctX0_redirectFields (l : Launch) (dC : Nat → ClassId) (dI : Nat → Nat → Nat) (cI cZ cL : ClassId) (h a1 a2 a3 a4 a5 : Nat) (sz : Nat) (w : Nat → Int32) (r : Nat → Int32) (st : Nat → Int32) (rc : Nat → Int32) (na : Nat → Int32) (tp : Int32) (cn : Int32) (rh : Int32) (sr : Int32) (x1 : Int32) (w' : Nat → Int32) (hf : fX0_redirectFields w na x1 = some w') : Met l yX0_redirectFields wsX0_redirectFields rmX0_redirectFields (va_Pc [.ref h, .int x1] (q_pre (dC, dI) vwCl (tyA cI cZ cL) sz (wX cI h a1 a2 a3 a4 a5 w r st rc na tp cn rh sr))) (va_Qv (fun (_ : Unit) => True) (fun _ => q_post (dC, dI) vwCl (tyA cI cZ cL) (va_A (wX cI h a1 a2 a3 a4 a5 w r st rc na tp cn rh sr) sz) (wX cI h a1 a2 a3 a4 a5 w' r st rc na tp cn rh sr)) (va_A (wX cI h a1 a2 a3 a4 a5 w r st rc na tp cn rh sr) sz)) 0 0 (va_A (wX cI h a1 a2 a3 a4 a5 w r st rc na tp cn rh sr) sz) := by
  refine Met.ofW (cc := cX0_redirectFields) (maxL := 5) (ret := (none)) (by decide) rfl ?_
  intro p e s m args below meth c s₁ B hml hv
  obtain ⟨rfl, hsz, hP, hK, hD0⟩ := hv
  have hx := B.exec
  have hb := B.bytes
  have hr := B.returns
  have hts := atoms_spec (ws := wsX0_redirectFields) B.pre
  have hown : s.vm.findClass RX0 = some m.cls := findClass_of_methodNamed B.named
  subst hsz
  have hD := hD0.self (sz := s.heap.size)
  generalize hAe : va_A (wX cI h a1 a2 a3 a4 a5 w r st rc na tp cn rh sr) s.heap.size = A at hD ⊢
  have hA : ∀ q : Nat, s.heap.size ≤ q → A q := fun q h => by rw [← hAe]; exact Or.inr h
  have hS : va_S A s.heap s.heap [] := va_S.rf
  have hl := lv_entry ([.ref h, .int x1]) (n := 5) (Nat.le_of_ble_eq_true rfl)
  rw [lg_entry_eq]
  generalize (lg_sl ([.ref h, .int x1]) ++ List.replicate (5 - (lg_sl ([.ref h, .int x1])).length) Slot.unset).toArray = ls at hl ⊢
  have hl : lv_has ls 5 [(0, .ref h), (1, .int x1)] := hl
  unfold fX0_redirectFields at hf
  refine lv_aload_n hx hb dX0_redirectFields_0 rfl (lv_at hl 0 rfl) ?_
  refine lv_iload_n hx hb dX0_redirectFields_1 rfl (lv_at hl 1 rfl) ?_
  obtain ⟨v1, hv, hf⟩ := bd hf
  refine q_ci (wr := []) (va_runV (As := [.int x1]) (rest := []) ⟨hx, hb, hml, hown, hts⟩ (ctX0_fieldCount l dC dI cI cZ cL h a1 a2 a3 a4 a5 _ w r st rc na tp cn rh sr x1 v1 hv) (cwV 1 hts (gV mw_114 mw_116 mw_3 mw_38 mw_117) rfl rfl rfl (by decide +kernel) ⟨Nat.le_of_ble_eq_true rfl, Nat.le_of_ble_eq_true rfl⟩) (q_preV [.int x1] hK hP hD [0, 1, 2, 3, 4, 5] (by decide) rfl (ci := 0) rfl rfl) rfl rfl hl.1 rfl (lv_room (Nat.le_of_ble_eq_true rfl)) dX0_redirectFields_2 ⟨Nat.le_of_ble_eq_true rfl, Nat.le_of_ble_eq_true rfl⟩) hP hD hS hA [0, 1, 2, 3, 4, 5] [] rfl rfl (by decide) (by decide) (fun H locs hP hD hS => ?_)
  have hP : va_P (dC, dI) vwCl (wX cI h a1 a2 a3 a4 a5 w r st rc na tp cn rh sr) _ := hP
  have hD : va_D A (wX cI h a1 a2 a3 a4 a5 w r st rc na tp cn rh sr) := hD
  refine lv_istore_n hx hb dX0_redirectFields_5 rfl hl (by decide) rfl (fun ls hl => ?_)
  have hl : lv_has ls 5 [(2, .int v1), (0, .ref h), (1, .int x1)] := hl
  refine lv_iconst (v := (0 : Int32)) hx hb dX0_redirectFields_6 (by decide) ?_
  refine lv_istore_n hx hb dX0_redirectFields_7 rfl hl (by decide) rfl (fun ls hl => ?_)
  have hl : lv_has ls 5 [(3, .int (0 : Int32)), (2, .int v1), (0, .ref h), (1, .int x1)] := hl
  obtain ⟨⟨x_9, w_10⟩, hv, hf⟩ := bd hf
  dsimp only at hf
  refine wX0_redirectFields_L8 dC dI cI cZ cL h a1 a2 a3 a4 a5 hx hb hml hown hts hK hA x1 v1 r st rc na tp cn rh sr FU (0 : Int32) w x_9 w_10 hv _ _ _ hP hD hS (lv_sub hl [2, 3, 1, 0] rfl) (fun H locs ls hP hD hS hl => ?_)
  have hg0 := Option.some.inj hf
  subst hg0
  exact W.vret hx hb hr (fun t ht hW => ⟨⟨(), rfl, trivial, by rw [ht]; exact hP, va_K.moved hW.alike hK, hD⟩, hS.F ht⟩) hS.2.2 dX0_redirectFields_53
set_option maxHeartbeats 4000000 in
set_option maxRecDepth 100000 in
theorem wX0_moveObjects_L2 {p : Program} {l : Launch} {e : Env} {s : State} {m : MethodId} {args : Array Value} {below : List Frame} {meth : Method} {c : Code} {Q : State → Prop} {A : Nat → Prop} (dC : Nat → ClassId) (dI : Nat → Nat → Nat) (cI cZ cL : ClassId) (h a1 a2 a3 a4 a5 : Nat) (hx : p.tables.exec = Jvm.exec) (hb : c.code = cX0_moveObjects) (hml : c.maxLocals = 3) (hown : s.vm.findClass RX0 = some m.cls) (hts : ∀ w ∈ wsX0_moveObjects, w.before args s = true) (hK : va_K (dC, dI) vwCl (tyA cI cZ cL) s) (hA : ∀ q : Nat, s.heap.size ≤ q → A q) (r : Nat → Int32) (st : Nat → Int32) (rc : Nat → Int32) (na : Nat → Int32) (tp : Int32) (cn : Int32) (rh : Int32) (sr : Int32) (n : Nat) :
    ∀ (x1_ : Int32) (w : Nat → Int32) (x1_' : Int32) (w' : Nat → Int32), fX0_moveObjects_L2 st na cn n x1_ w = some (x1_', w') → ∀ (H : Heap) (locs : List Loc) (ls : Array Slot), va_P (dC, dI) vwCl (wX cI h a1 a2 a3 a4 a5 w r st rc na tp cn rh sr) H → va_D A (wX cI h a1 a2 a3 a4 a5 w r st rc na tp cn rh sr) → va_S A s.heap H locs → lv_has ls 3 [(0, .ref h), (1, .int x1_)] → (∀ (H : Heap) (locs : List Loc) (ls : Array Slot), va_P (dC, dI) vwCl (wX cI h a1 a2 a3 a4 a5 w' r st rc na tp cn rh sr) H → va_D A (wX cI h a1 a2 a3 a4 a5 w' r st rc na tp cn rh sr) → va_S A s.heap H locs → lv_has ls 3 [(0, .ref h), (1, .int x1_')] → W p l e (headSpec wsX0_moveObjects rmX0_moveObjects).room s m args below meth c H locs 0 0 Q (F0 m 56 ls [])) → W p l e (headSpec wsX0_moveObjects rmX0_moveObjects).room s m args below meth c H locs 0 0 Q (F0 m 2 ls []) := by
  induction n with
  | zero => intro x1_ w x1_' w' hf; cases hf
  | succ n ih =>
    intro x1_ w x1_' w' hf H locs ls hP hD hS hl k0
    have hf := (fX0_moveObjects_L2_s st na cn n x1_ w).symm.trans hf
    refine lv_iload_n hx hb dX0_moveObjects_2 rfl (lv_at hl 1 rfl) ?_
    refine lv_aload_n hx hb dX0_moveObjects_3 rfl (lv_at hl 0 rfl) ?_
    refine va_get (D := (dC, dI)) (ci := 0) (v := .int cn) (C := RX0) (T := TX0) (N := 9) hx hb hts (fun w hw => List.mem_cons_of_mem _ (inX0 w hw)) hown hK hP 0 rfl rfl 6 (by decide) (hts _ (List.mem_cons_of_mem _ mw_67)) (fun _ h9 => h9) rfl dX0_moveObjects_4 ?_
    refine lv_icmp_ge (tgt := 56) hx hb dX0_moveObjects_7 (by decide) (fun h1 => ?_) (fun h1 => ?_)
    · have hf := ift h1 hf
      cases hf
      exact k0 _ _ _ hP hD hS (lv_sub hl [0, 1] rfl)
    · have hf := ifn h1 hf
      refine lv_aload_n hx hb dX0_moveObjects_10 rfl (lv_at hl 0 rfl) ?_
      refine va_get (D := (dC, dI)) (ci := 0) (v := .ref a3) (C := RX0) (T := TX0) (N := 9) hx hb hts (fun w hw => List.mem_cons_of_mem _ (inX0 w hw)) hown hK hP 0 rfl rfl 2 (by decide) (hts _ (List.mem_cons_of_mem _ mw_63)) (fun _ h9 => h9) rfl dX0_moveObjects_11 ?_
      refine lv_iload_n hx hb dX0_moveObjects_14 rfl (lv_at hl 1 rfl) ?_
      obtain ⟨v2, hv, hf⟩ := bd hf
      refine q_ild hx hb hK hP 3 0 rfl rfl hv dX0_moveObjects_15 ?_
      refine lv_istore_n hx hb dX0_moveObjects_16 rfl hl (by decide) rfl (fun ls hl => ?_)
      have hl : lv_has ls 3 [(2, .int v2), (0, .ref h), (1, .int x1_)] := hl
      refine lv_aload_n hx hb dX0_moveObjects_17 rfl (lv_at hl 1 rfl) ?_
      refine va_get (D := (dC, dI)) (ci := 0) (v := .ref a5) (C := RX0) (T := TX0) (N := 9) hx hb hts (fun w hw => List.mem_cons_of_mem _ (inX0 w hw)) hown hK hP 0 rfl rfl 4 (by decide) (hts _ (List.mem_cons_of_mem _ mw_65)) (fun _ h9 => h9) rfl dX0_moveObjects_18 ?_
      refine lv_iload_n hx hb dX0_moveObjects_21 rfl (lv_at hl 0 rfl) ?_
      obtain ⟨v3, hv, hf⟩ := bd hf
      refine q_ild hx hb hK hP 5 0 rfl rfl hv dX0_moveObjects_22 ?_
      refine lv_iconst (v := (-1 : Int32)) hx hb dX0_moveObjects_23 (by decide) ?_
      refine lv_icmp_eq (tgt := 50) hx hb dX0_moveObjects_24 (by decide) (fun h4 => ?_) (fun h4 => ?_)
      · have hf := ift h4 hf
        refine lv_iinc (v := x1_ + (1 : Int32)) hx hb dX0_moveObjects_50 hl (k := 2) rfl (by rfl) (by decide) rfl (fun ls hl => ?_)
        have hl : lv_has ls 3 [(1, .int (x1_ + (1 : Int32))), (2, .int v2), (0, .ref h)] := hl
        refine lv_goto (tgt := 2) hx hb dX0_moveObjects_53 (by decide) ?_
        exact ih _ _ _ _ hf _ _ _ hP hD hS (lv_sub hl [2, 0] rfl) k0
      · have hf := ifn h4 hf
        refine lv_aload_n hx hb dX0_moveObjects_27 rfl (lv_at hl 1 rfl) ?_
        refine va_get (D := (dC, dI)) (ci := 0) (v := .ref a1) (C := RX0) (T := TX0) (N := 9) hx hb hts (fun w hw => List.mem_cons_of_mem _ (inX0 w hw)) hown hK hP 0 rfl rfl 0 (by decide) (hts _ (List.mem_cons_of_mem _ mw_61)) (fun _ h9 => h9) rfl dX0_moveObjects_28 ?_
        refine lv_iload_n hx hb dX0_moveObjects_31 rfl (lv_at hl 0 rfl) ?_
        refine lv_aload_n hx hb dX0_moveObjects_32 rfl (lv_at hl 1 rfl) ?_
        refine va_get (D := (dC, dI)) (ci := 0) (v := .ref a1) (C := RX0) (T := TX0) (N := 9) hx hb hts (fun w hw => List.mem_cons_of_mem _ (inX0 w hw)) hown hK hP 0 rfl rfl 0 (by decide) (hts _ (List.mem_cons_of_mem _ mw_61)) (fun _ h9 => h9) rfl dX0_moveObjects_33 ?_
        refine lv_aload_n hx hb dX0_moveObjects_36 rfl (lv_at hl 1 rfl) ?_
        refine va_get (D := (dC, dI)) (ci := 0) (v := .ref a5) (C := RX0) (T := TX0) (N := 9) hx hb hts (fun w hw => List.mem_cons_of_mem _ (inX0 w hw)) hown hK hP 0 rfl rfl 4 (by decide) (hts _ (List.mem_cons_of_mem _ mw_65)) (fun _ h9 => h9) rfl dX0_moveObjects_37 ?_
        refine lv_iload_n hx hb dX0_moveObjects_40 rfl (lv_at hl 0 rfl) ?_
        obtain ⟨v5, hv, hf⟩ := bd hf
        refine q_ild hx hb hK hP 5 0 rfl rfl hv dX0_moveObjects_41 ?_
        refine lv_aload_n hx hb dX0_moveObjects_42 rfl (lv_at hl 1 rfl) ?_
        refine lv_iload_n hx hb dX0_moveObjects_43 rfl (lv_at hl 0 rfl) ?_
        obtain ⟨v6, hv, hf⟩ := bd hf
        refine q_ci (wr := []) (va_runV (As := [.int v2]) (rest := [.int v5, .ref a1, .int v2, .ref a1]) ⟨hx, hb, hml, hown, hts⟩ (ctX0_sizeOf l dC dI cI cZ cL h a1 a2 a3 a4 a5 _ w r st rc na tp cn rh sr v2 v6 hv) (cwV 1 hts (gV mw_303 mw_305 mw_14 mw_38 mw_306) rfl rfl rfl (by decide +kernel) ⟨Nat.le_of_ble_eq_true rfl, Nat.le_of_ble_eq_true rfl⟩) (q_preV [.int v2] hK hP hD [0, 1, 2, 3, 4, 5] (by decide) rfl (ci := 0) rfl rfl) rfl rfl hl.1 rfl (lv_room (Nat.le_of_ble_eq_true rfl)) dX0_moveObjects_44 ⟨Nat.le_of_ble_eq_true rfl, Nat.le_of_ble_eq_true rfl⟩) hP hD hS hA [0, 1, 2, 3, 4, 5] [] rfl rfl (by decide) (by decide) (fun H locs hP hD hS => ?_)
        have hP : va_P (dC, dI) vwCl (wX cI h a1 a2 a3 a4 a5 w r st rc na tp cn rh sr) _ := hP
        have hD : va_D A (wX cI h a1 a2 a3 a4 a5 w r st rc na tp cn rh sr) := hD
        obtain ⟨w_7, hv, hf⟩ := bd hf
        refine q_cp hx hb (hml.trans hl.1.symm) hown (hts _ (List.mem_cons_of_mem _ mw_323)) (hts _ (List.mem_cons_of_mem _ mw_325)) (hts _ (List.mem_cons_of_mem _ mw_324)) (hts _ (List.mem_cons_of_mem _ mw_48)) hK hP hD hS 1 0 rfl rfl hv (Nat.le_of_ble_eq_true rfl) (Nat.le_of_ble_eq_true rfl) dX0_moveObjects_47 (fun H locs hP hD hS => ?_)
        have hP : va_P (dC, dI) vwCl (wX cI h a1 a2 a3 a4 a5 w_7 r st rc na tp cn rh sr) _ := hP
        have hD : va_D A (wX cI h a1 a2 a3 a4 a5 w_7 r st rc na tp cn rh sr) := hD
        refine lv_iinc (v := x1_ + (1 : Int32)) hx hb dX0_moveObjects_50 hl (k := 2) rfl (by rfl) (by decide) rfl (fun ls hl => ?_)
        have hl : lv_has ls 3 [(1, .int (x1_ + (1 : Int32))), (2, .int v2), (0, .ref h)] := hl
        refine lv_goto (tgt := 2) hx hb dX0_moveObjects_53 (by decide) ?_
        exact ih _ _ _ _ hf _ _ _ hP hD hS (lv_sub hl [2, 0] rfl) k0
set_option maxHeartbeats 4000000 in
set_option maxRecDepth 100000 in
theorem ctX0_moveObjects (l : Launch) (dC : Nat → ClassId) (dI : Nat → Nat → Nat) (cI cZ cL : ClassId) (h a1 a2 a3 a4 a5 : Nat) (sz : Nat) (w : Nat → Int32) (r : Nat → Int32) (st : Nat → Int32) (rc : Nat → Int32) (na : Nat → Int32) (tp : Int32) (cn : Int32) (rh : Int32) (sr : Int32) (w' : Nat → Int32) (hf : fX0_moveObjects w st na cn = some w') : Met l yX0_moveObjects wsX0_moveObjects rmX0_moveObjects (va_Pc [.ref h] (q_pre (dC, dI) vwCl (tyA cI cZ cL) sz (wX cI h a1 a2 a3 a4 a5 w r st rc na tp cn rh sr))) (va_Qv (fun (_ : Unit) => True) (fun _ => q_post (dC, dI) vwCl (tyA cI cZ cL) (va_A (wX cI h a1 a2 a3 a4 a5 w r st rc na tp cn rh sr) sz) (wX cI h a1 a2 a3 a4 a5 w' r st rc na tp cn rh sr)) (va_A (wX cI h a1 a2 a3 a4 a5 w r st rc na tp cn rh sr) sz)) 0 0 (va_A (wX cI h a1 a2 a3 a4 a5 w r st rc na tp cn rh sr) sz) := by
  refine Met.ofW (cc := cX0_moveObjects) (maxL := 3) (ret := (none)) (by decide) rfl ?_
  intro p e s m args below meth c s₁ B hml hv
  obtain ⟨rfl, hsz, hP, hK, hD0⟩ := hv
  have hx := B.exec
  have hb := B.bytes
  have hr := B.returns
  have hts := atoms_spec (ws := wsX0_moveObjects) B.pre
  have hown : s.vm.findClass RX0 = some m.cls := findClass_of_methodNamed B.named
  subst hsz
  have hD := hD0.self (sz := s.heap.size)
  generalize hAe : va_A (wX cI h a1 a2 a3 a4 a5 w r st rc na tp cn rh sr) s.heap.size = A at hD ⊢
  have hA : ∀ q : Nat, s.heap.size ≤ q → A q := fun q h => by rw [← hAe]; exact Or.inr h
  have hS : va_S A s.heap s.heap [] := va_S.rf
  have hl := lv_entry ([.ref h]) (n := 3) (Nat.le_of_ble_eq_true rfl)
  rw [lg_entry_eq]
  generalize (lg_sl ([.ref h]) ++ List.replicate (3 - (lg_sl ([.ref h])).length) Slot.unset).toArray = ls at hl ⊢
  have hl : lv_has ls 3 [(0, .ref h)] := hl
  unfold fX0_moveObjects at hf
  refine lv_iconst (v := (0 : Int32)) hx hb dX0_moveObjects_0 (by decide) ?_
  refine lv_istore_n hx hb dX0_moveObjects_1 rfl hl (by decide) rfl (fun ls hl => ?_)
  have hl : lv_has ls 3 [(1, .int (0 : Int32)), (0, .ref h)] := hl
  obtain ⟨⟨x_8, w_9⟩, hv, hf⟩ := bd hf
  dsimp only at hf
  refine wX0_moveObjects_L2 dC dI cI cZ cL h a1 a2 a3 a4 a5 hx hb hml hown hts hK hA r st rc na tp cn rh sr FU (0 : Int32) w x_8 w_9 hv _ _ _ hP hD hS (lv_sub hl [1, 0] rfl) (fun H locs ls hP hD hS hl => ?_)
  have hg0 := Option.some.inj hf
  subst hg0
  exact W.vret hx hb hr (fun t ht hW => ⟨⟨(), rfl, trivial, by rw [ht]; exact hP, va_K.moved hW.alike hK, hD⟩, hS.F ht⟩) hS.2.2 dX0_moveObjects_56
set_option maxHeartbeats 4000000 in
set_option maxRecDepth 100000 in
theorem wX0_listObjects_L4 {p : Program} {l : Launch} {e : Env} {s : State} {m : MethodId} {args : Array Value} {below : List Frame} {meth : Method} {c : Code} {Q : State → Prop} {A : Nat → Prop} (dC : Nat → ClassId) (dI : Nat → Nat → Nat) (cI cZ cL : ClassId) (h a1 a2 a3 a4 a5 : Nat) (hx : p.tables.exec = Jvm.exec) (hb : c.code = cX0_listObjects) (hml : c.maxLocals = 3) (hown : s.vm.findClass RX0 = some m.cls) (hts : ∀ w ∈ wsX0_listObjects, w.before args s = true) (hK : va_K (dC, dI) vwCl (tyA cI cZ cL) s) (hA : ∀ q : Nat, s.heap.size ≤ q → A q) (w : Nat → Int32) (r : Nat → Int32) (rc : Nat → Int32) (na : Nat → Int32) (tp : Int32) (cn : Int32) (rh : Int32) (sr : Int32) (n : Nat) :
    ∀ (x1_ : Int32) (x2_ : Int32) (st : Nat → Int32) (x1_' : Int32) (x2_' : Int32) (st' : Nat → Int32), fX0_listObjects_L4 w rh n x1_ x2_ st = some (x1_', x2_', st') → ∀ (H : Heap) (locs : List Loc) (ls : Array Slot), va_P (dC, dI) vwCl (wX cI h a1 a2 a3 a4 a5 w r st rc na tp cn rh sr) H → va_D A (wX cI h a1 a2 a3 a4 a5 w r st rc na tp cn rh sr) → va_S A s.heap H locs → lv_has ls 3 [(0, .ref h), (1, .int x1_), (2, .int x2_)] → (∀ (H : Heap) (locs : List Loc) (ls : Array Slot), va_P (dC, dI) vwCl (wX cI h a1 a2 a3 a4 a5 w r st' rc na tp cn rh sr) H → va_D A (wX cI h a1 a2 a3 a4 a5 w r st' rc na tp cn rh sr) → va_S A s.heap H locs → lv_has ls 3 [(0, .ref h), (1, .int x1_'), (2, .int x2_')] → W p l e (headSpec wsX0_listObjects rmX0_listObjects).room s m args below meth c H locs 0 0 Q (F0 m 33 ls [])) → W p l e (headSpec wsX0_listObjects rmX0_listObjects).room s m args below meth c H locs 0 0 Q (F0 m 4 ls []) := by
  induction n with
  | zero => intro x1_ x2_ st x1_' x2_' st' hf; cases hf
  | succ n ih =>
    intro x1_ x2_ st x1_' x2_' st' hf H locs ls hP hD hS hl k0
    have hf := (fX0_listObjects_L4_s w rh n x1_ x2_ st).symm.trans hf
    refine lv_iload_n hx hb dX0_listObjects_4 rfl (lv_at hl 2 rfl) ?_
    refine lv_aload_n hx hb dX0_listObjects_5 rfl (lv_at hl 0 rfl) ?_
    refine va_get (D := (dC, dI)) (ci := 0) (v := .int rh) (C := RX0) (T := TX0) (N := 9) hx hb hts (fun w hw => List.mem_cons_of_mem _ (inX0 w hw)) hown hK hP 0 rfl rfl 7 (by decide) (hts _ (List.mem_cons_of_mem _ mw_68)) (fun _ h9 => h9) rfl dX0_listObjects_6 ?_
    refine lv_icmp_ge (tgt := 33) hx hb dX0_listObjects_9 (by decide) (fun h1 => ?_) (fun h1 => ?_)
    · have hf := ift h1 hf
      cases hf
      exact k0 _ _ _ hP hD hS (lv_sub hl [0, 1, 2] rfl)
    · have hf := ifn h1 hf
      refine lv_aload_n hx hb dX0_listObjects_12 rfl (lv_at hl 0 rfl) ?_
      refine va_get (D := (dC, dI)) (ci := 0) (v := .ref a3) (C := RX0) (T := TX0) (N := 9) hx hb hts (fun w hw => List.mem_cons_of_mem _ (inX0 w hw)) hown hK hP 0 rfl rfl 2 (by decide) (hts _ (List.mem_cons_of_mem _ mw_63)) (fun _ h9 => h9) rfl dX0_listObjects_13 ?_
      refine lv_iload_n hx hb dX0_listObjects_16 rfl (lv_at hl 2 rfl) ?_
      refine lv_iload_n hx hb dX0_listObjects_17 rfl (lv_at hl 1 rfl) ?_
      obtain ⟨st_2, hv, hf⟩ := bd hf
      refine q_ist hx hb hK hP hD hS 3 0 rfl rfl hv dX0_listObjects_18 (fun H locs hP hD hS => ?_)
      have hP : va_P (dC, dI) vwCl (wX cI h a1 a2 a3 a4 a5 w r st_2 rc na tp cn rh sr) _ := hP
      have hD : va_D A (wX cI h a1 a2 a3 a4 a5 w r st_2 rc na tp cn rh sr) := hD
      refine lv_iload_n hx hb dX0_listObjects_19 rfl (lv_at hl 1 rfl) ?_
      refine lv_aload_n hx hb dX0_listObjects_20 rfl (lv_at hl 0 rfl) ?_
      refine lv_iload_n hx hb dX0_listObjects_21 rfl (lv_at hl 1 rfl) ?_
      obtain ⟨v3, hv, hf⟩ := bd hf
      refine q_ci (wr := []) (va_runV (As := [.int x1_]) (rest := [.int x1_]) ⟨hx, hb, hml, hown, hts⟩ (ctX0_sizeOf l dC dI cI cZ cL h a1 a2 a3 a4 a5 _ w r st_2 rc na tp cn rh sr x1_ v3 hv) (cwV 1 hts (gV mw_303 mw_305 mw_14 mw_38 mw_306) rfl rfl rfl (by decide +kernel) ⟨Nat.le_of_ble_eq_true rfl, Nat.le_of_ble_eq_true rfl⟩) (q_preV [.int x1_] hK hP hD [0, 1, 2, 3, 4, 5] (by decide) rfl (ci := 0) rfl rfl) rfl rfl hl.1 rfl (lv_room (Nat.le_of_ble_eq_true rfl)) dX0_listObjects_22 ⟨Nat.le_of_ble_eq_true rfl, Nat.le_of_ble_eq_true rfl⟩) hP hD hS hA [0, 1, 2, 3, 4, 5] [] rfl rfl (by decide) (by decide) (fun H locs hP hD hS => ?_)
      have hP : va_P (dC, dI) vwCl (wX cI h a1 a2 a3 a4 a5 w r st_2 rc na tp cn rh sr) _ := hP
      have hD : va_D A (wX cI h a1 a2 a3 a4 a5 w r st_2 rc na tp cn rh sr) := hD
      refine lv_iadd hx hb dX0_listObjects_25 ?_
      refine lv_istore_n hx hb dX0_listObjects_26 rfl hl (by decide) rfl (fun ls hl => ?_)
      have hl : lv_has ls 3 [(1, .int (x1_ + v3)), (0, .ref h), (2, .int x2_)] := hl
      refine lv_iinc (v := x2_ + (1 : Int32)) hx hb dX0_listObjects_27 hl (k := 2) rfl (by rfl) (by decide) rfl (fun ls hl => ?_)
      have hl : lv_has ls 3 [(2, .int (x2_ + (1 : Int32))), (1, .int (x1_ + v3)), (0, .ref h)] := hl
      refine lv_goto (tgt := 4) hx hb dX0_listObjects_30 (by decide) ?_
      exact ih _ _ _ _ _ _ hf _ _ _ hP hD hS (lv_sub hl [2, 1, 0] rfl) k0
set_option maxHeartbeats 4000000 in
set_option maxRecDepth 100000 in
theorem ctX0_listObjects (l : Launch) (dC : Nat → ClassId) (dI : Nat → Nat → Nat) (cI cZ cL : ClassId) (h a1 a2 a3 a4 a5 : Nat) (sz : Nat) (w : Nat → Int32) (r : Nat → Int32) (st : Nat → Int32) (rc : Nat → Int32) (na : Nat → Int32) (tp : Int32) (cn : Int32) (rh : Int32) (sr : Int32) (w' : Nat → Int32) (st' : Nat → Int32) (tp' : Int32) (cn' : Int32) (hf : fX0_listObjects w st tp cn rh = some (w', st', tp', cn')) : Met l yX0_listObjects wsX0_listObjects rmX0_listObjects (va_Pc [.ref h] (q_pre (dC, dI) vwCl (tyA cI cZ cL) sz (wX cI h a1 a2 a3 a4 a5 w r st rc na tp cn rh sr))) (va_Qv (fun (_ : Unit) => True) (fun _ => q_post (dC, dI) vwCl (tyA cI cZ cL) (va_A (wX cI h a1 a2 a3 a4 a5 w r st rc na tp cn rh sr) sz) (wX cI h a1 a2 a3 a4 a5 w' r st' rc na tp' cn' rh sr)) (va_A (wX cI h a1 a2 a3 a4 a5 w r st rc na tp cn rh sr) sz)) 0 0 (va_A (wX cI h a1 a2 a3 a4 a5 w r st rc na tp cn rh sr) sz) := by
  refine Met.ofW (cc := cX0_listObjects) (maxL := 3) (ret := (none)) (by decide) rfl ?_
  intro p e s m args below meth c s₁ B hml hv
  obtain ⟨rfl, hsz, hP, hK, hD0⟩ := hv
  have hx := B.exec
  have hb := B.bytes
  have hr := B.returns
  have hts := atoms_spec (ws := wsX0_listObjects) B.pre
  have hown : s.vm.findClass RX0 = some m.cls := findClass_of_methodNamed B.named
  subst hsz
  have hD := hD0.self (sz := s.heap.size)
  generalize hAe : va_A (wX cI h a1 a2 a3 a4 a5 w r st rc na tp cn rh sr) s.heap.size = A at hD ⊢
  have hA : ∀ q : Nat, s.heap.size ≤ q → A q := fun q h => by rw [← hAe]; exact Or.inr h
  have hS : va_S A s.heap s.heap [] := va_S.rf
  have hl := lv_entry ([.ref h]) (n := 3) (Nat.le_of_ble_eq_true rfl)
  rw [lg_entry_eq]
  generalize (lg_sl ([.ref h]) ++ List.replicate (3 - (lg_sl ([.ref h])).length) Slot.unset).toArray = ls at hl ⊢
  have hl : lv_has ls 3 [(0, .ref h)] := hl
  unfold fX0_listObjects at hf
  refine lv_iconst (v := (0 : Int32)) hx hb dX0_listObjects_0 (by decide) ?_
  refine lv_istore_n hx hb dX0_listObjects_1 rfl hl (by decide) rfl (fun ls hl => ?_)
  have hl : lv_has ls 3 [(1, .int (0 : Int32)), (0, .ref h)] := hl
  refine lv_iconst (v := (0 : Int32)) hx hb dX0_listObjects_2 (by decide) ?_
  refine lv_istore_n hx hb dX0_listObjects_3 rfl hl (by decide) rfl (fun ls hl => ?_)
  have hl : lv_has ls 3 [(2, .int (0 : Int32)), (1, .int (0 : Int32)), (0, .ref h)] := hl
  obtain ⟨⟨x_4, x_5, st_6⟩, hv, hf⟩ := bd hf
  dsimp only at hf
  refine wX0_listObjects_L4 dC dI cI cZ cL h a1 a2 a3 a4 a5 hx hb hml hown hts hK hA w r rc na tp cn rh sr FU (0 : Int32) (0 : Int32) st x_4 x_5 st_6 hv _ _ _ hP hD hS (lv_sub hl [2, 1, 0] rfl) (fun H locs ls hP hD hS hl => ?_)
  refine lv_aload_n hx hb dX0_listObjects_33 rfl (lv_at hl 0 rfl) ?_
  refine lv_aload_n hx hb dX0_listObjects_34 rfl (lv_at hl 0 rfl) ?_
  refine va_get (D := (dC, dI)) (ci := 0) (v := .int rh) (C := RX0) (T := TX0) (N := 9) hx hb hts (fun w hw => List.mem_cons_of_mem _ (inX0 w hw)) hown hK hP 0 rfl rfl 7 (by decide) (hts _ (List.mem_cons_of_mem _ mw_68)) (fun _ h9 => h9) rfl dX0_listObjects_35 ?_
  refine va_put (D := (dC, dI)) (ci := 0) (v := .int rh) (ty := .int) (C := RX0) (T := TX0) (N := 9) hx hb hts (fun w hw => List.mem_cons_of_mem _ (inX0 w hw)) tyX0 tyX0_ok nmX0 hown hK hP hD hS 0 rfl rfl 6 (by decide) (hts _ (List.mem_cons_of_mem _ mw_67)) (fun _ h9 => h9) rfl (by decide +kernel) rfl rfl (Nat.le_of_ble_eq_true rfl) dX0_listObjects_38 (fun H locs hP hD hS => ?_)
  have hP : va_P (dC, dI) vwCl (wX cI h a1 a2 a3 a4 a5 w r st_6 rc na tp rh rh sr) _ := hP
  have hD : va_D A (wX cI h a1 a2 a3 a4 a5 w r st_6 rc na tp rh rh sr) := hD
  refine lv_aload_n hx hb dX0_listObjects_41 rfl (lv_at hl 0 rfl) ?_
  refine va_get (D := (dC, dI)) (ci := 0) (v := .ref a1) (C := RX0) (T := TX0) (N := 9) hx hb hts (fun w hw => List.mem_cons_of_mem _ (inX0 w hw)) hown hK hP 0 rfl rfl 0 (by decide) (hts _ (List.mem_cons_of_mem _ mw_61)) (fun _ h9 => h9) rfl dX0_listObjects_42 ?_
  refine lv_iload_n hx hb dX0_listObjects_45 rfl (lv_at hl 1 rfl) ?_
  refine lv_aload_n hx hb dX0_listObjects_46 rfl (lv_at hl 0 rfl) ?_
  refine va_get (D := (dC, dI)) (ci := 0) (v := .int tp) (C := RX0) (T := TX0) (N := 9) hx hb hts (fun w hw => List.mem_cons_of_mem _ (inX0 w hw)) hown hK hP 0 rfl rfl 5 (by decide) (hts _ (List.mem_cons_of_mem _ mw_66)) (fun _ h9 => h9) rfl dX0_listObjects_47 ?_
  refine lv_iconst (v := (0 : Int32)) hx hb dX0_listObjects_50 (by decide) ?_
  obtain ⟨w_7, hv, hf⟩ := bd hf
  refine q_cv (wr := [(h, .inr (0, [.ref a1, .ref a2, .ref a3, .ref a4, .ref a5, .int tp, .int rh, .int rh, .int sr])), (a2, .inl (cI, 8, .inl r)), (a3, .inl (cI, 128, .inl st_6)), (a4, .inl (cI, 128, .inl rc)), (a5, .inl (cI, 256, .inl na))]) (va_runS (As := [.ref a1, .int x_4, .int tp, .int (0 : Int32)]) (rest := []) ⟨hx, hb, hml, hown, hts⟩ (ctXB_fill l dC dI cI cZ cL a1 256 _ w x_4 tp (0 : Int32) w_7 hv) (va_cwS 4 hts (gS mw_330 mw_331 mw_39 mw_332) rfl rfl rfl (by decide +kernel) ⟨Nat.le_of_ble_eq_true rfl, Nat.le_of_ble_eq_true rfl⟩) (q_preS [.ref a1, .int x_4, .int tp, .int (0 : Int32)] hK hP hD [1] (by decide) rfl) rfl rfl hl.1 rfl (lv_room (Nat.le_of_ble_eq_true rfl)) dX0_listObjects_51 ⟨Nat.le_of_ble_eq_true rfl, Nat.le_of_ble_eq_true rfl⟩) hP hD hS hA [1] [0, 2, 3, 4, 5] rfl rfl (by decide) (by decide) (fun H locs hP hD hS => ?_)
  have hP := hP.sub (ws' := (wX cI h a1 a2 a3 a4 a5 w_7 r st_6 rc na tp rh rh sr)) [0, 5, 1, 2, 3, 4] rfl
  have hD := hD.sub (ws' := (wX cI h a1 a2 a3 a4 a5 w_7 r st_6 rc na tp rh rh sr)) [0, 5, 1, 2, 3, 4] (by decide) rfl
  have hP : va_P (dC, dI) vwCl (wX cI h a1 a2 a3 a4 a5 w_7 r st_6 rc na tp rh rh sr) _ := hP
  have hD : va_D A (wX cI h a1 a2 a3 a4 a5 w_7 r st_6 rc na tp rh rh sr) := hD
  refine lv_aload_n hx hb dX0_listObjects_54 rfl (lv_at hl 0 rfl) ?_
  refine lv_iload_n hx hb dX0_listObjects_55 rfl (lv_at hl 1 rfl) ?_
  refine va_put (D := (dC, dI)) (ci := 0) (v := .int x_4) (ty := .int) (C := RX0) (T := TX0) (N := 9) hx hb hts (fun w hw => List.mem_cons_of_mem _ (inX0 w hw)) tyX0 tyX0_ok nmX0 hown hK hP hD hS 0 rfl rfl 5 (by decide) (hts _ (List.mem_cons_of_mem _ mw_66)) (fun _ h9 => h9) rfl (by decide +kernel) rfl rfl (Nat.le_of_ble_eq_true rfl) dX0_listObjects_56 (fun H locs hP hD hS => ?_)
  have hP : va_P (dC, dI) vwCl (wX cI h a1 a2 a3 a4 a5 w_7 r st_6 rc na x_4 rh rh sr) _ := hP
  have hD : va_D A (wX cI h a1 a2 a3 a4 a5 w_7 r st_6 rc na x_4 rh rh sr) := hD
  have hg0 := Option.some.inj hf
  obtain ⟨hq1, hg1⟩ := Prod.mk.inj hg0
  subst hq1
  obtain ⟨hq2, hg2⟩ := Prod.mk.inj hg1
  subst hq2
  obtain ⟨hq3, hg3⟩ := Prod.mk.inj hg2
  subst hq3
  subst hg3
  exact W.vret hx hb hr (fun t ht hW => ⟨⟨(), rfl, trivial, by rw [ht]; exact hP, va_K.moved hW.alike hK, hD⟩, hS.F ht⟩) hS.2.2 dX0_listObjects_59
end
section
set_option maxHeartbeats 4000000 in
set_option maxRecDepth 100000 in
theorem wX0_moveTogether_L26 {p : Program} {l : Launch} {e : Env} {s : State} {m : MethodId} {args : Array Value} {below : List Frame} {meth : Method} {c : Code} {Q : State → Prop} {A : Nat → Prop} (dC : Nat → ClassId) (dI : Nat → Nat → Nat) (cI cZ cL : ClassId) (h a1 a2 a3 a4 a5 : Nat) (hx : p.tables.exec = Jvm.exec) (hb : c.code = cX0_moveTogether) (hml : c.maxLocals = 3) (hown : s.vm.findClass RX0 = some m.cls) (hts : ∀ w ∈ wsX0_moveTogether, w.before args s = true) (hK : va_K (dC, dI) vwCl (tyA cI cZ cL) s) (hA : ∀ q : Nat, s.heap.size ≤ q → A q) (x1_ : Int32) (r : Nat → Int32) (st : Nat → Int32) (rc : Nat → Int32) (na : Nat → Int32) (tp : Int32) (cn : Int32) (rh : Int32) (sr : Int32) (n : Nat) :
    ∀ (x2_ : Int32) (w : Nat → Int32) (x2_' : Int32) (w' : Nat → Int32), fX0_moveTogether_L26 rc na rh n x2_ w = some (x2_', w') → ∀ (H : Heap) (locs : List Loc) (ls : Array Slot), va_P (dC, dI) vwCl (wX cI h a1 a2 a3 a4 a5 w r st rc na tp cn rh sr) H → va_D A (wX cI h a1 a2 a3 a4 a5 w r st rc na tp cn rh sr) → va_S A s.heap H locs → lv_has ls 3 [(0, .ref h), (1, .int x1_), (2, .int x2_)] → (∀ (H : Heap) (locs : List Loc) (ls : Array Slot), va_P (dC, dI) vwCl (wX cI h a1 a2 a3 a4 a5 w' r st rc na tp cn rh sr) H → va_D A (wX cI h a1 a2 a3 a4 a5 w' r st rc na tp cn rh sr) → va_S A s.heap H locs → lv_has ls 3 [(0, .ref h), (1, .int x1_), (2, .int x2_')] → W p l e (headSpec wsX0_moveTogether rmX0_moveTogether).room s m args below meth c H locs 0 0 Q (F0 m 50 ls [])) → W p l e (headSpec wsX0_moveTogether rmX0_moveTogether).room s m args below meth c H locs 0 0 Q (F0 m 26 ls []) := by
  induction n with
  | zero => intro x2_ w x2_' w' hf; cases hf
  | succ n ih =>
    intro x2_ w x2_' w' hf H locs ls hP hD hS hl k0
    have hf := (fX0_moveTogether_L26_s rc na rh n x2_ w).symm.trans hf
    refine lv_iload_n hx hb dX0_moveTogether_26 rfl (lv_at hl 2 rfl) ?_
    refine lv_aload_n hx hb dX0_moveTogether_27 rfl (lv_at hl 0 rfl) ?_
    refine va_get (D := (dC, dI)) (ci := 0) (v := .int rh) (C := RX0) (T := TX0) (N := 9) hx hb hts (fun w hw => List.mem_cons_of_mem _ (inX0 w hw)) hown hK hP 0 rfl rfl 7 (by decide) (hts _ (List.mem_cons_of_mem _ mw_68)) (fun _ h9 => h9) rfl dX0_moveTogether_28 ?_
    refine lv_icmp_ge (tgt := 50) hx hb dX0_moveTogether_31 (by decide) (fun h7 => ?_) (fun h7 => ?_)
    · have hf := ift h7 hf
      cases hf
      exact k0 _ _ _ hP hD hS (lv_sub hl [0, 1, 2] rfl)
    · have hf := ifn h7 hf
      refine lv_aload_n hx hb dX0_moveTogether_34 rfl (lv_at hl 0 rfl) ?_
      refine lv_aload_n hx hb dX0_moveTogether_35 rfl (lv_at hl 0 rfl) ?_
      refine va_get (D := (dC, dI)) (ci := 0) (v := .ref a4) (C := RX0) (T := TX0) (N := 9) hx hb hts (fun w hw => List.mem_cons_of_mem _ (inX0 w hw)) hown hK hP 0 rfl rfl 3 (by decide) (hts _ (List.mem_cons_of_mem _ mw_64)) (fun _ h9 => h9) rfl dX0_moveTogether_36 ?_
      refine lv_iload_n hx hb dX0_moveTogether_39 rfl (lv_at hl 2 rfl) ?_
      obtain ⟨v8, hv, hf⟩ := bd hf
      refine q_ild hx hb hK hP 4 0 rfl rfl hv dX0_moveTogether_40 ?_
      obtain ⟨w_9, hv, hf⟩ := bd hf
      refine q_cv (wr := []) (va_runV (As := [.int v8]) (rest := []) ⟨hx, hb, hml, hown, hts⟩ (ctX0_redirectFields l dC dI cI cZ cL h a1 a2 a3 a4 a5 _ w r st rc na tp cn rh sr v8 w_9 hv) (cwV 1 hts (gV mw_315 mw_317 mw_17 mw_38 mw_318) rfl rfl rfl (by decide +kernel) ⟨Nat.le_of_ble_eq_true rfl, Nat.le_of_ble_eq_true rfl⟩) (q_preV [.int v8] hK hP hD [0, 1, 2, 3, 4, 5] (by decide) rfl (ci := 0) rfl rfl) rfl rfl hl.1 rfl (lv_room (Nat.le_of_ble_eq_true rfl)) dX0_moveTogether_41 ⟨Nat.le_of_ble_eq_true rfl, Nat.le_of_ble_eq_true rfl⟩) hP hD hS hA [0, 1, 2, 3, 4, 5] [] rfl rfl (by decide) (by decide) (fun H locs hP hD hS => ?_)
      have hP : va_P (dC, dI) vwCl (wX cI h a1 a2 a3 a4 a5 w_9 r st rc na tp cn rh sr) _ := hP
      have hD : va_D A (wX cI h a1 a2 a3 a4 a5 w_9 r st rc na tp cn rh sr) := hD
      refine lv_iinc (v := x2_ + (1 : Int32)) hx hb dX0_moveTogether_44 hl (k := 2) rfl (by rfl) (by decide) rfl (fun ls hl => ?_)
      have hl : lv_has ls 3 [(2, .int (x2_ + (1 : Int32))), (0, .ref h), (1, .int x1_)] := hl
      refine lv_goto (tgt := 26) hx hb dX0_moveTogether_47 (by decide) ?_
      exact ih _ _ _ _ hf _ _ _ hP hD hS (lv_sub hl [1, 2, 0] rfl) k0
set_option maxHeartbeats 4000000 in
set_option maxRecDepth 100000 in
theorem ctX0_moveTogether (l : Launch) (dC : Nat → ClassId) (dI : Nat → Nat → Nat) (cI cZ cL : ClassId) (h a1 a2 a3 a4 a5 : Nat) (sz : Nat) (w : Nat → Int32) (r : Nat → Int32) (st : Nat → Int32) (rc : Nat → Int32) (na : Nat → Int32) (tp : Int32) (cn : Int32) (rh : Int32) (sr : Int32) (x1 : Int32) (w' : Nat → Int32) (r' : Nat → Int32) (st' : Nat → Int32) (rc' : Nat → Int32) (na' : Nat → Int32) (tp' : Int32) (cn' : Int32) (rh' : Int32) (hf : fX0_moveTogether w r st rc na tp cn rh x1 = some (w', r', st', rc', na', tp', cn', rh')) : Met l yX0_moveTogether wsX0_moveTogether rmX0_moveTogether (va_Pc [.ref h, .int x1] (q_pre (dC, dI) vwCl (tyA cI cZ cL) sz (wX cI h a1 a2 a3 a4 a5 w r st rc na tp cn rh sr))) (va_Qv (fun (_ : Unit) => True) (fun _ => q_post (dC, dI) vwCl (tyA cI cZ cL) (va_A (wX cI h a1 a2 a3 a4 a5 w r st rc na tp cn rh sr) sz) (wX cI h a1 a2 a3 a4 a5 w' r' st' rc' na' tp' cn' rh' sr)) (va_A (wX cI h a1 a2 a3 a4 a5 w r st rc na tp cn rh sr) sz)) 0 0 (va_A (wX cI h a1 a2 a3 a4 a5 w r st rc na tp cn rh sr) sz) := by
  refine Met.ofW (cc := cX0_moveTogether) (maxL := 3) (ret := (none)) (by decide) rfl ?_
  intro p e s m args below meth c s₁ B hml hv
  obtain ⟨rfl, hsz, hP, hK, hD0⟩ := hv
  have hx := B.exec
  have hb := B.bytes
  have hr := B.returns
  have hts := atoms_spec (ws := wsX0_moveTogether) B.pre
  have hown : s.vm.findClass RX0 = some m.cls := findClass_of_methodNamed B.named
  subst hsz
  have hD := hD0.self (sz := s.heap.size)
  generalize hAe : va_A (wX cI h a1 a2 a3 a4 a5 w r st rc na tp cn rh sr) s.heap.size = A at hD ⊢
  have hA : ∀ q : Nat, s.heap.size ≤ q → A q := fun q h => by rw [← hAe]; exact Or.inr h
  have hS : va_S A s.heap s.heap [] := va_S.rf
  have hl := lv_entry ([.ref h, .int x1]) (n := 3) (Nat.le_of_ble_eq_true rfl)
  rw [lg_entry_eq]
  generalize (lg_sl ([.ref h, .int x1]) ++ List.replicate (3 - (lg_sl ([.ref h, .int x1])).length) Slot.unset).toArray = ls at hl ⊢
  have hl : lv_has ls 3 [(0, .ref h), (1, .int x1)] := hl
  unfold fX0_moveTogether at hf
  refine lv_aload_n hx hb dX0_moveTogether_0 rfl (lv_at hl 0 rfl) ?_
  obtain ⟨⟨rc_1, na_2, rh_3⟩, hv, hf⟩ := bd hf
  dsimp only at hf
  refine q_cv (wr := []) (va_runV (As := []) (rest := []) ⟨hx, hb, hml, hown, hts⟩ (ctX0_findAlive l dC dI cI cZ cL h a1 a2 a3 a4 a5 _ w r st rc na tp cn rh sr rc_1 na_2 rh_3 hv) (cwV 0 hts (gV mw_102 mw_104 mw_0 mw_38 mw_105) rfl rfl rfl (by decide +kernel) ⟨Nat.le_of_ble_eq_true rfl, Nat.le_of_ble_eq_true rfl⟩) (q_preV [] hK hP hD [0, 1, 2, 3, 4, 5] (by decide) rfl (ci := 0) rfl rfl) rfl rfl hl.1 rfl (lv_room (Nat.le_of_ble_eq_true rfl)) dX0_moveTogether_1 ⟨Nat.le_of_ble_eq_true rfl, Nat.le_of_ble_eq_true rfl⟩) hP hD hS hA [0, 1, 2, 3, 4, 5] [] rfl rfl (by decide) (by decide) (fun H locs hP hD hS => ?_)
  have hP : va_P (dC, dI) vwCl (wX cI h a1 a2 a3 a4 a5 w r st rc_1 na_2 tp cn rh_3 sr) _ := hP
  have hD : va_D A (wX cI h a1 a2 a3 a4 a5 w r st rc_1 na_2 tp cn rh_3 sr) := hD
  refine lv_iload_n hx hb dX0_moveTogether_4 rfl (lv_at hl 1 rfl) ?_
  refine lv_iconst (v := (1 : Int32)) hx hb dX0_moveTogether_5 (by decide) ?_
  refine lv_icmp_ne (tgt := 16) hx hb dX0_moveTogether_6 (by decide) (fun h4 => ?_) (fun h4 => ?_)
  · have hf := ifn h4 hf
    refine lv_aload_n hx hb dX0_moveTogether_16 rfl (lv_at hl 0 rfl) ?_
    obtain ⟨na_5, hv, hf⟩ := bd hf
    refine q_cv (wr := []) (va_runV (As := []) (rest := []) ⟨hx, hb, hml, hown, hts⟩ (ctX0_planSlide l dC dI cI cZ cL h a1 a2 a3 a4 a5 _ w r st rc_1 na_2 tp cn rh_3 sr na_5 hv) (cwV 0 hts (gV mw_299 mw_301 mw_13 mw_38 mw_302) rfl rfl rfl (by decide +kernel) ⟨Nat.le_of_ble_eq_true rfl, Nat.le_of_ble_eq_true rfl⟩) (q_preV [] hK hP hD [0, 1, 2, 3, 4, 5] (by decide) rfl (ci := 0) rfl rfl) rfl rfl hl.1 rfl (lv_room (Nat.le_of_ble_eq_true rfl)) dX0_moveTogether_17 ⟨Nat.le_of_ble_eq_true rfl, Nat.le_of_ble_eq_true rfl⟩) hP hD hS hA [0, 1, 2, 3, 4, 5] [] rfl rfl (by decide) (by decide) (fun H locs hP hD hS => ?_)
    have hP : va_P (dC, dI) vwCl (wX cI h a1 a2 a3 a4 a5 w r st rc_1 na_5 tp cn rh_3 sr) _ := hP
    have hD : va_D A (wX cI h a1 a2 a3 a4 a5 w r st rc_1 na_5 tp cn rh_3 sr) := hD
    refine lv_aload_n hx hb dX0_moveTogether_20 rfl (lv_at hl 0 rfl) ?_
    obtain ⟨r_6, hv, hf⟩ := bd hf
    refine q_cv (wr := []) (va_runV (As := []) (rest := []) ⟨hx, hb, hml, hown, hts⟩ (ctX0_redirectRoots l dC dI cI cZ cL h a1 a2 a3 a4 a5 _ w r st rc_1 na_5 tp cn rh_3 sr r_6 hv) (cwV 0 hts (gV mw_307 mw_309 mw_15 mw_38 mw_310) rfl rfl rfl (by decide +kernel) ⟨Nat.le_of_ble_eq_true rfl, Nat.le_of_ble_eq_true rfl⟩) (q_preV [] hK hP hD [0, 1, 2, 3, 4, 5] (by decide) rfl (ci := 0) rfl rfl) rfl rfl hl.1 rfl (lv_room (Nat.le_of_ble_eq_true rfl)) dX0_moveTogether_21 ⟨Nat.le_of_ble_eq_true rfl, Nat.le_of_ble_eq_true rfl⟩) hP hD hS hA [0, 1, 2, 3, 4, 5] [] rfl rfl (by decide) (by decide) (fun H locs hP hD hS => ?_)
    have hP : va_P (dC, dI) vwCl (wX cI h a1 a2 a3 a4 a5 w r_6 st rc_1 na_5 tp cn rh_3 sr) _ := hP
    have hD : va_D A (wX cI h a1 a2 a3 a4 a5 w r_6 st rc_1 na_5 tp cn rh_3 sr) := hD
    refine lv_iconst (v := (0 : Int32)) hx hb dX0_moveTogether_24 (by decide) ?_
    refine lv_istore_n hx hb dX0_moveTogether_25 rfl hl (by decide) rfl (fun ls hl => ?_)
    have hl : lv_has ls 3 [(2, .int (0 : Int32)), (0, .ref h), (1, .int x1)] := hl
    obtain ⟨⟨x_10, w_11⟩, hv, hf⟩ := bd hf
    dsimp only at hf
    refine wX0_moveTogether_L26 dC dI cI cZ cL h a1 a2 a3 a4 a5 hx hb hml hown hts hK hA x1 r_6 st rc_1 na_5 tp cn rh_3 sr FU (0 : Int32) w x_10 w_11 hv _ _ _ hP hD hS (lv_sub hl [1, 2, 0] rfl) (fun H locs ls hP hD hS hl => ?_)
    refine lv_aload_n hx hb dX0_moveTogether_50 rfl (lv_at hl 0 rfl) ?_
    obtain ⟨w_12, hv, hf⟩ := bd hf
    refine q_cv (wr := []) (va_runV (As := []) (rest := []) ⟨hx, hb, hml, hown, hts⟩ (ctX0_moveObjects l dC dI cI cZ cL h a1 a2 a3 a4 a5 _ w_11 r_6 st rc_1 na_5 tp cn rh_3 sr w_12 hv) (cwV 0 hts (gV mw_319 mw_321 mw_18 mw_38 mw_322) rfl rfl rfl (by decide +kernel) ⟨Nat.le_of_ble_eq_true rfl, Nat.le_of_ble_eq_true rfl⟩) (q_preV [] hK hP hD [0, 1, 2, 3, 4, 5] (by decide) rfl (ci := 0) rfl rfl) rfl rfl hl.1 rfl (lv_room (Nat.le_of_ble_eq_true rfl)) dX0_moveTogether_51 ⟨Nat.le_of_ble_eq_true rfl, Nat.le_of_ble_eq_true rfl⟩) hP hD hS hA [0, 1, 2, 3, 4, 5] [] rfl rfl (by decide) (by decide) (fun H locs hP hD hS => ?_)
    have hP : va_P (dC, dI) vwCl (wX cI h a1 a2 a3 a4 a5 w_12 r_6 st rc_1 na_5 tp cn rh_3 sr) _ := hP
    have hD : va_D A (wX cI h a1 a2 a3 a4 a5 w_12 r_6 st rc_1 na_5 tp cn rh_3 sr) := hD
    refine lv_aload_n hx hb dX0_moveTogether_54 rfl (lv_at hl 0 rfl) ?_
    obtain ⟨⟨w_13, st_14, tp_15, cn_16⟩, hv, hf⟩ := bd hf
    dsimp only at hf
    refine q_cv (wr := []) (va_runV (As := []) (rest := []) ⟨hx, hb, hml, hown, hts⟩ (ctX0_listObjects l dC dI cI cZ cL h a1 a2 a3 a4 a5 _ w_12 r_6 st rc_1 na_5 tp cn rh_3 sr w_13 st_14 tp_15 cn_16 hv) (cwV 0 hts (gV mw_326 mw_328 mw_19 mw_38 mw_329) rfl rfl rfl (by decide +kernel) ⟨Nat.le_of_ble_eq_true rfl, Nat.le_of_ble_eq_true rfl⟩) (q_preV [] hK hP hD [0, 1, 2, 3, 4, 5] (by decide) rfl (ci := 0) rfl rfl) rfl rfl hl.1 rfl (lv_room (Nat.le_of_ble_eq_true rfl)) dX0_moveTogether_55 ⟨Nat.le_of_ble_eq_true rfl, Nat.le_of_ble_eq_true rfl⟩) hP hD hS hA [0, 1, 2, 3, 4, 5] [] rfl rfl (by decide) (by decide) (fun H locs hP hD hS => ?_)
    have hP : va_P (dC, dI) vwCl (wX cI h a1 a2 a3 a4 a5 w_13 r_6 st_14 rc_1 na_5 tp_15 cn_16 rh_3 sr) _ := hP
    have hD : va_D A (wX cI h a1 a2 a3 a4 a5 w_13 r_6 st_14 rc_1 na_5 tp_15 cn_16 rh_3 sr) := hD
    have hg0 := Option.some.inj hf
    obtain ⟨hq1, hg1⟩ := Prod.mk.inj hg0
    subst hq1
    obtain ⟨hq2, hg2⟩ := Prod.mk.inj hg1
    subst hq2
    obtain ⟨hq3, hg3⟩ := Prod.mk.inj hg2
    subst hq3
    obtain ⟨hq4, hg4⟩ := Prod.mk.inj hg3
    subst hq4
    obtain ⟨hq5, hg5⟩ := Prod.mk.inj hg4
    subst hq5
    obtain ⟨hq6, hg6⟩ := Prod.mk.inj hg5
    subst hq6
    obtain ⟨hq7, hg7⟩ := Prod.mk.inj hg6
    subst hq7
    subst hg7
    exact W.vret hx hb hr (fun t ht hW => ⟨⟨(), rfl, trivial, by rw [ht]; exact hP, va_K.moved hW.alike hK, hD⟩, hS.F ht⟩) hS.2.2 dX0_moveTogether_58
  · have hf := ift h4 hf
    refine lv_aload_n hx hb dX0_moveTogether_9 rfl (lv_at hl 0 rfl) ?_
    obtain ⟨na_17, hv, hf⟩ := bd hf
    refine q_cv (wr := []) (va_runV (As := []) (rest := []) ⟨hx, hb, hml, hown, hts⟩ (ctX0_planTwoFingers l dC dI cI cZ cL h a1 a2 a3 a4 a5 _ w r st rc_1 na_2 tp cn rh_3 sr na_17 hv) (cwV 0 hts (gV mw_295 mw_297 mw_12 mw_38 mw_298) rfl rfl rfl (by decide +kernel) ⟨Nat.le_of_ble_eq_true rfl, Nat.le_of_ble_eq_true rfl⟩) (q_preV [] hK hP hD [0, 1, 2, 3, 4, 5] (by decide) rfl (ci := 0) rfl rfl) rfl rfl hl.1 rfl (lv_room (Nat.le_of_ble_eq_true rfl)) dX0_moveTogether_10 ⟨Nat.le_of_ble_eq_true rfl, Nat.le_of_ble_eq_true rfl⟩) hP hD hS hA [0, 1, 2, 3, 4, 5] [] rfl rfl (by decide) (by decide) (fun H locs hP hD hS => ?_)
    have hP : va_P (dC, dI) vwCl (wX cI h a1 a2 a3 a4 a5 w r st rc_1 na_17 tp cn rh_3 sr) _ := hP
    have hD : va_D A (wX cI h a1 a2 a3 a4 a5 w r st rc_1 na_17 tp cn rh_3 sr) := hD
    refine lv_goto (tgt := 20) hx hb dX0_moveTogether_13 (by decide) ?_
    refine lv_aload_n hx hb dX0_moveTogether_20 rfl (lv_at hl 0 rfl) ?_
    obtain ⟨r_18, hv, hf⟩ := bd hf
    refine q_cv (wr := []) (va_runV (As := []) (rest := []) ⟨hx, hb, hml, hown, hts⟩ (ctX0_redirectRoots l dC dI cI cZ cL h a1 a2 a3 a4 a5 _ w r st rc_1 na_17 tp cn rh_3 sr r_18 hv) (cwV 0 hts (gV mw_307 mw_309 mw_15 mw_38 mw_310) rfl rfl rfl (by decide +kernel) ⟨Nat.le_of_ble_eq_true rfl, Nat.le_of_ble_eq_true rfl⟩) (q_preV [] hK hP hD [0, 1, 2, 3, 4, 5] (by decide) rfl (ci := 0) rfl rfl) rfl rfl hl.1 rfl (lv_room (Nat.le_of_ble_eq_true rfl)) dX0_moveTogether_21 ⟨Nat.le_of_ble_eq_true rfl, Nat.le_of_ble_eq_true rfl⟩) hP hD hS hA [0, 1, 2, 3, 4, 5] [] rfl rfl (by decide) (by decide) (fun H locs hP hD hS => ?_)
    have hP : va_P (dC, dI) vwCl (wX cI h a1 a2 a3 a4 a5 w r_18 st rc_1 na_17 tp cn rh_3 sr) _ := hP
    have hD : va_D A (wX cI h a1 a2 a3 a4 a5 w r_18 st rc_1 na_17 tp cn rh_3 sr) := hD
    refine lv_iconst (v := (0 : Int32)) hx hb dX0_moveTogether_24 (by decide) ?_
    refine lv_istore_n hx hb dX0_moveTogether_25 rfl hl (by decide) rfl (fun ls hl => ?_)
    have hl : lv_has ls 3 [(2, .int (0 : Int32)), (0, .ref h), (1, .int x1)] := hl
    obtain ⟨⟨x_19, w_20⟩, hv, hf⟩ := bd hf
    dsimp only at hf
    refine wX0_moveTogether_L26 dC dI cI cZ cL h a1 a2 a3 a4 a5 hx hb hml hown hts hK hA x1 r_18 st rc_1 na_17 tp cn rh_3 sr FU (0 : Int32) w x_19 w_20 hv _ _ _ hP hD hS (lv_sub hl [1, 2, 0] rfl) (fun H locs ls hP hD hS hl => ?_)
    refine lv_aload_n hx hb dX0_moveTogether_50 rfl (lv_at hl 0 rfl) ?_
    obtain ⟨w_21, hv, hf⟩ := bd hf
    refine q_cv (wr := []) (va_runV (As := []) (rest := []) ⟨hx, hb, hml, hown, hts⟩ (ctX0_moveObjects l dC dI cI cZ cL h a1 a2 a3 a4 a5 _ w_20 r_18 st rc_1 na_17 tp cn rh_3 sr w_21 hv) (cwV 0 hts (gV mw_319 mw_321 mw_18 mw_38 mw_322) rfl rfl rfl (by decide +kernel) ⟨Nat.le_of_ble_eq_true rfl, Nat.le_of_ble_eq_true rfl⟩) (q_preV [] hK hP hD [0, 1, 2, 3, 4, 5] (by decide) rfl (ci := 0) rfl rfl) rfl rfl hl.1 rfl (lv_room (Nat.le_of_ble_eq_true rfl)) dX0_moveTogether_51 ⟨Nat.le_of_ble_eq_true rfl, Nat.le_of_ble_eq_true rfl⟩) hP hD hS hA [0, 1, 2, 3, 4, 5] [] rfl rfl (by decide) (by decide) (fun H locs hP hD hS => ?_)
    have hP : va_P (dC, dI) vwCl (wX cI h a1 a2 a3 a4 a5 w_21 r_18 st rc_1 na_17 tp cn rh_3 sr) _ := hP
    have hD : va_D A (wX cI h a1 a2 a3 a4 a5 w_21 r_18 st rc_1 na_17 tp cn rh_3 sr) := hD
    refine lv_aload_n hx hb dX0_moveTogether_54 rfl (lv_at hl 0 rfl) ?_
    obtain ⟨⟨w_22, st_23, tp_24, cn_25⟩, hv, hf⟩ := bd hf
    dsimp only at hf
    refine q_cv (wr := []) (va_runV (As := []) (rest := []) ⟨hx, hb, hml, hown, hts⟩ (ctX0_listObjects l dC dI cI cZ cL h a1 a2 a3 a4 a5 _ w_21 r_18 st rc_1 na_17 tp cn rh_3 sr w_22 st_23 tp_24 cn_25 hv) (cwV 0 hts (gV mw_326 mw_328 mw_19 mw_38 mw_329) rfl rfl rfl (by decide +kernel) ⟨Nat.le_of_ble_eq_true rfl, Nat.le_of_ble_eq_true rfl⟩) (q_preV [] hK hP hD [0, 1, 2, 3, 4, 5] (by decide) rfl (ci := 0) rfl rfl) rfl rfl hl.1 rfl (lv_room (Nat.le_of_ble_eq_true rfl)) dX0_moveTogether_55 ⟨Nat.le_of_ble_eq_true rfl, Nat.le_of_ble_eq_true rfl⟩) hP hD hS hA [0, 1, 2, 3, 4, 5] [] rfl rfl (by decide) (by decide) (fun H locs hP hD hS => ?_)
    have hP : va_P (dC, dI) vwCl (wX cI h a1 a2 a3 a4 a5 w_22 r_18 st_23 rc_1 na_17 tp_24 cn_25 rh_3 sr) _ := hP
    have hD : va_D A (wX cI h a1 a2 a3 a4 a5 w_22 r_18 st_23 rc_1 na_17 tp_24 cn_25 rh_3 sr) := hD
    have hg0 := Option.some.inj hf
    obtain ⟨hq1, hg1⟩ := Prod.mk.inj hg0
    subst hq1
    obtain ⟨hq2, hg2⟩ := Prod.mk.inj hg1
    subst hq2
    obtain ⟨hq3, hg3⟩ := Prod.mk.inj hg2
    subst hq3
    obtain ⟨hq4, hg4⟩ := Prod.mk.inj hg3
    subst hq4
    obtain ⟨hq5, hg5⟩ := Prod.mk.inj hg4
    subst hq5
    obtain ⟨hq6, hg6⟩ := Prod.mk.inj hg5
    subst hq6
    obtain ⟨hq7, hg7⟩ := Prod.mk.inj hg6
    subst hq7
    subst hg7
    exact W.vret hx hb hr (fun t ht hW => ⟨⟨(), rfl, trivial, by rw [ht]; exact hP, va_K.moved hW.alike hK, hD⟩, hS.F ht⟩) hS.2.2 dX0_moveTogether_58
set_option maxHeartbeats 4000000 in
set_option maxRecDepth 100000 in
theorem ctX0_requireRoom (l : Launch) (hlt : l.stackTraces = false) (dC : Nat → ClassId) (dI : Nat → Nat → Nat) (cI cZ cL : ClassId) (h a1 a2 a3 a4 a5 : Nat) (sz : Nat) (w : Nat → Int32) (r : Nat → Int32) (st : Nat → Int32) (rc : Nat → Int32) (na : Nat → Int32) (tp : Int32) (cn : Int32) (rh : Int32) (sr : Int32) (x1 : Int32) (ef : Nat) (hf : fX0_requireRoom tp x1 = some ef) : vx_Met l yX0_requireRoom wsX0_requireRoom (rmX0_requireRoom ef) (va_Pc [.ref h, .int x1] (q_preX (dC, dI) vwCl (tyA cI cZ cL) RX0 q_tx sz (wX cI h a1 a2 a3 a4 a5 w r st rc na tp cn rh sr))) (va_Qv (fun (_ : Unit) => ef = 0) (fun _ => q_post (dC, dI) vwCl (tyA cI cZ cL) (va_A (wX cI h a1 a2 a3 a4 a5 w r st rc na tp cn rh sr) sz) (wX cI h a1 a2 a3 a4 a5 w r st rc na tp cn rh sr)) (va_A (wX cI h a1 a2 a3 a4 a5 w r st rc na tp cn rh sr) sz)) (vx_X (fun (_ : Unit) => ¬ ef = 0) (fun E _ t => E = q_E ef ∧ q_post (dC, dI) vwCl (tyA cI cZ cL) (va_A (wX cI h a1 a2 a3 a4 a5 w r st rc na tp cn rh sr) sz) (wX cI h a1 a2 a3 a4 a5 w r st rc na tp cn rh sr) t) (va_A (wX cI h a1 a2 a3 a4 a5 w r st rc na tp cn rh sr) sz)) (q_mc ef) (q_ms ef) (va_A (wX cI h a1 a2 a3 a4 a5 w r st rc na tp cn rh sr) sz) := by
  refine vx_ofW (cc := cX0_requireRoom) (maxL := 2) (ret := (none)) (by decide) rfl ?_
  intro p e s m args below meth c s₁ B hml hno hv
  obtain ⟨rfl, hsz, hP, hK, hD0, hZ0, hT, hN⟩ := hv
  have hx := B.exec
  have hb := B.bytes
  have hr := B.returns
  have hts := atoms_spec (ws := wsX0_requireRoom) B.pre
  have hown : s.vm.findClass RX0 = some m.cls := findClass_of_methodNamed B.named
  have hlk := B.notSynchronized
  subst hsz
  have hD := hD0.self (sz := s.heap.size)
  generalize hAe : va_A (wX cI h a1 a2 a3 a4 a5 w r st rc na tp cn rh sr) s.heap.size = A at hZ0 hD ⊢
  have hA : ∀ q : Nat, s.heap.size ≤ q → A q := fun q h => by rw [← hAe]; exact Or.inr h
  have hS : va_S A s.heap s.heap [] := va_S.rf
  have hl := lv_entry ([.ref h, .int x1]) (n := 2) (Nat.le_of_ble_eq_true rfl)
  rw [lg_entry_eq]
  generalize (lg_sl ([.ref h, .int x1]) ++ List.replicate (2 - (lg_sl ([.ref h, .int x1])).length) Slot.unset).toArray = ls at hl ⊢
  have hl : lv_has ls 2 [(0, .ref h), (1, .int x1)] := hl
  unfold fX0_requireRoom at hf
  refine lv_aload_n hx hb dX0_requireRoom_0 rfl (lv_at hl 0 rfl) ?_
  refine lv_iload_n hx hb dX0_requireRoom_1 rfl (lv_at hl 1 rfl) ?_
  obtain ⟨v1, hv, hf⟩ := bd hf
  refine q_ci (wr := []) (va_runV (As := [.int x1]) (rest := []) ⟨hx, hb, hml, hown, hts⟩ (ctX0_hasRoom l dC dI cI cZ cL h a1 a2 a3 a4 a5 _ w r st rc na tp cn rh sr x1 v1 hv) (cwV 1 hts (gV mw_231 mw_233 mw_7 mw_38 mw_234) rfl rfl rfl (by decide +kernel) ⟨Nat.le_of_ble_eq_true rfl, Nat.le_of_ble_eq_true rfl⟩) (q_preV [.int x1] hK hP hD [0, 1, 2, 3, 4, 5] (by decide) rfl (ci := 0) rfl rfl) rfl rfl hl.1 rfl (lv_room (Nat.le_of_ble_eq_true rfl)) dX0_requireRoom_2 ⟨Nat.le_of_ble_eq_true rfl, Nat.le_of_ble_eq_true rfl⟩) hP hD hS hA [0, 1, 2, 3, 4, 5] [] rfl rfl (by decide) (by decide) (fun H locs hP hD hS => ?_)
  have hP : va_P (dC, dI) vwCl (wX cI h a1 a2 a3 a4 a5 w r st rc na tp cn rh sr) _ := hP
  have hD : va_D A (wX cI h a1 a2 a3 a4 a5 w r st rc na tp cn rh sr) := hD
  refine lv_if_ne (tgt := 18) hx hb dX0_requireRoom_5 (by decide) (fun h2 => ?_) (fun h2 => ?_)
  · have hf := ifn h2 hf
    have hg0 := Option.some.inj hf
    subst hg0
    refine vx_ret ?_
    refine W.widen (k := q_mc 0) (n := q_ms 0) (Nat.zero_le _) (Nat.zero_le _) ?_
    exact W.vret hx hb hr (fun t ht hW => ⟨⟨(), rfl, rfl, by rw [ht]; exact hP, va_K.moved hW.alike hK, hD⟩, hS.F ht⟩) hS.2.2 dX0_requireRoom_18 hlk
  · have hf := ift h2 hf
    have hg0 := Option.some.inj hf
    subst hg0
    exact q_throw (ef := 3) (text := "the object doesn't fit") (names := ["java/lang/RuntimeException", "java/lang/Exception"]) hx hb hlt hown (by decide +kernel) (by decide +kernel) (hts _ (List.mem_cons_of_mem _ mw_235)) (hts _ (List.mem_cons_of_mem _ mw_46)) hT (by decide +kernel) (fun w hw => hts w (List.mem_cons_of_mem _ hw)) at_3 hN (by decide +kernel) (by decide +kernel) (by decide +kernel) hZ0 hS (hl.1.trans hml.symm) dX0_requireRoom_8 dX0_requireRoom_11 dX0_requireRoom_12 dX0_requireRoom_14 dX0_requireRoom_17 hno (Nat.le_of_ble_eq_true rfl) (Nat.le_of_ble_eq_true rfl) (Nat.le_of_ble_eq_true rfl) (Nat.le_of_ble_eq_true rfl) hlk rfl (by decide) hK hP hD (Nat.le_of_ble_eq_true rfl) (Nat.le_of_ble_eq_true rfl)
set_option maxHeartbeats 4000000 in
set_option maxRecDepth 100000 in
theorem ctX0_requireSizesFor (l : Launch) (hlt : l.stackTraces = false) (dC : Nat → ClassId) (dI : Nat → Nat → Nat) (cI cZ cL : ClassId) (h a1 a2 a3 a4 a5 : Nat) (sz : Nat) (w : Nat → Int32) (r : Nat → Int32) (st : Nat → Int32) (rc : Nat → Int32) (na : Nat → Int32) (tp : Int32) (cn : Int32) (rh : Int32) (sr : Int32) (x1 : Int32) (ef : Nat) (hf : fX0_requireSizesFor w st cn x1 = some ef) : vx_Met l yX0_requireSizesFor wsX0_requireSizesFor (rmX0_requireSizesFor ef) (va_Pc [.ref h, .int x1] (q_preX (dC, dI) vwCl (tyA cI cZ cL) RX0 q_tx sz (wX cI h a1 a2 a3 a4 a5 w r st rc na tp cn rh sr))) (va_Qv (fun (_ : Unit) => ef = 0) (fun _ => q_post (dC, dI) vwCl (tyA cI cZ cL) (va_A (wX cI h a1 a2 a3 a4 a5 w r st rc na tp cn rh sr) sz) (wX cI h a1 a2 a3 a4 a5 w r st rc na tp cn rh sr)) (va_A (wX cI h a1 a2 a3 a4 a5 w r st rc na tp cn rh sr) sz)) (vx_X (fun (_ : Unit) => ¬ ef = 0) (fun E _ t => E = q_E ef ∧ q_post (dC, dI) vwCl (tyA cI cZ cL) (va_A (wX cI h a1 a2 a3 a4 a5 w r st rc na tp cn rh sr) sz) (wX cI h a1 a2 a3 a4 a5 w r st rc na tp cn rh sr) t) (va_A (wX cI h a1 a2 a3 a4 a5 w r st rc na tp cn rh sr) sz)) (q_mc ef) (q_ms ef) (va_A (wX cI h a1 a2 a3 a4 a5 w r st rc na tp cn rh sr) sz) := by
  refine vx_ofW (cc := cX0_requireSizesFor) (maxL := 2) (ret := (none)) (by decide) rfl ?_
  intro p e s m args below meth c s₁ B hml hno hv
  obtain ⟨rfl, hsz, hP, hK, hD0, hZ0, hT, hN⟩ := hv
  have hx := B.exec
  have hb := B.bytes
  have hr := B.returns
  have hts := atoms_spec (ws := wsX0_requireSizesFor) B.pre
  have hown : s.vm.findClass RX0 = some m.cls := findClass_of_methodNamed B.named
  have hlk := B.notSynchronized
  subst hsz
  have hD := hD0.self (sz := s.heap.size)
  generalize hAe : va_A (wX cI h a1 a2 a3 a4 a5 w r st rc na tp cn rh sr) s.heap.size = A at hZ0 hD ⊢
  have hA : ∀ q : Nat, s.heap.size ≤ q → A q := fun q h => by rw [← hAe]; exact Or.inr h
  have hS : va_S A s.heap s.heap [] := va_S.rf
  have hl := lv_entry ([.ref h, .int x1]) (n := 2) (Nat.le_of_ble_eq_true rfl)
  rw [lg_entry_eq]
  generalize (lg_sl ([.ref h, .int x1]) ++ List.replicate (2 - (lg_sl ([.ref h, .int x1])).length) Slot.unset).toArray = ls at hl ⊢
  have hl : lv_has ls 2 [(0, .ref h), (1, .int x1)] := hl
  unfold fX0_requireSizesFor at hf
  refine lv_iload_n hx hb dX0_requireSizesFor_0 rfl (lv_at hl 1 rfl) ?_
  refine lv_iconst (v := (1 : Int32)) hx hb dX0_requireSizesFor_1 (by decide) ?_
  refine lv_icmp_ne (tgt := 22) hx hb dX0_requireSizesFor_2 (by decide) (fun h1 => ?_) (fun h1 => ?_)
  · have hf := ifn h1 hf
    have hg0 := Option.some.inj hf
    subst hg0
    refine vx_ret ?_
    refine W.widen (k := q_mc 0) (n := q_ms 0) (Nat.zero_le _) (Nat.zero_le _) ?_
    exact W.vret hx hb hr (fun t ht hW => ⟨⟨(), rfl, rfl, by rw [ht]; exact hP, va_K.moved hW.alike hK, hD⟩, hS.F ht⟩) hS.2.2 dX0_requireSizesFor_22 hlk
  · have hf := ift h1 hf
    refine lv_aload_n hx hb dX0_requireSizesFor_5 rfl (lv_at hl 0 rfl) ?_
    obtain ⟨v2, hv, hf⟩ := bd hf
    refine q_ci (wr := []) (va_runV (As := []) (rest := []) ⟨hx, hb, hml, hown, hts⟩ (ctX0_isOneSize l dC dI cI cZ cL h a1 a2 a3 a4 a5 _ w r st rc na tp cn rh sr v2 hv) (cwV 0 hts (gV mw_271 mw_273 mw_10 mw_38 mw_274) rfl rfl rfl (by decide +kernel) ⟨Nat.le_of_ble_eq_true rfl, Nat.le_of_ble_eq_true rfl⟩) (q_preV [] hK hP hD [0, 1, 2, 3, 4, 5] (by decide) rfl (ci := 0) rfl rfl) rfl rfl hl.1 rfl (lv_room (Nat.le_of_ble_eq_true rfl)) dX0_requireSizesFor_6 ⟨Nat.le_of_ble_eq_true rfl, Nat.le_of_ble_eq_true rfl⟩) hP hD hS hA [0, 1, 2, 3, 4, 5] [] rfl rfl (by decide) (by decide) (fun H locs hP hD hS => ?_)
    have hP : va_P (dC, dI) vwCl (wX cI h a1 a2 a3 a4 a5 w r st rc na tp cn rh sr) _ := hP
    have hD : va_D A (wX cI h a1 a2 a3 a4 a5 w r st rc na tp cn rh sr) := hD
    refine lv_if_ne (tgt := 22) hx hb dX0_requireSizesFor_9 (by decide) (fun h3 => ?_) (fun h3 => ?_)
    · have hf := ifn h3 hf
      have hg0 := Option.some.inj hf
      subst hg0
      refine vx_ret ?_
      refine W.widen (k := q_mc 0) (n := q_ms 0) (Nat.zero_le _) (Nat.zero_le _) ?_
      exact W.vret hx hb hr (fun t ht hW => ⟨⟨(), rfl, rfl, by rw [ht]; exact hP, va_K.moved hW.alike hK, hD⟩, hS.F ht⟩) hS.2.2 dX0_requireSizesFor_22 hlk
    · have hf := ift h3 hf
      have hg0 := Option.some.inj hf
      subst hg0
      exact q_throw (ef := 4) (text := "way 1 is for objects of one size") (names := ["java/lang/RuntimeException", "java/lang/Exception"]) hx hb hlt hown (by decide +kernel) (by decide +kernel) (hts _ (List.mem_cons_of_mem _ mw_275)) (hts _ (List.mem_cons_of_mem _ mw_47)) hT (by decide +kernel) (fun w hw => hts w (List.mem_cons_of_mem _ hw)) at_4 hN (by decide +kernel) (by decide +kernel) (by decide +kernel) hZ0 hS (hl.1.trans hml.symm) dX0_requireSizesFor_12 dX0_requireSizesFor_15 dX0_requireSizesFor_16 dX0_requireSizesFor_18 dX0_requireSizesFor_21 hno (Nat.le_of_ble_eq_true rfl) (Nat.le_of_ble_eq_true rfl) (Nat.le_of_ble_eq_true rfl) (Nat.le_of_ble_eq_true rfl) hlk rfl (by decide) hK hP hD (Nat.le_of_ble_eq_true rfl) (Nat.le_of_ble_eq_true rfl)
set_option maxHeartbeats 4000000 in
set_option maxRecDepth 100000 in
theorem ctX0_requireObjectWithField (l : Launch) (hlt : l.stackTraces = false) (dC : Nat → ClassId) (dI : Nat → Nat → Nat) (cI cZ cL : ClassId) (h a1 a2 a3 a4 a5 : Nat) (sz : Nat) (w : Nat → Int32) (r : Nat → Int32) (st : Nat → Int32) (rc : Nat → Int32) (na : Nat → Int32) (tp : Int32) (cn : Int32) (rh : Int32) (sr : Int32) (x1 : Int32) (x2 : Int32) (ef : Nat) (hf : fX0_requireObjectWithField w r x1 x2 = some ef) : vx_Met l yX0_requireObjectWithField wsX0_requireObjectWithField (rmX0_requireObjectWithField ef) (va_Pc [.ref h, .int x1, .int x2] (q_preX (dC, dI) vwCl (tyA cI cZ cL) RX0 q_tx sz (wX cI h a1 a2 a3 a4 a5 w r st rc na tp cn rh sr))) (va_Qv (fun (_ : Unit) => ef = 0) (fun _ => q_post (dC, dI) vwCl (tyA cI cZ cL) (va_A (wX cI h a1 a2 a3 a4 a5 w r st rc na tp cn rh sr) sz) (wX cI h a1 a2 a3 a4 a5 w r st rc na tp cn rh sr)) (va_A (wX cI h a1 a2 a3 a4 a5 w r st rc na tp cn rh sr) sz)) (vx_X (fun (_ : Unit) => ¬ ef = 0) (fun E _ t => E = q_E ef ∧ q_post (dC, dI) vwCl (tyA cI cZ cL) (va_A (wX cI h a1 a2 a3 a4 a5 w r st rc na tp cn rh sr) sz) (wX cI h a1 a2 a3 a4 a5 w r st rc na tp cn rh sr) t) (va_A (wX cI h a1 a2 a3 a4 a5 w r st rc na tp cn rh sr) sz)) (q_mc ef) (q_ms ef) (va_A (wX cI h a1 a2 a3 a4 a5 w r st rc na tp cn rh sr) sz) := by
  refine vx_ofW (cc := cX0_requireObjectWithField) (maxL := 3) (ret := (none)) (by decide) rfl ?_
  intro p e s m args below meth c s₁ B hml hno hv
  obtain ⟨rfl, hsz, hP, hK, hD0, hZ0, hT, hN⟩ := hv
  have hx := B.exec
  have hb := B.bytes
  have hr := B.returns
  have hts := atoms_spec (ws := wsX0_requireObjectWithField) B.pre
  have hown : s.vm.findClass RX0 = some m.cls := findClass_of_methodNamed B.named
  have hlk := B.notSynchronized
  subst hsz
  have hD := hD0.self (sz := s.heap.size)
  generalize hAe : va_A (wX cI h a1 a2 a3 a4 a5 w r st rc na tp cn rh sr) s.heap.size = A at hZ0 hD ⊢
  have hA : ∀ q : Nat, s.heap.size ≤ q → A q := fun q h => by rw [← hAe]; exact Or.inr h
  have hS : va_S A s.heap s.heap [] := va_S.rf
  have hl := lv_entry ([.ref h, .int x1, .int x2]) (n := 3) (Nat.le_of_ble_eq_true rfl)
  rw [lg_entry_eq]
  generalize (lg_sl ([.ref h, .int x1, .int x2]) ++ List.replicate (3 - (lg_sl ([.ref h, .int x1, .int x2])).length) Slot.unset).toArray = ls at hl ⊢
  have hl : lv_has ls 3 [(0, .ref h), (1, .int x1), (2, .int x2)] := hl
  unfold fX0_requireObjectWithField at hf
  refine lv_aload_n hx hb dX0_requireObjectWithField_0 rfl (lv_at hl 0 rfl) ?_
  refine va_get (D := (dC, dI)) (ci := 0) (v := .ref a2) (C := RX0) (T := TX0) (N := 9) hx hb hts (fun w hw => List.mem_cons_of_mem _ (inX0 w hw)) hown hK hP 0 rfl rfl 1 (by decide) (hts _ (List.mem_cons_of_mem _ mw_62)) (fun _ h9 => h9) rfl dX0_requireObjectWithField_1 ?_
  refine lv_iload_n hx hb dX0_requireObjectWithField_4 rfl (lv_at hl 1 rfl) ?_
  obtain ⟨v1, hv, hf⟩ := bd hf
  refine q_ild hx hb hK hP 2 0 rfl rfl hv dX0_requireObjectWithField_5 ?_
  refine lv_iconst (v := (-1 : Int32)) hx hb dX0_requireObjectWithField_6 (by decide) ?_
  refine lv_icmp_ne (tgt := 20) hx hb dX0_requireObjectWithField_7 (by decide) (fun h2 => ?_) (fun h2 => ?_)
  · have hf := ifn h2 hf
    refine lv_iload_n hx hb dX0_requireObjectWithField_20 rfl (lv_at hl 2 rfl) ?_
    refine lv_if_lt (tgt := 38) hx hb dX0_requireObjectWithField_21 (by decide) (fun h3 => ?_) (fun h3 => ?_)
    · have hf := ift h3 hf
      have hg0 := Option.some.inj hf
      subst hg0
      exact q_throw (ef := 1) (text := "no such field") (names := ["java/lang/RuntimeException", "java/lang/Exception"]) hx hb hlt hown (by decide +kernel) (by decide +kernel) (hts _ (List.mem_cons_of_mem _ mw_138)) (hts _ (List.mem_cons_of_mem _ mw_44)) hT (by decide +kernel) (fun w hw => hts w (List.mem_cons_of_mem _ hw)) at_1 hN (by decide +kernel) (by decide +kernel) (by decide +kernel) hZ0 hS (hl.1.trans hml.symm) dX0_requireObjectWithField_38 dX0_requireObjectWithField_41 dX0_requireObjectWithField_42 dX0_requireObjectWithField_44 dX0_requireObjectWithField_47 hno (Nat.le_of_ble_eq_true rfl) (Nat.le_of_ble_eq_true rfl) (Nat.le_of_ble_eq_true rfl) (Nat.le_of_ble_eq_true rfl) hlk rfl (by decide) hK hP hD (Nat.le_of_ble_eq_true rfl) (Nat.le_of_ble_eq_true rfl)
    · have hf := ifn h3 hf
      refine lv_iload_n hx hb dX0_requireObjectWithField_24 rfl (lv_at hl 2 rfl) ?_
      refine lv_aload_n hx hb dX0_requireObjectWithField_25 rfl (lv_at hl 0 rfl) ?_
      refine lv_aload_n hx hb dX0_requireObjectWithField_26 rfl (lv_at hl 0 rfl) ?_
      refine va_get (D := (dC, dI)) (ci := 0) (v := .ref a2) (C := RX0) (T := TX0) (N := 9) hx hb hts (fun w hw => List.mem_cons_of_mem _ (inX0 w hw)) hown hK hP 0 rfl rfl 1 (by decide) (hts _ (List.mem_cons_of_mem _ mw_62)) (fun _ h9 => h9) rfl dX0_requireObjectWithField_27 ?_
      refine lv_iload_n hx hb dX0_requireObjectWithField_30 rfl (lv_at hl 1 rfl) ?_
      obtain ⟨v4, hv, hf⟩ := bd hf
      refine q_ild hx hb hK hP 2 0 rfl rfl hv dX0_requireObjectWithField_31 ?_
      obtain ⟨v5, hv, hf⟩ := bd hf
      refine q_ci (wr := []) (va_runV (As := [.int v4]) (rest := [.int x2]) ⟨hx, hb, hml, hown, hts⟩ (ctX0_fieldCount l dC dI cI cZ cL h a1 a2 a3 a4 a5 _ w r st rc na tp cn rh sr v4 v5 hv) (cwV 1 hts (gV mw_114 mw_116 mw_3 mw_38 mw_117) rfl rfl rfl (by decide +kernel) ⟨Nat.le_of_ble_eq_true rfl, Nat.le_of_ble_eq_true rfl⟩) (q_preV [.int v4] hK hP hD [0, 1, 2, 3, 4, 5] (by decide) rfl (ci := 0) rfl rfl) rfl rfl hl.1 rfl (lv_room (Nat.le_of_ble_eq_true rfl)) dX0_requireObjectWithField_32 ⟨Nat.le_of_ble_eq_true rfl, Nat.le_of_ble_eq_true rfl⟩) hP hD hS hA [0, 1, 2, 3, 4, 5] [] rfl rfl (by decide) (by decide) (fun H locs hP hD hS => ?_)
      have hP : va_P (dC, dI) vwCl (wX cI h a1 a2 a3 a4 a5 w r st rc na tp cn rh sr) _ := hP
      have hD : va_D A (wX cI h a1 a2 a3 a4 a5 w r st rc na tp cn rh sr) := hD
      refine lv_icmp_lt (tgt := 48) hx hb dX0_requireObjectWithField_35 (by decide) (fun h6 => ?_) (fun h6 => ?_)
      · have hf := ift h6 hf
        have hg0 := Option.some.inj hf
        subst hg0
        refine vx_ret ?_
        refine W.widen (k := q_mc 0) (n := q_ms 0) (Nat.zero_le _) (Nat.zero_le _) ?_
        exact W.vret hx hb hr (fun t ht hW => ⟨⟨(), rfl, rfl, by rw [ht]; exact hP, va_K.moved hW.alike hK, hD⟩, hS.F ht⟩) hS.2.2 dX0_requireObjectWithField_48 hlk
      · have hf := ifn h6 hf
        have hg0 := Option.some.inj hf
        subst hg0
        exact q_throw (ef := 1) (text := "no such field") (names := ["java/lang/RuntimeException", "java/lang/Exception"]) hx hb hlt hown (by decide +kernel) (by decide +kernel) (hts _ (List.mem_cons_of_mem _ mw_138)) (hts _ (List.mem_cons_of_mem _ mw_44)) hT (by decide +kernel) (fun w hw => hts w (List.mem_cons_of_mem _ hw)) at_1 hN (by decide +kernel) (by decide +kernel) (by decide +kernel) hZ0 hS (hl.1.trans hml.symm) dX0_requireObjectWithField_38 dX0_requireObjectWithField_41 dX0_requireObjectWithField_42 dX0_requireObjectWithField_44 dX0_requireObjectWithField_47 hno (Nat.le_of_ble_eq_true rfl) (Nat.le_of_ble_eq_true rfl) (Nat.le_of_ble_eq_true rfl) (Nat.le_of_ble_eq_true rfl) hlk rfl (by decide) hK hP hD (Nat.le_of_ble_eq_true rfl) (Nat.le_of_ble_eq_true rfl)
  · have hf := ift h2 hf
    have hg0 := Option.some.inj hf
    subst hg0
    exact q_throwN (ef := 5) (text := "the root has nothing") (Y := "java/lang/RuntimeException") (names := ["java/lang/Exception"]) hx hb hlt d5rx_0 d5rx_1 d5rx_2 d5rx_5 hown (by decide +kernel) (by decide +kernel) (by decide +kernel) (hts _ (List.mem_cons_of_mem _ mw_369)) (hts _ (List.mem_cons_of_mem _ mw_49)) hT (by decide +kernel) (fun w hw => hts w (List.mem_cons_of_mem _ hw)) at_5 hN (by decide +kernel) (by decide +kernel) (by decide +kernel) hZ0 hS (hl.1.trans hml.symm) dX0_requireObjectWithField_10 dX0_requireObjectWithField_13 dX0_requireObjectWithField_14 dX0_requireObjectWithField_16 dX0_requireObjectWithField_19 hno (Nat.le_of_ble_eq_true rfl) (Nat.le_of_ble_eq_true rfl) (Nat.le_of_ble_eq_true rfl) (Nat.le_of_ble_eq_true rfl) hlk rfl (by decide) hK hP hD (Nat.le_of_ble_eq_true rfl) (Nat.le_of_ble_eq_true rfl)
set_option maxHeartbeats 4000000 in
set_option maxRecDepth 100000 in
theorem ctX0_requireReference (l : Launch) (hlt : l.stackTraces = false) (dC : Nat → ClassId) (dI : Nat → Nat → Nat) (cI cZ cL : ClassId) (h a1 a2 a3 a4 a5 : Nat) (sz : Nat) (w : Nat → Int32) (r : Nat → Int32) (st : Nat → Int32) (rc : Nat → Int32) (na : Nat → Int32) (tp : Int32) (cn : Int32) (rh : Int32) (sr : Int32) (x1 : Int32) (x2 : Int32) (ef : Nat) (hf : fX0_requireReference w x1 x2 = some ef) : vx_Met l yX0_requireReference wsX0_requireReference (rmX0_requireReference ef) (va_Pc [.ref h, .int x1, .int x2] (q_preX (dC, dI) vwCl (tyA cI cZ cL) RX0 q_tx sz (wX cI h a1 a2 a3 a4 a5 w r st rc na tp cn rh sr))) (va_Qv (fun (_ : Unit) => ef = 0) (fun _ => q_post (dC, dI) vwCl (tyA cI cZ cL) (va_A (wX cI h a1 a2 a3 a4 a5 w r st rc na tp cn rh sr) sz) (wX cI h a1 a2 a3 a4 a5 w r st rc na tp cn rh sr)) (va_A (wX cI h a1 a2 a3 a4 a5 w r st rc na tp cn rh sr) sz)) (vx_X (fun (_ : Unit) => ¬ ef = 0) (fun E _ t => E = q_E ef ∧ q_post (dC, dI) vwCl (tyA cI cZ cL) (va_A (wX cI h a1 a2 a3 a4 a5 w r st rc na tp cn rh sr) sz) (wX cI h a1 a2 a3 a4 a5 w r st rc na tp cn rh sr) t) (va_A (wX cI h a1 a2 a3 a4 a5 w r st rc na tp cn rh sr) sz)) (q_mc ef) (q_ms ef) (va_A (wX cI h a1 a2 a3 a4 a5 w r st rc na tp cn rh sr) sz) := by
  refine vx_ofW (cc := cX0_requireReference) (maxL := 3) (ret := (none)) (by decide) rfl ?_
  intro p e s m args below meth c s₁ B hml hno hv
  obtain ⟨rfl, hsz, hP, hK, hD0, hZ0, hT, hN⟩ := hv
  have hx := B.exec
  have hb := B.bytes
  have hr := B.returns
  have hts := atoms_spec (ws := wsX0_requireReference) B.pre
  have hown : s.vm.findClass RX0 = some m.cls := findClass_of_methodNamed B.named
  have hlk := B.notSynchronized
  subst hsz
  have hD := hD0.self (sz := s.heap.size)
  generalize hAe : va_A (wX cI h a1 a2 a3 a4 a5 w r st rc na tp cn rh sr) s.heap.size = A at hZ0 hD ⊢
  have hA : ∀ q : Nat, s.heap.size ≤ q → A q := fun q h => by rw [← hAe]; exact Or.inr h
  have hS : va_S A s.heap s.heap [] := va_S.rf
  have hl := lv_entry ([.ref h, .int x1, .int x2]) (n := 3) (Nat.le_of_ble_eq_true rfl)
  rw [lg_entry_eq]
  generalize (lg_sl ([.ref h, .int x1, .int x2]) ++ List.replicate (3 - (lg_sl ([.ref h, .int x1, .int x2])).length) Slot.unset).toArray = ls at hl ⊢
  have hl : lv_has ls 3 [(0, .ref h), (1, .int x1), (2, .int x2)] := hl
  unfold fX0_requireReference at hf
  refine lv_aload_n hx hb dX0_requireReference_0 rfl (lv_at hl 0 rfl) ?_
  refine lv_iload_n hx hb dX0_requireReference_1 rfl (lv_at hl 1 rfl) ?_
  refine lv_iload_n hx hb dX0_requireReference_2 rfl (lv_at hl 2 rfl) ?_
  obtain ⟨v1, hv, hf⟩ := bd hf
  refine q_ci (wr := []) (va_runV (As := [.int x1, .int x2]) (rest := []) ⟨hx, hb, hml, hown, hts⟩ (ctX0_fieldKind l dC dI cI cZ cL h a1 a2 a3 a4 a5 _ w r st rc na tp cn rh sr x1 x2 v1 hv) (cwV 2 hts (gV mw_118 mw_120 mw_4 mw_38 mw_121) rfl rfl rfl (by decide +kernel) ⟨Nat.le_of_ble_eq_true rfl, Nat.le_of_ble_eq_true rfl⟩) (q_preV [.int x1, .int x2] hK hP hD [0, 1, 2, 3, 4, 5] (by decide) rfl (ci := 0) rfl rfl) rfl rfl hl.1 rfl (lv_room (Nat.le_of_ble_eq_true rfl)) dX0_requireReference_3 ⟨Nat.le_of_ble_eq_true rfl, Nat.le_of_ble_eq_true rfl⟩) hP hD hS hA [0, 1, 2, 3, 4, 5] [] rfl rfl (by decide) (by decide) (fun H locs hP hD hS => ?_)
  have hP : va_P (dC, dI) vwCl (wX cI h a1 a2 a3 a4 a5 w r st rc na tp cn rh sr) _ := hP
  have hD : va_D A (wX cI h a1 a2 a3 a4 a5 w r st rc na tp cn rh sr) := hD
  refine lv_if_ne (tgt := 19) hx hb dX0_requireReference_6 (by decide) (fun h2 => ?_) (fun h2 => ?_)
  · have hf := ifn h2 hf
    have hg0 := Option.some.inj hf
    subst hg0
    refine vx_ret ?_
    refine W.widen (k := q_mc 0) (n := q_ms 0) (Nat.zero_le _) (Nat.zero_le _) ?_
    exact W.vret hx hb hr (fun t ht hW => ⟨⟨(), rfl, rfl, by rw [ht]; exact hP, va_K.moved hW.alike hK, hD⟩, hS.F ht⟩) hS.2.2 dX0_requireReference_19 hlk
  · have hf := ift h2 hf
    have hg0 := Option.some.inj hf
    subst hg0
    exact q_throw (ef := 3) (text := "the field has a number") (names := ["java/lang/RuntimeException", "java/lang/Exception"]) hx hb hlt hown (by decide +kernel) (by decide +kernel) (hts _ (List.mem_cons_of_mem _ mw_235)) (hts _ (List.mem_cons_of_mem _ mw_46)) hT (by decide +kernel) (fun w hw => hts w (List.mem_cons_of_mem _ hw)) at_3 hN (by decide +kernel) (by decide +kernel) (by decide +kernel) hZ0 hS (hl.1.trans hml.symm) dX0_requireReference_9 dX0_requireReference_12 dX0_requireReference_13 dX0_requireReference_15 dX0_requireReference_18 hno (Nat.le_of_ble_eq_true rfl) (Nat.le_of_ble_eq_true rfl) (Nat.le_of_ble_eq_true rfl) (Nat.le_of_ble_eq_true rfl) hlk rfl (by decide) hK hP hD (Nat.le_of_ble_eq_true rfl) (Nat.le_of_ble_eq_true rfl)
end
section
set_option maxHeartbeats 4000000 in
set_option maxRecDepth 100000 in
theorem ctX0_allocate (l : Launch) (hlt : l.stackTraces = false) (dC : Nat → ClassId) (dI : Nat → Nat → Nat) (cI cZ cL : ClassId) (h a1 a2 a3 a4 a5 : Nat) (sz : Nat) (w : Nat → Int32) (r : Nat → Int32) (st : Nat → Int32) (rc : Nat → Int32) (na : Nat → Int32) (tp : Int32) (cn : Int32) (rh : Int32) (sr : Int32) (x1 : Int32) (x2 : Int32) (ef : Nat) (rs : Int32) (w' : Nat → Int32) (r' : Nat → Int32) (st' : Nat → Int32) (tp' : Int32) (cn' : Int32) (sr' : Int32) (hf : fX0_allocate w r st tp cn sr x1 x2 = some (ef, rs, w', r', st', tp', cn', sr')) : vx_Met l yX0_allocate wsX0_allocate (rmX0_allocate ef) (va_Pc [.ref h, .int x1, .int x2] (q_preX (dC, dI) vwCl (tyA cI cZ cL) RX0 q_tx sz (wX cI h a1 a2 a3 a4 a5 w r st rc na tp cn rh sr))) (va_Qi (fun r (_ : Unit) => ef = 0 ∧ r = rs) (fun _ => q_post (dC, dI) vwCl (tyA cI cZ cL) (va_A (wX cI h a1 a2 a3 a4 a5 w r st rc na tp cn rh sr) sz) (wX cI h a1 a2 a3 a4 a5 w' r' st' rc na tp' cn' rh sr')) (va_A (wX cI h a1 a2 a3 a4 a5 w r st rc na tp cn rh sr) sz)) (vx_X (fun (_ : Unit) => ¬ ef = 0) (fun E _ t => E = q_E ef ∧ q_post (dC, dI) vwCl (tyA cI cZ cL) (va_A (wX cI h a1 a2 a3 a4 a5 w r st rc na tp cn rh sr) sz) (wX cI h a1 a2 a3 a4 a5 w' r' st' rc na tp' cn' rh sr') t) (va_A (wX cI h a1 a2 a3 a4 a5 w r st rc na tp cn rh sr) sz)) (q_mc ef) (q_ms ef) (va_A (wX cI h a1 a2 a3 a4 a5 w r st rc na tp cn rh sr) sz) := by
  refine vx_ofW (cc := cX0_allocate) (maxL := 3) (ret := (some .int)) (by decide) rfl ?_
  intro p e s m args below meth c s₁ B hml hno hv
  obtain ⟨rfl, hsz, hP, hK, hD0, hZ0, hT, hN⟩ := hv
  have hx := B.exec
  have hb := B.bytes
  have hr := B.returns
  have hts := atoms_spec (ws := wsX0_allocate) B.pre
  have hown : s.vm.findClass RX0 = some m.cls := findClass_of_methodNamed B.named
  have hlk := B.notSynchronized
  subst hsz
  have hD := hD0.self (sz := s.heap.size)
  generalize hAe : va_A (wX cI h a1 a2 a3 a4 a5 w r st rc na tp cn rh sr) s.heap.size = A at hZ0 hD ⊢
  have hA : ∀ q : Nat, s.heap.size ≤ q → A q := fun q h => by rw [← hAe]; exact Or.inr h
  have hS : va_S A s.heap s.heap [] := va_S.rf
  have hl := lv_entry ([.ref h, .int x1, .int x2]) (n := 3) (Nat.le_of_ble_eq_true rfl)
  rw [lg_entry_eq]
  generalize (lg_sl ([.ref h, .int x1, .int x2]) ++ List.replicate (3 - (lg_sl ([.ref h, .int x1, .int x2])).length) Slot.unset).toArray = ls at hl ⊢
  have hl : lv_has ls 3 [(0, .ref h), (1, .int x1), (2, .int x2)] := hl
  unfold fX0_allocate at hf
  refine lv_iload_n hx hb dX0_allocate_0 rfl (lv_at hl 1 rfl) ?_
  obtain ⟨e1, hv, hf⟩ := bd hf
  by_cases he : e1 = 0
  · have hf := ift he hf
    subst he
    refine q_nv (wr := (wX cI h a1 a2 a3 a4 a5 w r st rc na tp cn rh sr)) (vx_runS (As := [.int x1]) (rest := []) ⟨hx, hb, hml, hown, hts⟩ (ctX0_requireRoot l hlt dC dI cI cZ cL _ x1 0 hv) (va_cwS 1 hts (gS mw_135 mw_136 mw_38 mw_137) rfl rfl rfl (by decide +kernel) ⟨Nat.le_of_ble_eq_true rfl, Nat.le_of_ble_eq_true rfl⟩) (q_preXS [.int x1] hK hP hD hS hA hZ0 hT hN [] (by decide) rfl) rfl rfl hl.1 rfl (lv_room (Nat.le_of_ble_eq_true rfl)) dX0_allocate_1 ⟨(q_le0 _).1, (q_le0 _).2⟩) hP hD hS hA [] [0, 1, 2, 3, 4, 5] rfl rfl (by decide) (by decide) (fun H locs hP hD hS => ?_)
    have hP : va_P (dC, dI) vwCl (wX cI h a1 a2 a3 a4 a5 w r st rc na tp cn rh sr) _ := hP
    have hD : va_D A (wX cI h a1 a2 a3 a4 a5 w r st rc na tp cn rh sr) := hD
    refine lv_iload_n hx hb dX0_allocate_4 rfl (lv_at hl 2 rfl) ?_
    obtain ⟨e2, hv, hf⟩ := bd hf
    by_cases he : e2 = 0
    · have hf := ift he hf
      subst he
      refine q_nv (wr := (wX cI h a1 a2 a3 a4 a5 w r st rc na tp cn rh sr)) (vx_runS (As := [.int x2]) (rest := []) ⟨hx, hb, hml, hown, hts⟩ (ctX0_requireFieldCount l hlt dC dI cI cZ cL _ x2 0 hv) (va_cwS 1 hts (gS mw_208 mw_209 mw_38 mw_210) rfl rfl rfl (by decide +kernel) ⟨Nat.le_of_ble_eq_true rfl, Nat.le_of_ble_eq_true rfl⟩) (q_preXS [.int x2] hK hP hD hS hA hZ0 hT hN [] (by decide) rfl) rfl rfl hl.1 rfl (lv_room (Nat.le_of_ble_eq_true rfl)) dX0_allocate_5 ⟨(q_le0 _).1, (q_le0 _).2⟩) hP hD hS hA [] [0, 1, 2, 3, 4, 5] rfl rfl (by decide) (by decide) (fun H locs hP hD hS => ?_)
      have hP : va_P (dC, dI) vwCl (wX cI h a1 a2 a3 a4 a5 w r st rc na tp cn rh sr) _ := hP
      have hD : va_D A (wX cI h a1 a2 a3 a4 a5 w r st rc na tp cn rh sr) := hD
      refine lv_aload_n hx hb dX0_allocate_8 rfl (lv_at hl 0 rfl) ?_
      refine lv_iload_n hx hb dX0_allocate_9 rfl (lv_at hl 2 rfl) ?_
      obtain ⟨e3, hv, hf⟩ := bd hf
      by_cases he : e3 = 0
      · have hf := ift he hf
        subst he
        refine q_nv (wr := []) (vx_runV (As := [.int x2]) (rest := []) ⟨hx, hb, hml, hown, hts⟩ (ctX0_requireRoom l hlt dC dI cI cZ cL h a1 a2 a3 a4 a5 _ w r st rc na tp cn rh sr x2 0 hv) (cwV 1 hts (gV mw_227 mw_229 mw_6 mw_38 mw_230) rfl rfl rfl (by decide +kernel) ⟨Nat.le_of_ble_eq_true rfl, Nat.le_of_ble_eq_true rfl⟩) (q_preXV [.int x2] hK hP hD hS hA hZ0 hT hN [0, 1, 2, 3, 4, 5] (by decide) rfl (ci := 0) rfl rfl) rfl rfl hl.1 rfl (lv_room (Nat.le_of_ble_eq_true rfl)) dX0_allocate_10 ⟨(q_le0 _).1, (q_le0 _).2⟩) hP hD hS hA [0, 1, 2, 3, 4, 5] [] rfl rfl (by decide) (by decide) (fun H locs hP hD hS => ?_)
        have hP : va_P (dC, dI) vwCl (wX cI h a1 a2 a3 a4 a5 w r st rc na tp cn rh sr) _ := hP
        have hD : va_D A (wX cI h a1 a2 a3 a4 a5 w r st rc na tp cn rh sr) := hD
        refine lv_aload_n hx hb dX0_allocate_13 rfl (lv_at hl 0 rfl) ?_
        refine lv_iload_n hx hb dX0_allocate_14 rfl (lv_at hl 1 rfl) ?_
        refine lv_iload_n hx hb dX0_allocate_15 rfl (lv_at hl 2 rfl) ?_
        obtain ⟨⟨v4, w_5, r_6, st_7, tp_8, cn_9, sr_10⟩, hv, hf⟩ := bd hf
        dsimp only at hf
        refine q_ci (wr := []) (va_runV (As := [.int x1, .int x2]) (rest := []) ⟨hx, hb, hml, hown, hts⟩ (ctX0_makeObject l dC dI cI cZ cL h a1 a2 a3 a4 a5 _ w r st rc na tp cn rh sr x1 x2 v4 w_5 r_6 st_7 tp_8 cn_9 sr_10 hv) (cwV 2 hts (gV mw_251 mw_253 mw_8 mw_38 mw_254) rfl rfl rfl (by decide +kernel) ⟨Nat.le_of_ble_eq_true rfl, Nat.le_of_ble_eq_true rfl⟩) (q_preV [.int x1, .int x2] hK hP hD [0, 1, 2, 3, 4, 5] (by decide) rfl (ci := 0) rfl rfl) rfl rfl hl.1 rfl (lv_room (Nat.le_of_ble_eq_true rfl)) dX0_allocate_16 ⟨Nat.le_of_ble_eq_true rfl, Nat.le_of_ble_eq_true rfl⟩) hP hD hS hA [0, 1, 2, 3, 4, 5] [] rfl rfl (by decide) (by decide) (fun H locs hP hD hS => ?_)
        have hP : va_P (dC, dI) vwCl (wX cI h a1 a2 a3 a4 a5 w_5 r_6 st_7 rc na tp_8 cn_9 rh sr_10) _ := hP
        have hD : va_D A (wX cI h a1 a2 a3 a4 a5 w_5 r_6 st_7 rc na tp_8 cn_9 rh sr_10) := hD
        have hg0 := Option.some.inj hf
        obtain ⟨hq1, hg1⟩ := Prod.mk.inj hg0
        subst hq1
        obtain ⟨hq2, hg2⟩ := Prod.mk.inj hg1
        subst hq2
        obtain ⟨hq3, hg3⟩ := Prod.mk.inj hg2
        subst hq3
        obtain ⟨hq4, hg4⟩ := Prod.mk.inj hg3
        subst hq4
        obtain ⟨hq5, hg5⟩ := Prod.mk.inj hg4
        subst hq5
        obtain ⟨hq6, hg6⟩ := Prod.mk.inj hg5
        subst hq6
        obtain ⟨hq7, hg7⟩ := Prod.mk.inj hg6
        subst hq7
        subst hg7
        refine vx_ret ?_
        refine W.widen (k := q_mc 0) (n := q_ms 0) (Nat.zero_le _) (Nat.zero_le _) ?_
        exact W.iret hx hb hr (fun t ht hW => ⟨⟨_, (), rfl, ⟨rfl, rfl⟩, by rw [ht]; exact hP, va_K.moved hW.alike hK, hD⟩, hS.F ht⟩) hS.2.2 dX0_allocate_19 hlk
      · have hf := ifn he hf
        have hg0 := Option.some.inj hf
        obtain ⟨hq1, hg1⟩ := Prod.mk.inj hg0
        subst hq1
        obtain ⟨hq2, hg2⟩ := Prod.mk.inj hg1
        subst hq2
        obtain ⟨hq3, hg3⟩ := Prod.mk.inj hg2
        subst hq3
        obtain ⟨hq4, hg4⟩ := Prod.mk.inj hg3
        subst hq4
        obtain ⟨hq5, hg5⟩ := Prod.mk.inj hg4
        subst hq5
        obtain ⟨hq6, hg6⟩ := Prod.mk.inj hg5
        subst hq6
        obtain ⟨hq7, hg7⟩ := Prod.mk.inj hg6
        subst hq7
        subst hg7
        refine q_tv (wr := []) he (vx_runV (As := [.int x2]) (rest := []) ⟨hx, hb, hml, hown, hts⟩ (ctX0_requireRoom l hlt dC dI cI cZ cL h a1 a2 a3 a4 a5 _ w r st rc na tp cn rh sr x2 e3 hv) (cwV 1 hts (gV mw_227 mw_229 mw_6 mw_38 mw_230) rfl rfl rfl (by decide +kernel) ⟨Nat.le_of_ble_eq_true rfl, Nat.le_of_ble_eq_true rfl⟩) (q_preXV [.int x2] hK hP hD hS hA hZ0 hT hN [0, 1, 2, 3, 4, 5] (by decide) rfl (ci := 0) rfl rfl) rfl rfl hl.1 rfl (lv_room (Nat.le_of_ble_eq_true rfl)) dX0_allocate_10 ⟨q_leC wsX0_allocate (rmX0_allocate e3) rfl, q_leS wsX0_allocate (rmX0_allocate e3) rfl⟩) hP hD hS hA [0, 1, 2, 3, 4, 5] [] rfl rfl (by decide) (by decide) (fun ce q9 H locs hP hD hS hc1 hc2 hc3 => ?_)
        have hP : va_P (dC, dI) vwCl (wX cI h a1 a2 a3 a4 a5 w r st rc na tp cn rh sr) _ := hP
        have hD : va_D A (wX cI h a1 a2 a3 a4 a5 w r st rc na tp cn rh sr) := hD
        exact vx_out (fun x hxx => (hno x hxx).elim) hlk hc1 hc2 hc3 (fun t ht hW => ⟨(), he, ⟨rfl, by rw [ht]; exact hP, va_K.moved hW hK, hD⟩, hS.F ht⟩) hS.2.2 (Nat.le_of_eq (Nat.zero_add _)) (Nat.le_of_eq (Nat.zero_add _))
    · have hf := ifn he hf
      have hg0 := Option.some.inj hf
      obtain ⟨hq1, hg1⟩ := Prod.mk.inj hg0
      subst hq1
      obtain ⟨hq2, hg2⟩ := Prod.mk.inj hg1
      subst hq2
      obtain ⟨hq3, hg3⟩ := Prod.mk.inj hg2
      subst hq3
      obtain ⟨hq4, hg4⟩ := Prod.mk.inj hg3
      subst hq4
      obtain ⟨hq5, hg5⟩ := Prod.mk.inj hg4
      subst hq5
      obtain ⟨hq6, hg6⟩ := Prod.mk.inj hg5
      subst hq6
      obtain ⟨hq7, hg7⟩ := Prod.mk.inj hg6
      subst hq7
      subst hg7
      refine q_tv (wr := (wX cI h a1 a2 a3 a4 a5 w r st rc na tp cn rh sr)) he (vx_runS (As := [.int x2]) (rest := []) ⟨hx, hb, hml, hown, hts⟩ (ctX0_requireFieldCount l hlt dC dI cI cZ cL _ x2 e2 hv) (va_cwS 1 hts (gS mw_208 mw_209 mw_38 mw_210) rfl rfl rfl (by decide +kernel) ⟨Nat.le_of_ble_eq_true rfl, Nat.le_of_ble_eq_true rfl⟩) (q_preXS [.int x2] hK hP hD hS hA hZ0 hT hN [] (by decide) rfl) rfl rfl hl.1 rfl (lv_room (Nat.le_of_ble_eq_true rfl)) dX0_allocate_5 ⟨q_leC wsX0_allocate (rmX0_allocate e2) rfl, q_leS wsX0_allocate (rmX0_allocate e2) rfl⟩) hP hD hS hA [] [0, 1, 2, 3, 4, 5] rfl rfl (by decide) (by decide) (fun ce q9 H locs hP hD hS hc1 hc2 hc3 => ?_)
      have hP : va_P (dC, dI) vwCl (wX cI h a1 a2 a3 a4 a5 w r st rc na tp cn rh sr) _ := hP
      have hD : va_D A (wX cI h a1 a2 a3 a4 a5 w r st rc na tp cn rh sr) := hD
      exact vx_out (fun x hxx => (hno x hxx).elim) hlk hc1 hc2 hc3 (fun t ht hW => ⟨(), he, ⟨rfl, by rw [ht]; exact hP, va_K.moved hW hK, hD⟩, hS.F ht⟩) hS.2.2 (Nat.le_of_eq (Nat.zero_add _)) (Nat.le_of_eq (Nat.zero_add _))
  · have hf := ifn he hf
    have hg0 := Option.some.inj hf
    obtain ⟨hq1, hg1⟩ := Prod.mk.inj hg0
    subst hq1
    obtain ⟨hq2, hg2⟩ := Prod.mk.inj hg1
    subst hq2
    obtain ⟨hq3, hg3⟩ := Prod.mk.inj hg2
    subst hq3
    obtain ⟨hq4, hg4⟩ := Prod.mk.inj hg3
    subst hq4
    obtain ⟨hq5, hg5⟩ := Prod.mk.inj hg4
    subst hq5
    obtain ⟨hq6, hg6⟩ := Prod.mk.inj hg5
    subst hq6
    obtain ⟨hq7, hg7⟩ := Prod.mk.inj hg6
    subst hq7
    subst hg7
    refine q_tv (wr := (wX cI h a1 a2 a3 a4 a5 w r st rc na tp cn rh sr)) he (vx_runS (As := [.int x1]) (rest := []) ⟨hx, hb, hml, hown, hts⟩ (ctX0_requireRoot l hlt dC dI cI cZ cL _ x1 e1 hv) (va_cwS 1 hts (gS mw_135 mw_136 mw_38 mw_137) rfl rfl rfl (by decide +kernel) ⟨Nat.le_of_ble_eq_true rfl, Nat.le_of_ble_eq_true rfl⟩) (q_preXS [.int x1] hK hP hD hS hA hZ0 hT hN [] (by decide) rfl) rfl rfl hl.1 rfl (lv_room (Nat.le_of_ble_eq_true rfl)) dX0_allocate_1 ⟨q_leC wsX0_allocate (rmX0_allocate e1) rfl, q_leS wsX0_allocate (rmX0_allocate e1) rfl⟩) hP hD hS hA [] [0, 1, 2, 3, 4, 5] rfl rfl (by decide) (by decide) (fun ce q9 H locs hP hD hS hc1 hc2 hc3 => ?_)
    have hP : va_P (dC, dI) vwCl (wX cI h a1 a2 a3 a4 a5 w r st rc na tp cn rh sr) _ := hP
    have hD : va_D A (wX cI h a1 a2 a3 a4 a5 w r st rc na tp cn rh sr) := hD
    exact vx_out (fun x hxx => (hno x hxx).elim) hlk hc1 hc2 hc3 (fun t ht hW => ⟨(), he, ⟨rfl, by rw [ht]; exact hP, va_K.moved hW hK, hD⟩, hS.F ht⟩) hS.2.2 (Nat.le_of_eq (Nat.zero_add _)) (Nat.le_of_eq (Nat.zero_add _))
end
