abbrev wL (cI cZ cL : ClassId) (h a1 a2 a3 a4 a5 hm b1 b2 b3 b4 b5 b6 b7 b8 b9 oa : Nat) (w r st rc na : Nat → Int32) (tp cn rh sr : Int32) (th mk : Int32) (us fi se ki va li : Nat → Int32) (ct : Int32) (od ne ro : Nat → Int32) (ou : Nat → Int64) : va_W := [(h, .inr (0, [.ref a1, .ref a2, .ref a3, .ref a4, .ref a5, .int tp, .int cn, .int rh, .int sr])), (a1, .inl (cI, 256, .inl w)), (a2, .inl (cI, 8, .inl r)), (a3, .inl (cI, 128, .inl st)), (a4, .inl (cI, 128, .inl rc)), (a5, .inl (cI, 256, .inl na)), (hm, .inr (1, [.int th, .int mk, .ref b1, .ref b2, .ref b3, .ref b4, .ref b5, .ref b6, .int ct, .ref b7, .ref b8, .ref b9])), (b1, .inl (cZ, 128, .inl us)), (b2, .inl (cI, 128, .inl fi)), (b3, .inl (cI, 128, .inl se)), (b4, .inl (cI, 768, .inl ki)), (b5, .inl (cI, 768, .inl va)), (b6, .inl (cZ, 128, .inl li)), (b7, .inl (cI, 128, .inl od)), (b8, .inl (cI, 128, .inl ne)), (b9, .inl (cI, 8, .inl ro)), (oa, .inl (cL, 1, .inr (.inl ou)))]
abbrev wsL_law : List Cond := Cond.initialized "ThreeCompactors" :: BG
theorem q_rc {x : Nat} (h : x ≤ 1050) : x ≤ room_1.cells := h
theorem q_rs {x : Nat} (h : x ≤ 11356) : x ≤ room_1.slots := h
theorem gW {h : Cond} {own : String} {idx : Nat} {y : MethodName} {c : ByteArray} {n : Nat} {r : Option FieldType} {hh : List (Nat × Nat × Nat × Nat)} (h1 : Cond.methodLink own idx y ∈ BG) (h2 : Cond.static y ∈ BG) (h4 : Cond.initialized y.cls ∈ BG) (hm : Cond.codeWith y c n r hh ∈ BG) : GoodIn (h :: BG) (va_wsS own idx y (.codeWith y c n r hh :: BG)) := g1 h1 (g1 h2 (g1 h4 (g1 hm (fun w hw => ⟨List.mem_cons_of_mem _ hw, good_of_word (BG_good _ hw)⟩))))
theorem q_sw {x : Int32} (h : ∃ j : Nat, j < 2 ^ 4 ∧ x = nI j) (hn : ∀ j, j < 15 → ¬ x = nI j) : x.toInt < 0 ∨ 14 < x.toInt := by
  obtain ⟨j, hj, rfl⟩ := h
  have h15 : j = 15 := by
    by_cases q : j < 15
    · exact absurd rfl (hn j q)
    · omega
  subst h15
  right
  decide
theorem q_15 {x : Int32} (h0 : ¬ x = 0) (h1 : ¬ x = 1) (h2 : ¬ x = 2) (h3 : ¬ x = 3) (h4 : ¬ x = 4) (h5 : ¬ x = 5) (h6 : ¬ x = 6) (h7 : ¬ x = 7) (h8 : ¬ x = 8) (h9 : ¬ x = 9) (h10 : ¬ x = 10) (h11 : ¬ x = 11) (h12 : ¬ x = 12) (h13 : ¬ x = 13) (h14 : ¬ x = 14) : ∀ j, j < 15 → ¬ x = nI j := by
  intro j hj
  have : j = 0 ∨ j = 1 ∨ j = 2 ∨ j = 3 ∨ j = 4 ∨ j = 5 ∨ j = 6 ∨ j = 7 ∨ j = 8 ∨ j = 9 ∨ j = 10 ∨ j = 11 ∨ j = 12 ∨ j = 13 ∨ j = 14 := by omega
  rcases this with rfl | rfl | rfl | rfl | rfl | rfl | rfl | rfl | rfl | rfl | rfl | rfl | rfl | rfl | rfl
  · exact h0
  · exact h1
  · exact h2
  · exact h3
  · exact h4
  · exact h5
  · exact h6
  · exact h7
  · exact h8
  · exact h9
  · exact h10
  · exact h11
  · exact h12
  · exact h13
  · exact h14
section QL
variable {p : Program} {l : Launch} {e : Env} {R : Room} {s : State} {m : MethodId} {args : Array Value} {below : List Frame} {meth : Method} {c : Code} {H : Heap} {locs : List Loc} {cells slots mc ms : Nat} {Q : State → Prop}
variable {cc : ByteArray} {pc : Nat} {ls : Array Slot} {rest st0 : List Value} {D : va_G} {cl : List vw_C} {A : Nat → Prop} {tys : List (ClassId × FieldType)} {ws wc wr w1 : va_W} {aa : Array Value} {own : String} {tx : List (Nat × String)} {H0 : Heap}
theorem q_sld (hexec : p.tables.exec = Jvm.exec) (hb : c.code = cc) {b L : Nat} {xs : Nat → Int32} (hX : va_X b L xs s H0) (hbl : b < H0.size) (hbA : ¬ A b) (hS : va_S A H0 H locs) {i v : Int32} (hv : ldI L xs i = some v) (hdg : decode cc pc = .ok (.iaload, 1))
    (kk : W p l e R s m args below meth c H locs cells slots Q (F0 m (pc + 1) ls (.int v :: rest))) : W p l e R s m args below meth c H locs cells slots Q (F0 m pc ls (.int i :: .ref b :: rest)) := by
  obtain ⟨h1, rfl⟩ := ldI_some hv
  exact va_sld hexec hb hX hbl hbA hS h1 hdg kk
theorem q_blindW {av : List Value} {sz : Nat} : FrameBlind (va_Pc av (q_preW D cl tys own tx sz wc)) := fun a U g mk q => by
  obtain ⟨q0, q1, qP, qK, qD, qZ, qT, qN, qC⟩ := q
  exact ⟨q0, q1, qP, va_K.moved (u := U) (U := U.calling g mk a) (Vm.Alike.refl U.vm) qK, qD, ⟨qZ.1.moved (U := U.calling g mk a) (Vm.Alike.refl U.vm), qZ.2.moved (U := U.calling g mk a) (Vm.Alike.refl U.vm)⟩, qT.same rfl, qN.same rfl, qC.moved (U := U.calling g mk a) (Vm.Alike.refl U.vm)⟩
theorem q_preWS (av : List Value) (hK : va_K D cl tys s) (hP : va_P D cl ws H) (hD : va_D A ws) (hS : va_S A s.heap H locs) (hA : ∀ q, s.heap.size ≤ q → A q) (hZ : q_Z A s s.heap) (hT : q_T own tx s) (hN : q_N s) (hC : q_C s) (isC : List Nat) (hn : va_nd isC = true) (hCC : isC.map (fun i => ws[i]?) = wc.map some) : PreS s H (va_Pc av (q_preW D cl tys own tx H.size wc)) av :=
  ⟨q_blindW, fun U hU hW => ⟨rfl, by rw [hU], by rw [hU]; exact hP.sub isC (filt isC hCC), va_K.moved hW.alike hK, (hD.sub isC hn hCC).weaken (fun _ _ _ _ => trivial), q_Z.to hZ hD hS hA isC hCC hU hW.alike, hT.warm hW, hN.warm hW, hC.moved hW.alike⟩⟩
theorem q_wi {res : Int32} (hr : vx_Run p l e R s m args below meth c H locs cells slots mc ms (F0 m pc ls st0) rest (va_Qi (fun r (_ : Unit) => (0 : Nat) = 0 ∧ r = res) (fun _ => q_post D cl tys (va_A wc H.size) w1) (va_A wc H.size) aa) (vx_X (fun (_ : Unit) => ¬ (0 : Nat) = 0) (fun E _ t => E = q_E 0 ∧ q_post D cl tys (va_A wc H.size) w1 t) (va_A wc H.size)) (va_A wc H.size)) (hP : va_P D cl ws H) (hD : va_D A ws) (hS : va_S A s.heap H locs) (hA : ∀ q, s.heap.size ≤ q → A q) (isC isR : List Nat) (hC : isC.map (fun i => ws[i]?) = wc.map some) (hR : isR.map (fun i => ws[i]?) = wr.map some) (hn : va_nd isR = true) (hdis : ∀ i ∈ isR, i ∉ isC)
    (kk : ∀ (H1 : Heap) (locs1 : List Loc), va_P D cl (wr ++ w1) H1 → va_D A (wr ++ w1) → va_S A s.heap H1 locs1 → W p l e R s m args below meth c H1 locs1 (cells + mc) (slots + ms) Q (F0 m (pc + 3) ls (.int res :: rest))) : W p l e R s m args below meth c H locs cells slots Q (F0 m pc ls st0) :=
  q_xi hr hP hD hS hA isC isR hC hR hn hdis (fun h => absurd rfl h) (fun _ H1 locs1 a1 a2 a3 => kk H1 locs1 a1 a2 a3)
end QL
theorem mw_37 : (Jvm.Cond.initialized "ThreeCompactorsLaw") ∈ BG := List.mem_filter.mpr ⟨List.mem_of_getElem? (i := 37) (by decide +kernel), by decide +kernel⟩
theorem mw_90 : (Jvm.Cond.methodLink "ThreeCompactorsLaw" (116 : Nat) ({ cls := "ThreeCompactors", name := "top", desc := "()I" } : Jvm.MethodName)) ∈ BG := List.mem_filter.mpr ⟨List.mem_of_getElem? (i := 90) (by decide +kernel), by decide +kernel⟩
theorem mw_91 : (Jvm.Cond.instanceMethod ({ cls := "ThreeCompactors", name := "top", desc := "()I" } : Jvm.MethodName)) ∈ BG := List.mem_filter.mpr ⟨List.mem_of_getElem? (i := 91) (by decide +kernel), by decide +kernel⟩
theorem mw_92 : (Jvm.Cond.selects "ThreeCompactors" ({ cls := "ThreeCompactors", name := "top", desc := "()I" } : Jvm.MethodName) ({ cls := "ThreeCompactors", name := "top", desc := "()I" } : Jvm.MethodName)) ∈ BG := List.mem_filter.mpr ⟨List.mem_of_getElem? (i := 92) (by decide +kernel), by decide +kernel⟩
theorem mw_93 : (Jvm.Cond.code ({ cls := "ThreeCompactors", name := "top", desc := "()I" } : Jvm.MethodName) prog_1_method_14_code (1 : Nat) (Option.some Jvm.ClassFile.FieldType.int)) ∈ BG := List.mem_filter.mpr ⟨List.mem_of_getElem? (i := 93) (by decide +kernel), by decide +kernel⟩
theorem mw_94 : (Jvm.Cond.methodLink "ThreeCompactorsLaw" (120 : Nat) ({ cls := "ThreeCompactors", name := "objects", desc := "()I" } : Jvm.MethodName)) ∈ BG := List.mem_filter.mpr ⟨List.mem_of_getElem? (i := 94) (by decide +kernel), by decide +kernel⟩
theorem mw_95 : (Jvm.Cond.instanceMethod ({ cls := "ThreeCompactors", name := "objects", desc := "()I" } : Jvm.MethodName)) ∈ BG := List.mem_filter.mpr ⟨List.mem_of_getElem? (i := 95) (by decide +kernel), by decide +kernel⟩
theorem mw_96 : (Jvm.Cond.selects "ThreeCompactors" ({ cls := "ThreeCompactors", name := "objects", desc := "()I" } : Jvm.MethodName) ({ cls := "ThreeCompactors", name := "objects", desc := "()I" } : Jvm.MethodName)) ∈ BG := List.mem_filter.mpr ⟨List.mem_of_getElem? (i := 96) (by decide +kernel), by decide +kernel⟩
theorem mw_97 : (Jvm.Cond.code ({ cls := "ThreeCompactors", name := "objects", desc := "()I" } : Jvm.MethodName) prog_1_method_15_code (1 : Nat) (Option.some Jvm.ClassFile.FieldType.int)) ∈ BG := List.mem_filter.mpr ⟨List.mem_of_getElem? (i := 97) (by decide +kernel), by decide +kernel⟩
theorem mw_98 : (Jvm.Cond.methodLink "ThreeCompactorsLaw" (124 : Nat) ({ cls := "ThreeCompactors", name := "alive", desc := "()I" } : Jvm.MethodName)) ∈ BG := List.mem_filter.mpr ⟨List.mem_of_getElem? (i := 98) (by decide +kernel), by decide +kernel⟩
theorem mw_99 : (Jvm.Cond.instanceMethod ({ cls := "ThreeCompactors", name := "alive", desc := "()I" } : Jvm.MethodName)) ∈ BG := List.mem_filter.mpr ⟨List.mem_of_getElem? (i := 99) (by decide +kernel), by decide +kernel⟩
theorem mw_100 : (Jvm.Cond.selects "ThreeCompactors" ({ cls := "ThreeCompactors", name := "alive", desc := "()I" } : Jvm.MethodName) ({ cls := "ThreeCompactors", name := "alive", desc := "()I" } : Jvm.MethodName)) ∈ BG := List.mem_filter.mpr ⟨List.mem_of_getElem? (i := 100) (by decide +kernel), by decide +kernel⟩
theorem mw_101 : (Jvm.Cond.code ({ cls := "ThreeCompactors", name := "alive", desc := "()I" } : Jvm.MethodName) prog_1_method_16_code (1 : Nat) (Option.some Jvm.ClassFile.FieldType.int)) ∈ BG := List.mem_filter.mpr ⟨List.mem_of_getElem? (i := 101) (by decide +kernel), by decide +kernel⟩
theorem mw_125 : (Jvm.Cond.methodLink "ThreeCompactorsLaw" (67 : Nat) ({ cls := "ThreeCompactorsLaw", name := "allocate", desc := "(LThreeCompactors;II[J)I" } : Jvm.MethodName)) ∈ BG := List.mem_filter.mpr ⟨List.mem_of_getElem? (i := 125) (by decide +kernel), by decide +kernel⟩
theorem mw_126 : (Jvm.Cond.static ({ cls := "ThreeCompactorsLaw", name := "allocate", desc := "(LThreeCompactors;II[J)I" } : Jvm.MethodName)) ∈ BG := List.mem_filter.mpr ⟨List.mem_of_getElem? (i := 126) (by decide +kernel), by decide +kernel⟩
theorem mw_127 : (Jvm.Cond.codeWith ({ cls := "ThreeCompactorsLaw", name := "allocate", desc := "(LThreeCompactors;II[J)I" } : Jvm.MethodName) method_3_code (5 : Nat) (Option.some Jvm.ClassFile.FieldType.int) [((0 : Nat), (10 : Nat), (13 : Nat), (13 : Nat)), ((0 : Nat), (10 : Nat), (17 : Nat), (15 : Nat)), ((0 : Nat), (10 : Nat), (21 : Nat), (17 : Nat))]) ∈ BG := List.mem_filter.mpr ⟨List.mem_of_getElem? (i := 127) (by decide +kernel), by decide +kernel⟩
theorem mw_255 : (Jvm.Cond.methodLink "ThreeCompactorsLaw" (77 : Nat) ({ cls := "ThreeCompactorsLaw", name := "claim", desc := "(LThreeCompactors;III[J)I" } : Jvm.MethodName)) ∈ BG := List.mem_filter.mpr ⟨List.mem_of_getElem? (i := 255) (by decide +kernel), by decide +kernel⟩
theorem mw_256 : (Jvm.Cond.static ({ cls := "ThreeCompactorsLaw", name := "claim", desc := "(LThreeCompactors;III[J)I" } : Jvm.MethodName)) ∈ BG := List.mem_filter.mpr ⟨List.mem_of_getElem? (i := 256) (by decide +kernel), by decide +kernel⟩
theorem mw_257 : (Jvm.Cond.codeWith ({ cls := "ThreeCompactorsLaw", name := "claim", desc := "(LThreeCompactors;III[J)I" } : Jvm.MethodName) method_4_code (6 : Nat) (Option.some Jvm.ClassFile.FieldType.int) [((0 : Nat), (12 : Nat), (15 : Nat), (13 : Nat)), ((0 : Nat), (12 : Nat), (19 : Nat), (15 : Nat)), ((0 : Nat), (12 : Nat), (23 : Nat), (23 : Nat)), ((0 : Nat), (12 : Nat), (27 : Nat), (17 : Nat))]) ∈ BG := List.mem_filter.mpr ⟨List.mem_of_getElem? (i := 257) (by decide +kernel), by decide +kernel⟩
theorem mw_336 : (Jvm.Cond.methodLink "ThreeCompactorsLaw" (81 : Nat) ({ cls := "ThreeCompactorsLaw", name := "compact", desc := "(LThreeCompactors;I[J)I" } : Jvm.MethodName)) ∈ BG := List.mem_filter.mpr ⟨List.mem_of_getElem? (i := 336) (by decide +kernel), by decide +kernel⟩
theorem mw_337 : (Jvm.Cond.static ({ cls := "ThreeCompactorsLaw", name := "compact", desc := "(LThreeCompactors;I[J)I" } : Jvm.MethodName)) ∈ BG := List.mem_filter.mpr ⟨List.mem_of_getElem? (i := 337) (by decide +kernel), by decide +kernel⟩
theorem mw_338 : (Jvm.Cond.codeWith ({ cls := "ThreeCompactorsLaw", name := "compact", desc := "(LThreeCompactors;I[J)I" } : Jvm.MethodName) method_5_code (4 : Nat) (Option.some Jvm.ClassFile.FieldType.int) [((0 : Nat), (9 : Nat), (12 : Nat), (15 : Nat)), ((0 : Nat), (9 : Nat), (15 : Nat), (23 : Nat))]) ∈ BG := List.mem_filter.mpr ⟨List.mem_of_getElem? (i := 338) (by decide +kernel), by decide +kernel⟩
theorem mw_343 : (Jvm.Cond.methodLink "ThreeCompactorsLaw" (85 : Nat) ({ cls := "ThreeCompactorsLaw", name := "copy", desc := "(LThreeCompactors;II)I" } : Jvm.MethodName)) ∈ BG := List.mem_filter.mpr ⟨List.mem_of_getElem? (i := 343) (by decide +kernel), by decide +kernel⟩
theorem mw_344 : (Jvm.Cond.static ({ cls := "ThreeCompactorsLaw", name := "copy", desc := "(LThreeCompactors;II)I" } : Jvm.MethodName)) ∈ BG := List.mem_filter.mpr ⟨List.mem_of_getElem? (i := 344) (by decide +kernel), by decide +kernel⟩
theorem mw_345 : (Jvm.Cond.codeWith ({ cls := "ThreeCompactorsLaw", name := "copy", desc := "(LThreeCompactors;II)I" } : Jvm.MethodName) method_6_code (4 : Nat) (Option.some Jvm.ClassFile.FieldType.int) [((0 : Nat), (6 : Nat), (9 : Nat), (13 : Nat))]) ∈ BG := List.mem_filter.mpr ⟨List.mem_of_getElem? (i := 345) (by decide +kernel), by decide +kernel⟩
theorem mw_350 : (Jvm.Cond.methodLink "ThreeCompactorsLaw" (89 : Nat) ({ cls := "ThreeCompactorsLaw", name := "clear", desc := "(LThreeCompactors;I)I" } : Jvm.MethodName)) ∈ BG := List.mem_filter.mpr ⟨List.mem_of_getElem? (i := 350) (by decide +kernel), by decide +kernel⟩
theorem mw_351 : (Jvm.Cond.static ({ cls := "ThreeCompactorsLaw", name := "clear", desc := "(LThreeCompactors;I)I" } : Jvm.MethodName)) ∈ BG := List.mem_filter.mpr ⟨List.mem_of_getElem? (i := 351) (by decide +kernel), by decide +kernel⟩
theorem mw_352 : (Jvm.Cond.codeWith ({ cls := "ThreeCompactorsLaw", name := "clear", desc := "(LThreeCompactors;I)I" } : Jvm.MethodName) method_7_code (3 : Nat) (Option.some Jvm.ClassFile.FieldType.int) [((0 : Nat), (5 : Nat), (8 : Nat), (13 : Nat))]) ∈ BG := List.mem_filter.mpr ⟨List.mem_of_getElem? (i := 352) (by decide +kernel), by decide +kernel⟩
theorem mw_357 : (Jvm.Cond.methodLink "ThreeCompactorsLaw" (93 : Nat) ({ cls := "ThreeCompactorsLaw", name := "put", desc := "(LThreeCompactors;III)I" } : Jvm.MethodName)) ∈ BG := List.mem_filter.mpr ⟨List.mem_of_getElem? (i := 357) (by decide +kernel), by decide +kernel⟩
theorem mw_358 : (Jvm.Cond.static ({ cls := "ThreeCompactorsLaw", name := "put", desc := "(LThreeCompactors;III)I" } : Jvm.MethodName)) ∈ BG := List.mem_filter.mpr ⟨List.mem_of_getElem? (i := 358) (by decide +kernel), by decide +kernel⟩
theorem mw_359 : (Jvm.Cond.codeWith ({ cls := "ThreeCompactorsLaw", name := "put", desc := "(LThreeCompactors;III)I" } : Jvm.MethodName) method_8_code (5 : Nat) (Option.some Jvm.ClassFile.FieldType.int) [((0 : Nat), (7 : Nat), (10 : Nat), (13 : Nat)), ((0 : Nat), (7 : Nat), (14 : Nat), (41 : Nat))]) ∈ BG := List.mem_filter.mpr ⟨List.mem_of_getElem? (i := 359) (by decide +kernel), by decide +kernel⟩
theorem mw_390 : (Jvm.Cond.methodLink "ThreeCompactorsLaw" (97 : Nat) ({ cls := "ThreeCompactorsLaw", name := "refer", desc := "(LThreeCompactors;IIIZ)I" } : Jvm.MethodName)) ∈ BG := List.mem_filter.mpr ⟨List.mem_of_getElem? (i := 390) (by decide +kernel), by decide +kernel⟩
theorem mw_391 : (Jvm.Cond.static ({ cls := "ThreeCompactorsLaw", name := "refer", desc := "(LThreeCompactors;IIIZ)I" } : Jvm.MethodName)) ∈ BG := List.mem_filter.mpr ⟨List.mem_of_getElem? (i := 391) (by decide +kernel), by decide +kernel⟩
theorem mw_392 : (Jvm.Cond.codeWith ({ cls := "ThreeCompactorsLaw", name := "refer", desc := "(LThreeCompactors;IIIZ)I" } : Jvm.MethodName) method_9_code (6 : Nat) (Option.some Jvm.ClassFile.FieldType.int) [((0 : Nat), (9 : Nat), (12 : Nat), (13 : Nat)), ((0 : Nat), (9 : Nat), (16 : Nat), (41 : Nat))]) ∈ BG := List.mem_filter.mpr ⟨List.mem_of_getElem? (i := 392) (by decide +kernel), by decide +kernel⟩
theorem mw_397 : (Jvm.Cond.methodLink "ThreeCompactorsLaw" (101 : Nat) ({ cls := "ThreeCompactorsLaw", name := "follow", desc := "(LThreeCompactors;III[J)I" } : Jvm.MethodName)) ∈ BG := List.mem_filter.mpr ⟨List.mem_of_getElem? (i := 397) (by decide +kernel), by decide +kernel⟩
theorem mw_398 : (Jvm.Cond.static ({ cls := "ThreeCompactorsLaw", name := "follow", desc := "(LThreeCompactors;III[J)I" } : Jvm.MethodName)) ∈ BG := List.mem_filter.mpr ⟨List.mem_of_getElem? (i := 398) (by decide +kernel), by decide +kernel⟩
theorem mw_399 : (Jvm.Cond.codeWith ({ cls := "ThreeCompactorsLaw", name := "follow", desc := "(LThreeCompactors;III[J)I" } : Jvm.MethodName) method_10_code (6 : Nat) (Option.some Jvm.ClassFile.FieldType.int) [((0 : Nat), (19 : Nat), (22 : Nat), (13 : Nat)), ((0 : Nat), (19 : Nat), (26 : Nat), (41 : Nat)), ((0 : Nat), (19 : Nat), (30 : Nat), (17 : Nat))]) ∈ BG := List.mem_filter.mpr ⟨List.mem_of_getElem? (i := 399) (by decide +kernel), by decide +kernel⟩
theorem mw_409 : (Jvm.Cond.methodLink "ThreeCompactorsLaw" (104 : Nat) ({ cls := "ThreeCompactorsLaw", name := "kind", desc := "(LThreeCompactors;II[J)I" } : Jvm.MethodName)) ∈ BG := List.mem_filter.mpr ⟨List.mem_of_getElem? (i := 409) (by decide +kernel), by decide +kernel⟩
theorem mw_410 : (Jvm.Cond.static ({ cls := "ThreeCompactorsLaw", name := "kind", desc := "(LThreeCompactors;II[J)I" } : Jvm.MethodName)) ∈ BG := List.mem_filter.mpr ⟨List.mem_of_getElem? (i := 410) (by decide +kernel), by decide +kernel⟩
theorem mw_411 : (Jvm.Cond.codeWith ({ cls := "ThreeCompactorsLaw", name := "kind", desc := "(LThreeCompactors;II[J)I" } : Jvm.MethodName) method_11_code (5 : Nat) (Option.some Jvm.ClassFile.FieldType.int) [((0 : Nat), (10 : Nat), (13 : Nat), (13 : Nat)), ((0 : Nat), (10 : Nat), (17 : Nat), (41 : Nat))]) ∈ BG := List.mem_filter.mpr ⟨List.mem_of_getElem? (i := 411) (by decide +kernel), by decide +kernel⟩
theorem mw_416 : (Jvm.Cond.methodLink "ThreeCompactorsLaw" (107 : Nat) ({ cls := "ThreeCompactorsLaw", name := "serial", desc := "(LThreeCompactors;I[J)I" } : Jvm.MethodName)) ∈ BG := List.mem_filter.mpr ⟨List.mem_of_getElem? (i := 416) (by decide +kernel), by decide +kernel⟩
theorem mw_417 : (Jvm.Cond.static ({ cls := "ThreeCompactorsLaw", name := "serial", desc := "(LThreeCompactors;I[J)I" } : Jvm.MethodName)) ∈ BG := List.mem_filter.mpr ⟨List.mem_of_getElem? (i := 417) (by decide +kernel), by decide +kernel⟩
theorem mw_418 : (Jvm.Cond.codeWith ({ cls := "ThreeCompactorsLaw", name := "serial", desc := "(LThreeCompactors;I[J)I" } : Jvm.MethodName) method_12_code (4 : Nat) (Option.some Jvm.ClassFile.FieldType.int) [((0 : Nat), (9 : Nat), (12 : Nat), (13 : Nat))]) ∈ BG := List.mem_filter.mpr ⟨List.mem_of_getElem? (i := 418) (by decide +kernel), by decide +kernel⟩
theorem mw_423 : (Jvm.Cond.methodLink "ThreeCompactorsLaw" (110 : Nat) ({ cls := "ThreeCompactorsLaw", name := "address", desc := "(LThreeCompactors;I[J)I" } : Jvm.MethodName)) ∈ BG := List.mem_filter.mpr ⟨List.mem_of_getElem? (i := 423) (by decide +kernel), by decide +kernel⟩
theorem mw_424 : (Jvm.Cond.static ({ cls := "ThreeCompactorsLaw", name := "address", desc := "(LThreeCompactors;I[J)I" } : Jvm.MethodName)) ∈ BG := List.mem_filter.mpr ⟨List.mem_of_getElem? (i := 424) (by decide +kernel), by decide +kernel⟩
theorem mw_425 : (Jvm.Cond.codeWith ({ cls := "ThreeCompactorsLaw", name := "address", desc := "(LThreeCompactors;I[J)I" } : Jvm.MethodName) method_13_code (4 : Nat) (Option.some Jvm.ClassFile.FieldType.int) [((0 : Nat), (9 : Nat), (12 : Nat), (13 : Nat))]) ∈ BG := List.mem_filter.mpr ⟨List.mem_of_getElem? (i := 425) (by decide +kernel), by decide +kernel⟩
theorem mw_430 : (Jvm.Cond.methodLink "ThreeCompactorsLaw" (113 : Nat) ({ cls := "ThreeCompactorsLaw", name := "word", desc := "(LThreeCompactors;I[J)I" } : Jvm.MethodName)) ∈ BG := List.mem_filter.mpr ⟨List.mem_of_getElem? (i := 430) (by decide +kernel), by decide +kernel⟩
theorem mw_431 : (Jvm.Cond.static ({ cls := "ThreeCompactorsLaw", name := "word", desc := "(LThreeCompactors;I[J)I" } : Jvm.MethodName)) ∈ BG := List.mem_filter.mpr ⟨List.mem_of_getElem? (i := 431) (by decide +kernel), by decide +kernel⟩
theorem mw_432 : (Jvm.Cond.codeWith ({ cls := "ThreeCompactorsLaw", name := "word", desc := "(LThreeCompactors;I[J)I" } : Jvm.MethodName) method_14_code (4 : Nat) (Option.some Jvm.ClassFile.FieldType.int) [((0 : Nat), (9 : Nat), (12 : Nat), (13 : Nat))]) ∈ BG := List.mem_filter.mpr ⟨List.mem_of_getElem? (i := 432) (by decide +kernel), by decide +kernel⟩
theorem mw_482 : (Jvm.Cond.methodLink "ThreeCompactorsLaw" (73 : Nat) ({ cls := "ThreeCompactorsModel", name := "thrown", desc := "()I" } : Jvm.MethodName)) ∈ BG := List.mem_filter.mpr ⟨List.mem_of_getElem? (i := 482) (by decide +kernel), by decide +kernel⟩
theorem mw_483 : (Jvm.Cond.instanceMethod ({ cls := "ThreeCompactorsModel", name := "thrown", desc := "()I" } : Jvm.MethodName)) ∈ BG := List.mem_filter.mpr ⟨List.mem_of_getElem? (i := 483) (by decide +kernel), by decide +kernel⟩
theorem mw_484 : (Jvm.Cond.selects "ThreeCompactorsModel" ({ cls := "ThreeCompactorsModel", name := "thrown", desc := "()I" } : Jvm.MethodName) ({ cls := "ThreeCompactorsModel", name := "thrown", desc := "()I" } : Jvm.MethodName)) ∈ BG := List.mem_filter.mpr ⟨List.mem_of_getElem? (i := 484) (by decide +kernel), by decide +kernel⟩
theorem mw_485 : (Jvm.Cond.code ({ cls := "ThreeCompactorsModel", name := "thrown", desc := "()I" } : Jvm.MethodName) prog_3_method_2_code (1 : Nat) (Option.some Jvm.ClassFile.FieldType.int)) ∈ BG := List.mem_filter.mpr ⟨List.mem_of_getElem? (i := 485) (by decide +kernel), by decide +kernel⟩
theorem mw_486 : (Jvm.Cond.methodLink "ThreeCompactorsLaw" (84 : Nat) ({ cls := "ThreeCompactorsModel", name := "compact", desc := "(I)I" } : Jvm.MethodName)) ∈ BG := List.mem_filter.mpr ⟨List.mem_of_getElem? (i := 486) (by decide +kernel), by decide +kernel⟩
theorem mw_487 : (Jvm.Cond.instanceMethod ({ cls := "ThreeCompactorsModel", name := "compact", desc := "(I)I" } : Jvm.MethodName)) ∈ BG := List.mem_filter.mpr ⟨List.mem_of_getElem? (i := 487) (by decide +kernel), by decide +kernel⟩
theorem mw_488 : (Jvm.Cond.selects "ThreeCompactorsModel" ({ cls := "ThreeCompactorsModel", name := "compact", desc := "(I)I" } : Jvm.MethodName) ({ cls := "ThreeCompactorsModel", name := "compact", desc := "(I)I" } : Jvm.MethodName)) ∈ BG := List.mem_filter.mpr ⟨List.mem_of_getElem? (i := 488) (by decide +kernel), by decide +kernel⟩
theorem mw_489 : (Jvm.Cond.code ({ cls := "ThreeCompactorsModel", name := "compact", desc := "(I)I" } : Jvm.MethodName) prog_3_method_12_code (3 : Nat) (Option.some Jvm.ClassFile.FieldType.int)) ∈ BG := List.mem_filter.mpr ⟨List.mem_of_getElem? (i := 489) (by decide +kernel), by decide +kernel⟩
theorem mw_522 : (Jvm.Cond.methodLink "ThreeCompactorsLaw" (72 : Nat) ({ cls := "ThreeCompactorsModel", name := "allocate", desc := "(II)I" } : Jvm.MethodName)) ∈ BG := List.mem_filter.mpr ⟨List.mem_of_getElem? (i := 522) (by decide +kernel), by decide +kernel⟩
theorem mw_523 : (Jvm.Cond.instanceMethod ({ cls := "ThreeCompactorsModel", name := "allocate", desc := "(II)I" } : Jvm.MethodName)) ∈ BG := List.mem_filter.mpr ⟨List.mem_of_getElem? (i := 523) (by decide +kernel), by decide +kernel⟩
theorem mw_524 : (Jvm.Cond.selects "ThreeCompactorsModel" ({ cls := "ThreeCompactorsModel", name := "allocate", desc := "(II)I" } : Jvm.MethodName) ({ cls := "ThreeCompactorsModel", name := "allocate", desc := "(II)I" } : Jvm.MethodName)) ∈ BG := List.mem_filter.mpr ⟨List.mem_of_getElem? (i := 524) (by decide +kernel), by decide +kernel⟩
theorem mw_525 : (Jvm.Cond.code ({ cls := "ThreeCompactorsModel", name := "allocate", desc := "(II)I" } : Jvm.MethodName) prog_3_method_17_code (3 : Nat) (Option.some Jvm.ClassFile.FieldType.int)) ∈ BG := List.mem_filter.mpr ⟨List.mem_of_getElem? (i := 525) (by decide +kernel), by decide +kernel⟩
theorem mw_540 : (Jvm.Cond.methodLink "ThreeCompactorsLaw" (80 : Nat) ({ cls := "ThreeCompactorsModel", name := "claim", desc := "(III)I" } : Jvm.MethodName)) ∈ BG := List.mem_filter.mpr ⟨List.mem_of_getElem? (i := 540) (by decide +kernel), by decide +kernel⟩
theorem mw_541 : (Jvm.Cond.instanceMethod ({ cls := "ThreeCompactorsModel", name := "claim", desc := "(III)I" } : Jvm.MethodName)) ∈ BG := List.mem_filter.mpr ⟨List.mem_of_getElem? (i := 541) (by decide +kernel), by decide +kernel⟩
theorem mw_542 : (Jvm.Cond.selects "ThreeCompactorsModel" ({ cls := "ThreeCompactorsModel", name := "claim", desc := "(III)I" } : Jvm.MethodName) ({ cls := "ThreeCompactorsModel", name := "claim", desc := "(III)I" } : Jvm.MethodName)) ∈ BG := List.mem_filter.mpr ⟨List.mem_of_getElem? (i := 542) (by decide +kernel), by decide +kernel⟩
theorem mw_543 : (Jvm.Cond.code ({ cls := "ThreeCompactorsModel", name := "claim", desc := "(III)I" } : Jvm.MethodName) prog_3_method_18_code (4 : Nat) (Option.some Jvm.ClassFile.FieldType.int)) ∈ BG := List.mem_filter.mpr ⟨List.mem_of_getElem? (i := 543) (by decide +kernel), by decide +kernel⟩
theorem mw_544 : (Jvm.Cond.methodLink "ThreeCompactorsLaw" (88 : Nat) ({ cls := "ThreeCompactorsModel", name := "copy", desc := "(II)V" } : Jvm.MethodName)) ∈ BG := List.mem_filter.mpr ⟨List.mem_of_getElem? (i := 544) (by decide +kernel), by decide +kernel⟩
theorem mw_545 : (Jvm.Cond.instanceMethod ({ cls := "ThreeCompactorsModel", name := "copy", desc := "(II)V" } : Jvm.MethodName)) ∈ BG := List.mem_filter.mpr ⟨List.mem_of_getElem? (i := 545) (by decide +kernel), by decide +kernel⟩
theorem mw_546 : (Jvm.Cond.selects "ThreeCompactorsModel" ({ cls := "ThreeCompactorsModel", name := "copy", desc := "(II)V" } : Jvm.MethodName) ({ cls := "ThreeCompactorsModel", name := "copy", desc := "(II)V" } : Jvm.MethodName)) ∈ BG := List.mem_filter.mpr ⟨List.mem_of_getElem? (i := 546) (by decide +kernel), by decide +kernel⟩
theorem mw_547 : (Jvm.Cond.code ({ cls := "ThreeCompactorsModel", name := "copy", desc := "(II)V" } : Jvm.MethodName) prog_3_method_19_code (3 : Nat) (Option.none : Option Jvm.ClassFile.FieldType)) ∈ BG := List.mem_filter.mpr ⟨List.mem_of_getElem? (i := 547) (by decide +kernel), by decide +kernel⟩
theorem mw_548 : (Jvm.Cond.methodLink "ThreeCompactorsLaw" (92 : Nat) ({ cls := "ThreeCompactorsModel", name := "clear", desc := "(I)V" } : Jvm.MethodName)) ∈ BG := List.mem_filter.mpr ⟨List.mem_of_getElem? (i := 548) (by decide +kernel), by decide +kernel⟩
theorem mw_549 : (Jvm.Cond.instanceMethod ({ cls := "ThreeCompactorsModel", name := "clear", desc := "(I)V" } : Jvm.MethodName)) ∈ BG := List.mem_filter.mpr ⟨List.mem_of_getElem? (i := 549) (by decide +kernel), by decide +kernel⟩
theorem mw_550 : (Jvm.Cond.selects "ThreeCompactorsModel" ({ cls := "ThreeCompactorsModel", name := "clear", desc := "(I)V" } : Jvm.MethodName) ({ cls := "ThreeCompactorsModel", name := "clear", desc := "(I)V" } : Jvm.MethodName)) ∈ BG := List.mem_filter.mpr ⟨List.mem_of_getElem? (i := 550) (by decide +kernel), by decide +kernel⟩
theorem mw_551 : (Jvm.Cond.code ({ cls := "ThreeCompactorsModel", name := "clear", desc := "(I)V" } : Jvm.MethodName) prog_3_method_20_code (2 : Nat) (Option.none : Option Jvm.ClassFile.FieldType)) ∈ BG := List.mem_filter.mpr ⟨List.mem_of_getElem? (i := 551) (by decide +kernel), by decide +kernel⟩
theorem mw_552 : (Jvm.Cond.methodLink "ThreeCompactorsLaw" (96 : Nat) ({ cls := "ThreeCompactorsModel", name := "put", desc := "(III)V" } : Jvm.MethodName)) ∈ BG := List.mem_filter.mpr ⟨List.mem_of_getElem? (i := 552) (by decide +kernel), by decide +kernel⟩
theorem mw_553 : (Jvm.Cond.instanceMethod ({ cls := "ThreeCompactorsModel", name := "put", desc := "(III)V" } : Jvm.MethodName)) ∈ BG := List.mem_filter.mpr ⟨List.mem_of_getElem? (i := 553) (by decide +kernel), by decide +kernel⟩
theorem mw_554 : (Jvm.Cond.selects "ThreeCompactorsModel" ({ cls := "ThreeCompactorsModel", name := "put", desc := "(III)V" } : Jvm.MethodName) ({ cls := "ThreeCompactorsModel", name := "put", desc := "(III)V" } : Jvm.MethodName)) ∈ BG := List.mem_filter.mpr ⟨List.mem_of_getElem? (i := 554) (by decide +kernel), by decide +kernel⟩
theorem mw_555 : (Jvm.Cond.code ({ cls := "ThreeCompactorsModel", name := "put", desc := "(III)V" } : Jvm.MethodName) prog_3_method_23_code (4 : Nat) (Option.none : Option Jvm.ClassFile.FieldType)) ∈ BG := List.mem_filter.mpr ⟨List.mem_of_getElem? (i := 555) (by decide +kernel), by decide +kernel⟩
theorem mw_564 : (Jvm.Cond.methodLink "ThreeCompactorsLaw" (100 : Nat) ({ cls := "ThreeCompactorsModel", name := "refer", desc := "(IIIZ)V" } : Jvm.MethodName)) ∈ BG := List.mem_filter.mpr ⟨List.mem_of_getElem? (i := 564) (by decide +kernel), by decide +kernel⟩
theorem mw_565 : (Jvm.Cond.instanceMethod ({ cls := "ThreeCompactorsModel", name := "refer", desc := "(IIIZ)V" } : Jvm.MethodName)) ∈ BG := List.mem_filter.mpr ⟨List.mem_of_getElem? (i := 565) (by decide +kernel), by decide +kernel⟩
theorem mw_566 : (Jvm.Cond.selects "ThreeCompactorsModel" ({ cls := "ThreeCompactorsModel", name := "refer", desc := "(IIIZ)V" } : Jvm.MethodName) ({ cls := "ThreeCompactorsModel", name := "refer", desc := "(IIIZ)V" } : Jvm.MethodName)) ∈ BG := List.mem_filter.mpr ⟨List.mem_of_getElem? (i := 566) (by decide +kernel), by decide +kernel⟩
theorem mw_567 : (Jvm.Cond.code ({ cls := "ThreeCompactorsModel", name := "refer", desc := "(IIIZ)V" } : Jvm.MethodName) prog_3_method_24_code (5 : Nat) (Option.none : Option Jvm.ClassFile.FieldType)) ∈ BG := List.mem_filter.mpr ⟨List.mem_of_getElem? (i := 567) (by decide +kernel), by decide +kernel⟩
theorem mw_568 : (Jvm.Cond.methodLink "ThreeCompactorsLaw" (103 : Nat) ({ cls := "ThreeCompactorsModel", name := "follow", desc := "(III)Z" } : Jvm.MethodName)) ∈ BG := List.mem_filter.mpr ⟨List.mem_of_getElem? (i := 568) (by decide +kernel), by decide +kernel⟩
theorem mw_569 : (Jvm.Cond.instanceMethod ({ cls := "ThreeCompactorsModel", name := "follow", desc := "(III)Z" } : Jvm.MethodName)) ∈ BG := List.mem_filter.mpr ⟨List.mem_of_getElem? (i := 569) (by decide +kernel), by decide +kernel⟩
theorem mw_570 : (Jvm.Cond.selects "ThreeCompactorsModel" ({ cls := "ThreeCompactorsModel", name := "follow", desc := "(III)Z" } : Jvm.MethodName) ({ cls := "ThreeCompactorsModel", name := "follow", desc := "(III)Z" } : Jvm.MethodName)) ∈ BG := List.mem_filter.mpr ⟨List.mem_of_getElem? (i := 570) (by decide +kernel), by decide +kernel⟩
theorem mw_571 : (Jvm.Cond.code ({ cls := "ThreeCompactorsModel", name := "follow", desc := "(III)Z" } : Jvm.MethodName) prog_3_method_25_code (4 : Nat) (Option.some Jvm.ClassFile.FieldType.boolean)) ∈ BG := List.mem_filter.mpr ⟨List.mem_of_getElem? (i := 571) (by decide +kernel), by decide +kernel⟩
theorem mw_572 : (Jvm.Cond.methodLink "ThreeCompactorsLaw" (106 : Nat) ({ cls := "ThreeCompactorsModel", name := "kind", desc := "(II)I" } : Jvm.MethodName)) ∈ BG := List.mem_filter.mpr ⟨List.mem_of_getElem? (i := 572) (by decide +kernel), by decide +kernel⟩
theorem mw_573 : (Jvm.Cond.instanceMethod ({ cls := "ThreeCompactorsModel", name := "kind", desc := "(II)I" } : Jvm.MethodName)) ∈ BG := List.mem_filter.mpr ⟨List.mem_of_getElem? (i := 573) (by decide +kernel), by decide +kernel⟩
theorem mw_574 : (Jvm.Cond.selects "ThreeCompactorsModel" ({ cls := "ThreeCompactorsModel", name := "kind", desc := "(II)I" } : Jvm.MethodName) ({ cls := "ThreeCompactorsModel", name := "kind", desc := "(II)I" } : Jvm.MethodName)) ∈ BG := List.mem_filter.mpr ⟨List.mem_of_getElem? (i := 574) (by decide +kernel), by decide +kernel⟩
theorem mw_575 : (Jvm.Cond.code ({ cls := "ThreeCompactorsModel", name := "kind", desc := "(II)I" } : Jvm.MethodName) prog_3_method_26_code (3 : Nat) (Option.some Jvm.ClassFile.FieldType.int)) ∈ BG := List.mem_filter.mpr ⟨List.mem_of_getElem? (i := 575) (by decide +kernel), by decide +kernel⟩
theorem mw_576 : (Jvm.Cond.methodLink "ThreeCompactorsLaw" (109 : Nat) ({ cls := "ThreeCompactorsModel", name := "serial", desc := "(I)I" } : Jvm.MethodName)) ∈ BG := List.mem_filter.mpr ⟨List.mem_of_getElem? (i := 576) (by decide +kernel), by decide +kernel⟩
theorem mw_577 : (Jvm.Cond.instanceMethod ({ cls := "ThreeCompactorsModel", name := "serial", desc := "(I)I" } : Jvm.MethodName)) ∈ BG := List.mem_filter.mpr ⟨List.mem_of_getElem? (i := 577) (by decide +kernel), by decide +kernel⟩
theorem mw_578 : (Jvm.Cond.selects "ThreeCompactorsModel" ({ cls := "ThreeCompactorsModel", name := "serial", desc := "(I)I" } : Jvm.MethodName) ({ cls := "ThreeCompactorsModel", name := "serial", desc := "(I)I" } : Jvm.MethodName)) ∈ BG := List.mem_filter.mpr ⟨List.mem_of_getElem? (i := 578) (by decide +kernel), by decide +kernel⟩
theorem mw_579 : (Jvm.Cond.code ({ cls := "ThreeCompactorsModel", name := "serial", desc := "(I)I" } : Jvm.MethodName) prog_3_method_27_code (2 : Nat) (Option.some Jvm.ClassFile.FieldType.int)) ∈ BG := List.mem_filter.mpr ⟨List.mem_of_getElem? (i := 579) (by decide +kernel), by decide +kernel⟩
theorem mw_580 : (Jvm.Cond.methodLink "ThreeCompactorsLaw" (112 : Nat) ({ cls := "ThreeCompactorsModel", name := "address", desc := "(I)I" } : Jvm.MethodName)) ∈ BG := List.mem_filter.mpr ⟨List.mem_of_getElem? (i := 580) (by decide +kernel), by decide +kernel⟩
theorem mw_581 : (Jvm.Cond.instanceMethod ({ cls := "ThreeCompactorsModel", name := "address", desc := "(I)I" } : Jvm.MethodName)) ∈ BG := List.mem_filter.mpr ⟨List.mem_of_getElem? (i := 581) (by decide +kernel), by decide +kernel⟩
theorem mw_582 : (Jvm.Cond.selects "ThreeCompactorsModel" ({ cls := "ThreeCompactorsModel", name := "address", desc := "(I)I" } : Jvm.MethodName) ({ cls := "ThreeCompactorsModel", name := "address", desc := "(I)I" } : Jvm.MethodName)) ∈ BG := List.mem_filter.mpr ⟨List.mem_of_getElem? (i := 582) (by decide +kernel), by decide +kernel⟩
theorem mw_583 : (Jvm.Cond.code ({ cls := "ThreeCompactorsModel", name := "address", desc := "(I)I" } : Jvm.MethodName) prog_3_method_28_code (2 : Nat) (Option.some Jvm.ClassFile.FieldType.int)) ∈ BG := List.mem_filter.mpr ⟨List.mem_of_getElem? (i := 583) (by decide +kernel), by decide +kernel⟩
theorem mw_588 : (Jvm.Cond.methodLink "ThreeCompactorsLaw" (115 : Nat) ({ cls := "ThreeCompactorsModel", name := "word", desc := "(I)I" } : Jvm.MethodName)) ∈ BG := List.mem_filter.mpr ⟨List.mem_of_getElem? (i := 588) (by decide +kernel), by decide +kernel⟩
theorem mw_589 : (Jvm.Cond.instanceMethod ({ cls := "ThreeCompactorsModel", name := "word", desc := "(I)I" } : Jvm.MethodName)) ∈ BG := List.mem_filter.mpr ⟨List.mem_of_getElem? (i := 589) (by decide +kernel), by decide +kernel⟩
theorem mw_590 : (Jvm.Cond.selects "ThreeCompactorsModel" ({ cls := "ThreeCompactorsModel", name := "word", desc := "(I)I" } : Jvm.MethodName) ({ cls := "ThreeCompactorsModel", name := "word", desc := "(I)I" } : Jvm.MethodName)) ∈ BG := List.mem_filter.mpr ⟨List.mem_of_getElem? (i := 590) (by decide +kernel), by decide +kernel⟩
theorem mw_591 : (Jvm.Cond.code ({ cls := "ThreeCompactorsModel", name := "word", desc := "(I)I" } : Jvm.MethodName) prog_3_method_30_code (5 : Nat) (Option.some Jvm.ClassFile.FieldType.int)) ∈ BG := List.mem_filter.mpr ⟨List.mem_of_getElem? (i := 591) (by decide +kernel), by decide +kernel⟩
theorem mw_596 : (Jvm.Cond.methodLink "ThreeCompactorsLaw" (119 : Nat) ({ cls := "ThreeCompactorsModel", name := "top", desc := "()I" } : Jvm.MethodName)) ∈ BG := List.mem_filter.mpr ⟨List.mem_of_getElem? (i := 596) (by decide +kernel), by decide +kernel⟩
theorem mw_597 : (Jvm.Cond.instanceMethod ({ cls := "ThreeCompactorsModel", name := "top", desc := "()I" } : Jvm.MethodName)) ∈ BG := List.mem_filter.mpr ⟨List.mem_of_getElem? (i := 597) (by decide +kernel), by decide +kernel⟩
theorem mw_598 : (Jvm.Cond.selects "ThreeCompactorsModel" ({ cls := "ThreeCompactorsModel", name := "top", desc := "()I" } : Jvm.MethodName) ({ cls := "ThreeCompactorsModel", name := "top", desc := "()I" } : Jvm.MethodName)) ∈ BG := List.mem_filter.mpr ⟨List.mem_of_getElem? (i := 598) (by decide +kernel), by decide +kernel⟩
theorem mw_599 : (Jvm.Cond.code ({ cls := "ThreeCompactorsModel", name := "top", desc := "()I" } : Jvm.MethodName) prog_3_method_31_code (1 : Nat) (Option.some Jvm.ClassFile.FieldType.int)) ∈ BG := List.mem_filter.mpr ⟨List.mem_of_getElem? (i := 599) (by decide +kernel), by decide +kernel⟩
theorem mw_600 : (Jvm.Cond.methodLink "ThreeCompactorsLaw" (123 : Nat) ({ cls := "ThreeCompactorsModel", name := "objects", desc := "()I" } : Jvm.MethodName)) ∈ BG := List.mem_filter.mpr ⟨List.mem_of_getElem? (i := 600) (by decide +kernel), by decide +kernel⟩
theorem mw_601 : (Jvm.Cond.instanceMethod ({ cls := "ThreeCompactorsModel", name := "objects", desc := "()I" } : Jvm.MethodName)) ∈ BG := List.mem_filter.mpr ⟨List.mem_of_getElem? (i := 601) (by decide +kernel), by decide +kernel⟩
theorem mw_602 : (Jvm.Cond.selects "ThreeCompactorsModel" ({ cls := "ThreeCompactorsModel", name := "objects", desc := "()I" } : Jvm.MethodName) ({ cls := "ThreeCompactorsModel", name := "objects", desc := "()I" } : Jvm.MethodName)) ∈ BG := List.mem_filter.mpr ⟨List.mem_of_getElem? (i := 602) (by decide +kernel), by decide +kernel⟩
theorem mw_603 : (Jvm.Cond.code ({ cls := "ThreeCompactorsModel", name := "objects", desc := "()I" } : Jvm.MethodName) prog_3_method_32_code (1 : Nat) (Option.some Jvm.ClassFile.FieldType.int)) ∈ BG := List.mem_filter.mpr ⟨List.mem_of_getElem? (i := 603) (by decide +kernel), by decide +kernel⟩
theorem mw_604 : (Jvm.Cond.methodLink "ThreeCompactorsLaw" (127 : Nat) ({ cls := "ThreeCompactorsModel", name := "alive", desc := "()I" } : Jvm.MethodName)) ∈ BG := List.mem_filter.mpr ⟨List.mem_of_getElem? (i := 604) (by decide +kernel), by decide +kernel⟩
theorem mw_605 : (Jvm.Cond.instanceMethod ({ cls := "ThreeCompactorsModel", name := "alive", desc := "()I" } : Jvm.MethodName)) ∈ BG := List.mem_filter.mpr ⟨List.mem_of_getElem? (i := 605) (by decide +kernel), by decide +kernel⟩
theorem mw_606 : (Jvm.Cond.selects "ThreeCompactorsModel" ({ cls := "ThreeCompactorsModel", name := "alive", desc := "()I" } : Jvm.MethodName) ({ cls := "ThreeCompactorsModel", name := "alive", desc := "()I" } : Jvm.MethodName)) ∈ BG := List.mem_filter.mpr ⟨List.mem_of_getElem? (i := 606) (by decide +kernel), by decide +kernel⟩
theorem mw_607 : (Jvm.Cond.code ({ cls := "ThreeCompactorsModel", name := "alive", desc := "()I" } : Jvm.MethodName) prog_3_method_33_code (1 : Nat) (Option.some Jvm.ClassFile.FieldType.int)) ∈ BG := List.mem_filter.mpr ⟨List.mem_of_getElem? (i := 607) (by decide +kernel), by decide +kernel⟩
def fL_law (xs : Nat → Int32) (L : Nat) : Nat → Int32 → (Nat → Int32) → (Nat → Int32) → (Nat → Int32) → (Nat → Int32) → (Nat → Int32) → Int32 → Int32 → Int32 → Int32 → Int32 → Int32 → (Nat → Int32) → (Nat → Int32) → (Nat → Int32) → (Nat → Int32) → (Nat → Int32) → (Nat → Int32) → Int32 → (Nat → Int32) → (Nat → Int32) → (Nat → Int32) → (Nat → Int64) → Option (Int32 × (Nat → Int32) × (Nat → Int32) × (Nat → Int32) × (Nat → Int32) × (Nat → Int32) × Int32 × Int32 × Int32 × Int32 × Int32 × Int32 × (Nat → Int32) × (Nat → Int32) × (Nat → Int32) × (Nat → Int32) × (Nat → Int32) × (Nat → Int32) × Int32 × (Nat → Int32) × (Nat → Int32) × (Nat → Int32) × (Nat → Int64))
  | 0 => fun _ _ _ _ _ _ _ _ _ _ _ _ _ _ _ _ _ _ _ _ _ _ _ => none
  | n + 1 => fun (x4_ : Int32) (w : Nat → Int32) (r : Nat → Int32) (st : Nat → Int32) (rc : Nat → Int32) (na : Nat → Int32) (tp : Int32) (cn : Int32) (rh : Int32) (sr : Int32) (th : Int32) (mk : Int32) (us : Nat → Int32) (fi : Nat → Int32) (se : Nat → Int32) (ki : Nat → Int32) (va : Nat → Int32) (li : Nat → Int32) (ct : Int32) (od : Nat → Int32) (ne : Nat → Int32) (ro : Nat → Int32) (ou : Nat → Int64) =>
    if ((Int32.ofNat L) - (5 : Int32)) < x4_ then
      some (x4_, w, r, st, rc, na, tp, cn, rh, sr, th, mk, us, fi, se, ki, va, li, ct, od, ne, ro, ou)
    else
      (ldI L xs x4_).bind fun v2 =>
      if v2 &&& (15 : Int32) = (0 : Int32) then
        (ldI L xs (x4_ + (1 : Int32))).bind fun v4 =>
        (ldI L xs (x4_ + (2 : Int32))).bind fun v5 =>
        (fL_allocate w r st tp cn sr ou v4 v5).bind fun (v6, w_7, r_8, st_9, tp_10, cn_11, sr_12, ou_13) =>
        (ldI L xs (x4_ + (1 : Int32))).bind fun v14 =>
        (ldI L xs (x4_ + (2 : Int32))).bind fun v15 =>
        (fX1_allocate th mk us fi se ki va ct od ro v14 v15).bind fun (v16, th_17, mk_18, us_19, fi_20, se_21, ki_22, va_23, ct_24, od_25, ro_26) =>
        (fX1_thrown th_17 ).bind fun v27 =>
        if v27 = v6 then
          if v6 = (0 : Int32) then
            (ldL 1 ou_13 (0 : Int32)).bind fun v30 =>
            if (lg_cmp v30 v16.toInt64) = (0 : Int32) then
              fL_law xs L n (x4_ + (5 : Int32)) w_7 r_8 st_9 rc na tp_10 cn_11 rh sr_12 th_17 mk_18 us_19 fi_20 se_21 ki_22 va_23 li ct_24 od_25 ne ro_26 ou_13
            else
              none
          else
            fL_law xs L n (x4_ + (5 : Int32)) w_7 r_8 st_9 rc na tp_10 cn_11 rh sr_12 th_17 mk_18 us_19 fi_20 se_21 ki_22 va_23 li ct_24 od_25 ne ro_26 ou_13
        else
          none
      else
        if v2 &&& (15 : Int32) = (1 : Int32) then
          (ldI L xs (x4_ + (1 : Int32))).bind fun v32 =>
          (ldI L xs (x4_ + (2 : Int32))).bind fun v33 =>
          (ldI L xs (x4_ + (3 : Int32))).bind fun v34 =>
          (fL_claim w r st rc na tp cn rh sr ou v32 v33 v34).bind fun (v35, w_36, r_37, st_38, rc_39, na_40, tp_41, cn_42, rh_43, sr_44, ou_45) =>
          (ldI L xs (x4_ + (1 : Int32))).bind fun v46 =>
          (ldI L xs (x4_ + (2 : Int32))).bind fun v47 =>
          (ldI L xs (x4_ + (3 : Int32))).bind fun v48 =>
          (fX1_claim th mk us fi se ki va li ct od ne ro v46 v47 v48).bind fun (v49, th_50, mk_51, us_52, fi_53, se_54, ki_55, va_56, li_57, ct_58, od_59, ne_60, ro_61) =>
          (fX1_thrown th_50 ).bind fun v62 =>
          if v62 = v35 then
            if v35 = (0 : Int32) then
              (ldL 1 ou_45 (0 : Int32)).bind fun v65 =>
              if (lg_cmp v65 v49.toInt64) = (0 : Int32) then
                fL_law xs L n (x4_ + (5 : Int32)) w_36 r_37 st_38 rc_39 na_40 tp_41 cn_42 rh_43 sr_44 th_50 mk_51 us_52 fi_53 se_54 ki_55 va_56 li_57 ct_58 od_59 ne_60 ro_61 ou_45
              else
                none
            else
              fL_law xs L n (x4_ + (5 : Int32)) w_36 r_37 st_38 rc_39 na_40 tp_41 cn_42 rh_43 sr_44 th_50 mk_51 us_52 fi_53 se_54 ki_55 va_56 li_57 ct_58 od_59 ne_60 ro_61 ou_45
          else
            none
        else
          if v2 &&& (15 : Int32) = (2 : Int32) then
            (ldI L xs (x4_ + (1 : Int32))).bind fun v67 =>
            (fL_compact w r st rc na tp cn rh ou v67).bind fun (v68, w_69, r_70, st_71, rc_72, na_73, tp_74, cn_75, rh_76, ou_77) =>
            (ldI L xs (x4_ + (1 : Int32))).bind fun v78 =>
            (fX1_compact th us fi ki va li ct od ne ro v78).bind fun (v79, th_80, us_81, va_82, li_83, ct_84, od_85, ne_86) =>
            (fX1_thrown th_80 ).bind fun v87 =>
            if v87 = v68 then
              if v68 = (0 : Int32) then
                (ldL 1 ou_77 (0 : Int32)).bind fun v90 =>
                if (lg_cmp v90 v79.toInt64) = (0 : Int32) then
                  fL_law xs L n (x4_ + (5 : Int32)) w_69 r_70 st_71 rc_72 na_73 tp_74 cn_75 rh_76 sr th_80 mk us_81 fi se ki va_82 li_83 ct_84 od_85 ne_86 ro ou_77
                else
                  none
              else
                fL_law xs L n (x4_ + (5 : Int32)) w_69 r_70 st_71 rc_72 na_73 tp_74 cn_75 rh_76 sr th_80 mk us_81 fi se ki va_82 li_83 ct_84 od_85 ne_86 ro ou_77
            else
              none
          else
            if v2 &&& (15 : Int32) = (3 : Int32) then
              (ldI L xs (x4_ + (1 : Int32))).bind fun v92 =>
              (ldI L xs (x4_ + (2 : Int32))).bind fun v93 =>
              (fL_copy r v92 v93).bind fun (v94, r_95) =>
              (ldI L xs (x4_ + (1 : Int32))).bind fun v96 =>
              (ldI L xs (x4_ + (2 : Int32))).bind fun v97 =>
              (fX1_copy th ro v96 v97).bind fun (th_98, ro_99) =>
              (fX1_thrown th_98 ).bind fun v100 =>
              if v100 = v94 then
                fL_law xs L n (x4_ + (5 : Int32)) w r_95 st rc na tp cn rh sr th_98 mk us fi se ki va li ct od ne ro_99 ou
              else
                none
            else
              if v2 &&& (15 : Int32) = (4 : Int32) then
                (ldI L xs (x4_ + (1 : Int32))).bind fun v102 =>
                (fL_clear r v102).bind fun (v103, r_104) =>
                (ldI L xs (x4_ + (1 : Int32))).bind fun v105 =>
                (fX1_clear th ro v105).bind fun (th_106, ro_107) =>
                (fX1_thrown th_106 ).bind fun v108 =>
                if v108 = v103 then
                  fL_law xs L n (x4_ + (5 : Int32)) w r_104 st rc na tp cn rh sr th_106 mk us fi se ki va li ct od ne ro_107 ou
                else
                  none
              else
                if v2 &&& (15 : Int32) = (5 : Int32) then
                  (ldI L xs (x4_ + (1 : Int32))).bind fun v110 =>
                  (ldI L xs (x4_ + (2 : Int32))).bind fun v111 =>
                  (ldI L xs (x4_ + (3 : Int32))).bind fun v112 =>
                  (fL_put w r v110 v111 v112).bind fun (v113, w_114) =>
                  (ldI L xs (x4_ + (1 : Int32))).bind fun v115 =>
                  (ldI L xs (x4_ + (2 : Int32))).bind fun v116 =>
                  (ldI L xs (x4_ + (3 : Int32))).bind fun v117 =>
                  (fX1_put th fi ki va ro v115 v116 v117).bind fun (th_118, ki_119, va_120) =>
                  (fX1_thrown th_118 ).bind fun v121 =>
                  if v121 = v113 then
                    fL_law xs L n (x4_ + (5 : Int32)) w_114 r st rc na tp cn rh sr th_118 mk us fi se ki_119 va_120 li ct od ne ro ou
                  else
                    none
                else
                  if v2 &&& (15 : Int32) = (6 : Int32) then
                    (ldI L xs (x4_ + (1 : Int32))).bind fun v123 =>
                    (ldI L xs (x4_ + (2 : Int32))).bind fun v124 =>
                    (ldI L xs (x4_ + (3 : Int32))).bind fun v125 =>
                    (ldI L xs (x4_ + (4 : Int32))).bind fun v126 =>
                    if v126 = (0 : Int32) then
                      (fL_refer w r v123 v124 v125 (0 : Int32)).bind fun (v128, w_129) =>
                      (ldI L xs (x4_ + (1 : Int32))).bind fun v130 =>
                      (ldI L xs (x4_ + (2 : Int32))).bind fun v131 =>
                      (ldI L xs (x4_ + (3 : Int32))).bind fun v132 =>
                      (ldI L xs (x4_ + (4 : Int32))).bind fun v133 =>
                      if v133 = (0 : Int32) then
                        (fX1_refer th fi ki va ro v130 v131 v132 (0 : Int32)).bind fun (th_135, ki_136, va_137) =>
                        (fX1_thrown th_135 ).bind fun v138 =>
                        if v138 = v128 then
                          fL_law xs L n (x4_ + (5 : Int32)) w_129 r st rc na tp cn rh sr th_135 mk us fi se ki_136 va_137 li ct od ne ro ou
                        else
                          none
                      else
                        (fX1_refer th fi ki va ro v130 v131 v132 (1 : Int32)).bind fun (th_140, ki_141, va_142) =>
                        (fX1_thrown th_140 ).bind fun v143 =>
                        if v143 = v128 then
                          fL_law xs L n (x4_ + (5 : Int32)) w_129 r st rc na tp cn rh sr th_140 mk us fi se ki_141 va_142 li ct od ne ro ou
                        else
                          none
                    else
                      (fL_refer w r v123 v124 v125 (1 : Int32)).bind fun (v145, w_146) =>
                      (ldI L xs (x4_ + (1 : Int32))).bind fun v147 =>
                      (ldI L xs (x4_ + (2 : Int32))).bind fun v148 =>
                      (ldI L xs (x4_ + (3 : Int32))).bind fun v149 =>
                      (ldI L xs (x4_ + (4 : Int32))).bind fun v150 =>
                      if v150 = (0 : Int32) then
                        (fX1_refer th fi ki va ro v147 v148 v149 (0 : Int32)).bind fun (th_152, ki_153, va_154) =>
                        (fX1_thrown th_152 ).bind fun v155 =>
                        if v155 = v145 then
                          fL_law xs L n (x4_ + (5 : Int32)) w_146 r st rc na tp cn rh sr th_152 mk us fi se ki_153 va_154 li ct od ne ro ou
                        else
                          none
                      else
                        (fX1_refer th fi ki va ro v147 v148 v149 (1 : Int32)).bind fun (th_157, ki_158, va_159) =>
                        (fX1_thrown th_157 ).bind fun v160 =>
                        if v160 = v145 then
                          fL_law xs L n (x4_ + (5 : Int32)) w_146 r st rc na tp cn rh sr th_157 mk us fi se ki_158 va_159 li ct od ne ro ou
                        else
                          none
                  else
                    if v2 &&& (15 : Int32) = (7 : Int32) then
                      (ldI L xs (x4_ + (1 : Int32))).bind fun v162 =>
                      (ldI L xs (x4_ + (2 : Int32))).bind fun v163 =>
                      (ldI L xs (x4_ + (3 : Int32))).bind fun v164 =>
                      (fL_follow w r ou v162 v163 v164).bind fun (v165, r_166, ou_167) =>
                      (ldI L xs (x4_ + (1 : Int32))).bind fun v168 =>
                      (ldI L xs (x4_ + (2 : Int32))).bind fun v169 =>
                      (ldI L xs (x4_ + (3 : Int32))).bind fun v170 =>
                      (fX1_follow th fi ki va ro v168 v169 v170).bind fun (v171, th_172, ro_173) =>
                      (fX1_thrown th_172 ).bind fun v174 =>
                      if v174 = v165 then
                        if v165 = (0 : Int32) then
                          (ldL 1 ou_167 (0 : Int32)).bind fun v177 =>
                          if v171 = (0 : Int32) then
                            if (lg_cmp v177 0) = (0 : Int32) then
                              fL_law xs L n (x4_ + (5 : Int32)) w r_166 st rc na tp cn rh sr th_172 mk us fi se ki va li ct od ne ro_173 ou_167
                            else
                              none
                          else
                            if (lg_cmp v177 1) = (0 : Int32) then
                              fL_law xs L n (x4_ + (5 : Int32)) w r_166 st rc na tp cn rh sr th_172 mk us fi se ki va li ct od ne ro_173 ou_167
                            else
                              none
                        else
                          fL_law xs L n (x4_ + (5 : Int32)) w r_166 st rc na tp cn rh sr th_172 mk us fi se ki va li ct od ne ro_173 ou_167
                      else
                        none
                    else
                      if v2 &&& (15 : Int32) = (8 : Int32) then
                        (ldI L xs (x4_ + (1 : Int32))).bind fun v181 =>
                        (ldI L xs (x4_ + (2 : Int32))).bind fun v182 =>
                        (fL_kind w r ou v181 v182).bind fun (v183, ou_184) =>
                        (ldI L xs (x4_ + (1 : Int32))).bind fun v185 =>
                        (ldI L xs (x4_ + (2 : Int32))).bind fun v186 =>
                        (fX1_kind th fi ki ro v185 v186).bind fun (v187, th_188) =>
                        (fX1_thrown th_188 ).bind fun v189 =>
                        if v189 = v183 then
                          if v183 = (0 : Int32) then
                            (ldL 1 ou_184 (0 : Int32)).bind fun v192 =>
                            if (lg_cmp v192 v187.toInt64) = (0 : Int32) then
                              fL_law xs L n (x4_ + (5 : Int32)) w r st rc na tp cn rh sr th_188 mk us fi se ki va li ct od ne ro ou_184
                            else
                              none
                          else
                            fL_law xs L n (x4_ + (5 : Int32)) w r st rc na tp cn rh sr th_188 mk us fi se ki va li ct od ne ro ou_184
                        else
                          none
                      else
                        if v2 &&& (15 : Int32) = (9 : Int32) then
                          (ldI L xs (x4_ + (1 : Int32))).bind fun v194 =>
                          (fL_serial w r ou v194).bind fun (v195, ou_196) =>
                          (ldI L xs (x4_ + (1 : Int32))).bind fun v197 =>
                          (fX1_serial th se ro v197).bind fun (v198, th_199) =>
                          (fX1_thrown th_199 ).bind fun v200 =>
                          if v200 = v195 then
                            if v195 = (0 : Int32) then
                              (ldL 1 ou_196 (0 : Int32)).bind fun v203 =>
                              if (lg_cmp v203 v198.toInt64) = (0 : Int32) then
                                fL_law xs L n (x4_ + (5 : Int32)) w r st rc na tp cn rh sr th_199 mk us fi se ki va li ct od ne ro ou_196
                              else
                                none
                            else
                              fL_law xs L n (x4_ + (5 : Int32)) w r st rc na tp cn rh sr th_199 mk us fi se ki va li ct od ne ro ou_196
                          else
                            none
                        else
                          if v2 &&& (15 : Int32) = (10 : Int32) then
                            (ldI L xs (x4_ + (1 : Int32))).bind fun v205 =>
                            (fL_address r ou v205).bind fun (v206, ou_207) =>
                            (ldI L xs (x4_ + (1 : Int32))).bind fun v208 =>
                            (fX1_address th fi ct od ro v208).bind fun (v209, th_210) =>
                            (fX1_thrown th_210 ).bind fun v211 =>
                            if v211 = v206 then
                              if v206 = (0 : Int32) then
                                (ldL 1 ou_207 (0 : Int32)).bind fun v214 =>
                                if (lg_cmp v214 v209.toInt64) = (0 : Int32) then
                                  fL_law xs L n (x4_ + (5 : Int32)) w r st rc na tp cn rh sr th_210 mk us fi se ki va li ct od ne ro ou_207
                                else
                                  none
                              else
                                fL_law xs L n (x4_ + (5 : Int32)) w r st rc na tp cn rh sr th_210 mk us fi se ki va li ct od ne ro ou_207
                            else
                              none
                          else
                            if v2 &&& (15 : Int32) = (11 : Int32) then
                              (ldI L xs (x4_ + (1 : Int32))).bind fun v216 =>
                              (fL_word w ou v216).bind fun (v217, ou_218) =>
                              (ldI L xs (x4_ + (1 : Int32))).bind fun v219 =>
                              (fX1_word th fi se ki va ct od v219).bind fun (v220, th_221) =>
                              (fX1_thrown th_221 ).bind fun v222 =>
                              if v222 = v217 then
                                if v217 = (0 : Int32) then
                                  (ldL 1 ou_218 (0 : Int32)).bind fun v225 =>
                                  if (lg_cmp v225 v220.toInt64) = (0 : Int32) then
                                    fL_law xs L n (x4_ + (5 : Int32)) w r st rc na tp cn rh sr th_221 mk us fi se ki va li ct od ne ro ou_218
                                  else
                                    none
                                else
                                  fL_law xs L n (x4_ + (5 : Int32)) w r st rc na tp cn rh sr th_221 mk us fi se ki va li ct od ne ro ou_218
                              else
                                none
                            else
                              if v2 &&& (15 : Int32) = (12 : Int32) then
                                (fX0_top tp ).bind fun v227 =>
                                (fX1_top th fi ct od ).bind fun (v228, th_229) =>
                                if v227 = v228 then
                                  fL_law xs L n (x4_ + (5 : Int32)) w r st rc na tp cn rh sr th_229 mk us fi se ki va li ct od ne ro ou
                                else
                                  none
                              else
                                if v2 &&& (15 : Int32) = (13 : Int32) then
                                  (fX0_objects cn ).bind fun v231 =>
                                  (fX1_objects th ct ).bind fun (v232, th_233) =>
                                  if v231 = v232 then
                                    fL_law xs L n (x4_ + (5 : Int32)) w r st rc na tp cn rh sr th_233 mk us fi se ki va li ct od ne ro ou
                                  else
                                    none
                                else
                                  if v2 &&& (15 : Int32) = (14 : Int32) then
                                    (fX0_alive w r rc na rh ).bind fun (v235, rc_236, na_237, rh_238) =>
                                    (fX1_alive th fi ki va li ct od ro ).bind fun (v239, th_240, li_241) =>
                                    if v235 = v239 then
                                      fL_law xs L n (x4_ + (5 : Int32)) w r st rc_236 na_237 tp cn rh_238 sr th_240 mk us fi se ki va li_241 ct od ne ro ou
                                    else
                                      none
                                  else
                                    fL_law xs L n (x4_ + (5 : Int32)) w r st rc na tp cn rh sr th mk us fi se ki va li ct od ne ro ou
theorem fL_law_s (xs : Nat → Int32) (L : Nat) (n : Nat) (x4_ : Int32) (w : Nat → Int32) (r : Nat → Int32) (st : Nat → Int32) (rc : Nat → Int32) (na : Nat → Int32) (tp : Int32) (cn : Int32) (rh : Int32) (sr : Int32) (th : Int32) (mk : Int32) (us : Nat → Int32) (fi : Nat → Int32) (se : Nat → Int32) (ki : Nat → Int32) (va : Nat → Int32) (li : Nat → Int32) (ct : Int32) (od : Nat → Int32) (ne : Nat → Int32) (ro : Nat → Int32) (ou : Nat → Int64) : fL_law xs L (n + 1) x4_ w r st rc na tp cn rh sr th mk us fi se ki va li ct od ne ro ou = (
    if ((Int32.ofNat L) - (5 : Int32)) < x4_ then
      some (x4_, w, r, st, rc, na, tp, cn, rh, sr, th, mk, us, fi, se, ki, va, li, ct, od, ne, ro, ou)
    else
      (ldI L xs x4_).bind fun v2 =>
      if v2 &&& (15 : Int32) = (0 : Int32) then
        (ldI L xs (x4_ + (1 : Int32))).bind fun v4 =>
        (ldI L xs (x4_ + (2 : Int32))).bind fun v5 =>
        (fL_allocate w r st tp cn sr ou v4 v5).bind fun (v6, w_7, r_8, st_9, tp_10, cn_11, sr_12, ou_13) =>
        (ldI L xs (x4_ + (1 : Int32))).bind fun v14 =>
        (ldI L xs (x4_ + (2 : Int32))).bind fun v15 =>
        (fX1_allocate th mk us fi se ki va ct od ro v14 v15).bind fun (v16, th_17, mk_18, us_19, fi_20, se_21, ki_22, va_23, ct_24, od_25, ro_26) =>
        (fX1_thrown th_17 ).bind fun v27 =>
        if v27 = v6 then
          if v6 = (0 : Int32) then
            (ldL 1 ou_13 (0 : Int32)).bind fun v30 =>
            if (lg_cmp v30 v16.toInt64) = (0 : Int32) then
              fL_law xs L n (x4_ + (5 : Int32)) w_7 r_8 st_9 rc na tp_10 cn_11 rh sr_12 th_17 mk_18 us_19 fi_20 se_21 ki_22 va_23 li ct_24 od_25 ne ro_26 ou_13
            else
              none
          else
            fL_law xs L n (x4_ + (5 : Int32)) w_7 r_8 st_9 rc na tp_10 cn_11 rh sr_12 th_17 mk_18 us_19 fi_20 se_21 ki_22 va_23 li ct_24 od_25 ne ro_26 ou_13
        else
          none
      else
        if v2 &&& (15 : Int32) = (1 : Int32) then
          (ldI L xs (x4_ + (1 : Int32))).bind fun v32 =>
          (ldI L xs (x4_ + (2 : Int32))).bind fun v33 =>
          (ldI L xs (x4_ + (3 : Int32))).bind fun v34 =>
          (fL_claim w r st rc na tp cn rh sr ou v32 v33 v34).bind fun (v35, w_36, r_37, st_38, rc_39, na_40, tp_41, cn_42, rh_43, sr_44, ou_45) =>
          (ldI L xs (x4_ + (1 : Int32))).bind fun v46 =>
          (ldI L xs (x4_ + (2 : Int32))).bind fun v47 =>
          (ldI L xs (x4_ + (3 : Int32))).bind fun v48 =>
          (fX1_claim th mk us fi se ki va li ct od ne ro v46 v47 v48).bind fun (v49, th_50, mk_51, us_52, fi_53, se_54, ki_55, va_56, li_57, ct_58, od_59, ne_60, ro_61) =>
          (fX1_thrown th_50 ).bind fun v62 =>
          if v62 = v35 then
            if v35 = (0 : Int32) then
              (ldL 1 ou_45 (0 : Int32)).bind fun v65 =>
              if (lg_cmp v65 v49.toInt64) = (0 : Int32) then
                fL_law xs L n (x4_ + (5 : Int32)) w_36 r_37 st_38 rc_39 na_40 tp_41 cn_42 rh_43 sr_44 th_50 mk_51 us_52 fi_53 se_54 ki_55 va_56 li_57 ct_58 od_59 ne_60 ro_61 ou_45
              else
                none
            else
              fL_law xs L n (x4_ + (5 : Int32)) w_36 r_37 st_38 rc_39 na_40 tp_41 cn_42 rh_43 sr_44 th_50 mk_51 us_52 fi_53 se_54 ki_55 va_56 li_57 ct_58 od_59 ne_60 ro_61 ou_45
          else
            none
        else
          if v2 &&& (15 : Int32) = (2 : Int32) then
            (ldI L xs (x4_ + (1 : Int32))).bind fun v67 =>
            (fL_compact w r st rc na tp cn rh ou v67).bind fun (v68, w_69, r_70, st_71, rc_72, na_73, tp_74, cn_75, rh_76, ou_77) =>
            (ldI L xs (x4_ + (1 : Int32))).bind fun v78 =>
            (fX1_compact th us fi ki va li ct od ne ro v78).bind fun (v79, th_80, us_81, va_82, li_83, ct_84, od_85, ne_86) =>
            (fX1_thrown th_80 ).bind fun v87 =>
            if v87 = v68 then
              if v68 = (0 : Int32) then
                (ldL 1 ou_77 (0 : Int32)).bind fun v90 =>
                if (lg_cmp v90 v79.toInt64) = (0 : Int32) then
                  fL_law xs L n (x4_ + (5 : Int32)) w_69 r_70 st_71 rc_72 na_73 tp_74 cn_75 rh_76 sr th_80 mk us_81 fi se ki va_82 li_83 ct_84 od_85 ne_86 ro ou_77
                else
                  none
              else
                fL_law xs L n (x4_ + (5 : Int32)) w_69 r_70 st_71 rc_72 na_73 tp_74 cn_75 rh_76 sr th_80 mk us_81 fi se ki va_82 li_83 ct_84 od_85 ne_86 ro ou_77
            else
              none
          else
            if v2 &&& (15 : Int32) = (3 : Int32) then
              (ldI L xs (x4_ + (1 : Int32))).bind fun v92 =>
              (ldI L xs (x4_ + (2 : Int32))).bind fun v93 =>
              (fL_copy r v92 v93).bind fun (v94, r_95) =>
              (ldI L xs (x4_ + (1 : Int32))).bind fun v96 =>
              (ldI L xs (x4_ + (2 : Int32))).bind fun v97 =>
              (fX1_copy th ro v96 v97).bind fun (th_98, ro_99) =>
              (fX1_thrown th_98 ).bind fun v100 =>
              if v100 = v94 then
                fL_law xs L n (x4_ + (5 : Int32)) w r_95 st rc na tp cn rh sr th_98 mk us fi se ki va li ct od ne ro_99 ou
              else
                none
            else
              if v2 &&& (15 : Int32) = (4 : Int32) then
                (ldI L xs (x4_ + (1 : Int32))).bind fun v102 =>
                (fL_clear r v102).bind fun (v103, r_104) =>
                (ldI L xs (x4_ + (1 : Int32))).bind fun v105 =>
                (fX1_clear th ro v105).bind fun (th_106, ro_107) =>
                (fX1_thrown th_106 ).bind fun v108 =>
                if v108 = v103 then
                  fL_law xs L n (x4_ + (5 : Int32)) w r_104 st rc na tp cn rh sr th_106 mk us fi se ki va li ct od ne ro_107 ou
                else
                  none
              else
                if v2 &&& (15 : Int32) = (5 : Int32) then
                  (ldI L xs (x4_ + (1 : Int32))).bind fun v110 =>
                  (ldI L xs (x4_ + (2 : Int32))).bind fun v111 =>
                  (ldI L xs (x4_ + (3 : Int32))).bind fun v112 =>
                  (fL_put w r v110 v111 v112).bind fun (v113, w_114) =>
                  (ldI L xs (x4_ + (1 : Int32))).bind fun v115 =>
                  (ldI L xs (x4_ + (2 : Int32))).bind fun v116 =>
                  (ldI L xs (x4_ + (3 : Int32))).bind fun v117 =>
                  (fX1_put th fi ki va ro v115 v116 v117).bind fun (th_118, ki_119, va_120) =>
                  (fX1_thrown th_118 ).bind fun v121 =>
                  if v121 = v113 then
                    fL_law xs L n (x4_ + (5 : Int32)) w_114 r st rc na tp cn rh sr th_118 mk us fi se ki_119 va_120 li ct od ne ro ou
                  else
                    none
                else
                  if v2 &&& (15 : Int32) = (6 : Int32) then
                    (ldI L xs (x4_ + (1 : Int32))).bind fun v123 =>
                    (ldI L xs (x4_ + (2 : Int32))).bind fun v124 =>
                    (ldI L xs (x4_ + (3 : Int32))).bind fun v125 =>
                    (ldI L xs (x4_ + (4 : Int32))).bind fun v126 =>
                    if v126 = (0 : Int32) then
                      (fL_refer w r v123 v124 v125 (0 : Int32)).bind fun (v128, w_129) =>
                      (ldI L xs (x4_ + (1 : Int32))).bind fun v130 =>
                      (ldI L xs (x4_ + (2 : Int32))).bind fun v131 =>
                      (ldI L xs (x4_ + (3 : Int32))).bind fun v132 =>
                      (ldI L xs (x4_ + (4 : Int32))).bind fun v133 =>
                      if v133 = (0 : Int32) then
                        (fX1_refer th fi ki va ro v130 v131 v132 (0 : Int32)).bind fun (th_135, ki_136, va_137) =>
                        (fX1_thrown th_135 ).bind fun v138 =>
                        if v138 = v128 then
                          fL_law xs L n (x4_ + (5 : Int32)) w_129 r st rc na tp cn rh sr th_135 mk us fi se ki_136 va_137 li ct od ne ro ou
                        else
                          none
                      else
                        (fX1_refer th fi ki va ro v130 v131 v132 (1 : Int32)).bind fun (th_140, ki_141, va_142) =>
                        (fX1_thrown th_140 ).bind fun v143 =>
                        if v143 = v128 then
                          fL_law xs L n (x4_ + (5 : Int32)) w_129 r st rc na tp cn rh sr th_140 mk us fi se ki_141 va_142 li ct od ne ro ou
                        else
                          none
                    else
                      (fL_refer w r v123 v124 v125 (1 : Int32)).bind fun (v145, w_146) =>
                      (ldI L xs (x4_ + (1 : Int32))).bind fun v147 =>
                      (ldI L xs (x4_ + (2 : Int32))).bind fun v148 =>
                      (ldI L xs (x4_ + (3 : Int32))).bind fun v149 =>
                      (ldI L xs (x4_ + (4 : Int32))).bind fun v150 =>
                      if v150 = (0 : Int32) then
                        (fX1_refer th fi ki va ro v147 v148 v149 (0 : Int32)).bind fun (th_152, ki_153, va_154) =>
                        (fX1_thrown th_152 ).bind fun v155 =>
                        if v155 = v145 then
                          fL_law xs L n (x4_ + (5 : Int32)) w_146 r st rc na tp cn rh sr th_152 mk us fi se ki_153 va_154 li ct od ne ro ou
                        else
                          none
                      else
                        (fX1_refer th fi ki va ro v147 v148 v149 (1 : Int32)).bind fun (th_157, ki_158, va_159) =>
                        (fX1_thrown th_157 ).bind fun v160 =>
                        if v160 = v145 then
                          fL_law xs L n (x4_ + (5 : Int32)) w_146 r st rc na tp cn rh sr th_157 mk us fi se ki_158 va_159 li ct od ne ro ou
                        else
                          none
                  else
                    if v2 &&& (15 : Int32) = (7 : Int32) then
                      (ldI L xs (x4_ + (1 : Int32))).bind fun v162 =>
                      (ldI L xs (x4_ + (2 : Int32))).bind fun v163 =>
                      (ldI L xs (x4_ + (3 : Int32))).bind fun v164 =>
                      (fL_follow w r ou v162 v163 v164).bind fun (v165, r_166, ou_167) =>
                      (ldI L xs (x4_ + (1 : Int32))).bind fun v168 =>
                      (ldI L xs (x4_ + (2 : Int32))).bind fun v169 =>
                      (ldI L xs (x4_ + (3 : Int32))).bind fun v170 =>
                      (fX1_follow th fi ki va ro v168 v169 v170).bind fun (v171, th_172, ro_173) =>
                      (fX1_thrown th_172 ).bind fun v174 =>
                      if v174 = v165 then
                        if v165 = (0 : Int32) then
                          (ldL 1 ou_167 (0 : Int32)).bind fun v177 =>
                          if v171 = (0 : Int32) then
                            if (lg_cmp v177 0) = (0 : Int32) then
                              fL_law xs L n (x4_ + (5 : Int32)) w r_166 st rc na tp cn rh sr th_172 mk us fi se ki va li ct od ne ro_173 ou_167
                            else
                              none
                          else
                            if (lg_cmp v177 1) = (0 : Int32) then
                              fL_law xs L n (x4_ + (5 : Int32)) w r_166 st rc na tp cn rh sr th_172 mk us fi se ki va li ct od ne ro_173 ou_167
                            else
                              none
                        else
                          fL_law xs L n (x4_ + (5 : Int32)) w r_166 st rc na tp cn rh sr th_172 mk us fi se ki va li ct od ne ro_173 ou_167
                      else
                        none
                    else
                      if v2 &&& (15 : Int32) = (8 : Int32) then
                        (ldI L xs (x4_ + (1 : Int32))).bind fun v181 =>
                        (ldI L xs (x4_ + (2 : Int32))).bind fun v182 =>
                        (fL_kind w r ou v181 v182).bind fun (v183, ou_184) =>
                        (ldI L xs (x4_ + (1 : Int32))).bind fun v185 =>
                        (ldI L xs (x4_ + (2 : Int32))).bind fun v186 =>
                        (fX1_kind th fi ki ro v185 v186).bind fun (v187, th_188) =>
                        (fX1_thrown th_188 ).bind fun v189 =>
                        if v189 = v183 then
                          if v183 = (0 : Int32) then
                            (ldL 1 ou_184 (0 : Int32)).bind fun v192 =>
                            if (lg_cmp v192 v187.toInt64) = (0 : Int32) then
                              fL_law xs L n (x4_ + (5 : Int32)) w r st rc na tp cn rh sr th_188 mk us fi se ki va li ct od ne ro ou_184
                            else
                              none
                          else
                            fL_law xs L n (x4_ + (5 : Int32)) w r st rc na tp cn rh sr th_188 mk us fi se ki va li ct od ne ro ou_184
                        else
                          none
                      else
                        if v2 &&& (15 : Int32) = (9 : Int32) then
                          (ldI L xs (x4_ + (1 : Int32))).bind fun v194 =>
                          (fL_serial w r ou v194).bind fun (v195, ou_196) =>
                          (ldI L xs (x4_ + (1 : Int32))).bind fun v197 =>
                          (fX1_serial th se ro v197).bind fun (v198, th_199) =>
                          (fX1_thrown th_199 ).bind fun v200 =>
                          if v200 = v195 then
                            if v195 = (0 : Int32) then
                              (ldL 1 ou_196 (0 : Int32)).bind fun v203 =>
                              if (lg_cmp v203 v198.toInt64) = (0 : Int32) then
                                fL_law xs L n (x4_ + (5 : Int32)) w r st rc na tp cn rh sr th_199 mk us fi se ki va li ct od ne ro ou_196
                              else
                                none
                            else
                              fL_law xs L n (x4_ + (5 : Int32)) w r st rc na tp cn rh sr th_199 mk us fi se ki va li ct od ne ro ou_196
                          else
                            none
                        else
                          if v2 &&& (15 : Int32) = (10 : Int32) then
                            (ldI L xs (x4_ + (1 : Int32))).bind fun v205 =>
                            (fL_address r ou v205).bind fun (v206, ou_207) =>
                            (ldI L xs (x4_ + (1 : Int32))).bind fun v208 =>
                            (fX1_address th fi ct od ro v208).bind fun (v209, th_210) =>
                            (fX1_thrown th_210 ).bind fun v211 =>
                            if v211 = v206 then
                              if v206 = (0 : Int32) then
                                (ldL 1 ou_207 (0 : Int32)).bind fun v214 =>
                                if (lg_cmp v214 v209.toInt64) = (0 : Int32) then
                                  fL_law xs L n (x4_ + (5 : Int32)) w r st rc na tp cn rh sr th_210 mk us fi se ki va li ct od ne ro ou_207
                                else
                                  none
                              else
                                fL_law xs L n (x4_ + (5 : Int32)) w r st rc na tp cn rh sr th_210 mk us fi se ki va li ct od ne ro ou_207
                            else
                              none
                          else
                            if v2 &&& (15 : Int32) = (11 : Int32) then
                              (ldI L xs (x4_ + (1 : Int32))).bind fun v216 =>
                              (fL_word w ou v216).bind fun (v217, ou_218) =>
                              (ldI L xs (x4_ + (1 : Int32))).bind fun v219 =>
                              (fX1_word th fi se ki va ct od v219).bind fun (v220, th_221) =>
                              (fX1_thrown th_221 ).bind fun v222 =>
                              if v222 = v217 then
                                if v217 = (0 : Int32) then
                                  (ldL 1 ou_218 (0 : Int32)).bind fun v225 =>
                                  if (lg_cmp v225 v220.toInt64) = (0 : Int32) then
                                    fL_law xs L n (x4_ + (5 : Int32)) w r st rc na tp cn rh sr th_221 mk us fi se ki va li ct od ne ro ou_218
                                  else
                                    none
                                else
                                  fL_law xs L n (x4_ + (5 : Int32)) w r st rc na tp cn rh sr th_221 mk us fi se ki va li ct od ne ro ou_218
                              else
                                none
                            else
                              if v2 &&& (15 : Int32) = (12 : Int32) then
                                (fX0_top tp ).bind fun v227 =>
                                (fX1_top th fi ct od ).bind fun (v228, th_229) =>
                                if v227 = v228 then
                                  fL_law xs L n (x4_ + (5 : Int32)) w r st rc na tp cn rh sr th_229 mk us fi se ki va li ct od ne ro ou
                                else
                                  none
                              else
                                if v2 &&& (15 : Int32) = (13 : Int32) then
                                  (fX0_objects cn ).bind fun v231 =>
                                  (fX1_objects th ct ).bind fun (v232, th_233) =>
                                  if v231 = v232 then
                                    fL_law xs L n (x4_ + (5 : Int32)) w r st rc na tp cn rh sr th_233 mk us fi se ki va li ct od ne ro ou
                                  else
                                    none
                                else
                                  if v2 &&& (15 : Int32) = (14 : Int32) then
                                    (fX0_alive w r rc na rh ).bind fun (v235, rc_236, na_237, rh_238) =>
                                    (fX1_alive th fi ki va li ct od ro ).bind fun (v239, th_240, li_241) =>
                                    if v235 = v239 then
                                      fL_law xs L n (x4_ + (5 : Int32)) w r st rc_236 na_237 tp cn rh_238 sr th_240 mk us fi se ki va li_241 ct od ne ro ou
                                    else
                                      none
                                  else
                                    fL_law xs L n (x4_ + (5 : Int32)) w r st rc na tp cn rh sr th mk us fi se ki va li ct od ne ro ou) := rfl
