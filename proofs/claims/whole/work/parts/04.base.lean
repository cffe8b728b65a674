/-! Base rows of mine: a pure reading of a method is a function into Option (none: out of bounds, or out of fuel); these rows tie its steps to the machine's. -/
def FU : Nat := 1024
def ldI (n : Nat) (f : Nat → Int32) (i : Int32) : Option Int32 := if i < 0 ∨ n ≤ i.toNatClampNeg then none else some (f i.toNatClampNeg)
def stI (n : Nat) (f : Nat → Int32) (i x : Int32) : Option (Nat → Int32) := if i < 0 ∨ n ≤ i.toNatClampNeg then none else some (upd f i.toNatClampNeg x)
def stZ (n : Nat) (f : Nat → Int32) (i x : Int32) : Option (Nat → Int32) := if i < 0 ∨ n ≤ i.toNatClampNeg then none else some (upd f i.toNatClampNeg (vp_nar .boolean x))
def ldL (n : Nat) (f : Nat → Int64) (i : Int32) : Option Int64 := if i < 0 ∨ n ≤ i.toNatClampNeg then none else some (f i.toNatClampNeg)
def stL (n : Nat) (f : Nat → Int64) (i : Int32) (x : Int64) : Option (Nat → Int64) := if i < 0 ∨ n ≤ i.toNatClampNeg then none else some (vp_updL f i.toNatClampNeg x)
def cpI (n : Nat) (f : Nat → Int32) (sp dp k : Int32) : Option (Nat → Int32) := if sp < 0 ∨ dp < 0 ∨ k < 0 ∨ n < sp.toNatClampNeg + k.toNatClampNeg ∨ n < dp.toNatClampNeg + k.toNatClampNeg then none else some (va_cpy f f sp.toNatClampNeg dp.toNatClampNeg k.toNatClampNeg)
def rtZ (v : Int32) : Option Int32 := if v = 0 ∨ v = 1 then some v else none
theorem ldI_some {n : Nat} {f : Nat → Int32} {i v : Int32} (h : ldI n f i = some v) : vp_in i n ∧ v = f i.toNatClampNeg := by
  unfold ldI at h
  split at h
  · cases h
  · rename_i hn; cases h; exact ⟨hn, rfl⟩
theorem stI_some {n : Nat} {f g : Nat → Int32} {i x : Int32} (h : stI n f i x = some g) : vp_in i n ∧ g = upd f i.toNatClampNeg x := by
  unfold stI at h
  split at h
  · cases h
  · rename_i hn; cases h; exact ⟨hn, rfl⟩
theorem stZ_some {n : Nat} {f g : Nat → Int32} {i x : Int32} (h : stZ n f i x = some g) : vp_in i n ∧ g = upd f i.toNatClampNeg (vp_nar .boolean x) := by
  unfold stZ at h
  split at h
  · cases h
  · rename_i hn; cases h; exact ⟨hn, rfl⟩
theorem ldL_some {n : Nat} {f : Nat → Int64} {i : Int32} {v : Int64} (h : ldL n f i = some v) : vp_in i n ∧ v = f i.toNatClampNeg := by
  unfold ldL at h
  split at h
  · cases h
  · rename_i hn; cases h; exact ⟨hn, rfl⟩
theorem stL_some {n : Nat} {f g : Nat → Int64} {i : Int32} {x : Int64} (h : stL n f i x = some g) : vp_in i n ∧ g = vp_updL f i.toNatClampNeg x := by
  unfold stL at h
  split at h
  · cases h
  · rename_i hn; cases h; exact ⟨hn, rfl⟩
theorem rtZ_some {v r : Int32} (h : rtZ v = some r) : r = v ∧ narrow .boolean (.int v) = .int v := by
  unfold rtZ at h
  split at h
  · rename_i hn; cases h; rcases hn with rfl | rfl <;> exact ⟨rfl, rfl⟩
  · cases h
theorem bd {α β : Type} {o : Option α} {f : α → Option β} {r : β} (h : o.bind f = some r) : ∃ v, o = some v ∧ f v = some r := by
  cases o with
  | none => cases h
  | some v => exact ⟨v, rfl, h⟩
theorem ift {α : Type} {c : Prop} {d : Decidable c} {a b r : α} (h : c) (e : (@ite α c d a b) = r) : a = r := (if_pos h).symm.trans e
theorem ifn {α : Type} {c : Prop} {d : Decidable c} {a b r : α} (h : ¬ c) (e : (@ite α c d a b) = r) : b = r := (if_neg h).symm.trans e
theorem filt {ws wc : va_W} (isC : List Nat) (h : isC.map (fun i => ws[i]?) = wc.map some) : isC.filterMap (fun i => ws[i]?) = wc := by
  have h2 := congrArg (List.filterMap id) h
  rw [List.filterMap_map, List.filterMap_map] at h2
  have e1 : (id ∘ fun (i : Nat) => ws[i]?) = (fun i => ws[i]?) := rfl
  have e2 : (id ∘ (some : (Nat × va_E) → Option (Nat × va_E))) = some := rfl
  rw [e1, e2, List.filterMap_some] at h2
  exact h2
/-- a method's start, its end: the world W, and what the tables say -/
abbrev q_pre (D : va_G) (cl : List vw_C) (tys : List (ClassId × FieldType)) (sz : Nat) (W : va_W) : State → Prop := fun U => U.heap.size = sz ∧ va_P D cl W U.heap ∧ va_K D cl tys U ∧ va_D (fun _ => True) W
abbrev q_post (D : va_G) (cl : List vw_C) (tys : List (ClassId × FieldType)) (A : Nat → Prop) (W : va_W) : State → Prop := fun t => va_P D cl W t.heap ∧ va_K D cl tys t ∧ va_D A W
section QR
variable {p : Program} {l : Launch} {e : Env} {R : Room} {s : State} {m : MethodId} {args : Array Value} {below : List Frame} {meth : Method} {c : Code} {H : Heap} {locs : List Loc} {cells slots : Nat} {Q : State → Prop}
variable {cc : ByteArray} {pc : Nat} {ls : Array Slot} {rest st0 : List Value} {D : va_G} {cl : List vw_C} {A : Nat → Prop} {a : Nat} {tys : List (ClassId × FieldType)} {ws wc wr w1 : va_W} {H0 : Heap} {aa : Array Value}
theorem q_ild (hexec : p.tables.exec = Jvm.exec) (hb : c.code = cc) (hK : va_K D cl tys s) (hP : va_P D cl ws H) (q0 t0 : Nat) {cA : ClassId} {n : Nat} {f : Nat → Int32} (ha : ws[q0]? = some (a, .inl (cA, n, .inl f))) (ht : tys[t0]? = some (cA, .int)) {i v : Int32} (hv : ldI n f i = some v) (hdg : decode cc pc = .ok (.iaload, 1))
    (kk : W p l e R s m args below meth c H locs cells slots Q (F0 m (pc + 1) ls (.int v :: rest))) : W p l e R s m args below meth c H locs cells slots Q (F0 m pc ls (.int i :: .ref a :: rest)) := by
  obtain ⟨h1, rfl⟩ := ldI_some hv
  exact va_iald hexec hb hK hP q0 t0 ha ht h1 hdg kk
theorem q_zld (hexec : p.tables.exec = Jvm.exec) (hb : c.code = cc) (hK : va_K D cl tys s) (hP : va_P D cl ws H) (q0 t0 : Nat) {cA : ClassId} {n : Nat} {f : Nat → Int32} (ha : ws[q0]? = some (a, .inl (cA, n, .inl f))) (ht : tys[t0]? = some (cA, .boolean)) {i v : Int32} (hv : ldI n f i = some v) (hdg : decode cc pc = .ok (.baload, 1))
    (kk : W p l e R s m args below meth c H locs cells slots Q (F0 m (pc + 1) ls (.int v :: rest))) : W p l e R s m args below meth c H locs cells slots Q (F0 m pc ls (.int i :: .ref a :: rest)) := by
  obtain ⟨h1, rfl⟩ := ldI_some hv
  exact va_zald hexec hb hK hP q0 t0 ha ht h1 hdg kk
theorem q_lld (hexec : p.tables.exec = Jvm.exec) (hb : c.code = cc) (hK : va_K D cl tys s) (hP : va_P D cl ws H) (q0 t0 : Nat) {cA : ClassId} {n : Nat} {f : Nat → Int64} (ha : ws[q0]? = some (a, .inl (cA, n, .inr (.inl f)))) (ht : tys[t0]? = some (cA, .long)) {i : Int32} {v : Int64} (hv : ldL n f i = some v) (hdg : decode cc pc = .ok (.laload, 1))
    (kk : W p l e R s m args below meth c H locs cells slots Q (F0 m (pc + 1) ls (.long v :: rest))) : W p l e R s m args below meth c H locs cells slots Q (F0 m pc ls (.int i :: .ref a :: rest)) := by
  obtain ⟨h1, rfl⟩ := ldL_some hv
  exact va_lald hexec hb hK hP q0 t0 ha ht h1 hdg kk
theorem q_ist (hexec : p.tables.exec = Jvm.exec) (hb : c.code = cc) (hK : va_K D cl tys s) (hP : va_P D cl ws H) (hD : va_D A ws) (hS : va_S A H0 H locs) (q0 t0 : Nat) {cA : ClassId} {n : Nat} {f g : Nat → Int32} (ha : ws[q0]? = some (a, .inl (cA, n, .inl f))) (ht : tys[t0]? = some (cA, .int)) {i x : Int32} (hv : stI n f i x = some g) (hdg : decode cc pc = .ok (.iastore, 1))
    (kk : ∀ (H1 : Heap) (locs1 : List Loc), va_P D cl (ws.set q0 (a, .inl (cA, n, .inl g))) H1 → va_D A (ws.set q0 (a, .inl (cA, n, .inl g))) → va_S A H0 H1 locs1 → W p l e R s m args below meth c H1 locs1 cells slots Q (F0 m (pc + 1) ls rest)) : W p l e R s m args below meth c H locs cells slots Q (F0 m pc ls (.int x :: .int i :: .ref a :: rest)) := by
  obtain ⟨h1, rfl⟩ := stI_some hv
  exact va_iast hexec hb hK hP hD hS q0 t0 ha ht h1 hdg kk
theorem q_zst (hexec : p.tables.exec = Jvm.exec) (hb : c.code = cc) (hK : va_K D cl tys s) (hP : va_P D cl ws H) (hD : va_D A ws) (hS : va_S A H0 H locs) (q0 t0 : Nat) {cA : ClassId} {n : Nat} {f g : Nat → Int32} (ha : ws[q0]? = some (a, .inl (cA, n, .inl f))) (ht : tys[t0]? = some (cA, .boolean)) {i x : Int32} (hv : stZ n f i x = some g) (hdg : decode cc pc = .ok (.bastore, 1))
    (kk : ∀ (H1 : Heap) (locs1 : List Loc), va_P D cl (ws.set q0 (a, .inl (cA, n, .inl g))) H1 → va_D A (ws.set q0 (a, .inl (cA, n, .inl g))) → va_S A H0 H1 locs1 → W p l e R s m args below meth c H1 locs1 cells slots Q (F0 m (pc + 1) ls rest)) : W p l e R s m args below meth c H locs cells slots Q (F0 m pc ls (.int x :: .int i :: .ref a :: rest)) := by
  obtain ⟨h1, rfl⟩ := stZ_some hv
  exact va_zast hexec hb hK hP hD hS q0 t0 ha ht h1 hdg kk
theorem q_lst (hexec : p.tables.exec = Jvm.exec) (hb : c.code = cc) (hK : va_K D cl tys s) (hP : va_P D cl ws H) (hD : va_D A ws) (hS : va_S A H0 H locs) (q0 t0 : Nat) {cA : ClassId} {n : Nat} {f g : Nat → Int64} (ha : ws[q0]? = some (a, .inl (cA, n, .inr (.inl f)))) (ht : tys[t0]? = some (cA, .long)) {i : Int32} {x : Int64} (hv : stL n f i x = some g) (hdg : decode cc pc = .ok (.lastore, 1))
    (kk : ∀ (H1 : Heap) (locs1 : List Loc), va_P D cl (ws.set q0 (a, .inl (cA, n, .inr (.inl g)))) H1 → va_D A (ws.set q0 (a, .inl (cA, n, .inr (.inl g)))) → va_S A H0 H1 locs1 → W p l e R s m args below meth c H1 locs1 cells slots Q (F0 m (pc + 1) ls rest)) : W p l e R s m args below meth c H locs cells slots Q (F0 m pc ls (.long x :: .int i :: .ref a :: rest)) := by
  obtain ⟨h1, rfl⟩ := stL_some hv
  exact va_last hexec hb hK hP hD hS q0 t0 ha ht h1 hdg kk
/-- before a call: the callee's cells are at the places isC of the caller's world -/
theorem q_blind {av : List Value} {sz : Nat} : FrameBlind (va_Pc av (q_pre D cl tys sz wc)) := fun a U g mk q => by
  obtain ⟨q0, q1, qP, qK, qD⟩ := q
  exact ⟨q0, q1, qP, va_K.moved (u := U) (U := U.calling g mk a) (Vm.Alike.refl U.vm) qK, qD⟩
theorem q_preS (av : List Value) (hK : va_K D cl tys s) (hP : va_P D cl ws H) (hD : va_D A ws) (isC : List Nat) (hn : va_nd isC = true) (hC : isC.map (fun i => ws[i]?) = wc.map some) : PreS s H (va_Pc av (q_pre D cl tys H.size wc)) av :=
  ⟨q_blind, fun U hU hW => ⟨rfl, by rw [hU], by rw [hU]; exact hP.sub isC (filt isC hC), va_K.moved hW.alike hK, (hD.sub isC hn hC).weaken (fun _ _ _ _ => trivial)⟩⟩
theorem q_preV (As : List Value) (hK : va_K D cl tys s) (hP : va_P D cl ws H) (hD : va_D A ws) (isC : List Nat) (hn : va_nd isC = true) (hC : isC.map (fun i => ws[i]?) = wc.map some) {ci b : Nat} {q : vw_C} {fs : List Value} (hc : cl[ci]? = some q) (he : wc[0]? = some (b, .inr (ci, fs))) : PreV s H q.1 b (va_Pc (.ref b :: As) (q_pre D cl tys H.size wc)) As :=
  ⟨q_blind, va_recv hK (hP.sub isC (filt isC hC)) hc he, fun U hU hW => ⟨rfl, by rw [hU], by rw [hU]; exact hP.sub isC (filt isC hC), va_K.moved hW.alike hK, (hD.sub isC hn hC).weaken (fun _ _ _ _ => trivial)⟩⟩
/-- behind a call that answers an int, or nothing -/
theorem q_ci {res : Int32} (hr : va_Run p l e R s m args below meth c H locs cells slots 0 0 (F0 m pc ls st0) rest (va_Qi (fun r (_ : Unit) => r = res) (fun _ => q_post D cl tys (va_A wc H.size) w1) (va_A wc H.size) aa) (va_A wc H.size)) (hP : va_P D cl ws H) (hD : va_D A ws) (hS : va_S A s.heap H locs) (hA : ∀ q, s.heap.size ≤ q → A q) (isC isR : List Nat) (hC : isC.map (fun i => ws[i]?) = wc.map some) (hR : isR.map (fun i => ws[i]?) = wr.map some) (hn : va_nd isR = true) (hdis : ∀ i ∈ isR, i ∉ isC)
    (kk : ∀ (H1 : Heap) (locs1 : List Loc), va_P D cl (wr ++ w1) H1 → va_D A (wr ++ w1) → va_S A s.heap H1 locs1 → W p l e R s m args below meth c H1 locs1 cells slots Q (F0 m (pc + 3) ls (.int res :: rest))) : W p l e R s m args below meth c H locs cells slots Q (F0 m pc ls st0) := by
  have hFc := va_free (wc := wc) hD hS hA isC hC
  refine va_calli hr hS (fun q _ h => hFc q h) hFc (fun r u t H1 locs1 ht hvm hw hB hz1 hk1 hS1 => ?_)
  obtain ⟨hP1, hK1, hD1⟩ := hB
  rw [ht] at hP1
  subst hw
  obtain ⟨hP2, hD2⟩ := va_join hP hD isC isR hC hR hn hdis hk1 hFc hP1 hD1
  exact kk H1 locs1 hP2 hD2 hS1
theorem q_cv (hr : va_Run p l e R s m args below meth c H locs cells slots 0 0 (F0 m pc ls st0) rest (va_Qv (fun (_ : Unit) => True) (fun _ => q_post D cl tys (va_A wc H.size) w1) (va_A wc H.size) aa) (va_A wc H.size)) (hP : va_P D cl ws H) (hD : va_D A ws) (hS : va_S A s.heap H locs) (hA : ∀ q, s.heap.size ≤ q → A q) (isC isR : List Nat) (hC : isC.map (fun i => ws[i]?) = wc.map some) (hR : isR.map (fun i => ws[i]?) = wr.map some) (hn : va_nd isR = true) (hdis : ∀ i ∈ isR, i ∉ isC)
    (kk : ∀ (H1 : Heap) (locs1 : List Loc), va_P D cl (wr ++ w1) H1 → va_D A (wr ++ w1) → va_S A s.heap H1 locs1 → W p l e R s m args below meth c H1 locs1 cells slots Q (F0 m (pc + 3) ls rest)) : W p l e R s m args below meth c H locs cells slots Q (F0 m pc ls st0) := by
  have hFc := va_free (wc := wc) hD hS hA isC hC
  refine va_callv hr hS (fun q _ h => hFc q h) hFc (fun u t H1 locs1 ht hvm hw hB hz1 hk1 hS1 => ?_)
  obtain ⟨hP1, hK1, hD1⟩ := hB
  rw [ht] at hP1
  obtain ⟨hP2, hD2⟩ := va_join hP hD isC isR hC hR hn hdis hk1 hFc hP1 hD1
  exact kk H1 locs1 hP2 hD2 hS1
end QR
/-! exceptions: 'e' of a pure reading is 0 (it returned) or a number of q_E -/
def q_E (k : Nat) : String := match k with
  | 1 => "java/lang/IndexOutOfBoundsException"
  | 2 => "java/lang/IllegalArgumentException"
  | 3 => "java/lang/IllegalStateException"
  | 4 => "java/lang/UnsupportedOperationException"
  | 5 => "java/util/NoSuchElementException"
  | _ => ""
abbrev q_Z (A : Nat → Prop) (U : State) (H : Heap) : Prop := vx_Zq Bundle.tN "UNASSIGNED_STACK" Bundle.steD A U H ∧ vx_Zq Bundle.tN "SUPPRESSED_SENTINEL" Bundle.listD A U H
/-- the class's texts, each by its number in the pool -/
def q_T (own : String) (tx : List (Nat × String)) (U : State) : Prop := ∀ q ∈ tx, ∃ a, vk_R own q.1 q.2 a U
theorem q_T.same {own : String} {tx : List (Nat × String)} {u U : State} (hv : U.vm = u.vm) (h : q_T own tx u) : q_T own tx U := fun q hq => by
  obtain ⟨a, ha⟩ := h q hq
  exact ⟨a, ha.same hv⟩
theorem q_T.warm {own : String} {tx : List (Nat × String)} {s U : State} (hW : s.WarmedH U.vm) (h : q_T own tx s) : q_T own tx U := fun q hq => by
  obtain ⟨a, ha⟩ := h q hq
  exact ⟨a, ha.warm hW⟩
def q_mc (e : Nat) : Nat := if e = 0 then 0 else 1
def q_ms (e : Nat) : Nat := if e = 0 then 0 else 6
theorem q_le0 (x : Nat) : 0 + q_mc 0 ≤ x ∧ 0 + q_ms 0 ≤ x := ⟨Nat.zero_le _, Nat.zero_le _⟩
def q_dec : List MethodName := [Bundle.initS "java/lang/RuntimeException", Bundle.initS "java/lang/Exception", Bundle.initS Bundle.tN]
def q_cs : List String := ["java/lang/IndexOutOfBoundsException", "java/lang/IllegalArgumentException", "java/lang/IllegalStateException", "java/lang/UnsupportedOperationException", "java/util/NoSuchElementException"]
def q_N (U : State) : Prop := (∀ x ∈ q_dec, va_Nw (.declares x) U) ∧ ∀ X ∈ q_cs, va_Nw (.castable X X) U
theorem q_N.warm {s U : State} (hW : s.WarmedH U.vm) (h : q_N s) : q_N U := ⟨fun x hx => va_Nw.warmD hW (h.1 x hx), fun X hX => va_Nw.warmC hW (h.2 X hX)⟩
theorem q_N.same {u U : State} (hv : u.vm = U.vm) (h : q_N u) : q_N U := ⟨fun x hx => va_Nw.same rfl hv (h.1 x hx), fun X hX => va_Nw.same rfl hv (h.2 X hX)⟩
def q_B (X : String) : List Cond := q_dec.map Cond.declares ++ [.castable X X]
theorem q_hat {args : Array Value} {s : State} (h : q_N s) {X : String} (hX : X ∈ q_cs) : ∀ w ∈ q_B X, w.before args s = true := fun w hw => by
  rcases List.mem_append.mp hw with h1 | h1
  · obtain ⟨x, hx, rfl⟩ := List.mem_map.mp h1
    exact va_Nw.use rfl (h.1 x hx)
  · rw [List.mem_singleton] at h1
    subst h1
    exact va_Nw.use rfl (h.2 X hX)
abbrev q_preX (D : va_G) (cl : List vw_C) (tys : List (ClassId × FieldType)) (own : String) (tx : List (Nat × String)) (sz : Nat) (W : va_W) : State → Prop := fun U => U.heap.size = sz ∧ va_P D cl W U.heap ∧ va_K D cl tys U ∧ va_D (fun _ => True) W ∧ q_Z (va_A W sz) U U.heap ∧ q_T own tx U ∧ q_N U
section QX
variable {p : Program} {l : Launch} {e : Env} {R : Room} {s : State} {m : MethodId} {args : Array Value} {below : List Frame} {meth : Method} {c : Code} {H : Heap} {locs : List Loc} {cells slots mc ms : Nat} {Q : State → Prop}
variable {cc : ByteArray} {pc : Nat} {ls : Array Slot} {rest st0 : List Value} {D : va_G} {cl : List vw_C} {A : Nat → Prop} {a : Nat} {tys : List (ClassId × FieldType)} {ws wc wr w1 : va_W} {aa : Array Value} {own : String} {tx : List (Nat × String)}
theorem q_Z.to {U : State} (hZ : q_Z A s s.heap) (hD : va_D A ws) (hS : va_S A s.heap H locs) (hA : ∀ q, s.heap.size ≤ q → A q) (isC : List Nat) (hC : isC.map (fun i => ws[i]?) = wc.map some) (hU : U.heap = H) (hW : s.vm.Alike U.vm) : q_Z (va_A wc H.size) U U.heap := by
  have hFc := va_free (wc := wc) hD hS hA isC hC
  rw [hU]
  exact ⟨(((hZ.1.kept hS.2.1).narrow hFc).moved hW), (((hZ.2.kept hS.2.1).narrow hFc).moved hW)⟩
theorem q_blindX {av : List Value} {sz : Nat} : FrameBlind (va_Pc av (q_preX D cl tys own tx sz wc)) := fun a U g mk q => by
  obtain ⟨q0, q1, qP, qK, qD, qZ, qT, qN⟩ := q
  exact ⟨q0, q1, qP, va_K.moved (u := U) (U := U.calling g mk a) (Vm.Alike.refl U.vm) qK, qD, ⟨qZ.1.moved (U := U.calling g mk a) (Vm.Alike.refl U.vm), qZ.2.moved (U := U.calling g mk a) (Vm.Alike.refl U.vm)⟩, qT.same rfl, qN.same rfl⟩
theorem q_preXS (av : List Value) (hK : va_K D cl tys s) (hP : va_P D cl ws H) (hD : va_D A ws) (hS : va_S A s.heap H locs) (hA : ∀ q, s.heap.size ≤ q → A q) (hZ : q_Z A s s.heap) (hT : q_T own tx s) (hN : q_N s) (isC : List Nat) (hn : va_nd isC = true) (hC : isC.map (fun i => ws[i]?) = wc.map some) : PreS s H (va_Pc av (q_preX D cl tys own tx H.size wc)) av :=
  ⟨q_blindX, fun U hU hW => ⟨rfl, by rw [hU], by rw [hU]; exact hP.sub isC (filt isC hC), va_K.moved hW.alike hK, (hD.sub isC hn hC).weaken (fun _ _ _ _ => trivial), q_Z.to hZ hD hS hA isC hC hU hW.alike, hT.warm hW, hN.warm hW⟩⟩
theorem q_preXV (As : List Value) (hK : va_K D cl tys s) (hP : va_P D cl ws H) (hD : va_D A ws) (hS : va_S A s.heap H locs) (hA : ∀ q, s.heap.size ≤ q → A q) (hZ : q_Z A s s.heap) (hT : q_T own tx s) (hN : q_N s) (isC : List Nat) (hn : va_nd isC = true) (hC : isC.map (fun i => ws[i]?) = wc.map some) {ci b : Nat} {q : vw_C} {fs : List Value} (hc : cl[ci]? = some q) (he : wc[0]? = some (b, .inr (ci, fs))) : PreV s H q.1 b (va_Pc (.ref b :: As) (q_preX D cl tys own tx H.size wc)) As :=
  ⟨q_blindX, va_recv hK (hP.sub isC (filt isC hC)) hc he, fun U hU hW => ⟨rfl, by rw [hU], by rw [hU]; exact hP.sub isC (filt isC hC), va_K.moved hW.alike hK, (hD.sub isC hn hC).weaken (fun _ _ _ _ => trivial), q_Z.to hZ hD hS hA isC hC hU hW.alike, hT.warm hW, hN.warm hW⟩⟩
/-- behind a call that may throw -/
theorem q_xi {ef : Nat} {res : Int32} (hr : vx_Run p l e R s m args below meth c H locs cells slots mc ms (F0 m pc ls st0) rest (va_Qi (fun r (_ : Unit) => ef = 0 ∧ r = res) (fun _ => q_post D cl tys (va_A wc H.size) w1) (va_A wc H.size) aa) (vx_X (fun (_ : Unit) => ¬ ef = 0) (fun E _ t => E = q_E ef ∧ q_post D cl tys (va_A wc H.size) w1 t) (va_A wc H.size)) (va_A wc H.size)) (hP : va_P D cl ws H) (hD : va_D A ws) (hS : va_S A s.heap H locs) (hA : ∀ q, s.heap.size ≤ q → A q) (isC isR : List Nat) (hC : isC.map (fun i => ws[i]?) = wc.map some) (hR : isR.map (fun i => ws[i]?) = wr.map some) (hn : va_nd isR = true) (hdis : ∀ i ∈ isR, i ∉ isC)
    (kx : ¬ ef = 0 → ∀ (ce : Cell) (q9 : Addr) (H1 : Heap) (locs1 : List Loc), va_P D cl (wr ++ w1) H1 → va_D A (wr ++ w1) → va_S A s.heap H1 locs1 → H1[q9]? = some ce → ce.vm = .none → s.vm.findClass (q_E ef) = some ce.cls → vx_W p l e R s m args below meth c H1 locs1 (cells + mc) (slots + ms) Q (F0 m pc ls rest) q9)
    (kk : ef = 0 → ∀ (H1 : Heap) (locs1 : List Loc), va_P D cl (wr ++ w1) H1 → va_D A (wr ++ w1) → va_S A s.heap H1 locs1 → W p l e R s m args below meth c H1 locs1 (cells + mc) (slots + ms) Q (F0 m (pc + 3) ls (.int res :: rest))) : W p l e R s m args below meth c H locs cells slots Q (F0 m pc ls st0) := by
  have hFc := va_free (wc := wc) hD hS hA isC hC
  refine vx_calli hr hS (fun q _ h => hFc q h) hFc (fun q _ h => hFc q h) (fun E ce q9 u t H1 locs1 ht hvm hw hB hz1 hk1 hS1 hc1 hc2 hc3 => ?_) (fun r u t H1 locs1 ht hvm hw hB hz1 hk1 hS1 => ?_)
  · obtain ⟨rfl, hP1, hK1, hD1⟩ := hB
    rw [ht] at hP1
    obtain ⟨hP2, hD2⟩ := va_join hP hD isC isR hC hR hn hdis hk1 hFc hP1 hD1
    exact kx hw ce q9 H1 locs1 hP2 hD2 hS1 hc1 hc2 hc3
  · obtain ⟨hP1, hK1, hD1⟩ := hB
    rw [ht] at hP1
    obtain ⟨hw1, rfl⟩ := hw
    obtain ⟨hP2, hD2⟩ := va_join hP hD isC isR hC hR hn hdis hk1 hFc hP1 hD1
    exact kk hw1 H1 locs1 hP2 hD2 hS1
theorem q_xv {ef : Nat} (hr : vx_Run p l e R s m args below meth c H locs cells slots mc ms (F0 m pc ls st0) rest (va_Qv (fun (_ : Unit) => ef = 0) (fun _ => q_post D cl tys (va_A wc H.size) w1) (va_A wc H.size) aa) (vx_X (fun (_ : Unit) => ¬ ef = 0) (fun E _ t => E = q_E ef ∧ q_post D cl tys (va_A wc H.size) w1 t) (va_A wc H.size)) (va_A wc H.size)) (hP : va_P D cl ws H) (hD : va_D A ws) (hS : va_S A s.heap H locs) (hA : ∀ q, s.heap.size ≤ q → A q) (isC isR : List Nat) (hC : isC.map (fun i => ws[i]?) = wc.map some) (hR : isR.map (fun i => ws[i]?) = wr.map some) (hn : va_nd isR = true) (hdis : ∀ i ∈ isR, i ∉ isC)
    (kx : ¬ ef = 0 → ∀ (ce : Cell) (q9 : Addr) (H1 : Heap) (locs1 : List Loc), va_P D cl (wr ++ w1) H1 → va_D A (wr ++ w1) → va_S A s.heap H1 locs1 → H1[q9]? = some ce → ce.vm = .none → s.vm.findClass (q_E ef) = some ce.cls → vx_W p l e R s m args below meth c H1 locs1 (cells + mc) (slots + ms) Q (F0 m pc ls rest) q9)
    (kk : ef = 0 → ∀ (H1 : Heap) (locs1 : List Loc), va_P D cl (wr ++ w1) H1 → va_D A (wr ++ w1) → va_S A s.heap H1 locs1 → W p l e R s m args below meth c H1 locs1 (cells + mc) (slots + ms) Q (F0 m (pc + 3) ls rest)) : W p l e R s m args below meth c H locs cells slots Q (F0 m pc ls st0) := by
  have hFc := va_free (wc := wc) hD hS hA isC hC
  refine vx_callv hr hS (fun q _ h => hFc q h) hFc (fun q _ h => hFc q h) (fun E ce q9 u t H1 locs1 ht hvm hw hB hz1 hk1 hS1 hc1 hc2 hc3 => ?_) (fun u t H1 locs1 ht hvm hw hB hz1 hk1 hS1 => ?_)
  · obtain ⟨rfl, hP1, hK1, hD1⟩ := hB
    rw [ht] at hP1
    obtain ⟨hP2, hD2⟩ := va_join hP hD isC isR hC hR hn hdis hk1 hFc hP1 hD1
    exact kx hw ce q9 H1 locs1 hP2 hD2 hS1 hc1 hc2 hc3
  · obtain ⟨hP1, hK1, hD1⟩ := hB
    rw [ht] at hP1
    obtain ⟨hP2, hD2⟩ := va_join hP hD isC isR hC hR hn hdis hk1 hFc hP1 hD1
    exact kk hw H1 locs1 hP2 hD2 hS1
theorem q_ni {res : Int32} (hr : vx_Run p l e R s m args below meth c H locs cells slots (q_mc 0) (q_ms 0) (F0 m pc ls st0) rest (va_Qi (fun r (_ : Unit) => (0 : Nat) = 0 ∧ r = res) (fun _ => q_post D cl tys (va_A wc H.size) w1) (va_A wc H.size) aa) (vx_X (fun (_ : Unit) => ¬ (0 : Nat) = 0) (fun E _ t => E = q_E (0 : Nat) ∧ q_post D cl tys (va_A wc H.size) w1 t) (va_A wc H.size)) (va_A wc H.size)) (hP : va_P D cl ws H) (hD : va_D A ws) (hS : va_S A s.heap H locs) (hA : ∀ q, s.heap.size ≤ q → A q) (isC isR : List Nat) (hC : isC.map (fun i => ws[i]?) = wc.map some) (hR : isR.map (fun i => ws[i]?) = wr.map some) (hn : va_nd isR = true) (hdis : ∀ i ∈ isR, i ∉ isC)
    (kk : ∀ (H1 : Heap) (locs1 : List Loc), va_P D cl (wr ++ w1) H1 → va_D A (wr ++ w1) → va_S A s.heap H1 locs1 → W p l e R s m args below meth c H1 locs1 cells slots Q (F0 m (pc + 3) ls (.int res :: rest))) : W p l e R s m args below meth c H locs cells slots Q (F0 m pc ls st0) :=
  q_xi hr hP hD hS hA isC isR hC hR hn hdis (fun h => absurd rfl h) (fun _ H1 locs1 a1 a2 a3 => kk H1 locs1 a1 a2 a3)
theorem q_ti {ef : Nat} {res : Int32} (he : ¬ ef = 0) (hr : vx_Run p l e R s m args below meth c H locs cells slots mc ms (F0 m pc ls st0) rest (va_Qi (fun r (_ : Unit) => ef = 0 ∧ r = res) (fun _ => q_post D cl tys (va_A wc H.size) w1) (va_A wc H.size) aa) (vx_X (fun (_ : Unit) => ¬ ef = 0) (fun E _ t => E = q_E ef ∧ q_post D cl tys (va_A wc H.size) w1 t) (va_A wc H.size)) (va_A wc H.size)) (hP : va_P D cl ws H) (hD : va_D A ws) (hS : va_S A s.heap H locs) (hA : ∀ q, s.heap.size ≤ q → A q) (isC isR : List Nat) (hC : isC.map (fun i => ws[i]?) = wc.map some) (hR : isR.map (fun i => ws[i]?) = wr.map some) (hn : va_nd isR = true) (hdis : ∀ i ∈ isR, i ∉ isC)
    (kx : ∀ (ce : Cell) (q9 : Addr) (H1 : Heap) (locs1 : List Loc), va_P D cl (wr ++ w1) H1 → va_D A (wr ++ w1) → va_S A s.heap H1 locs1 → H1[q9]? = some ce → ce.vm = .none → s.vm.findClass (q_E ef) = some ce.cls → vx_W p l e R s m args below meth c H1 locs1 (cells + mc) (slots + ms) Q (F0 m pc ls rest) q9) : W p l e R s m args below meth c H locs cells slots Q (F0 m pc ls st0) :=
  q_xi hr hP hD hS hA isC isR hC hR hn hdis (fun _ => kx) (fun h => absurd h he)
theorem q_nv (hr : vx_Run p l e R s m args below meth c H locs cells slots (q_mc 0) (q_ms 0) (F0 m pc ls st0) rest (va_Qv (fun (_ : Unit) => (0 : Nat) = 0) (fun _ => q_post D cl tys (va_A wc H.size) w1) (va_A wc H.size) aa) (vx_X (fun (_ : Unit) => ¬ (0 : Nat) = 0) (fun E _ t => E = q_E (0 : Nat) ∧ q_post D cl tys (va_A wc H.size) w1 t) (va_A wc H.size)) (va_A wc H.size)) (hP : va_P D cl ws H) (hD : va_D A ws) (hS : va_S A s.heap H locs) (hA : ∀ q, s.heap.size ≤ q → A q) (isC isR : List Nat) (hC : isC.map (fun i => ws[i]?) = wc.map some) (hR : isR.map (fun i => ws[i]?) = wr.map some) (hn : va_nd isR = true) (hdis : ∀ i ∈ isR, i ∉ isC)
    (kk : ∀ (H1 : Heap) (locs1 : List Loc), va_P D cl (wr ++ w1) H1 → va_D A (wr ++ w1) → va_S A s.heap H1 locs1 → W p l e R s m args below meth c H1 locs1 cells slots Q (F0 m (pc + 3) ls rest)) : W p l e R s m args below meth c H locs cells slots Q (F0 m pc ls st0) :=
  q_xv hr hP hD hS hA isC isR hC hR hn hdis (fun h => absurd rfl h) (fun _ H1 locs1 a1 a2 a3 => kk H1 locs1 a1 a2 a3)
theorem q_tv {ef : Nat} (he : ¬ ef = 0) (hr : vx_Run p l e R s m args below meth c H locs cells slots mc ms (F0 m pc ls st0) rest (va_Qv (fun (_ : Unit) => ef = 0) (fun _ => q_post D cl tys (va_A wc H.size) w1) (va_A wc H.size) aa) (vx_X (fun (_ : Unit) => ¬ ef = 0) (fun E _ t => E = q_E ef ∧ q_post D cl tys (va_A wc H.size) w1 t) (va_A wc H.size)) (va_A wc H.size)) (hP : va_P D cl ws H) (hD : va_D A ws) (hS : va_S A s.heap H locs) (hA : ∀ q, s.heap.size ≤ q → A q) (isC isR : List Nat) (hC : isC.map (fun i => ws[i]?) = wc.map some) (hR : isR.map (fun i => ws[i]?) = wr.map some) (hn : va_nd isR = true) (hdis : ∀ i ∈ isR, i ∉ isC)
    (kx : ∀ (ce : Cell) (q9 : Addr) (H1 : Heap) (locs1 : List Loc), va_P D cl (wr ++ w1) H1 → va_D A (wr ++ w1) → va_S A s.heap H1 locs1 → H1[q9]? = some ce → ce.vm = .none → s.vm.findClass (q_E ef) = some ce.cls → vx_W p l e R s m args below meth c H1 locs1 (cells + mc) (slots + ms) Q (F0 m pc ls rest) q9) : W p l e R s m args below meth c H locs cells slots Q (F0 m pc ls st0) :=
  q_xv hr hP hD hS hA isC isR hC hR hn hdis (fun _ => kx) (fun h => absurd h he)
end QX
section QT
variable {p : Program} {l : Launch} {e : Env} {R : Room} {s : State} {m : MethodId} {args : Array Value} {below : List Frame} {meth : Method} {c : Code} {H : Heap} {locs : List Loc} {cells slots mc ms : Nat} {Q : State → Prop}
variable {cc : ByteArray} {pc : Nat} {ls : Array Slot} {rest : List Value} {D : va_G} {cl : List vw_C} {A : Nat → Prop} {tys : List (ClassId × FieldType)} {ws : va_W} {own cls text : String} {tx : List (Nat × String)} {Qc : Array Value → State → Outcome → State → Prop}
/-- 'throw new E("text")' -/
theorem q_throw (hexec : p.tables.exec = Jvm.exec) (hb : c.code = cc) (hl : l.stackTraces = false) {names : List String} {ik is ic ef : Nat}
    (hown : s.vm.findClass own = some m.cls) (hcls : Bundle.fit cls = true) (hnames : ∀ n ∈ names, Bundle.fit n = true)
    (hk : (Cond.classLink own ik cls).before args s = true) (hini : (Cond.initialized cls).before args s = true) (hT : q_T own tx s) (htx : (is, text) ∈ tx) {BW : List Cond} (hts : ∀ w ∈ BW, w.before args s = true) (hat1 : ∀ w ∈ (vx_atS own ic cls names).filter goodWord, w ∈ BW) (hN : q_N s) (hcs : cls ∈ q_cs) (hat2 : ∀ w ∈ (vx_atS own ic cls names).filter (fun w => !goodWord w), w ∈ q_B cls)
    (hgood : ∀ w ∈ Cond.classLink own ik cls :: Cond.initialized cls :: vx_atS own ic cls names, vx_ot w = true)
    (hZ : q_Z A s s.heap) (hS : va_S A s.heap H locs) (hsize : ls.size = c.maxLocals)
    (d0 : decode cc pc = .ok (.new ik, 3)) (d3 : decode cc (pc + 3) = .ok (.dup, 1)) (d4 : decode cc (pc + 4) = .ok (.ldc is, 2)) (d6 : decode cc (pc + 6) = .ok (.invokespecial ic, 3)) (d9 : decode cc (pc + 9) = .ok (.athrow, 1))
    (hno : ∀ x ∈ c.exceptionTable.toList, False)
    (hRframes : names.length + 3 < R.frames) (hRlocals : (rest.map fun v => v.category).sum + (13 * (names.length + 1) + 43) ≤ R.locals) (hRcells : cells + 1 ≤ R.cells) (hRslots : slots + 6 ≤ R.slots) (hlocks : meth.locks = false)
    (hE : cls = q_E ef) (hne : ¬ ef = 0) (hK : va_K D cl tys s) (hP : va_P D cl ws H) (hD : va_D A ws) (hc : cells + 1 ≤ mc) (hs : slots + 6 ≤ ms) :
    W p l e R s m args below meth c H locs cells slots (vx_MQ below Qc (vx_X (fun (_ : Unit) => ¬ ef = 0) (fun E _ t => E = q_E ef ∧ q_post D cl tys A ws t) A) args s mc ms A) (F0 m pc ls rest) := by
  obtain ⟨sa, hsa⟩ := hT (is, text) htx
  exact vx_throwS hexec hb hl hown hcls hnames hk hini hsa (vx_hat (fun w hw => hts w (hat1 w hw)) hat2 (q_hat hN hcs)) hgood hZ.1 hZ.2 hS hsize d0 d3 d4 d6 d9 (fun x hx => (hno x hx).elim) hRframes hRlocals hRcells hRslots hlocks
    (fun t hvm h1 h2 => ⟨(), hne, ⟨hE, hP.kept (fun k q hq => h2 q.1 (hP k q hq).lt), va_K.moved hvm hK, hD⟩, ⟨Nat.le_trans hS.1 h1, fun q hq hn => (h2 q (Nat.lt_of_lt_of_le hq hS.1)).trans (hS.2.1 q hq hn)⟩⟩) hS.2.2 hc hs
end QT
section QC
variable {p : Program} {l : Launch} {e : Env} {R : Room} {s : State} {m : MethodId} {args : Array Value} {below : List Frame} {meth : Method} {c : Code} {H : Heap} {locs : List Loc} {cells slots : Nat} {Q : State → Prop}
variable {cc : ByteArray} {pc : Nat} {ls : Array Slot} {rest : List Value} {D : va_G} {cl : List vw_C} {A : Nat → Prop} {a : Nat} {tys : List (ClassId × FieldType)} {ws : va_W} {H0 : Heap}
/-- System.arraycopy inside one int array -/
theorem q_cp (hexec : p.tables.exec = Jvm.exec) (hb : c.code = cc) (hml : c.maxLocals = ls.size) {own : String} {index : Nat} (hown : s.vm.findClass own = some m.cls) (hlink : (Cond.methodLink own index arraycopyName).before args s = true) (hnat : (Cond.native arraycopyName).before args s = true) (hstat : (Cond.static arraycopyName).before args s = true) (hini : (Cond.initialized "java/lang/System").before args s = true)
    (hK : va_K D cl tys s) (hP : va_P D cl ws H) (hD : va_D A ws) (hS : va_S A H0 H locs) (q0 t0 : Nat) {c0 : ClassId} {n0 : Nat} {f g : Nat → Int32} (ha0 : ws[q0]? = some (a, .inl (c0, n0, .inl f))) (ht0 : tys[t0]? = some (c0, .int))
    {sp dp n : Int32} (hv : cpI n0 f sp dp n = some g)
    (hframes : 1 ≤ R.frames) (hlocals : (rest.map fun v => v.category).sum + (nativeFrameWords "java/lang/System" "arraycopy" 5 + 11) ≤ R.locals) (hdg : decode cc pc = .ok (.invokestatic index, 3))
    (kk : ∀ (H1 : Heap) (locs1 : List Loc), va_P D cl (ws.set q0 (a, .inl (c0, n0, .inl g))) H1 → va_D A (ws.set q0 (a, .inl (c0, n0, .inl g))) → va_S A H0 H1 locs1 → W p l e R s m args below meth c H1 locs1 cells slots Q (F0 m (pc + 3) ls rest)) : W p l e R s m args below meth c H locs cells slots Q (F0 m pc ls (.int n :: .int dp :: .ref a :: .int sp :: .ref a :: rest)) := by
  unfold cpI at hv
  split at hv
  · cases hv
  · rename_i hn
    cases hv
    exact va_copyi hexec hb hml hown hlink hnat hstat hini hK hP hD hS q0 q0 t0 t0 ha0 ha0 ht0 ht0 rfl (fun h => hn (Or.inl h)) (fun h => hn (Or.inr (Or.inl h))) (fun h => hn (Or.inr (Or.inr (Or.inl h)))) (Nat.le_of_not_lt (fun h => hn (Or.inr (Or.inr (Or.inr (Or.inl h)))))) (Nat.le_of_not_lt (fun h => hn (Or.inr (Or.inr (Or.inr (Or.inr h)))))) (fun i hi => rfl) hframes hlocals hdg kk
end QC
