set_option maxHeartbeats 4000000 in
set_option maxRecDepth 100000 in
theorem ctXA_rangeCheck (l : Launch) (dC : Nat → ClassId) (dI : Nat → Nat → Nat) (cI cZ cL : ClassId) (sz : Nat) (x0 : Int32) (x1 : Int32) (x2 : Int32) (hf : fXA_rangeCheck x0 x1 x2 = some ()) : Met l yXA_rangeCheck wsXA_rangeCheck rmXA_rangeCheck (va_Pc [.int x0, .int x1, .int x2] (q_pre (dC, dI) vwCl (tyA cI cZ cL) sz ([] : va_W))) (va_Qv (fun (_ : Unit) => True) (fun _ => q_post (dC, dI) vwCl (tyA cI cZ cL) (va_A ([] : va_W) sz) ([] : va_W)) (va_A ([] : va_W) sz)) 0 0 (va_A ([] : va_W) sz) := by
  refine Met.ofW (cc := cXA_rangeCheck) (maxL := 3) (ret := (none)) (by decide) rfl ?_
  intro p e s m args below meth c s₁ B hml hv
  obtain ⟨rfl, hsz, hP, hK, hD0⟩ := hv
  have hx := B.exec
  have hb := B.bytes
  have hr := B.returns
  have hts := atoms_spec (ws := wsXA_rangeCheck) B.pre
  have hown : s.vm.findClass RA = some m.cls := findClass_of_methodNamed B.named
  subst hsz
  have hD := hD0.self (sz := s.heap.size)
  generalize hAe : va_A ([] : va_W) s.heap.size = A at hD ⊢
  have hA : ∀ q : Nat, s.heap.size ≤ q → A q := fun q h => by rw [← hAe]; exact Or.inr h
  have hS : va_S A s.heap s.heap [] := va_S.rf
  have hl := lv_entry ([.int x0, .int x1, .int x2]) (n := 3) (Nat.le_of_ble_eq_true rfl)
  rw [lg_entry_eq]
  generalize (lg_sl ([.int x0, .int x1, .int x2]) ++ List.replicate (3 - (lg_sl ([.int x0, .int x1, .int x2])).length) Slot.unset).toArray = ls at hl ⊢
  have hl : lv_has ls 3 [(0, .int x0), (1, .int x1), (2, .int x2)] := hl
  unfold fXA_rangeCheck at hf
  refine lv_iload_n hx hb dXA_rangeCheck_0 rfl (lv_at hl 1 rfl) ?_
  refine lv_iload_n hx hb dXA_rangeCheck_1 rfl (lv_at hl 2 rfl) ?_
  refine lv_icmp_le (tgt := 46) hx hb dXA_rangeCheck_2 (by decide) (fun h1 => ?_) (fun h1 => ?_)
  · have hf := ift h1 hf
    refine lv_iload_n hx hb dXA_rangeCheck_46 rfl (lv_at hl 1 rfl) ?_
    refine lv_if_ge (tgt := 59) hx hb dXA_rangeCheck_47 (by decide) (fun h2 => ?_) (fun h2 => ?_)
    · have hf := ift h2 hf
      refine lv_iload_n hx hb dXA_rangeCheck_59 rfl (lv_at hl 2 rfl) ?_
      refine lv_iload_n hx hb dXA_rangeCheck_60 rfl (lv_at hl 0 rfl) ?_
      refine lv_icmp_le (tgt := 73) hx hb dXA_rangeCheck_61 (by decide) (fun h3 => ?_) (fun h3 => ?_)
      · have hf := ift h3 hf
        exact W.vret hx hb hr (fun t ht hW => ⟨⟨(), rfl, trivial, by rw [ht]; exact hP, va_K.moved hW.alike hK, hD⟩, hS.F ht⟩) hS.2.2 dXA_rangeCheck_73
      · have hf := ifn h3 hf
        cases hf
    · have hf := ifn h2 hf
      cases hf
  · have hf := ifn h1 hf
    cases hf
set_option maxHeartbeats 4000000 in
set_option maxRecDepth 100000 in
theorem wXA_fill_L5 {p : Program} {l : Launch} {e : Env} {s : State} {m : MethodId} {args : Array Value} {below : List Frame} {meth : Method} {c : Code} {Q : State → Prop} {A : Nat → Prop} (dC : Nat → ClassId) (dI : Nat → Nat → Nat) (cI cZ cL : ClassId) (a k : Nat) (hx : p.tables.exec = Jvm.exec) (hb : c.code = cXA_fill) (hml : c.maxLocals = 4) (hown : s.vm.findClass RA = some m.cls) (hts : ∀ w ∈ wsXA_fill, w.before args s = true) (hK : va_K (dC, dI) vwCl (tyA cI cZ cL) s) (hA : ∀ q : Nat, s.heap.size ≤ q → A q) (x1_ : Int32) (x3_ : Int32) (n : Nat) :
    ∀ (x2_ : Int32) (f : Nat → Int32) (x2_' : Int32) (f' : Nat → Int32), fXA_fill_L5 k x1_ x3_ n x2_ f = some (x2_', f') → ∀ (H : Heap) (locs : List Loc) (ls : Array Slot), va_P (dC, dI) vwCl (wA cI a k f) H → va_D A (wA cI a k f) → va_S A s.heap H locs → lv_has ls 4 [(0, .ref a), (1, .int x1_), (2, .int x2_), (3, .int x3_)] → (∀ (H : Heap) (locs : List Loc) (ls : Array Slot), va_P (dC, dI) vwCl (wA cI a k f') H → va_D A (wA cI a k f') → va_S A s.heap H locs → lv_has ls 4 [(0, .ref a), (1, .int x1_), (2, .int x2_'), (3, .int x3_)] → W p l e (headSpec wsXA_fill rmXA_fill).room s m args below meth c H locs 0 0 Q (F0 m 20 ls [])) → W p l e (headSpec wsXA_fill rmXA_fill).room s m args below meth c H locs 0 0 Q (F0 m 5 ls []) := by
  induction n with
  | zero => intro x2_ f x2_' f' hf; cases hf
  | succ n ih =>
    intro x2_ f x2_' f' hf H locs ls hP hD hS hl k0
    have hf := (fXA_fill_L5_s k x1_ x3_ n x2_ f).symm.trans hf
    refine lv_iload_n hx hb dXA_fill_5 rfl (lv_at hl 2 rfl) ?_
    refine lv_iload_n hx hb dXA_fill_6 rfl (lv_at hl 3 rfl) ?_
    refine lv_icmp_ge (tgt := 20) hx hb dXA_fill_7 (by decide) (fun h1 => ?_) (fun h1 => ?_)
    · have hf := ift h1 hf
      cases hf
      exact k0 _ _ _ hP hD hS (lv_sub hl [0, 1, 2, 3] rfl)
    · have hf := ifn h1 hf
      refine lv_aload_n hx hb dXA_fill_10 rfl (lv_at hl 0 rfl) ?_
      refine lv_iload_n hx hb dXA_fill_11 rfl (lv_at hl 2 rfl) ?_
      refine lv_iload_n hx hb dXA_fill_12 rfl (lv_at hl 1 rfl) ?_
      obtain ⟨f_2, hv, hf⟩ := bd hf
      refine q_ist hx hb hK hP hD hS 0 0 rfl rfl hv dXA_fill_13 (fun H locs hP hD hS => ?_)
      have hP : va_P (dC, dI) vwCl (wA cI a k f_2) _ := hP
      have hD : va_D A (wA cI a k f_2) := hD
      refine lv_iinc (v := x2_ + (1 : Int32)) hx hb dXA_fill_14 hl (k := 2) rfl (by rfl) (by decide) rfl (fun ls hl => ?_)
      have hl : lv_has ls 4 [(2, .int (x2_ + (1 : Int32))), (0, .ref a), (1, .int x1_), (3, .int x3_)] := hl
      refine lv_goto (tgt := 5) hx hb dXA_fill_17 (by decide) ?_
      exact ih _ _ _ _ hf _ _ _ hP hD hS (lv_sub hl [1, 2, 0, 3] rfl) k0
set_option maxHeartbeats 4000000 in
set_option maxRecDepth 100000 in
theorem ctXA_fill (l : Launch) (dC : Nat → ClassId) (dI : Nat → Nat → Nat) (cI cZ cL : ClassId) (a k : Nat) (sz : Nat) (f : Nat → Int32) (x1 : Int32) (f' : Nat → Int32) (hf : fXA_fill k f x1 = some f') : Met l yXA_fill wsXA_fill rmXA_fill (va_Pc [.ref a, .int x1] (q_pre (dC, dI) vwCl (tyA cI cZ cL) sz (wA cI a k f))) (va_Qv (fun (_ : Unit) => True) (fun _ => q_post (dC, dI) vwCl (tyA cI cZ cL) (va_A (wA cI a k f) sz) (wA cI a k f')) (va_A (wA cI a k f) sz)) 0 0 (va_A (wA cI a k f) sz) := by
  refine Met.ofW (cc := cXA_fill) (maxL := 4) (ret := (none)) (by decide) rfl ?_
  intro p e s m args below meth c s₁ B hml hv
  obtain ⟨rfl, hsz, hP, hK, hD0⟩ := hv
  have hx := B.exec
  have hb := B.bytes
  have hr := B.returns
  have hts := atoms_spec (ws := wsXA_fill) B.pre
  have hown : s.vm.findClass RA = some m.cls := findClass_of_methodNamed B.named
  subst hsz
  have hD := hD0.self (sz := s.heap.size)
  generalize hAe : va_A (wA cI a k f) s.heap.size = A at hD ⊢
  have hA : ∀ q : Nat, s.heap.size ≤ q → A q := fun q h => by rw [← hAe]; exact Or.inr h
  have hS : va_S A s.heap s.heap [] := va_S.rf
  have hl := lv_entry ([.ref a, .int x1]) (n := 4) (Nat.le_of_ble_eq_true rfl)
  rw [lg_entry_eq]
  generalize (lg_sl ([.ref a, .int x1]) ++ List.replicate (4 - (lg_sl ([.ref a, .int x1])).length) Slot.unset).toArray = ls at hl ⊢
  have hl : lv_has ls 4 [(0, .ref a), (1, .int x1)] := hl
  unfold fXA_fill at hf
  refine lv_iconst (v := (0 : Int32)) hx hb dXA_fill_0 (by decide) ?_
  refine lv_istore_n hx hb dXA_fill_1 rfl hl (by decide) rfl (fun ls hl => ?_)
  have hl : lv_has ls 4 [(2, .int (0 : Int32)), (0, .ref a), (1, .int x1)] := hl
  refine lv_aload_n hx hb dXA_fill_2 rfl (lv_at hl 1 rfl) ?_
  refine va_alen hx hb hK hP 0 0 rfl rfl rfl dXA_fill_3 ?_
  refine lv_istore_n hx hb dXA_fill_4 rfl hl (by decide) rfl (fun ls hl => ?_)
  have hl : lv_has ls 4 [(3, .int (Int32.ofNat k)), (2, .int (0 : Int32)), (0, .ref a), (1, .int x1)] := hl
  obtain ⟨⟨x_3, f_4⟩, hv, hf⟩ := bd hf
  dsimp only at hf
  refine wXA_fill_L5 dC dI cI cZ cL a k hx hb hml hown hts hK hA x1 (Int32.ofNat k) FU (0 : Int32) f x_3 f_4 hv _ _ _ hP hD hS (lv_sub hl [2, 3, 1, 0] rfl) (fun H locs ls hP hD hS hl => ?_)
  have hg0 := Option.some.inj hf
  subst hg0
  exact W.vret hx hb hr (fun t ht hW => ⟨⟨(), rfl, trivial, by rw [ht]; exact hP, va_K.moved hW.alike hK, hD⟩, hS.F ht⟩) hS.2.2 dXA_fill_20
set_option maxHeartbeats 4000000 in
set_option maxRecDepth 100000 in
theorem wXB_fill_L10 {p : Program} {l : Launch} {e : Env} {s : State} {m : MethodId} {args : Array Value} {below : List Frame} {meth : Method} {c : Code} {Q : State → Prop} {A : Nat → Prop} (dC : Nat → ClassId) (dI : Nat → Nat → Nat) (cI cZ cL : ClassId) (a k : Nat) (hx : p.tables.exec = Jvm.exec) (hb : c.code = cXB_fill) (hml : c.maxLocals = 5) (hown : s.vm.findClass RA = some m.cls) (hts : ∀ w ∈ wsXB_fill, w.before args s = true) (hK : va_K (dC, dI) vwCl (tyA cI cZ cL) s) (hA : ∀ q : Nat, s.heap.size ≤ q → A q) (x1_ : Int32) (x2_ : Int32) (x3_ : Int32) (n : Nat) :
    ∀ (x4_ : Int32) (f : Nat → Int32) (x4_' : Int32) (f' : Nat → Int32), fXB_fill_L10 k x2_ x3_ n x4_ f = some (x4_', f') → ∀ (H : Heap) (locs : List Loc) (ls : Array Slot), va_P (dC, dI) vwCl (wA cI a k f) H → va_D A (wA cI a k f) → va_S A s.heap H locs → lv_has ls 5 [(0, .ref a), (1, .int x1_), (2, .int x2_), (3, .int x3_), (4, .int x4_)] → (∀ (H : Heap) (locs : List Loc) (ls : Array Slot), va_P (dC, dI) vwCl (wA cI a k f') H → va_D A (wA cI a k f') → va_S A s.heap H locs → lv_has ls 5 [(0, .ref a), (1, .int x1_), (2, .int x2_), (3, .int x3_), (4, .int x4_')] → W p l e (headSpec wsXB_fill rmXB_fill).room s m args below meth c H locs 0 0 Q (F0 m 27 ls [])) → W p l e (headSpec wsXB_fill rmXB_fill).room s m args below meth c H locs 0 0 Q (F0 m 10 ls []) := by
  induction n with
  | zero => intro x4_ f x4_' f' hf; cases hf
  | succ n ih =>
    intro x4_ f x4_' f' hf H locs ls hP hD hS hl k0
    have hf := (fXB_fill_L10_s k x2_ x3_ n x4_ f).symm.trans hf
    refine lv_iload hx hb dXB_fill_10 (lv_at hl 4 rfl) ?_
    refine lv_iload_n hx hb dXB_fill_12 rfl (lv_at hl 2 rfl) ?_
    refine lv_icmp_ge (tgt := 27) hx hb dXB_fill_13 (by decide) (fun h1 => ?_) (fun h1 => ?_)
    · have hf := ift h1 hf
      cases hf
      exact k0 _ _ _ hP hD hS (lv_sub hl [0, 1, 2, 3, 4] rfl)
    · have hf := ifn h1 hf
      refine lv_aload_n hx hb dXB_fill_16 rfl (lv_at hl 0 rfl) ?_
      refine lv_iload hx hb dXB_fill_17 (lv_at hl 4 rfl) ?_
      refine lv_iload_n hx hb dXB_fill_19 rfl (lv_at hl 3 rfl) ?_
      obtain ⟨f_2, hv, hf⟩ := bd hf
      refine q_ist hx hb hK hP hD hS 0 0 rfl rfl hv dXB_fill_20 (fun H locs hP hD hS => ?_)
      have hP : va_P (dC, dI) vwCl (wA cI a k f_2) _ := hP
      have hD : va_D A (wA cI a k f_2) := hD
      refine lv_iinc (v := x4_ + (1 : Int32)) hx hb dXB_fill_21 hl (k := 4) rfl (by rfl) (by decide) rfl (fun ls hl => ?_)
      have hl : lv_has ls 5 [(4, .int (x4_ + (1 : Int32))), (0, .ref a), (1, .int x1_), (2, .int x2_), (3, .int x3_)] := hl
      refine lv_goto (tgt := 10) hx hb dXB_fill_24 (by decide) ?_
      exact ih _ _ _ _ hf _ _ _ hP hD hS (lv_sub hl [1, 2, 3, 4, 0] rfl) k0
set_option maxHeartbeats 4000000 in
set_option maxRecDepth 100000 in
theorem ctXB_fill (l : Launch) (dC : Nat → ClassId) (dI : Nat → Nat → Nat) (cI cZ cL : ClassId) (a k : Nat) (sz : Nat) (f : Nat → Int32) (x1 : Int32) (x2 : Int32) (x3 : Int32) (f' : Nat → Int32) (hf : fXB_fill k f x1 x2 x3 = some f') : Met l yXB_fill wsXB_fill rmXB_fill (va_Pc [.ref a, .int x1, .int x2, .int x3] (q_pre (dC, dI) vwCl (tyA cI cZ cL) sz (wA cI a k f))) (va_Qv (fun (_ : Unit) => True) (fun _ => q_post (dC, dI) vwCl (tyA cI cZ cL) (va_A (wA cI a k f) sz) (wA cI a k f')) (va_A (wA cI a k f) sz)) 0 0 (va_A (wA cI a k f) sz) := by
  refine Met.ofW (cc := cXB_fill) (maxL := 5) (ret := (none)) (by decide) rfl ?_
  intro p e s m args below meth c s₁ B hml hv
  obtain ⟨rfl, hsz, hP, hK, hD0⟩ := hv
  have hx := B.exec
  have hb := B.bytes
  have hr := B.returns
  have hts := atoms_spec (ws := wsXB_fill) B.pre
  have hown : s.vm.findClass RA = some m.cls := findClass_of_methodNamed B.named
  subst hsz
  have hD := hD0.self (sz := s.heap.size)
  generalize hAe : va_A (wA cI a k f) s.heap.size = A at hD ⊢
  have hA : ∀ q : Nat, s.heap.size ≤ q → A q := fun q h => by rw [← hAe]; exact Or.inr h
  have hS : va_S A s.heap s.heap [] := va_S.rf
  have hl := lv_entry ([.ref a, .int x1, .int x2, .int x3]) (n := 5) (Nat.le_of_ble_eq_true rfl)
  rw [lg_entry_eq]
  generalize (lg_sl ([.ref a, .int x1, .int x2, .int x3]) ++ List.replicate (5 - (lg_sl ([.ref a, .int x1, .int x2, .int x3])).length) Slot.unset).toArray = ls at hl ⊢
  have hl : lv_has ls 5 [(0, .ref a), (1, .int x1), (2, .int x2), (3, .int x3)] := hl
  unfold fXB_fill at hf
  refine lv_aload_n hx hb dXB_fill_0 rfl (lv_at hl 0 rfl) ?_
  refine va_alen hx hb hK hP 0 0 rfl rfl rfl dXB_fill_1 ?_
  refine lv_iload_n hx hb dXB_fill_2 rfl (lv_at hl 1 rfl) ?_
  refine lv_iload_n hx hb dXB_fill_3 rfl (lv_at hl 2 rfl) ?_
  obtain ⟨_, hv, hf⟩ := bd hf
  refine q_cv (wr := (wA cI a k f)) (va_runS (As := [.int (Int32.ofNat k), .int x1, .int x2]) (rest := []) ⟨hx, hb, hml, hown, hts⟩ (ctXA_rangeCheck l dC dI cI cZ cL _ (Int32.ofNat k) x1 x2 hv) (va_cwS 3 hts (gS mw_333 mw_334 mw_39 mw_335) rfl rfl rfl (by decide +kernel) ⟨Nat.le_of_ble_eq_true rfl, Nat.le_of_ble_eq_true rfl⟩) (q_preS [.int (Int32.ofNat k), .int x1, .int x2] hK hP hD [] (by decide) rfl) rfl rfl hl.1 rfl (lv_room (Nat.le_of_ble_eq_true rfl)) dXB_fill_4 ⟨Nat.le_of_ble_eq_true rfl, Nat.le_of_ble_eq_true rfl⟩) hP hD hS hA [] [0] rfl rfl (by decide) (by decide) (fun H locs hP hD hS => ?_)
  have hP : va_P (dC, dI) vwCl (wA cI a k f) _ := hP
  have hD : va_D A (wA cI a k f) := hD
  refine lv_iload_n hx hb dXB_fill_7 rfl (lv_at hl 1 rfl) ?_
  refine lv_istore hx hb dXB_fill_8 hl (by decide) rfl (fun ls hl => ?_)
  have hl : lv_has ls 5 [(4, .int x1), (0, .ref a), (1, .int x1), (2, .int x2), (3, .int x3)] := hl
  obtain ⟨⟨x_3, f_4⟩, hv, hf⟩ := bd hf
  dsimp only at hf
  refine wXB_fill_L10 dC dI cI cZ cL a k hx hb hml hown hts hK hA x1 x2 x3 FU x1 f x_3 f_4 hv _ _ _ hP hD hS (lv_sub hl [1, 2, 3, 4, 0] rfl) (fun H locs ls hP hD hS hl => ?_)
  have hg0 := Option.some.inj hf
  subst hg0
  exact W.vret hx hb hr (fun t ht hW => ⟨⟨(), rfl, trivial, by rw [ht]; exact hP, va_K.moved hW.alike hK, hD⟩, hS.F ht⟩) hS.2.2 dXB_fill_27
set_option maxHeartbeats 4000000 in
set_option maxRecDepth 100000 in
theorem ctX0_requireRoot (l : Launch) (hlt : l.stackTraces = false) (dC : Nat → ClassId) (dI : Nat → Nat → Nat) (cI cZ cL : ClassId) (sz : Nat) (x0 : Int32) (ef : Nat) (hf : fX0_requireRoot x0 = some ef) : vx_Met l yX0_requireRoot wsX0_requireRoot (rmX0_requireRoot ef) (va_Pc [.int x0] (q_preX (dC, dI) vwCl (tyA cI cZ cL) RX0 q_tx sz ([] : va_W))) (va_Qv (fun (_ : Unit) => ef = 0) (fun _ => q_post (dC, dI) vwCl (tyA cI cZ cL) (va_A ([] : va_W) sz) ([] : va_W)) (va_A ([] : va_W) sz)) (vx_X (fun (_ : Unit) => ¬ ef = 0) (fun E _ t => E = q_E ef ∧ q_post (dC, dI) vwCl (tyA cI cZ cL) (va_A ([] : va_W) sz) ([] : va_W) t) (va_A ([] : va_W) sz)) (q_mc ef) (q_ms ef) (va_A ([] : va_W) sz) := by
  refine vx_ofW (cc := cX0_requireRoot) (maxL := 1) (ret := (none)) (by decide) rfl ?_
  intro p e s m args below meth c s₁ B hml hno hv
  obtain ⟨rfl, hsz, hP, hK, hD0, hZ0, hT, hN⟩ := hv
  have hx := B.exec
  have hb := B.bytes
  have hr := B.returns
  have hts := atoms_spec (ws := wsX0_requireRoot) B.pre
  have hown : s.vm.findClass RX0 = some m.cls := findClass_of_methodNamed B.named
  have hlk := B.notSynchronized
  subst hsz
  have hD := hD0.self (sz := s.heap.size)
  generalize hAe : va_A ([] : va_W) s.heap.size = A at hZ0 hD ⊢
  have hA : ∀ q : Nat, s.heap.size ≤ q → A q := fun q h => by rw [← hAe]; exact Or.inr h
  have hS : va_S A s.heap s.heap [] := va_S.rf
  have hl := lv_entry ([.int x0]) (n := 1) (Nat.le_of_ble_eq_true rfl)
  rw [lg_entry_eq]
  generalize (lg_sl ([.int x0]) ++ List.replicate (1 - (lg_sl ([.int x0])).length) Slot.unset).toArray = ls at hl ⊢
  have hl : lv_has ls 1 [(0, .int x0)] := hl
  unfold fX0_requireRoot at hf
  refine lv_iload_n hx hb dX0_requireRoot_0 rfl (lv_at hl 0 rfl) ?_
  refine lv_if_lt (tgt := 10) hx hb dX0_requireRoot_1 (by decide) (fun h1 => ?_) (fun h1 => ?_)
  · have hf := ift h1 hf
    have hg0 := Option.some.inj hf
    subst hg0
    exact q_throw (ef := 1) (text := "no such root") (names := ["java/lang/RuntimeException", "java/lang/Exception"]) hx hb hlt hown (by decide +kernel) (by decide +kernel) (hts _ (List.mem_cons_of_mem _ mw_138)) (hts _ (List.mem_cons_of_mem _ mw_44)) hT (by decide +kernel) (fun w hw => hts w (List.mem_cons_of_mem _ hw)) at_1 hN (by decide +kernel) (by decide +kernel) (by decide +kernel) hZ0 hS (hl.1.trans hml.symm) dX0_requireRoot_10 dX0_requireRoot_13 dX0_requireRoot_14 dX0_requireRoot_16 dX0_requireRoot_19 hno (Nat.le_of_ble_eq_true rfl) (Nat.le_of_ble_eq_true rfl) (Nat.le_of_ble_eq_true rfl) (Nat.le_of_ble_eq_true rfl) hlk rfl (by decide) hK hP hD (Nat.le_of_ble_eq_true rfl) (Nat.le_of_ble_eq_true rfl)
  · have hf := ifn h1 hf
    refine lv_iload_n hx hb dX0_requireRoot_4 rfl (lv_at hl 0 rfl) ?_
    refine lv_bipush (v := (8 : Int32)) hx hb dX0_requireRoot_5 (by decide) ?_
    refine lv_icmp_lt (tgt := 20) hx hb dX0_requireRoot_7 (by decide) (fun h2 => ?_) (fun h2 => ?_)
    · have hf := ift h2 hf
      have hg0 := Option.some.inj hf
      subst hg0
      refine vx_ret ?_
      refine W.widen (k := q_mc 0) (n := q_ms 0) (Nat.zero_le _) (Nat.zero_le _) ?_
      exact W.vret hx hb hr (fun t ht hW => ⟨⟨(), rfl, rfl, by rw [ht]; exact hP, va_K.moved hW.alike hK, hD⟩, hS.F ht⟩) hS.2.2 dX0_requireRoot_20 hlk
    · have hf := ifn h2 hf
      have hg0 := Option.some.inj hf
      subst hg0
      exact q_throw (ef := 1) (text := "no such root") (names := ["java/lang/RuntimeException", "java/lang/Exception"]) hx hb hlt hown (by decide +kernel) (by decide +kernel) (hts _ (List.mem_cons_of_mem _ mw_138)) (hts _ (List.mem_cons_of_mem _ mw_44)) hT (by decide +kernel) (fun w hw => hts w (List.mem_cons_of_mem _ hw)) at_1 hN (by decide +kernel) (by decide +kernel) (by decide +kernel) hZ0 hS (hl.1.trans hml.symm) dX0_requireRoot_10 dX0_requireRoot_13 dX0_requireRoot_14 dX0_requireRoot_16 dX0_requireRoot_19 hno (Nat.le_of_ble_eq_true rfl) (Nat.le_of_ble_eq_true rfl) (Nat.le_of_ble_eq_true rfl) (Nat.le_of_ble_eq_true rfl) hlk rfl (by decide) hK hP hD (Nat.le_of_ble_eq_true rfl) (Nat.le_of_ble_eq_true rfl)
set_option maxHeartbeats 4000000 in
set_option maxRecDepth 100000 in
theorem ctX0_requireFieldCount (l : Launch) (hlt : l.stackTraces = false) (dC : Nat → ClassId) (dI : Nat → Nat → Nat) (cI cZ cL : ClassId) (sz : Nat) (x0 : Int32) (ef : Nat) (hf : fX0_requireFieldCount x0 = some ef) : vx_Met l yX0_requireFieldCount wsX0_requireFieldCount (rmX0_requireFieldCount ef) (va_Pc [.int x0] (q_preX (dC, dI) vwCl (tyA cI cZ cL) RX0 q_tx sz ([] : va_W))) (va_Qv (fun (_ : Unit) => ef = 0) (fun _ => q_post (dC, dI) vwCl (tyA cI cZ cL) (va_A ([] : va_W) sz) ([] : va_W)) (va_A ([] : va_W) sz)) (vx_X (fun (_ : Unit) => ¬ ef = 0) (fun E _ t => E = q_E ef ∧ q_post (dC, dI) vwCl (tyA cI cZ cL) (va_A ([] : va_W) sz) ([] : va_W) t) (va_A ([] : va_W) sz)) (q_mc ef) (q_ms ef) (va_A ([] : va_W) sz) := by
  refine vx_ofW (cc := cX0_requireFieldCount) (maxL := 1) (ret := (none)) (by decide) rfl ?_
  intro p e s m args below meth c s₁ B hml hno hv
  obtain ⟨rfl, hsz, hP, hK, hD0, hZ0, hT, hN⟩ := hv
  have hx := B.exec
  have hb := B.bytes
  have hr := B.returns
  have hts := atoms_spec (ws := wsX0_requireFieldCount) B.pre
  have hown : s.vm.findClass RX0 = some m.cls := findClass_of_methodNamed B.named
  have hlk := B.notSynchronized
  subst hsz
  have hD := hD0.self (sz := s.heap.size)
  generalize hAe : va_A ([] : va_W) s.heap.size = A at hZ0 hD ⊢
  have hA : ∀ q : Nat, s.heap.size ≤ q → A q := fun q h => by rw [← hAe]; exact Or.inr h
  have hS : va_S A s.heap s.heap [] := va_S.rf
  have hl := lv_entry ([.int x0]) (n := 1) (Nat.le_of_ble_eq_true rfl)
  rw [lg_entry_eq]
  generalize (lg_sl ([.int x0]) ++ List.replicate (1 - (lg_sl ([.int x0])).length) Slot.unset).toArray = ls at hl ⊢
  have hl : lv_has ls 1 [(0, .int x0)] := hl
  unfold fX0_requireFieldCount at hf
  refine lv_iload_n hx hb dX0_requireFieldCount_0 rfl (lv_at hl 0 rfl) ?_
  refine lv_if_lt (tgt := 10) hx hb dX0_requireFieldCount_1 (by decide) (fun h1 => ?_) (fun h1 => ?_)
  · have hf := ift h1 hf
    have hg0 := Option.some.inj hf
    subst hg0
    exact q_throw (ef := 2) (text := "an object has 0 to 6 fields") (names := ["java/lang/RuntimeException", "java/lang/Exception"]) hx hb hlt hown (by decide +kernel) (by decide +kernel) (hts _ (List.mem_cons_of_mem _ mw_211)) (hts _ (List.mem_cons_of_mem _ mw_45)) hT (by decide +kernel) (fun w hw => hts w (List.mem_cons_of_mem _ hw)) at_2 hN (by decide +kernel) (by decide +kernel) (by decide +kernel) hZ0 hS (hl.1.trans hml.symm) dX0_requireFieldCount_10 dX0_requireFieldCount_13 dX0_requireFieldCount_14 dX0_requireFieldCount_16 dX0_requireFieldCount_19 hno (Nat.le_of_ble_eq_true rfl) (Nat.le_of_ble_eq_true rfl) (Nat.le_of_ble_eq_true rfl) (Nat.le_of_ble_eq_true rfl) hlk rfl (by decide) hK hP hD (Nat.le_of_ble_eq_true rfl) (Nat.le_of_ble_eq_true rfl)
  · have hf := ifn h1 hf
    refine lv_iload_n hx hb dX0_requireFieldCount_4 rfl (lv_at hl 0 rfl) ?_
    refine lv_bipush (v := (6 : Int32)) hx hb dX0_requireFieldCount_5 (by decide) ?_
    refine lv_icmp_le (tgt := 20) hx hb dX0_requireFieldCount_7 (by decide) (fun h2 => ?_) (fun h2 => ?_)
    · have hf := ift h2 hf
      have hg0 := Option.some.inj hf
      subst hg0
      refine vx_ret ?_
      refine W.widen (k := q_mc 0) (n := q_ms 0) (Nat.zero_le _) (Nat.zero_le _) ?_
      exact W.vret hx hb hr (fun t ht hW => ⟨⟨(), rfl, rfl, by rw [ht]; exact hP, va_K.moved hW.alike hK, hD⟩, hS.F ht⟩) hS.2.2 dX0_requireFieldCount_20 hlk
    · have hf := ifn h2 hf
      have hg0 := Option.some.inj hf
      subst hg0
      exact q_throw (ef := 2) (text := "an object has 0 to 6 fields") (names := ["java/lang/RuntimeException", "java/lang/Exception"]) hx hb hlt hown (by decide +kernel) (by decide +kernel) (hts _ (List.mem_cons_of_mem _ mw_211)) (hts _ (List.mem_cons_of_mem _ mw_45)) hT (by decide +kernel) (fun w hw => hts w (List.mem_cons_of_mem _ hw)) at_2 hN (by decide +kernel) (by decide +kernel) (by decide +kernel) hZ0 hS (hl.1.trans hml.symm) dX0_requireFieldCount_10 dX0_requireFieldCount_13 dX0_requireFieldCount_14 dX0_requireFieldCount_16 dX0_requireFieldCount_19 hno (Nat.le_of_ble_eq_true rfl) (Nat.le_of_ble_eq_true rfl) (Nat.le_of_ble_eq_true rfl) (Nat.le_of_ble_eq_true rfl) hlk rfl (by decide) hK hP hD (Nat.le_of_ble_eq_true rfl) (Nat.le_of_ble_eq_true rfl)
set_option maxHeartbeats 4000000 in
set_option maxRecDepth 100000 in
theorem ctX0_requireWay (l : Launch) (hlt : l.stackTraces = false) (dC : Nat → ClassId) (dI : Nat → Nat → Nat) (cI cZ cL : ClassId) (sz : Nat) (x0 : Int32) (ef : Nat) (hf : fX0_requireWay x0 = some ef) : vx_Met l yX0_requireWay wsX0_requireWay (rmX0_requireWay ef) (va_Pc [.int x0] (q_preX (dC, dI) vwCl (tyA cI cZ cL) RX0 q_tx sz ([] : va_W))) (va_Qv (fun (_ : Unit) => ef = 0) (fun _ => q_post (dC, dI) vwCl (tyA cI cZ cL) (va_A ([] : va_W) sz) ([] : va_W)) (va_A ([] : va_W) sz)) (vx_X (fun (_ : Unit) => ¬ ef = 0) (fun E _ t => E = q_E ef ∧ q_post (dC, dI) vwCl (tyA cI cZ cL) (va_A ([] : va_W) sz) ([] : va_W) t) (va_A ([] : va_W) sz)) (q_mc ef) (q_ms ef) (va_A ([] : va_W) sz) := by
  refine vx_ofW (cc := cX0_requireWay) (maxL := 1) (ret := (none)) (by decide) rfl ?_
  intro p e s m args below meth c s₁ B hml hno hv
  obtain ⟨rfl, hsz, hP, hK, hD0, hZ0, hT, hN⟩ := hv
  have hx := B.exec
  have hb := B.bytes
  have hr := B.returns
  have hts := atoms_spec (ws := wsX0_requireWay) B.pre
  have hown : s.vm.findClass RX0 = some m.cls := findClass_of_methodNamed B.named
  have hlk := B.notSynchronized
  subst hsz
  have hD := hD0.self (sz := s.heap.size)
  generalize hAe : va_A ([] : va_W) s.heap.size = A at hZ0 hD ⊢
  have hA : ∀ q : Nat, s.heap.size ≤ q → A q := fun q h => by rw [← hAe]; exact Or.inr h
  have hS : va_S A s.heap s.heap [] := va_S.rf
  have hl := lv_entry ([.int x0]) (n := 1) (Nat.le_of_ble_eq_true rfl)
  rw [lg_entry_eq]
  generalize (lg_sl ([.int x0]) ++ List.replicate (1 - (lg_sl ([.int x0])).length) Slot.unset).toArray = ls at hl ⊢
  have hl : lv_has ls 1 [(0, .int x0)] := hl
  unfold fX0_requireWay at hf
  refine lv_iload_n hx hb dX0_requireWay_0 rfl (lv_at hl 0 rfl) ?_
  refine lv_if_lt (tgt := 9) hx hb dX0_requireWay_1 (by decide) (fun h1 => ?_) (fun h1 => ?_)
  · have hf := ift h1 hf
    have hg0 := Option.some.inj hf
    subst hg0
    exact q_throw (ef := 2) (text := "the ways are 0 to 2") (names := ["java/lang/RuntimeException", "java/lang/Exception"]) hx hb hlt hown (by decide +kernel) (by decide +kernel) (hts _ (List.mem_cons_of_mem _ mw_211)) (hts _ (List.mem_cons_of_mem _ mw_45)) hT (by decide +kernel) (fun w hw => hts w (List.mem_cons_of_mem _ hw)) at_2 hN (by decide +kernel) (by decide +kernel) (by decide +kernel) hZ0 hS (hl.1.trans hml.symm) dX0_requireWay_9 dX0_requireWay_12 dX0_requireWay_13 dX0_requireWay_15 dX0_requireWay_18 hno (Nat.le_of_ble_eq_true rfl) (Nat.le_of_ble_eq_true rfl) (Nat.le_of_ble_eq_true rfl) (Nat.le_of_ble_eq_true rfl) hlk rfl (by decide) hK hP hD (Nat.le_of_ble_eq_true rfl) (Nat.le_of_ble_eq_true rfl)
  · have hf := ifn h1 hf
    refine lv_iload_n hx hb dX0_requireWay_4 rfl (lv_at hl 0 rfl) ?_
    refine lv_iconst (v := (2 : Int32)) hx hb dX0_requireWay_5 (by decide) ?_
    refine lv_icmp_le (tgt := 19) hx hb dX0_requireWay_6 (by decide) (fun h2 => ?_) (fun h2 => ?_)
    · have hf := ift h2 hf
      have hg0 := Option.some.inj hf
      subst hg0
      refine vx_ret ?_
      refine W.widen (k := q_mc 0) (n := q_ms 0) (Nat.zero_le _) (Nat.zero_le _) ?_
      exact W.vret hx hb hr (fun t ht hW => ⟨⟨(), rfl, rfl, by rw [ht]; exact hP, va_K.moved hW.alike hK, hD⟩, hS.F ht⟩) hS.2.2 dX0_requireWay_19 hlk
    · have hf := ifn h2 hf
      have hg0 := Option.some.inj hf
      subst hg0
      exact q_throw (ef := 2) (text := "the ways are 0 to 2") (names := ["java/lang/RuntimeException", "java/lang/Exception"]) hx hb hlt hown (by decide +kernel) (by decide +kernel) (hts _ (List.mem_cons_of_mem _ mw_211)) (hts _ (List.mem_cons_of_mem _ mw_45)) hT (by decide +kernel) (fun w hw => hts w (List.mem_cons_of_mem _ hw)) at_2 hN (by decide +kernel) (by decide +kernel) (by decide +kernel) hZ0 hS (hl.1.trans hml.symm) dX0_requireWay_9 dX0_requireWay_12 dX0_requireWay_13 dX0_requireWay_15 dX0_requireWay_18 hno (Nat.le_of_ble_eq_true rfl) (Nat.le_of_ble_eq_true rfl) (Nat.le_of_ble_eq_true rfl) (Nat.le_of_ble_eq_true rfl) hlk rfl (by decide) hK hP hD (Nat.le_of_ble_eq_true rfl) (Nat.le_of_ble_eq_true rfl)
set_option maxHeartbeats 4000000 in
set_option maxRecDepth 100000 in
theorem ctX0_fieldAddress (l : Launch) (dC : Nat → ClassId) (dI : Nat → Nat → Nat) (cI cZ cL : ClassId) (sz : Nat) (x0 : Int32) (x1 : Int32) (rs : Int32) (hf : fX0_fieldAddress x0 x1 = some rs) : Met l yX0_fieldAddress wsX0_fieldAddress rmX0_fieldAddress (va_Pc [.int x0, .int x1] (q_pre (dC, dI) vwCl (tyA cI cZ cL) sz ([] : va_W))) (va_Qi (fun r (_ : Unit) => r = rs) (fun _ => q_post (dC, dI) vwCl (tyA cI cZ cL) (va_A ([] : va_W) sz) ([] : va_W)) (va_A ([] : va_W) sz)) 0 0 (va_A ([] : va_W) sz) := by
  refine Met.ofW (cc := cX0_fieldAddress) (maxL := 2) (ret := (some .int)) (by decide) rfl ?_
  intro p e s m args below meth c s₁ B hml hv
  obtain ⟨rfl, hsz, hP, hK, hD0⟩ := hv
  have hx := B.exec
  have hb := B.bytes
  have hr := B.returns
  have hts := atoms_spec (ws := wsX0_fieldAddress) B.pre
  have hown : s.vm.findClass RX0 = some m.cls := findClass_of_methodNamed B.named
  subst hsz
  have hD := hD0.self (sz := s.heap.size)
  generalize hAe : va_A ([] : va_W) s.heap.size = A at hD ⊢
  have hA : ∀ q : Nat, s.heap.size ≤ q → A q := fun q h => by rw [← hAe]; exact Or.inr h
  have hS : va_S A s.heap s.heap [] := va_S.rf
  have hl := lv_entry ([.int x0, .int x1]) (n := 2) (Nat.le_of_ble_eq_true rfl)
  rw [lg_entry_eq]
  generalize (lg_sl ([.int x0, .int x1]) ++ List.replicate (2 - (lg_sl ([.int x0, .int x1])).length) Slot.unset).toArray = ls at hl ⊢
  have hl : lv_has ls 2 [(0, .int x0), (1, .int x1)] := hl
  unfold fX0_fieldAddress at hf
  refine lv_iload_n hx hb dX0_fieldAddress_0 rfl (lv_at hl 0 rfl) ?_
  refine lv_iconst (v := (2 : Int32)) hx hb dX0_fieldAddress_1 (by decide) ?_
  refine lv_iadd hx hb dX0_fieldAddress_2 ?_
  refine lv_iload_n hx hb dX0_fieldAddress_3 rfl (lv_at hl 1 rfl) ?_
  refine lv_iadd hx hb dX0_fieldAddress_4 ?_
  have hg0 := Option.some.inj hf
  subst hg0
  exact W.iret hx hb hr (fun t ht hW => ⟨⟨_, (), rfl, rfl, by rw [ht]; exact hP, va_K.moved hW.alike hK, hD⟩, hS.F ht⟩) hS.2.2 dX0_fieldAddress_5
set_option maxHeartbeats 4000000 in
set_option maxRecDepth 100000 in
theorem ctX0_hasRoom (l : Launch) (dC : Nat → ClassId) (dI : Nat → Nat → Nat) (cI cZ cL : ClassId) (h a1 a2 a3 a4 a5 : Nat) (sz : Nat) (w : Nat → Int32) (r : Nat → Int32) (st : Nat → Int32) (rc : Nat → Int32) (na : Nat → Int32) (tp : Int32) (cn : Int32) (rh : Int32) (sr : Int32) (x1 : Int32) (rs : Int32) (hf : fX0_hasRoom tp x1 = some rs) : Met l yX0_hasRoom wsX0_hasRoom rmX0_hasRoom (va_Pc [.ref h, .int x1] (q_pre (dC, dI) vwCl (tyA cI cZ cL) sz (wX cI h a1 a2 a3 a4 a5 w r st rc na tp cn rh sr))) (va_Qi (fun r (_ : Unit) => r = rs) (fun _ => q_post (dC, dI) vwCl (tyA cI cZ cL) (va_A (wX cI h a1 a2 a3 a4 a5 w r st rc na tp cn rh sr) sz) (wX cI h a1 a2 a3 a4 a5 w r st rc na tp cn rh sr)) (va_A (wX cI h a1 a2 a3 a4 a5 w r st rc na tp cn rh sr) sz)) 0 0 (va_A (wX cI h a1 a2 a3 a4 a5 w r st rc na tp cn rh sr) sz) := by
  refine Met.ofW (cc := cX0_hasRoom) (maxL := 2) (ret := (some .boolean)) (by decide) rfl ?_
  intro p e s m args below meth c s₁ B hml hv
  obtain ⟨rfl, hsz, hP, hK, hD0⟩ := hv
  have hx := B.exec
  have hb := B.bytes
  have hr := B.returns
  have hts := atoms_spec (ws := wsX0_hasRoom) B.pre
  have hown : s.vm.findClass RX0 = some m.cls := findClass_of_methodNamed B.named
  subst hsz
  have hD := hD0.self (sz := s.heap.size)
  generalize hAe : va_A (wX cI h a1 a2 a3 a4 a5 w r st rc na tp cn rh sr) s.heap.size = A at hD ⊢
  have hA : ∀ q : Nat, s.heap.size ≤ q → A q := fun q h => by rw [← hAe]; exact Or.inr h
  have hS : va_S A s.heap s.heap [] := va_S.rf
  have hl := lv_entry ([.ref h, .int x1]) (n := 2) (Nat.le_of_ble_eq_true rfl)
  rw [lg_entry_eq]
  generalize (lg_sl ([.ref h, .int x1]) ++ List.replicate (2 - (lg_sl ([.ref h, .int x1])).length) Slot.unset).toArray = ls at hl ⊢
  have hl : lv_has ls 2 [(0, .ref h), (1, .int x1)] := hl
  unfold fX0_hasRoom at hf
  refine lv_aload_n hx hb dX0_hasRoom_0 rfl (lv_at hl 0 rfl) ?_
  refine va_get (D := (dC, dI)) (ci := 0) (v := .int tp) (C := RX0) (T := TX0) (N := 9) hx hb hts (fun w hw => List.mem_cons_of_mem _ (inX0 w hw)) hown hK hP 0 rfl rfl 5 (by decide) (hts _ (List.mem_cons_of_mem _ mw_66)) (fun _ h9 => h9) rfl dX0_hasRoom_1 ?_
  refine lv_iconst (v := (2 : Int32)) hx hb dX0_hasRoom_4 (by decide) ?_
  refine lv_iadd hx hb dX0_hasRoom_5 ?_
  refine lv_iload_n hx hb dX0_hasRoom_6 rfl (lv_at hl 1 rfl) ?_
  refine lv_iadd hx hb dX0_hasRoom_7 ?_
  refine lv_sipush (v := (256 : Int32)) hx hb dX0_hasRoom_8 (by decide) ?_
  refine lv_icmp_gt (tgt := 18) hx hb dX0_hasRoom_11 (by decide) (fun h1 => ?_) (fun h1 => ?_)
  · have hf := ift h1 hf
    refine lv_iconst (v := (0 : Int32)) hx hb dX0_hasRoom_18 (by decide) ?_
    have hg0 := Option.some.inj hf
    subst hg0
    exact W.zret hx hb hr rfl (fun t ht hW => ⟨⟨_, (), rfl, rfl, by rw [ht]; exact hP, va_K.moved hW.alike hK, hD⟩, hS.F ht⟩) hS.2.2 dX0_hasRoom_19
  · have hf := ifn h1 hf
    refine lv_iconst (v := (1 : Int32)) hx hb dX0_hasRoom_14 (by decide) ?_
    refine lv_goto (tgt := 19) hx hb dX0_hasRoom_15 (by decide) ?_
    have hg0 := Option.some.inj hf
    subst hg0
    exact W.zret hx hb hr rfl (fun t ht hW => ⟨⟨_, (), rfl, rfl, by rw [ht]; exact hP, va_K.moved hW.alike hK, hD⟩, hS.F ht⟩) hS.2.2 dX0_hasRoom_19
set_option maxHeartbeats 4000000 in
set_option maxRecDepth 100000 in
theorem ctX0_fieldCount (l : Launch) (dC : Nat → ClassId) (dI : Nat → Nat → Nat) (cI cZ cL : ClassId) (h a1 a2 a3 a4 a5 : Nat) (sz : Nat) (w : Nat → Int32) (r : Nat → Int32) (st : Nat → Int32) (rc : Nat → Int32) (na : Nat → Int32) (tp : Int32) (cn : Int32) (rh : Int32) (sr : Int32) (x1 : Int32) (rs : Int32) (hf : fX0_fieldCount w x1 = some rs) : Met l yX0_fieldCount wsX0_fieldCount rmX0_fieldCount (va_Pc [.ref h, .int x1] (q_pre (dC, dI) vwCl (tyA cI cZ cL) sz (wX cI h a1 a2 a3 a4 a5 w r st rc na tp cn rh sr))) (va_Qi (fun r (_ : Unit) => r = rs) (fun _ => q_post (dC, dI) vwCl (tyA cI cZ cL) (va_A (wX cI h a1 a2 a3 a4 a5 w r st rc na tp cn rh sr) sz) (wX cI h a1 a2 a3 a4 a5 w r st rc na tp cn rh sr)) (va_A (wX cI h a1 a2 a3 a4 a5 w r st rc na tp cn rh sr) sz)) 0 0 (va_A (wX cI h a1 a2 a3 a4 a5 w r st rc na tp cn rh sr) sz) := by
  refine Met.ofW (cc := cX0_fieldCount) (maxL := 2) (ret := (some .int)) (by decide) rfl ?_
  intro p e s m args below meth c s₁ B hml hv
  obtain ⟨rfl, hsz, hP, hK, hD0⟩ := hv
  have hx := B.exec
  have hb := B.bytes
  have hr := B.returns
  have hts := atoms_spec (ws := wsX0_fieldCount) B.pre
  have hown : s.vm.findClass RX0 = some m.cls := findClass_of_methodNamed B.named
  subst hsz
  have hD := hD0.self (sz := s.heap.size)
  generalize hAe : va_A (wX cI h a1 a2 a3 a4 a5 w r st rc na tp cn rh sr) s.heap.size = A at hD ⊢
  have hA : ∀ q : Nat, s.heap.size ≤ q → A q := fun q h => by rw [← hAe]; exact Or.inr h
  have hS : va_S A s.heap s.heap [] := va_S.rf
  have hl := lv_entry ([.ref h, .int x1]) (n := 2) (Nat.le_of_ble_eq_true rfl)
  rw [lg_entry_eq]
  generalize (lg_sl ([.ref h, .int x1]) ++ List.replicate (2 - (lg_sl ([.ref h, .int x1])).length) Slot.unset).toArray = ls at hl ⊢
  have hl : lv_has ls 2 [(0, .ref h), (1, .int x1)] := hl
  unfold fX0_fieldCount at hf
  refine lv_aload_n hx hb dX0_fieldCount_0 rfl (lv_at hl 0 rfl) ?_
  refine va_get (D := (dC, dI)) (ci := 0) (v := .ref a1) (C := RX0) (T := TX0) (N := 9) hx hb hts (fun w hw => List.mem_cons_of_mem _ (inX0 w hw)) hown hK hP 0 rfl rfl 0 (by decide) (hts _ (List.mem_cons_of_mem _ mw_61)) (fun _ h9 => h9) rfl dX0_fieldCount_1 ?_
  refine lv_iload_n hx hb dX0_fieldCount_4 rfl (lv_at hl 1 rfl) ?_
  obtain ⟨v1, hv, hf⟩ := bd hf
  refine q_ild hx hb hK hP 1 0 rfl rfl hv dX0_fieldCount_5 ?_
  refine lv_bipush (v := (15 : Int32)) hx hb dX0_fieldCount_6 (by decide) ?_
  refine lv_iand hx hb dX0_fieldCount_8 ?_
  have hg0 := Option.some.inj hf
  subst hg0
  exact W.iret hx hb hr (fun t ht hW => ⟨⟨_, (), rfl, rfl, by rw [ht]; exact hP, va_K.moved hW.alike hK, hD⟩, hS.F ht⟩) hS.2.2 dX0_fieldCount_9
set_option maxHeartbeats 4000000 in
set_option maxRecDepth 100000 in
theorem ctX0_sizeOf (l : Launch) (dC : Nat → ClassId) (dI : Nat → Nat → Nat) (cI cZ cL : ClassId) (h a1 a2 a3 a4 a5 : Nat) (sz : Nat) (w : Nat → Int32) (r : Nat → Int32) (st : Nat → Int32) (rc : Nat → Int32) (na : Nat → Int32) (tp : Int32) (cn : Int32) (rh : Int32) (sr : Int32) (x1 : Int32) (rs : Int32) (hf : fX0_sizeOf w x1 = some rs) : Met l yX0_sizeOf wsX0_sizeOf rmX0_sizeOf (va_Pc [.ref h, .int x1] (q_pre (dC, dI) vwCl (tyA cI cZ cL) sz (wX cI h a1 a2 a3 a4 a5 w r st rc na tp cn rh sr))) (va_Qi (fun r (_ : Unit) => r = rs) (fun _ => q_post (dC, dI) vwCl (tyA cI cZ cL) (va_A (wX cI h a1 a2 a3 a4 a5 w r st rc na tp cn rh sr) sz) (wX cI h a1 a2 a3 a4 a5 w r st rc na tp cn rh sr)) (va_A (wX cI h a1 a2 a3 a4 a5 w r st rc na tp cn rh sr) sz)) 0 0 (va_A (wX cI h a1 a2 a3 a4 a5 w r st rc na tp cn rh sr) sz) := by
  refine Met.ofW (cc := cX0_sizeOf) (maxL := 2) (ret := (some .int)) (by decide) rfl ?_
  intro p e s m args below meth c s₁ B hml hv
  obtain ⟨rfl, hsz, hP, hK, hD0⟩ := hv
  have hx := B.exec
  have hb := B.bytes
  have hr := B.returns
  have hts := atoms_spec (ws := wsX0_sizeOf) B.pre
  have hown : s.vm.findClass RX0 = some m.cls := findClass_of_methodNamed B.named
  subst hsz
  have hD := hD0.self (sz := s.heap.size)
  generalize hAe : va_A (wX cI h a1 a2 a3 a4 a5 w r st rc na tp cn rh sr) s.heap.size = A at hD ⊢
  have hA : ∀ q : Nat, s.heap.size ≤ q → A q := fun q h => by rw [← hAe]; exact Or.inr h
  have hS : va_S A s.heap s.heap [] := va_S.rf
  have hl := lv_entry ([.ref h, .int x1]) (n := 2) (Nat.le_of_ble_eq_true rfl)
  rw [lg_entry_eq]
  generalize (lg_sl ([.ref h, .int x1]) ++ List.replicate (2 - (lg_sl ([.ref h, .int x1])).length) Slot.unset).toArray = ls at hl ⊢
  have hl : lv_has ls 2 [(0, .ref h), (1, .int x1)] := hl
  unfold fX0_sizeOf at hf
  refine lv_iconst (v := (2 : Int32)) hx hb dX0_sizeOf_0 (by decide) ?_
  refine lv_aload_n hx hb dX0_sizeOf_1 rfl (lv_at hl 0 rfl) ?_
  refine lv_iload_n hx hb dX0_sizeOf_2 rfl (lv_at hl 1 rfl) ?_
  obtain ⟨v1, hv, hf⟩ := bd hf
  refine q_ci (wr := []) (va_runV (As := [.int x1]) (rest := [.int (2 : Int32)]) ⟨hx, hb, hml, hown, hts⟩ (ctX0_fieldCount l dC dI cI cZ cL h a1 a2 a3 a4 a5 _ w r st rc na tp cn rh sr x1 v1 hv) (cwV 1 hts (gV mw_114 mw_116 mw_3 mw_38 mw_117) rfl rfl rfl (by decide +kernel) ⟨Nat.le_of_ble_eq_true rfl, Nat.le_of_ble_eq_true rfl⟩) (q_preV [.int x1] hK hP hD [0, 1, 2, 3, 4, 5] (by decide) rfl (ci := 0) rfl rfl) rfl rfl hl.1 rfl (lv_room (Nat.le_of_ble_eq_true rfl)) dX0_sizeOf_3 ⟨Nat.le_of_ble_eq_true rfl, Nat.le_of_ble_eq_true rfl⟩) hP hD hS hA [0, 1, 2, 3, 4, 5] [] rfl rfl (by decide) (by decide) (fun H locs hP hD hS => ?_)
  have hP : va_P (dC, dI) vwCl (wX cI h a1 a2 a3 a4 a5 w r st rc na tp cn rh sr) _ := hP
  have hD : va_D A (wX cI h a1 a2 a3 a4 a5 w r st rc na tp cn rh sr) := hD
  refine lv_iadd hx hb dX0_sizeOf_6 ?_
  have hg0 := Option.some.inj hf
  subst hg0
  exact W.iret hx hb hr (fun t ht hW => ⟨⟨_, (), rfl, rfl, by rw [ht]; exact hP, va_K.moved hW.alike hK, hD⟩, hS.F ht⟩) hS.2.2 dX0_sizeOf_7
set_option maxHeartbeats 4000000 in
set_option maxRecDepth 100000 in
theorem ctX0_fieldKind (l : Launch) (dC : Nat → ClassId) (dI : Nat → Nat → Nat) (cI cZ cL : ClassId) (h a1 a2 a3 a4 a5 : Nat) (sz : Nat) (w : Nat → Int32) (r : Nat → Int32) (st : Nat → Int32) (rc : Nat → Int32) (na : Nat → Int32) (tp : Int32) (cn : Int32) (rh : Int32) (sr : Int32) (x1 : Int32) (x2 : Int32) (rs : Int32) (hf : fX0_fieldKind w x1 x2 = some rs) : Met l yX0_fieldKind wsX0_fieldKind rmX0_fieldKind (va_Pc [.ref h, .int x1, .int x2] (q_pre (dC, dI) vwCl (tyA cI cZ cL) sz (wX cI h a1 a2 a3 a4 a5 w r st rc na tp cn rh sr))) (va_Qi (fun r (_ : Unit) => r = rs) (fun _ => q_post (dC, dI) vwCl (tyA cI cZ cL) (va_A (wX cI h a1 a2 a3 a4 a5 w r st rc na tp cn rh sr) sz) (wX cI h a1 a2 a3 a4 a5 w r st rc na tp cn rh sr)) (va_A (wX cI h a1 a2 a3 a4 a5 w r st rc na tp cn rh sr) sz)) 0 0 (va_A (wX cI h a1 a2 a3 a4 a5 w r st rc na tp cn rh sr) sz) := by
  refine Met.ofW (cc := cX0_fieldKind) (maxL := 4) (ret := (some .int)) (by decide) rfl ?_
  intro p e s m args below meth c s₁ B hml hv
  obtain ⟨rfl, hsz, hP, hK, hD0⟩ := hv
  have hx := B.exec
  have hb := B.bytes
  have hr := B.returns
  have hts := atoms_spec (ws := wsX0_fieldKind) B.pre
  have hown : s.vm.findClass RX0 = some m.cls := findClass_of_methodNamed B.named
  subst hsz
  have hD := hD0.self (sz := s.heap.size)
  generalize hAe : va_A (wX cI h a1 a2 a3 a4 a5 w r st rc na tp cn rh sr) s.heap.size = A at hD ⊢
  have hA : ∀ q : Nat, s.heap.size ≤ q → A q := fun q h => by rw [← hAe]; exact Or.inr h
  have hS : va_S A s.heap s.heap [] := va_S.rf
  have hl := lv_entry ([.ref h, .int x1, .int x2]) (n := 4) (Nat.le_of_ble_eq_true rfl)
  rw [lg_entry_eq]
  generalize (lg_sl ([.ref h, .int x1, .int x2]) ++ List.replicate (4 - (lg_sl ([.ref h, .int x1, .int x2])).length) Slot.unset).toArray = ls at hl ⊢
  have hl : lv_has ls 4 [(0, .ref h), (1, .int x1), (2, .int x2)] := hl
  unfold fX0_fieldKind at hf
  refine lv_aload_n hx hb dX0_fieldKind_0 rfl (lv_at hl 0 rfl) ?_
  refine va_get (D := (dC, dI)) (ci := 0) (v := .ref a1) (C := RX0) (T := TX0) (N := 9) hx hb hts (fun w hw => List.mem_cons_of_mem _ (inX0 w hw)) hown hK hP 0 rfl rfl 0 (by decide) (hts _ (List.mem_cons_of_mem _ mw_61)) (fun _ h9 => h9) rfl dX0_fieldKind_1 ?_
  refine lv_iload_n hx hb dX0_fieldKind_4 rfl (lv_at hl 1 rfl) ?_
  obtain ⟨v1, hv, hf⟩ := bd hf
  refine q_ild hx hb hK hP 1 0 rfl rfl hv dX0_fieldKind_5 ?_
  refine lv_istore_n hx hb dX0_fieldKind_6 rfl hl (by decide) rfl (fun ls hl => ?_)
  have hl : lv_has ls 4 [(3, .int v1), (0, .ref h), (1, .int x1), (2, .int x2)] := hl
  refine lv_iload_n hx hb dX0_fieldKind_7 rfl (lv_at hl 0 rfl) ?_
  refine lv_bipush (v := (16 : Int32)) hx hb dX0_fieldKind_8 (by decide) ?_
  refine lv_iload_n hx hb dX0_fieldKind_10 rfl (lv_at hl 3 rfl) ?_
  refine lv_ishl hx hb dX0_fieldKind_11 ?_
  refine lv_iand hx hb dX0_fieldKind_12 ?_
  refine lv_if_eq (tgt := 18) hx hb dX0_fieldKind_13 (by decide) (fun h2 => ?_) (fun h2 => ?_)
  · have hf := ift h2 hf
    refine lv_iload_n hx hb dX0_fieldKind_18 rfl (lv_at hl 0 rfl) ?_
    refine lv_sipush (v := (1024 : Int32)) hx hb dX0_fieldKind_19 (by decide) ?_
    refine lv_iload_n hx hb dX0_fieldKind_22 rfl (lv_at hl 3 rfl) ?_
    refine lv_ishl hx hb dX0_fieldKind_23 ?_
    refine lv_iand hx hb dX0_fieldKind_24 ?_
    refine lv_if_eq (tgt := 32) hx hb dX0_fieldKind_25 (by decide) (fun h3 => ?_) (fun h3 => ?_)
    · have hf := ift h3 hf
      refine lv_iconst (v := (0 : Int32)) hx hb dX0_fieldKind_32 (by decide) ?_
      have hg0 := Option.some.inj hf
      subst hg0
      exact W.iret hx hb hr (fun t ht hW => ⟨⟨_, (), rfl, rfl, by rw [ht]; exact hP, va_K.moved hW.alike hK, hD⟩, hS.F ht⟩) hS.2.2 dX0_fieldKind_33
    · have hf := ifn h3 hf
      refine lv_iconst (v := (2 : Int32)) hx hb dX0_fieldKind_28 (by decide) ?_
      refine lv_goto (tgt := 33) hx hb dX0_fieldKind_29 (by decide) ?_
      have hg0 := Option.some.inj hf
      subst hg0
      exact W.iret hx hb hr (fun t ht hW => ⟨⟨_, (), rfl, rfl, by rw [ht]; exact hP, va_K.moved hW.alike hK, hD⟩, hS.F ht⟩) hS.2.2 dX0_fieldKind_33
  · have hf := ifn h2 hf
    refine lv_iconst (v := (1 : Int32)) hx hb dX0_fieldKind_16 (by decide) ?_
    have hg0 := Option.some.inj hf
    subst hg0
    exact W.iret hx hb hr (fun t ht hW => ⟨⟨_, (), rfl, rfl, by rw [ht]; exact hP, va_K.moved hW.alike hK, hD⟩, hS.F ht⟩) hS.2.2 dX0_fieldKind_17
