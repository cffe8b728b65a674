set_option maxHeartbeats 4000000 in
set_option maxRecDepth 100000 in
theorem ctX0_addressAfterMove (l : Launch) (dC : Nat → ClassId) (dI : Nat → Nat → Nat) (cI cZ cL : ClassId) (h a1 a2 a3 a4 a5 : Nat) (sz : Nat) (w : Nat → Int32) (r : Nat → Int32) (st : Nat → Int32) (rc : Nat → Int32) (na : Nat → Int32) (tp : Int32) (cn : Int32) (rh : Int32) (sr : Int32) (x1 : Int32) (rs : Int32) (hf : fX0_addressAfterMove na x1 = some rs) : Met l yX0_addressAfterMove wsX0_addressAfterMove rmX0_addressAfterMove (va_Pc [.ref h, .int x1] (q_pre (dC, dI) vwCl (tyA cI cZ cL) sz (wX cI h a1 a2 a3 a4 a5 w r st rc na tp cn rh sr))) (va_Qi (fun r (_ : Unit) => r = rs) (fun _ => q_post (dC, dI) vwCl (tyA cI cZ cL) (va_A (wX cI h a1 a2 a3 a4 a5 w r st rc na tp cn rh sr) sz) (wX cI h a1 a2 a3 a4 a5 w r st rc na tp cn rh sr)) (va_A (wX cI h a1 a2 a3 a4 a5 w r st rc na tp cn rh sr) sz)) 0 0 (va_A (wX cI h a1 a2 a3 a4 a5 w r st rc na tp cn rh sr) sz) := by
  refine Met.ofW (cc := cX0_addressAfterMove) (maxL := 2) (ret := (some .int)) (by decide) rfl ?_
  intro p e s m args below meth c s₁ B hml hv
  obtain ⟨rfl, hsz, hP, hK, hD0⟩ := hv
  have hx := B.exec
  have hb := B.bytes
  have hr := B.returns
  have hts := atoms_spec (ws := wsX0_addressAfterMove) B.pre
  have hown : s.vm.findClass RX0 = some m.cls := findClass_of_methodNamed B.named
  subst hsz
  have hD := hD0.self (sz := s.heap.size)
  generalize hAe : va_A (wX cI h a1 a2 a3 a4 a5 w r st rc na tp cn rh sr) s.heap.size = A at hD ⊢
  have hA : ∀ q : Nat, s.heap.size ≤ q → A q := fun q h => by rw [← hAe]; exact Or.inr h
  have hS : va_S A s.heap s.heap [] := va_S.rf
  have hl := lv_entry ([.ref h, .int x1]) (n := 2) (Nat.le_of_ble_eq_true rfl)
  rw [lg_entry_eq]
  generalize (lg_sl ([.ref h, .int x1]) ++ List.replicate (2 - (lg_sl ([.ref h, .int x1])).length) Slot.unset).toArray = ls at hl ⊢
  have hl : lv_has ls 2 [(0, .ref h), (1, .int x1)] := hl
  unfold fX0_addressAfterMove at hf
  refine lv_iload_n hx hb dX0_addressAfterMove_0 rfl (lv_at hl 1 rfl) ?_
  refine lv_iconst (v := (-1 : Int32)) hx hb dX0_addressAfterMove_1 (by decide) ?_
  refine lv_icmp_ne (tgt := 9) hx hb dX0_addressAfterMove_2 (by decide) (fun h1 => ?_) (fun h1 => ?_)
  · have hf := ifn h1 hf
    refine lv_aload_n hx hb dX0_addressAfterMove_9 rfl (lv_at hl 0 rfl) ?_
    refine va_get (D := (dC, dI)) (ci := 0) (v := .ref a5) (C := RX0) (T := TX0) (N := 9) hx hb hts (fun w hw => List.mem_cons_of_mem _ (inX0 w hw)) hown hK hP 0 rfl rfl 4 (by decide) (hts _ (List.mem_cons_of_mem _ mw_65)) (fun _ h9 => h9) rfl dX0_addressAfterMove_10 ?_
    refine lv_iload_n hx hb dX0_addressAfterMove_13 rfl (lv_at hl 1 rfl) ?_
    obtain ⟨v2, hv, hf⟩ := bd hf
    refine q_ild hx hb hK hP 5 0 rfl rfl hv dX0_addressAfterMove_14 ?_
    have hg0 := Option.some.inj hf
    subst hg0
    exact W.iret hx hb hr (fun t ht hW => ⟨⟨_, (), rfl, rfl, by rw [ht]; exact hP, va_K.moved hW.alike hK, hD⟩, hS.F ht⟩) hS.2.2 dX0_addressAfterMove_15
  · have hf := ift h1 hf
    refine lv_iconst (v := (-1 : Int32)) hx hb dX0_addressAfterMove_5 (by decide) ?_
    refine lv_goto (tgt := 15) hx hb dX0_addressAfterMove_6 (by decide) ?_
    have hg0 := Option.some.inj hf
    subst hg0
    exact W.iret hx hb hr (fun t ht hW => ⟨⟨_, (), rfl, rfl, by rw [ht]; exact hP, va_K.moved hW.alike hK, hD⟩, hS.F ht⟩) hS.2.2 dX0_addressAfterMove_15
set_option maxHeartbeats 4000000 in
set_option maxRecDepth 100000 in
theorem wX0_isOneSize_L2 {p : Program} {l : Launch} {e : Env} {s : State} {m : MethodId} {args : Array Value} {below : List Frame} {meth : Method} {c : Code} {Q : State → Prop} {A : Nat → Prop} (dC : Nat → ClassId) (dI : Nat → Nat → Nat) (cI cZ cL : ClassId) (h a1 a2 a3 a4 a5 : Nat) (hx : p.tables.exec = Jvm.exec) (hb : c.code = cX0_isOneSize) (hml : c.maxLocals = 2) (hown : s.vm.findClass RX0 = some m.cls) (hts : ∀ w ∈ wsX0_isOneSize, w.before args s = true) (hK : va_K (dC, dI) vwCl (tyA cI cZ cL) s) (hA : ∀ q : Nat, s.heap.size ≤ q → A q) (w : Nat → Int32) (r : Nat → Int32) (st : Nat → Int32) (rc : Nat → Int32) (na : Nat → Int32) (tp : Int32) (cn : Int32) (rh : Int32) (sr : Int32) (n : Nat) :
    ∀ (x1_ : Int32) (tg : Nat) (x1_' : Int32) (rv : Int32), fX0_isOneSize_L2 w st cn n x1_ = some (tg, x1_', rv) → ∀ (H : Heap) (locs : List Loc) (ls : Array Slot), va_P (dC, dI) vwCl (wX cI h a1 a2 a3 a4 a5 w r st rc na tp cn rh sr) H → va_D A (wX cI h a1 a2 a3 a4 a5 w r st rc na tp cn rh sr) → va_S A s.heap H locs → lv_has ls 2 [(0, .ref h), (1, .int x1_)] → (tg = 0 → ∀ (H : Heap) (locs : List Loc) (ls : Array Slot), va_P (dC, dI) vwCl (wX cI h a1 a2 a3 a4 a5 w r st rc na tp cn rh sr) H → va_D A (wX cI h a1 a2 a3 a4 a5 w r st rc na tp cn rh sr) → va_S A s.heap H locs → lv_has ls 2 [(0, .ref h), (1, .int x1_')] → W p l e (headSpec wsX0_isOneSize rmX0_isOneSize).room s m args below meth c H locs 0 0 Q (F0 m 41 ls [])) → (tg = 1 → ∀ (H : Heap) (locs : List Loc) (ls : Array Slot), va_P (dC, dI) vwCl (wX cI h a1 a2 a3 a4 a5 w r st rc na tp cn rh sr) H → va_D A (wX cI h a1 a2 a3 a4 a5 w r st rc na tp cn rh sr) → va_S A s.heap H locs → lv_has ls 2 [(0, .ref h), (1, .int x1_')] → W p l e (headSpec wsX0_isOneSize rmX0_isOneSize).room s m args below meth c H locs 0 0 Q (F0 m 34 ls [.int rv])) → W p l e (headSpec wsX0_isOneSize rmX0_isOneSize).room s m args below meth c H locs 0 0 Q (F0 m 2 ls []) := by
  induction n with
  | zero => intro x1_ tg x1_' rv hf; cases hf
  | succ n ih =>
    intro x1_ tg x1_' rv hf H locs ls hP hD hS hl k0 k1
    have hf := (fX0_isOneSize_L2_s w st cn n x1_).symm.trans hf
    refine lv_iload_n hx hb dX0_isOneSize_2 rfl (lv_at hl 1 rfl) ?_
    refine lv_aload_n hx hb dX0_isOneSize_3 rfl (lv_at hl 0 rfl) ?_
    refine va_get (D := (dC, dI)) (ci := 0) (v := .int cn) (C := RX0) (T := TX0) (N := 9) hx hb hts (fun w hw => List.mem_cons_of_mem _ (inX0 w hw)) hown hK hP 0 rfl rfl 6 (by decide) (hts _ (List.mem_cons_of_mem _ mw_67)) (fun _ h9 => h9) rfl dX0_isOneSize_4 ?_
    refine lv_icmp_ge (tgt := 41) hx hb dX0_isOneSize_7 (by decide) (fun h1 => ?_) (fun h1 => ?_)
    · have hf := ift h1 hf
      cases hf
      exact k0 rfl _ _ _ hP hD hS (lv_sub hl [0, 1] rfl)
    · have hf := ifn h1 hf
      refine lv_aload_n hx hb dX0_isOneSize_10 rfl (lv_at hl 0 rfl) ?_
      refine lv_aload_n hx hb dX0_isOneSize_11 rfl (lv_at hl 0 rfl) ?_
      refine va_get (D := (dC, dI)) (ci := 0) (v := .ref a3) (C := RX0) (T := TX0) (N := 9) hx hb hts (fun w hw => List.mem_cons_of_mem _ (inX0 w hw)) hown hK hP 0 rfl rfl 2 (by decide) (hts _ (List.mem_cons_of_mem _ mw_63)) (fun _ h9 => h9) rfl dX0_isOneSize_12 ?_
      refine lv_iload_n hx hb dX0_isOneSize_15 rfl (lv_at hl 1 rfl) ?_
      obtain ⟨v2, hv, hf⟩ := bd hf
      refine q_ild hx hb hK hP 3 0 rfl rfl hv dX0_isOneSize_16 ?_
      obtain ⟨v3, hv, hf⟩ := bd hf
      refine q_ci (wr := []) (va_runV (As := [.int v2]) (rest := []) ⟨hx, hb, hml, hown, hts⟩ (ctX0_fieldCount l dC dI cI cZ cL h a1 a2 a3 a4 a5 _ w r st rc na tp cn rh sr v2 v3 hv) (cwV 1 hts (gV mw_114 mw_116 mw_3 mw_38 mw_117) rfl rfl rfl (by decide +kernel) ⟨Nat.le_of_ble_eq_true rfl, Nat.le_of_ble_eq_true rfl⟩) (q_preV [.int v2] hK hP hD [0, 1, 2, 3, 4, 5] (by decide) rfl (ci := 0) rfl rfl) rfl rfl hl.1 rfl (lv_room (Nat.le_of_ble_eq_true rfl)) dX0_isOneSize_17 ⟨Nat.le_of_ble_eq_true rfl, Nat.le_of_ble_eq_true rfl⟩) hP hD hS hA [0, 1, 2, 3, 4, 5] [] rfl rfl (by decide) (by decide) (fun H locs hP hD hS => ?_)
      have hP : va_P (dC, dI) vwCl (wX cI h a1 a2 a3 a4 a5 w r st rc na tp cn rh sr) _ := hP
      have hD : va_D A (wX cI h a1 a2 a3 a4 a5 w r st rc na tp cn rh sr) := hD
      refine lv_aload_n hx hb dX0_isOneSize_20 rfl (lv_at hl 0 rfl) ?_
      refine lv_aload_n hx hb dX0_isOneSize_21 rfl (lv_at hl 0 rfl) ?_
      refine va_get (D := (dC, dI)) (ci := 0) (v := .ref a3) (C := RX0) (T := TX0) (N := 9) hx hb hts (fun w hw => List.mem_cons_of_mem _ (inX0 w hw)) hown hK hP 0 rfl rfl 2 (by decide) (hts _ (List.mem_cons_of_mem _ mw_63)) (fun _ h9 => h9) rfl dX0_isOneSize_22 ?_
      refine lv_iconst (v := (0 : Int32)) hx hb dX0_isOneSize_25 (by decide) ?_
      obtain ⟨v4, hv, hf⟩ := bd hf
      refine q_ild hx hb hK hP 3 0 rfl rfl hv dX0_isOneSize_26 ?_
      obtain ⟨v5, hv, hf⟩ := bd hf
      refine q_ci (wr := []) (va_runV (As := [.int v4]) (rest := [.int v3]) ⟨hx, hb, hml, hown, hts⟩ (ctX0_fieldCount l dC dI cI cZ cL h a1 a2 a3 a4 a5 _ w r st rc na tp cn rh sr v4 v5 hv) (cwV 1 hts (gV mw_114 mw_116 mw_3 mw_38 mw_117) rfl rfl rfl (by decide +kernel) ⟨Nat.le_of_ble_eq_true rfl, Nat.le_of_ble_eq_true rfl⟩) (q_preV [.int v4] hK hP hD [0, 1, 2, 3, 4, 5] (by decide) rfl (ci := 0) rfl rfl) rfl rfl hl.1 rfl (lv_room (Nat.le_of_ble_eq_true rfl)) dX0_isOneSize_27 ⟨Nat.le_of_ble_eq_true rfl, Nat.le_of_ble_eq_true rfl⟩) hP hD hS hA [0, 1, 2, 3, 4, 5] [] rfl rfl (by decide) (by decide) (fun H locs hP hD hS => ?_)
      have hP : va_P (dC, dI) vwCl (wX cI h a1 a2 a3 a4 a5 w r st rc na tp cn rh sr) _ := hP
      have hD : va_D A (wX cI h a1 a2 a3 a4 a5 w r st rc na tp cn rh sr) := hD
      refine lv_icmp_eq (tgt := 35) hx hb dX0_isOneSize_30 (by decide) (fun h6 => ?_) (fun h6 => ?_)
      · have hf := ift h6 hf
        refine lv_iinc (v := x1_ + (1 : Int32)) hx hb dX0_isOneSize_35 hl (k := 1) rfl (by rfl) (by decide) rfl (fun ls hl => ?_)
        have hl : lv_has ls 2 [(1, .int (x1_ + (1 : Int32))), (0, .ref h)] := hl
        refine lv_goto (tgt := 2) hx hb dX0_isOneSize_38 (by decide) ?_
        exact ih _ _ _ _ hf _ _ _ hP hD hS (lv_sub hl [1, 0] rfl) k0 k1
      · have hf := ifn h6 hf
        refine lv_iconst (v := (0 : Int32)) hx hb dX0_isOneSize_33 (by decide) ?_
        cases hf
        exact k1 rfl _ _ _ hP hD hS (lv_sub hl [0, 1] rfl)
set_option maxHeartbeats 4000000 in
set_option maxRecDepth 100000 in
theorem ctX0_isOneSize (l : Launch) (dC : Nat → ClassId) (dI : Nat → Nat → Nat) (cI cZ cL : ClassId) (h a1 a2 a3 a4 a5 : Nat) (sz : Nat) (w : Nat → Int32) (r : Nat → Int32) (st : Nat → Int32) (rc : Nat → Int32) (na : Nat → Int32) (tp : Int32) (cn : Int32) (rh : Int32) (sr : Int32) (rs : Int32) (hf : fX0_isOneSize w st cn = some rs) : Met l yX0_isOneSize wsX0_isOneSize rmX0_isOneSize (va_Pc [.ref h] (q_pre (dC, dI) vwCl (tyA cI cZ cL) sz (wX cI h a1 a2 a3 a4 a5 w r st rc na tp cn rh sr))) (va_Qi (fun r (_ : Unit) => r = rs) (fun _ => q_post (dC, dI) vwCl (tyA cI cZ cL) (va_A (wX cI h a1 a2 a3 a4 a5 w r st rc na tp cn rh sr) sz) (wX cI h a1 a2 a3 a4 a5 w r st rc na tp cn rh sr)) (va_A (wX cI h a1 a2 a3 a4 a5 w r st rc na tp cn rh sr) sz)) 0 0 (va_A (wX cI h a1 a2 a3 a4 a5 w r st rc na tp cn rh sr) sz) := by
  refine Met.ofW (cc := cX0_isOneSize) (maxL := 2) (ret := (some .boolean)) (by decide) rfl ?_
  intro p e s m args below meth c s₁ B hml hv
  obtain ⟨rfl, hsz, hP, hK, hD0⟩ := hv
  have hx := B.exec
  have hb := B.bytes
  have hr := B.returns
  have hts := atoms_spec (ws := wsX0_isOneSize) B.pre
  have hown : s.vm.findClass RX0 = some m.cls := findClass_of_methodNamed B.named
  subst hsz
  have hD := hD0.self (sz := s.heap.size)
  generalize hAe : va_A (wX cI h a1 a2 a3 a4 a5 w r st rc na tp cn rh sr) s.heap.size = A at hD ⊢
  have hA : ∀ q : Nat, s.heap.size ≤ q → A q := fun q h => by rw [← hAe]; exact Or.inr h
  have hS : va_S A s.heap s.heap [] := va_S.rf
  have hl := lv_entry ([.ref h]) (n := 2) (Nat.le_of_ble_eq_true rfl)
  rw [lg_entry_eq]
  generalize (lg_sl ([.ref h]) ++ List.replicate (2 - (lg_sl ([.ref h])).length) Slot.unset).toArray = ls at hl ⊢
  have hl : lv_has ls 2 [(0, .ref h)] := hl
  unfold fX0_isOneSize at hf
  refine lv_iconst (v := (1 : Int32)) hx hb dX0_isOneSize_0 (by decide) ?_
  refine lv_istore_n hx hb dX0_isOneSize_1 rfl hl (by decide) rfl (fun ls hl => ?_)
  have hl : lv_has ls 2 [(1, .int (1 : Int32)), (0, .ref h)] := hl
  obtain ⟨⟨t8, x_7, y9⟩, hv, hf⟩ := bd hf
  dsimp only at hf
  refine wX0_isOneSize_L2 dC dI cI cZ cL h a1 a2 a3 a4 a5 hx hb hml hown hts hK hA w r st rc na tp cn rh sr FU (1 : Int32) t8 x_7 y9 hv _ _ _ hP hD hS (lv_sub hl [1, 0] rfl) (fun ht H locs ls hP hD hS hl => ?_) (fun ht H locs ls hP hD hS hl => ?_)
  · have hf := ift ht hf
    refine lv_iconst (v := (1 : Int32)) hx hb dX0_isOneSize_41 (by decide) ?_
    have hg0 := Option.some.inj hf
    subst hg0
    exact W.zret hx hb hr rfl (fun t ht hW => ⟨⟨_, (), rfl, rfl, by rw [ht]; exact hP, va_K.moved hW.alike hK, hD⟩, hS.F ht⟩) hS.2.2 dX0_isOneSize_42
  · have hf := ifn (by rw [ht]; decide) hf
    obtain ⟨z10, hv, hf⟩ := bd hf
    obtain ⟨hz0, hz⟩ := rtZ_some hv
    have hg0 := Option.some.inj hf
    subst hg0
    subst hz0
    exact W.zret hx hb hr hz (fun t ht hW => ⟨⟨_, (), rfl, rfl, by rw [ht]; exact hP, va_K.moved hW.alike hK, hD⟩, hS.F ht⟩) hS.2.2 dX0_isOneSize_34
set_option maxHeartbeats 4000000 in
set_option maxRecDepth 100000 in
theorem wX0_planSlide_L4 {p : Program} {l : Launch} {e : Env} {s : State} {m : MethodId} {args : Array Value} {below : List Frame} {meth : Method} {c : Code} {Q : State → Prop} {A : Nat → Prop} (dC : Nat → ClassId) (dI : Nat → Nat → Nat) (cI cZ cL : ClassId) (h a1 a2 a3 a4 a5 : Nat) (hx : p.tables.exec = Jvm.exec) (hb : c.code = cX0_planSlide) (hml : c.maxLocals = 4) (hown : s.vm.findClass RX0 = some m.cls) (hts : ∀ w ∈ wsX0_planSlide, w.before args s = true) (hK : va_K (dC, dI) vwCl (tyA cI cZ cL) s) (hA : ∀ q : Nat, s.heap.size ≤ q → A q) (w : Nat → Int32) (r : Nat → Int32) (st : Nat → Int32) (rc : Nat → Int32) (tp : Int32) (cn : Int32) (rh : Int32) (sr : Int32) (n : Nat) :
    ∀ (x1_ : Int32) (x2_ : Int32) (na : Nat → Int32) (x1_' : Int32) (x2_' : Int32) (na' : Nat → Int32), fX0_planSlide_L4 w st cn n x1_ x2_ na = some (x1_', x2_', na') → ∀ (H : Heap) (locs : List Loc) (ls : Array Slot), va_P (dC, dI) vwCl (wX cI h a1 a2 a3 a4 a5 w r st rc na tp cn rh sr) H → va_D A (wX cI h a1 a2 a3 a4 a5 w r st rc na tp cn rh sr) → va_S A s.heap H locs → lv_has ls 4 [(0, .ref h), (1, .int x1_), (2, .int x2_)] → (∀ (H : Heap) (locs : List Loc) (ls : Array Slot), va_P (dC, dI) vwCl (wX cI h a1 a2 a3 a4 a5 w r st rc na' tp cn rh sr) H → va_D A (wX cI h a1 a2 a3 a4 a5 w r st rc na' tp cn rh sr) → va_S A s.heap H locs → lv_has ls 4 [(0, .ref h), (1, .int x1_'), (2, .int x2_')] → W p l e (headSpec wsX0_planSlide rmX0_planSlide).room s m args below meth c H locs 0 0 Q (F0 m 50 ls [])) → W p l e (headSpec wsX0_planSlide rmX0_planSlide).room s m args below meth c H locs 0 0 Q (F0 m 4 ls []) := by
  induction n with
  | zero => intro x1_ x2_ na x1_' x2_' na' hf; cases hf
  | succ n ih =>
    intro x1_ x2_ na x1_' x2_' na' hf H locs ls hP hD hS hl k0
    have hf := (fX0_planSlide_L4_s w st cn n x1_ x2_ na).symm.trans hf
    refine lv_iload_n hx hb dX0_planSlide_4 rfl (lv_at hl 2 rfl) ?_
    refine lv_aload_n hx hb dX0_planSlide_5 rfl (lv_at hl 0 rfl) ?_
    refine va_get (D := (dC, dI)) (ci := 0) (v := .int cn) (C := RX0) (T := TX0) (N := 9) hx hb hts (fun w hw => List.mem_cons_of_mem _ (inX0 w hw)) hown hK hP 0 rfl rfl 6 (by decide) (hts _ (List.mem_cons_of_mem _ mw_67)) (fun _ h9 => h9) rfl dX0_planSlide_6 ?_
    refine lv_icmp_ge (tgt := 50) hx hb dX0_planSlide_9 (by decide) (fun h1 => ?_) (fun h1 => ?_)
    · have hf := ift h1 hf
      cases hf
      exact k0 _ _ _ hP hD hS (lv_sub hl [0, 1, 2] rfl)
    · have hf := ifn h1 hf
      refine lv_aload_n hx hb dX0_planSlide_12 rfl (lv_at hl 0 rfl) ?_
      refine va_get (D := (dC, dI)) (ci := 0) (v := .ref a3) (C := RX0) (T := TX0) (N := 9) hx hb hts (fun w hw => List.mem_cons_of_mem _ (inX0 w hw)) hown hK hP 0 rfl rfl 2 (by decide) (hts _ (List.mem_cons_of_mem _ mw_63)) (fun _ h9 => h9) rfl dX0_planSlide_13 ?_
      refine lv_iload_n hx hb dX0_planSlide_16 rfl (lv_at hl 2 rfl) ?_
      obtain ⟨v2, hv, hf⟩ := bd hf
      refine q_ild hx hb hK hP 3 0 rfl rfl hv dX0_planSlide_17 ?_
      refine lv_istore_n hx hb dX0_planSlide_18 rfl hl (by decide) rfl (fun ls hl => ?_)
      have hl : lv_has ls 4 [(3, .int v2), (0, .ref h), (1, .int x1_), (2, .int x2_)] := hl
      refine lv_aload_n hx hb dX0_planSlide_19 rfl (lv_at hl 1 rfl) ?_
      refine va_get (D := (dC, dI)) (ci := 0) (v := .ref a5) (C := RX0) (T := TX0) (N := 9) hx hb hts (fun w hw => List.mem_cons_of_mem _ (inX0 w hw)) hown hK hP 0 rfl rfl 4 (by decide) (hts _ (List.mem_cons_of_mem _ mw_65)) (fun _ h9 => h9) rfl dX0_planSlide_20 ?_
      refine lv_iload_n hx hb dX0_planSlide_23 rfl (lv_at hl 0 rfl) ?_
      obtain ⟨v3, hv, hf⟩ := bd hf
      refine q_ild hx hb hK hP 5 0 rfl rfl hv dX0_planSlide_24 ?_
      refine lv_iconst (v := (-1 : Int32)) hx hb dX0_planSlide_25 (by decide) ?_
      refine lv_icmp_eq (tgt := 44) hx hb dX0_planSlide_26 (by decide) (fun h4 => ?_) (fun h4 => ?_)
      · have hf := ift h4 hf
        refine lv_iinc (v := x2_ + (1 : Int32)) hx hb dX0_planSlide_44 hl (k := 3) rfl (by rfl) (by decide) rfl (fun ls hl => ?_)
        have hl : lv_has ls 4 [(2, .int (x2_ + (1 : Int32))), (3, .int v2), (0, .ref h), (1, .int x1_)] := hl
        refine lv_goto (tgt := 4) hx hb dX0_planSlide_47 (by decide) ?_
        exact ih _ _ _ _ _ _ hf _ _ _ hP hD hS (lv_sub hl [2, 3, 0] rfl) k0
      · have hf := ifn h4 hf
        refine lv_aload_n hx hb dX0_planSlide_29 rfl (lv_at hl 1 rfl) ?_
        refine va_get (D := (dC, dI)) (ci := 0) (v := .ref a5) (C := RX0) (T := TX0) (N := 9) hx hb hts (fun w hw => List.mem_cons_of_mem _ (inX0 w hw)) hown hK hP 0 rfl rfl 4 (by decide) (hts _ (List.mem_cons_of_mem _ mw_65)) (fun _ h9 => h9) rfl dX0_planSlide_30 ?_
        refine lv_iload_n hx hb dX0_planSlide_33 rfl (lv_at hl 0 rfl) ?_
        refine lv_iload_n hx hb dX0_planSlide_34 rfl (lv_at hl 2 rfl) ?_
        obtain ⟨na_5, hv, hf⟩ := bd hf
        refine q_ist hx hb hK hP hD hS 5 0 rfl rfl hv dX0_planSlide_35 (fun H locs hP hD hS => ?_)
        have hP : va_P (dC, dI) vwCl (wX cI h a1 a2 a3 a4 a5 w r st rc na_5 tp cn rh sr) _ := hP
        have hD : va_D A (wX cI h a1 a2 a3 a4 a5 w r st rc na_5 tp cn rh sr) := hD
        refine lv_iload_n hx hb dX0_planSlide_36 rfl (lv_at hl 2 rfl) ?_
        refine lv_aload_n hx hb dX0_planSlide_37 rfl (lv_at hl 1 rfl) ?_
        refine lv_iload_n hx hb dX0_planSlide_38 rfl (lv_at hl 0 rfl) ?_
        obtain ⟨v6, hv, hf⟩ := bd hf
        refine q_ci (wr := []) (va_runV (As := [.int v2]) (rest := [.int x1_]) ⟨hx, hb, hml, hown, hts⟩ (ctX0_sizeOf l dC dI cI cZ cL h a1 a2 a3 a4 a5 _ w r st rc na_5 tp cn rh sr v2 v6 hv) (cwV 1 hts (gV mw_303 mw_305 mw_14 mw_38 mw_306) rfl rfl rfl (by decide +kernel) ⟨Nat.le_of_ble_eq_true rfl, Nat.le_of_ble_eq_true rfl⟩) (q_preV [.int v2] hK hP hD [0, 1, 2, 3, 4, 5] (by decide) rfl (ci := 0) rfl rfl) rfl rfl hl.1 rfl (lv_room (Nat.le_of_ble_eq_true rfl)) dX0_planSlide_39 ⟨Nat.le_of_ble_eq_true rfl, Nat.le_of_ble_eq_true rfl⟩) hP hD hS hA [0, 1, 2, 3, 4, 5] [] rfl rfl (by decide) (by decide) (fun H locs hP hD hS => ?_)
        have hP : va_P (dC, dI) vwCl (wX cI h a1 a2 a3 a4 a5 w r st rc na_5 tp cn rh sr) _ := hP
        have hD : va_D A (wX cI h a1 a2 a3 a4 a5 w r st rc na_5 tp cn rh sr) := hD
        refine lv_iadd hx hb dX0_planSlide_42 ?_
        refine lv_istore_n hx hb dX0_planSlide_43 rfl hl (by decide) rfl (fun ls hl => ?_)
        have hl : lv_has ls 4 [(1, .int (x1_ + v6)), (3, .int v2), (0, .ref h), (2, .int x2_)] := hl
        refine lv_iinc (v := x2_ + (1 : Int32)) hx hb dX0_planSlide_44 hl (k := 3) rfl (by rfl) (by decide) rfl (fun ls hl => ?_)
        have hl : lv_has ls 4 [(2, .int (x2_ + (1 : Int32))), (1, .int (x1_ + v6)), (3, .int v2), (0, .ref h)] := hl
        refine lv_goto (tgt := 4) hx hb dX0_planSlide_47 (by decide) ?_
        exact ih _ _ _ _ _ _ hf _ _ _ hP hD hS (lv_sub hl [3, 1, 0] rfl) k0
set_option maxHeartbeats 4000000 in
set_option maxRecDepth 100000 in
theorem ctX0_planSlide (l : Launch) (dC : Nat → ClassId) (dI : Nat → Nat → Nat) (cI cZ cL : ClassId) (h a1 a2 a3 a4 a5 : Nat) (sz : Nat) (w : Nat → Int32) (r : Nat → Int32) (st : Nat → Int32) (rc : Nat → Int32) (na : Nat → Int32) (tp : Int32) (cn : Int32) (rh : Int32) (sr : Int32) (na' : Nat → Int32) (hf : fX0_planSlide w st na cn = some na') : Met l yX0_planSlide wsX0_planSlide rmX0_planSlide (va_Pc [.ref h] (q_pre (dC, dI) vwCl (tyA cI cZ cL) sz (wX cI h a1 a2 a3 a4 a5 w r st rc na tp cn rh sr))) (va_Qv (fun (_ : Unit) => True) (fun _ => q_post (dC, dI) vwCl (tyA cI cZ cL) (va_A (wX cI h a1 a2 a3 a4 a5 w r st rc na tp cn rh sr) sz) (wX cI h a1 a2 a3 a4 a5 w r st rc na' tp cn rh sr)) (va_A (wX cI h a1 a2 a3 a4 a5 w r st rc na tp cn rh sr) sz)) 0 0 (va_A (wX cI h a1 a2 a3 a4 a5 w r st rc na tp cn rh sr) sz) := by
  refine Met.ofW (cc := cX0_planSlide) (maxL := 4) (ret := (none)) (by decide) rfl ?_
  intro p e s m args below meth c s₁ B hml hv
  obtain ⟨rfl, hsz, hP, hK, hD0⟩ := hv
  have hx := B.exec
  have hb := B.bytes
  have hr := B.returns
  have hts := atoms_spec (ws := wsX0_planSlide) B.pre
  have hown : s.vm.findClass RX0 = some m.cls := findClass_of_methodNamed B.named
  subst hsz
  have hD := hD0.self (sz := s.heap.size)
  generalize hAe : va_A (wX cI h a1 a2 a3 a4 a5 w r st rc na tp cn rh sr) s.heap.size = A at hD ⊢
  have hA : ∀ q : Nat, s.heap.size ≤ q → A q := fun q h => by rw [← hAe]; exact Or.inr h
  have hS : va_S A s.heap s.heap [] := va_S.rf
  have hl := lv_entry ([.ref h]) (n := 4) (Nat.le_of_ble_eq_true rfl)
  rw [lg_entry_eq]
  generalize (lg_sl ([.ref h]) ++ List.replicate (4 - (lg_sl ([.ref h])).length) Slot.unset).toArray = ls at hl ⊢
  have hl : lv_has ls 4 [(0, .ref h)] := hl
  unfold fX0_planSlide at hf
  refine lv_iconst (v := (0 : Int32)) hx hb dX0_planSlide_0 (by decide) ?_
  refine lv_istore_n hx hb dX0_planSlide_1 rfl hl (by decide) rfl (fun ls hl => ?_)
  have hl : lv_has ls 4 [(1, .int (0 : Int32)), (0, .ref h)] := hl
  refine lv_iconst (v := (0 : Int32)) hx hb dX0_planSlide_2 (by decide) ?_
  refine lv_istore_n hx hb dX0_planSlide_3 rfl hl (by decide) rfl (fun ls hl => ?_)
  have hl : lv_has ls 4 [(2, .int (0 : Int32)), (1, .int (0 : Int32)), (0, .ref h)] := hl
  obtain ⟨⟨x_7, x_8, na_9⟩, hv, hf⟩ := bd hf
  dsimp only at hf
  refine wX0_planSlide_L4 dC dI cI cZ cL h a1 a2 a3 a4 a5 hx hb hml hown hts hK hA w r st rc tp cn rh sr FU (0 : Int32) (0 : Int32) na x_7 x_8 na_9 hv _ _ _ hP hD hS (lv_sub hl [2, 1, 0] rfl) (fun H locs ls hP hD hS hl => ?_)
  have hg0 := Option.some.inj hf
  subst hg0
  exact W.vret hx hb hr (fun t ht hW => ⟨⟨(), rfl, trivial, by rw [ht]; exact hP, va_K.moved hW.alike hK, hD⟩, hS.F ht⟩) hS.2.2 dX0_planSlide_50
set_option maxHeartbeats 4000000 in
set_option maxRecDepth 100000 in
theorem wX0_planTwoFingers_L9 {p : Program} {l : Launch} {e : Env} {s : State} {m : MethodId} {args : Array Value} {below : List Frame} {meth : Method} {c : Code} {Q : State → Prop} {A : Nat → Prop} (dC : Nat → ClassId) (dI : Nat → Nat → Nat) (cI cZ cL : ClassId) (h a1 a2 a3 a4 a5 : Nat) (hx : p.tables.exec = Jvm.exec) (hb : c.code = cX0_planTwoFingers) (hml : c.maxLocals = 3) (hown : s.vm.findClass RX0 = some m.cls) (hts : ∀ w ∈ wsX0_planTwoFingers, w.before args s = true) (hK : va_K (dC, dI) vwCl (tyA cI cZ cL) s) (hA : ∀ q : Nat, s.heap.size ≤ q → A q) (w : Nat → Int32) (r : Nat → Int32) (st : Nat → Int32) (rc : Nat → Int32) (tp : Int32) (cn : Int32) (rh : Int32) (sr : Int32) (n : Nat) :
    ∀ (x1_ : Int32) (x2_ : Int32) (na : Nat → Int32) (x1_' : Int32) (x2_' : Int32) (na' : Nat → Int32), fX0_planTwoFingers_L9 st n x1_ x2_ na = some (x1_', x2_', na') → ∀ (H : Heap) (locs : List Loc) (ls : Array Slot), va_P (dC, dI) vwCl (wX cI h a1 a2 a3 a4 a5 w r st rc na tp cn rh sr) H → va_D A (wX cI h a1 a2 a3 a4 a5 w r st rc na tp cn rh sr) → va_S A s.heap H locs → lv_has ls 3 [(0, .ref h), (1, .int x1_), (2, .int x2_)] → (∀ (H : Heap) (locs : List Loc) (ls : Array Slot), va_P (dC, dI) vwCl (wX cI h a1 a2 a3 a4 a5 w r st rc na' tp cn rh sr) H → va_D A (wX cI h a1 a2 a3 a4 a5 w r st rc na' tp cn rh sr) → va_S A s.heap H locs → lv_has ls 3 [(0, .ref h), (1, .int x1_'), (2, .int x2_')] → W p l e (headSpec wsX0_planTwoFingers rmX0_planTwoFingers).room s m args below meth c H locs 0 0 Q (F0 m 82 ls [])) → W p l e (headSpec wsX0_planTwoFingers rmX0_planTwoFingers).room s m args below meth c H locs 0 0 Q (F0 m 9 ls []) := by
  induction n with
  | zero => intro x1_ x2_ na x1_' x2_' na' hf; cases hf
  | succ n ih =>
    intro x1_ x2_ na x1_' x2_' na' hf H locs ls hP hD hS hl k0
    have hf := (fX0_planTwoFingers_L9_s st n x1_ x2_ na).symm.trans hf
    refine lv_iload_n hx hb dX0_planTwoFingers_9 rfl (lv_at hl 1 rfl) ?_
    refine lv_iload_n hx hb dX0_planTwoFingers_10 rfl (lv_at hl 2 rfl) ?_
    refine lv_icmp_ge (tgt := 82) hx hb dX0_planTwoFingers_11 (by decide) (fun h1 => ?_) (fun h1 => ?_)
    · have hf := ift h1 hf
      cases hf
      exact k0 _ _ _ hP hD hS (lv_sub hl [0, 1, 2] rfl)
    · have hf := ifn h1 hf
      refine lv_aload_n hx hb dX0_planTwoFingers_14 rfl (lv_at hl 0 rfl) ?_
      refine va_get (D := (dC, dI)) (ci := 0) (v := .ref a5) (C := RX0) (T := TX0) (N := 9) hx hb hts (fun w hw => List.mem_cons_of_mem _ (inX0 w hw)) hown hK hP 0 rfl rfl 4 (by decide) (hts _ (List.mem_cons_of_mem _ mw_65)) (fun _ h9 => h9) rfl dX0_planTwoFingers_15 ?_
      refine lv_aload_n hx hb dX0_planTwoFingers_18 rfl (lv_at hl 0 rfl) ?_
      refine va_get (D := (dC, dI)) (ci := 0) (v := .ref a3) (C := RX0) (T := TX0) (N := 9) hx hb hts (fun w hw => List.mem_cons_of_mem _ (inX0 w hw)) hown hK hP 0 rfl rfl 2 (by decide) (hts _ (List.mem_cons_of_mem _ mw_63)) (fun _ h9 => h9) rfl dX0_planTwoFingers_19 ?_
      refine lv_iload_n hx hb dX0_planTwoFingers_22 rfl (lv_at hl 1 rfl) ?_
      obtain ⟨v2, hv, hf⟩ := bd hf
      refine q_ild hx hb hK hP 3 0 rfl rfl hv dX0_planTwoFingers_23 ?_
      obtain ⟨v3, hv, hf⟩ := bd hf
      refine q_ild hx hb hK hP 5 0 rfl rfl hv dX0_planTwoFingers_24 ?_
      refine lv_iconst (v := (-1 : Int32)) hx hb dX0_planTwoFingers_25 (by decide) ?_
      refine lv_icmp_eq (tgt := 35) hx hb dX0_planTwoFingers_26 (by decide) (fun h4 => ?_) (fun h4 => ?_)
      · have hf := ift h4 hf
        refine lv_aload_n hx hb dX0_planTwoFingers_35 rfl (lv_at hl 0 rfl) ?_
        refine va_get (D := (dC, dI)) (ci := 0) (v := .ref a5) (C := RX0) (T := TX0) (N := 9) hx hb hts (fun w hw => List.mem_cons_of_mem _ (inX0 w hw)) hown hK hP 0 rfl rfl 4 (by decide) (hts _ (List.mem_cons_of_mem _ mw_65)) (fun _ h9 => h9) rfl dX0_planTwoFingers_36 ?_
        refine lv_aload_n hx hb dX0_planTwoFingers_39 rfl (lv_at hl 0 rfl) ?_
        refine va_get (D := (dC, dI)) (ci := 0) (v := .ref a3) (C := RX0) (T := TX0) (N := 9) hx hb hts (fun w hw => List.mem_cons_of_mem _ (inX0 w hw)) hown hK hP 0 rfl rfl 2 (by decide) (hts _ (List.mem_cons_of_mem _ mw_63)) (fun _ h9 => h9) rfl dX0_planTwoFingers_40 ?_
        refine lv_iload_n hx hb dX0_planTwoFingers_43 rfl (lv_at hl 2 rfl) ?_
        obtain ⟨v5, hv, hf⟩ := bd hf
        refine q_ild hx hb hK hP 3 0 rfl rfl hv dX0_planTwoFingers_44 ?_
        obtain ⟨v6, hv, hf⟩ := bd hf
        refine q_ild hx hb hK hP 5 0 rfl rfl hv dX0_planTwoFingers_45 ?_
        refine lv_iconst (v := (-1 : Int32)) hx hb dX0_planTwoFingers_46 (by decide) ?_
        refine lv_icmp_ne (tgt := 56) hx hb dX0_planTwoFingers_47 (by decide) (fun h7 => ?_) (fun h7 => ?_)
        · have hf := ifn h7 hf
          refine lv_aload_n hx hb dX0_planTwoFingers_56 rfl (lv_at hl 0 rfl) ?_
          refine va_get (D := (dC, dI)) (ci := 0) (v := .ref a5) (C := RX0) (T := TX0) (N := 9) hx hb hts (fun w hw => List.mem_cons_of_mem _ (inX0 w hw)) hown hK hP 0 rfl rfl 4 (by decide) (hts _ (List.mem_cons_of_mem _ mw_65)) (fun _ h9 => h9) rfl dX0_planTwoFingers_57 ?_
          refine lv_aload_n hx hb dX0_planTwoFingers_60 rfl (lv_at hl 0 rfl) ?_
          refine va_get (D := (dC, dI)) (ci := 0) (v := .ref a3) (C := RX0) (T := TX0) (N := 9) hx hb hts (fun w hw => List.mem_cons_of_mem _ (inX0 w hw)) hown hK hP 0 rfl rfl 2 (by decide) (hts _ (List.mem_cons_of_mem _ mw_63)) (fun _ h9 => h9) rfl dX0_planTwoFingers_61 ?_
          refine lv_iload_n hx hb dX0_planTwoFingers_64 rfl (lv_at hl 2 rfl) ?_
          obtain ⟨v8, hv, hf⟩ := bd hf
          refine q_ild hx hb hK hP 3 0 rfl rfl hv dX0_planTwoFingers_65 ?_
          refine lv_aload_n hx hb dX0_planTwoFingers_66 rfl (lv_at hl 0 rfl) ?_
          refine va_get (D := (dC, dI)) (ci := 0) (v := .ref a3) (C := RX0) (T := TX0) (N := 9) hx hb hts (fun w hw => List.mem_cons_of_mem _ (inX0 w hw)) hown hK hP 0 rfl rfl 2 (by decide) (hts _ (List.mem_cons_of_mem _ mw_63)) (fun _ h9 => h9) rfl dX0_planTwoFingers_67 ?_
          refine lv_iload_n hx hb dX0_planTwoFingers_70 rfl (lv_at hl 1 rfl) ?_
          obtain ⟨v9, hv, hf⟩ := bd hf
          refine q_ild hx hb hK hP 3 0 rfl rfl hv dX0_planTwoFingers_71 ?_
          obtain ⟨na_10, hv, hf⟩ := bd hf
          refine q_ist hx hb hK hP hD hS 5 0 rfl rfl hv dX0_planTwoFingers_72 (fun H locs hP hD hS => ?_)
          have hP : va_P (dC, dI) vwCl (wX cI h a1 a2 a3 a4 a5 w r st rc na_10 tp cn rh sr) _ := hP
          have hD : va_D A (wX cI h a1 a2 a3 a4 a5 w r st rc na_10 tp cn rh sr) := hD
          refine lv_iinc (v := x1_ + (1 : Int32)) hx hb dX0_planTwoFingers_73 hl (k := 1) rfl (by rfl) (by decide) rfl (fun ls hl => ?_)
          have hl : lv_has ls 3 [(1, .int (x1_ + (1 : Int32))), (0, .ref h), (2, .int x2_)] := hl
          refine lv_iinc (v := x2_ + (-1 : Int32)) hx hb dX0_planTwoFingers_76 hl (k := 2) rfl (by rfl) (by decide) rfl (fun ls hl => ?_)
          have hl : lv_has ls 3 [(2, .int (x2_ + (-1 : Int32))), (1, .int (x1_ + (1 : Int32))), (0, .ref h)] := hl
          refine lv_goto (tgt := 9) hx hb dX0_planTwoFingers_79 (by decide) ?_
          exact ih _ _ _ _ _ _ hf _ _ _ hP hD hS (lv_sub hl [2, 1, 0] rfl) k0
        · have hf := ift h7 hf
          refine lv_iinc (v := x2_ + (-1 : Int32)) hx hb dX0_planTwoFingers_50 hl (k := 2) rfl (by rfl) (by decide) rfl (fun ls hl => ?_)
          have hl : lv_has ls 3 [(2, .int (x2_ + (-1 : Int32))), (0, .ref h), (1, .int x1_)] := hl
          refine lv_goto (tgt := 9) hx hb dX0_planTwoFingers_53 (by decide) ?_
          exact ih _ _ _ _ _ _ hf _ _ _ hP hD hS (lv_sub hl [1, 2, 0] rfl) k0
      · have hf := ifn h4 hf
        refine lv_iinc (v := x1_ + (1 : Int32)) hx hb dX0_planTwoFingers_29 hl (k := 1) rfl (by rfl) (by decide) rfl (fun ls hl => ?_)
        have hl : lv_has ls 3 [(1, .int (x1_ + (1 : Int32))), (0, .ref h), (2, .int x2_)] := hl
        refine lv_goto (tgt := 9) hx hb dX0_planTwoFingers_32 (by decide) ?_
        exact ih _ _ _ _ _ _ hf _ _ _ hP hD hS (lv_sub hl [1, 0, 2] rfl) k0
set_option maxHeartbeats 4000000 in
set_option maxRecDepth 100000 in
theorem ctX0_planTwoFingers (l : Launch) (dC : Nat → ClassId) (dI : Nat → Nat → Nat) (cI cZ cL : ClassId) (h a1 a2 a3 a4 a5 : Nat) (sz : Nat) (w : Nat → Int32) (r : Nat → Int32) (st : Nat → Int32) (rc : Nat → Int32) (na : Nat → Int32) (tp : Int32) (cn : Int32) (rh : Int32) (sr : Int32) (na' : Nat → Int32) (hf : fX0_planTwoFingers st na cn = some na') : Met l yX0_planTwoFingers wsX0_planTwoFingers rmX0_planTwoFingers (va_Pc [.ref h] (q_pre (dC, dI) vwCl (tyA cI cZ cL) sz (wX cI h a1 a2 a3 a4 a5 w r st rc na tp cn rh sr))) (va_Qv (fun (_ : Unit) => True) (fun _ => q_post (dC, dI) vwCl (tyA cI cZ cL) (va_A (wX cI h a1 a2 a3 a4 a5 w r st rc na tp cn rh sr) sz) (wX cI h a1 a2 a3 a4 a5 w r st rc na' tp cn rh sr)) (va_A (wX cI h a1 a2 a3 a4 a5 w r st rc na tp cn rh sr) sz)) 0 0 (va_A (wX cI h a1 a2 a3 a4 a5 w r st rc na tp cn rh sr) sz) := by
  refine Met.ofW (cc := cX0_planTwoFingers) (maxL := 3) (ret := (none)) (by decide) rfl ?_
  intro p e s m args below meth c s₁ B hml hv
  obtain ⟨rfl, hsz, hP, hK, hD0⟩ := hv
  have hx := B.exec
  have hb := B.bytes
  have hr := B.returns
  have hts := atoms_spec (ws := wsX0_planTwoFingers) B.pre
  have hown : s.vm.findClass RX0 = some m.cls := findClass_of_methodNamed B.named
  subst hsz
  have hD := hD0.self (sz := s.heap.size)
  generalize hAe : va_A (wX cI h a1 a2 a3 a4 a5 w r st rc na tp cn rh sr) s.heap.size = A at hD ⊢
  have hA : ∀ q : Nat, s.heap.size ≤ q → A q := fun q h => by rw [← hAe]; exact Or.inr h
  have hS : va_S A s.heap s.heap [] := va_S.rf
  have hl := lv_entry ([.ref h]) (n := 3) (Nat.le_of_ble_eq_true rfl)
  rw [lg_entry_eq]
  generalize (lg_sl ([.ref h]) ++ List.replicate (3 - (lg_sl ([.ref h])).length) Slot.unset).toArray = ls at hl ⊢
  have hl : lv_has ls 3 [(0, .ref h)] := hl
  unfold fX0_planTwoFingers at hf
  refine lv_iconst (v := (0 : Int32)) hx hb dX0_planTwoFingers_0 (by decide) ?_
  refine lv_istore_n hx hb dX0_planTwoFingers_1 rfl hl (by decide) rfl (fun ls hl => ?_)
  have hl : lv_has ls 3 [(1, .int (0 : Int32)), (0, .ref h)] := hl
  refine lv_aload_n hx hb dX0_planTwoFingers_2 rfl (lv_at hl 1 rfl) ?_
  refine va_get (D := (dC, dI)) (ci := 0) (v := .int cn) (C := RX0) (T := TX0) (N := 9) hx hb hts (fun w hw => List.mem_cons_of_mem _ (inX0 w hw)) hown hK hP 0 rfl rfl 6 (by decide) (hts _ (List.mem_cons_of_mem _ mw_67)) (fun _ h9 => h9) rfl dX0_planTwoFingers_3 ?_
  refine lv_iconst (v := (1 : Int32)) hx hb dX0_planTwoFingers_6 (by decide) ?_
  refine lv_isub hx hb dX0_planTwoFingers_7 ?_
  refine lv_istore_n hx hb dX0_planTwoFingers_8 rfl hl (by decide) rfl (fun ls hl => ?_)
  have hl : lv_has ls 3 [(2, .int (cn - (1 : Int32))), (1, .int (0 : Int32)), (0, .ref h)] := hl
  obtain ⟨⟨x_11, x_12, na_13⟩, hv, hf⟩ := bd hf
  dsimp only at hf
  refine wX0_planTwoFingers_L9 dC dI cI cZ cL h a1 a2 a3 a4 a5 hx hb hml hown hts hK hA w r st rc tp cn rh sr FU (0 : Int32) (cn - (1 : Int32)) na x_11 x_12 na_13 hv _ _ _ hP hD hS (lv_sub hl [2, 1, 0] rfl) (fun H locs ls hP hD hS hl => ?_)
  have hg0 := Option.some.inj hf
  subst hg0
  exact W.vret hx hb hr (fun t ht hW => ⟨⟨(), rfl, trivial, by rw [ht]; exact hP, va_K.moved hW.alike hK, hD⟩, hS.F ht⟩) hS.2.2 dX0_planTwoFingers_82
set_option maxHeartbeats 4000000 in
set_option maxRecDepth 100000 in
theorem wX0_redirectRoots_L2 {p : Program} {l : Launch} {e : Env} {s : State} {m : MethodId} {args : Array Value} {below : List Frame} {meth : Method} {c : Code} {Q : State → Prop} {A : Nat → Prop} (dC : Nat → ClassId) (dI : Nat → Nat → Nat) (cI cZ cL : ClassId) (h a1 a2 a3 a4 a5 : Nat) (hx : p.tables.exec = Jvm.exec) (hb : c.code = cX0_redirectRoots) (hml : c.maxLocals = 2) (hown : s.vm.findClass RX0 = some m.cls) (hts : ∀ w ∈ wsX0_redirectRoots, w.before args s = true) (hK : va_K (dC, dI) vwCl (tyA cI cZ cL) s) (hA : ∀ q : Nat, s.heap.size ≤ q → A q) (w : Nat → Int32) (st : Nat → Int32) (rc : Nat → Int32) (na : Nat → Int32) (tp : Int32) (cn : Int32) (rh : Int32) (sr : Int32) (n : Nat) :
    ∀ (x1_ : Int32) (r : Nat → Int32) (x1_' : Int32) (r' : Nat → Int32), fX0_redirectRoots_L2 na n x1_ r = some (x1_', r') → ∀ (H : Heap) (locs : List Loc) (ls : Array Slot), va_P (dC, dI) vwCl (wX cI h a1 a2 a3 a4 a5 w r st rc na tp cn rh sr) H → va_D A (wX cI h a1 a2 a3 a4 a5 w r st rc na tp cn rh sr) → va_S A s.heap H locs → lv_has ls 2 [(0, .ref h), (1, .int x1_)] → (∀ (H : Heap) (locs : List Loc) (ls : Array Slot), va_P (dC, dI) vwCl (wX cI h a1 a2 a3 a4 a5 w r' st rc na tp cn rh sr) H → va_D A (wX cI h a1 a2 a3 a4 a5 w r' st rc na tp cn rh sr) → va_S A s.heap H locs → lv_has ls 2 [(0, .ref h), (1, .int x1_')] → W p l e (headSpec wsX0_redirectRoots rmX0_redirectRoots).room s m args below meth c H locs 0 0 Q (F0 m 30 ls [])) → W p l e (headSpec wsX0_redirectRoots rmX0_redirectRoots).room s m args below meth c H locs 0 0 Q (F0 m 2 ls []) := by
  induction n with
  | zero => intro x1_ r x1_' r' hf; cases hf
  | succ n ih =>
    intro x1_ r x1_' r' hf H locs ls hP hD hS hl k0
    have hf := (fX0_redirectRoots_L2_s na n x1_ r).symm.trans hf
    refine lv_iload_n hx hb dX0_redirectRoots_2 rfl (lv_at hl 1 rfl) ?_
    refine lv_bipush (v := (8 : Int32)) hx hb dX0_redirectRoots_3 (by decide) ?_
    refine lv_icmp_ge (tgt := 30) hx hb dX0_redirectRoots_5 (by decide) (fun h1 => ?_) (fun h1 => ?_)
    · have hf := ift h1 hf
      cases hf
      exact k0 _ _ _ hP hD hS (lv_sub hl [0, 1] rfl)
    · have hf := ifn h1 hf
      refine lv_aload_n hx hb dX0_redirectRoots_8 rfl (lv_at hl 0 rfl) ?_
      refine va_get (D := (dC, dI)) (ci := 0) (v := .ref a2) (C := RX0) (T := TX0) (N := 9) hx hb hts (fun w hw => List.mem_cons_of_mem _ (inX0 w hw)) hown hK hP 0 rfl rfl 1 (by decide) (hts _ (List.mem_cons_of_mem _ mw_62)) (fun _ h9 => h9) rfl dX0_redirectRoots_9 ?_
      refine lv_iload_n hx hb dX0_redirectRoots_12 rfl (lv_at hl 1 rfl) ?_
      refine lv_aload_n hx hb dX0_redirectRoots_13 rfl (lv_at hl 0 rfl) ?_
      refine lv_aload_n hx hb dX0_redirectRoots_14 rfl (lv_at hl 0 rfl) ?_
      refine va_get (D := (dC, dI)) (ci := 0) (v := .ref a2) (C := RX0) (T := TX0) (N := 9) hx hb hts (fun w hw => List.mem_cons_of_mem _ (inX0 w hw)) hown hK hP 0 rfl rfl 1 (by decide) (hts _ (List.mem_cons_of_mem _ mw_62)) (fun _ h9 => h9) rfl dX0_redirectRoots_15 ?_
      refine lv_iload_n hx hb dX0_redirectRoots_18 rfl (lv_at hl 1 rfl) ?_
      obtain ⟨v2, hv, hf⟩ := bd hf
      refine q_ild hx hb hK hP 2 0 rfl rfl hv dX0_redirectRoots_19 ?_
      obtain ⟨v3, hv, hf⟩ := bd hf
      refine q_ci (wr := []) (va_runV (As := [.int v2]) (rest := [.int x1_, .ref a2]) ⟨hx, hb, hml, hown, hts⟩ (ctX0_addressAfterMove l dC dI cI cZ cL h a1 a2 a3 a4 a5 _ w r st rc na tp cn rh sr v2 v3 hv) (cwV 1 hts (gV mw_311 mw_313 mw_16 mw_38 mw_314) rfl rfl rfl (by decide +kernel) ⟨Nat.le_of_ble_eq_true rfl, Nat.le_of_ble_eq_true rfl⟩) (q_preV [.int v2] hK hP hD [0, 1, 2, 3, 4, 5] (by decide) rfl (ci := 0) rfl rfl) rfl rfl hl.1 rfl (lv_room (Nat.le_of_ble_eq_true rfl)) dX0_redirectRoots_20 ⟨Nat.le_of_ble_eq_true rfl, Nat.le_of_ble_eq_true rfl⟩) hP hD hS hA [0, 1, 2, 3, 4, 5] [] rfl rfl (by decide) (by decide) (fun H locs hP hD hS => ?_)
      have hP : va_P (dC, dI) vwCl (wX cI h a1 a2 a3 a4 a5 w r st rc na tp cn rh sr) _ := hP
      have hD : va_D A (wX cI h a1 a2 a3 a4 a5 w r st rc na tp cn rh sr) := hD
      obtain ⟨r_4, hv, hf⟩ := bd hf
      refine q_ist hx hb hK hP hD hS 2 0 rfl rfl hv dX0_redirectRoots_23 (fun H locs hP hD hS => ?_)
      have hP : va_P (dC, dI) vwCl (wX cI h a1 a2 a3 a4 a5 w r_4 st rc na tp cn rh sr) _ := hP
      have hD : va_D A (wX cI h a1 a2 a3 a4 a5 w r_4 st rc na tp cn rh sr) := hD
      refine lv_iinc (v := x1_ + (1 : Int32)) hx hb dX0_redirectRoots_24 hl (k := 1) rfl (by rfl) (by decide) rfl (fun ls hl => ?_)
      have hl : lv_has ls 2 [(1, .int (x1_ + (1 : Int32))), (0, .ref h)] := hl
      refine lv_goto (tgt := 2) hx hb dX0_redirectRoots_27 (by decide) ?_
      exact ih _ _ _ _ hf _ _ _ hP hD hS (lv_sub hl [1, 0] rfl) k0
set_option maxHeartbeats 4000000 in
set_option maxRecDepth 100000 in
theorem ctX0_redirectRoots (l : Launch) (dC : Nat → ClassId) (dI : Nat → Nat → Nat) (cI cZ cL : ClassId) (h a1 a2 a3 a4 a5 : Nat) (sz : Nat) (w : Nat → Int32) (r : Nat → Int32) (st : Nat → Int32) (rc : Nat → Int32) (na : Nat → Int32) (tp : Int32) (cn : Int32) (rh : Int32) (sr : Int32) (r' : Nat → Int32) (hf : fX0_redirectRoots r na = some r') : Met l yX0_redirectRoots wsX0_redirectRoots rmX0_redirectRoots (va_Pc [.ref h] (q_pre (dC, dI) vwCl (tyA cI cZ cL) sz (wX cI h a1 a2 a3 a4 a5 w r st rc na tp cn rh sr))) (va_Qv (fun (_ : Unit) => True) (fun _ => q_post (dC, dI) vwCl (tyA cI cZ cL) (va_A (wX cI h a1 a2 a3 a4 a5 w r st rc na tp cn rh sr) sz) (wX cI h a1 a2 a3 a4 a5 w r' st rc na tp cn rh sr)) (va_A (wX cI h a1 a2 a3 a4 a5 w r st rc na tp cn rh sr) sz)) 0 0 (va_A (wX cI h a1 a2 a3 a4 a5 w r st rc na tp cn rh sr) sz) := by
  refine Met.ofW (cc := cX0_redirectRoots) (maxL := 2) (ret := (none)) (by decide) rfl ?_
  intro p e s m args below meth c s₁ B hml hv
  obtain ⟨rfl, hsz, hP, hK, hD0⟩ := hv
  have hx := B.exec
  have hb := B.bytes
  have hr := B.returns
  have hts := atoms_spec (ws := wsX0_redirectRoots) B.pre
  have hown : s.vm.findClass RX0 = some m.cls := findClass_of_methodNamed B.named
  subst hsz
  have hD := hD0.self (sz := s.heap.size)
  generalize hAe : va_A (wX cI h a1 a2 a3 a4 a5 w r st rc na tp cn rh sr) s.heap.size = A at hD ⊢
  have hA : ∀ q : Nat, s.heap.size ≤ q → A q := fun q h => by rw [← hAe]; exact Or.inr h
  have hS : va_S A s.heap s.heap [] := va_S.rf
  have hl := lv_entry ([.ref h]) (n := 2) (Nat.le_of_ble_eq_true rfl)
  rw [lg_entry_eq]
  generalize (lg_sl ([.ref h]) ++ List.replicate (2 - (lg_sl ([.ref h])).length) Slot.unset).toArray = ls at hl ⊢
  have hl : lv_has ls 2 [(0, .ref h)] := hl
  unfold fX0_redirectRoots at hf
  refine lv_iconst (v := (0 : Int32)) hx hb dX0_redirectRoots_0 (by decide) ?_
  refine lv_istore_n hx hb dX0_redirectRoots_1 rfl hl (by decide) rfl (fun ls hl => ?_)
  have hl : lv_has ls 2 [(1, .int (0 : Int32)), (0, .ref h)] := hl
  obtain ⟨⟨x_5, r_6⟩, hv, hf⟩ := bd hf
  dsimp only at hf
  refine wX0_redirectRoots_L2 dC dI cI cZ cL h a1 a2 a3 a4 a5 hx hb hml hown hts hK hA w st rc na tp cn rh sr FU (0 : Int32) r x_5 r_6 hv _ _ _ hP hD hS (lv_sub hl [1, 0] rfl) (fun H locs ls hP hD hS hl => ?_)
  have hg0 := Option.some.inj hf
  subst hg0
  exact W.vret hx hb hr (fun t ht hW => ⟨⟨(), rfl, trivial, by rw [ht]; exact hP, va_K.moved hW.alike hK, hD⟩, hS.F ht⟩) hS.2.2 dX0_redirectRoots_30
set_option maxHeartbeats 4000000 in
set_option maxRecDepth 100000 in
theorem wX0_redirectFields_L8 {p : Program} {l : Launch} {e : Env} {s : State} {m : MethodId} {args : Array Value} {below : List Frame} {meth : Method} {c : Code} {Q : State → Prop} {A : Nat → Prop} (dC : Nat → ClassId) (dI : Nat → Nat → Nat) (cI cZ cL : ClassId) (h a1 a2 a3 a4 a5 : Nat) (hx : p.tables.exec = Jvm.exec) (hb : c.code = cX0_redirectFields) (hml : c.maxLocals = 5) (hown : s.vm.findClass RX0 = some m.cls) (hts : ∀ w ∈ wsX0_redirectFields, w.before args s = true) (hK : va_K (dC, dI) vwCl (tyA cI cZ cL) s) (hA : ∀ q : Nat, s.heap.size ≤ q → A q) (x1_ : Int32) (x2_ : Int32) (r : Nat → Int32) (st : Nat → Int32) (rc : Nat → Int32) (na : Nat → Int32) (tp : Int32) (cn : Int32) (rh : Int32) (sr : Int32) (n : Nat) :
    ∀ (x3_ : Int32) (w : Nat → Int32) (x3_' : Int32) (w' : Nat → Int32), fX0_redirectFields_L8 x1_ x2_ na n x3_ w = some (x3_', w') → ∀ (H : Heap) (locs : List Loc) (ls : Array Slot), va_P (dC, dI) vwCl (wX cI h a1 a2 a3 a4 a5 w r st rc na tp cn rh sr) H → va_D A (wX cI h a1 a2 a3 a4 a5 w r st rc na tp cn rh sr) → va_S A s.heap H locs → lv_has ls 5 [(0, .ref h), (1, .int x1_), (2, .int x2_), (3, .int x3_)] → (∀ (H : Heap) (locs : List Loc) (ls : Array Slot), va_P (dC, dI) vwCl (wX cI h a1 a2 a3 a4 a5 w' r st rc na tp cn rh sr) H → va_D A (wX cI h a1 a2 a3 a4 a5 w' r st rc na tp cn rh sr) → va_S A s.heap H locs → lv_has ls 5 [(0, .ref h), (1, .int x1_), (2, .int x2_), (3, .int x3_')] → W p l e (headSpec wsX0_redirectFields rmX0_redirectFields).room s m args below meth c H locs 0 0 Q (F0 m 53 ls [])) → W p l e (headSpec wsX0_redirectFields rmX0_redirectFields).room s m args below meth c H locs 0 0 Q (F0 m 8 ls []) := by
  induction n with
  | zero => intro x3_ w x3_' w' hf; cases hf
  | succ n ih =>
    intro x3_ w x3_' w' hf H locs ls hP hD hS hl k0
    have hf := (fX0_redirectFields_L8_s x1_ x2_ na n x3_ w).symm.trans hf
    refine lv_iload_n hx hb dX0_redirectFields_8 rfl (lv_at hl 3 rfl) ?_
    refine lv_iload_n hx hb dX0_redirectFields_9 rfl (lv_at hl 2 rfl) ?_
    refine lv_icmp_ge (tgt := 53) hx hb dX0_redirectFields_10 (by decide) (fun h2 => ?_) (fun h2 => ?_)
    · have hf := ift h2 hf
      cases hf
      exact k0 _ _ _ hP hD hS (lv_sub hl [0, 1, 2, 3] rfl)
    · have hf := ifn h2 hf
      refine lv_aload_n hx hb dX0_redirectFields_13 rfl (lv_at hl 0 rfl) ?_
      refine lv_iload_n hx hb dX0_redirectFields_14 rfl (lv_at hl 1 rfl) ?_
      refine lv_iload_n hx hb dX0_redirectFields_15 rfl (lv_at hl 3 rfl) ?_
      obtain ⟨v3, hv, hf⟩ := bd hf
      refine q_ci (wr := []) (va_runV (As := [.int x1_, .int x3_]) (rest := []) ⟨hx, hb, hml, hown, hts⟩ (ctX0_fieldKind l dC dI cI cZ cL h a1 a2 a3 a4 a5 _ w r st rc na tp cn rh sr x1_ x3_ v3 hv) (cwV 2 hts (gV mw_118 mw_120 mw_4 mw_38 mw_121) rfl rfl rfl (by decide +kernel) ⟨Nat.le_of_ble_eq_true rfl, Nat.le_of_ble_eq_true rfl⟩) (q_preV [.int x1_, .int x3_] hK hP hD [0, 1, 2, 3, 4, 5] (by decide) rfl (ci := 0) rfl rfl) rfl rfl hl.1 rfl (lv_room (Nat.le_of_ble_eq_true rfl)) dX0_redirectFields_16 ⟨Nat.le_of_ble_eq_true rfl, Nat.le_of_ble_eq_true rfl⟩) hP hD hS hA [0, 1, 2, 3, 4, 5] [] rfl rfl (by decide) (by decide) (fun H locs hP hD hS => ?_)
      have hP : va_P (dC, dI) vwCl (wX cI h a1 a2 a3 a4 a5 w r st rc na tp cn rh sr) _ := hP
      have hD : va_D A (wX cI h a1 a2 a3 a4 a5 w r st rc na tp cn rh sr) := hD
      refine lv_if_eq (tgt := 47) hx hb dX0_redirectFields_19 (by decide) (fun h4 => ?_) (fun h4 => ?_)
      · have hf := ift h4 hf
        refine lv_iinc (v := x3_ + (1 : Int32)) hx hb dX0_redirectFields_47 hl (k := 3) rfl (by rfl) (by decide) rfl (fun ls hl => ?_)
        have hl : lv_has ls 5 [(3, .int (x3_ + (1 : Int32))), (0, .ref h), (1, .int x1_), (2, .int x2_)] := hl
        refine lv_goto (tgt := 8) hx hb dX0_redirectFields_50 (by decide) ?_
        exact ih _ _ _ _ hf _ _ _ hP hD hS (lv_sub hl [1, 2, 3, 0] rfl) k0
      · have hf := ifn h4 hf
        refine lv_iload_n hx hb dX0_redirectFields_22 rfl (lv_at hl 1 rfl) ?_
        refine lv_iload_n hx hb dX0_redirectFields_23 rfl (lv_at hl 3 rfl) ?_
        obtain ⟨v5, hv, hf⟩ := bd hf
        refine q_ci (wr := (wX cI h a1 a2 a3 a4 a5 w r st rc na tp cn rh sr)) (va_runS (As := [.int x1_, .int x3_]) (rest := []) ⟨hx, hb, hml, hown, hts⟩ (ctX0_fieldAddress l dC dI cI cZ cL _ x1_ x3_ v5 hv) (va_cwS 2 hts (gS mw_122 mw_123 mw_38 mw_124) rfl rfl rfl (by decide +kernel) ⟨Nat.le_of_ble_eq_true rfl, Nat.le_of_ble_eq_true rfl⟩) (q_preS [.int x1_, .int x3_] hK hP hD [] (by decide) rfl) rfl rfl hl.1 rfl (lv_room (Nat.le_of_ble_eq_true rfl)) dX0_redirectFields_24 ⟨Nat.le_of_ble_eq_true rfl, Nat.le_of_ble_eq_true rfl⟩) hP hD hS hA [] [0, 1, 2, 3, 4, 5] rfl rfl (by decide) (by decide) (fun H locs hP hD hS => ?_)
        have hP : va_P (dC, dI) vwCl (wX cI h a1 a2 a3 a4 a5 w r st rc na tp cn rh sr) _ := hP
        have hD : va_D A (wX cI h a1 a2 a3 a4 a5 w r st rc na tp cn rh sr) := hD
        refine lv_istore hx hb dX0_redirectFields_27 hl (by decide) rfl (fun ls hl => ?_)
        have hl : lv_has ls 5 [(4, .int v5), (0, .ref h), (1, .int x1_), (2, .int x2_), (3, .int x3_)] := hl
        refine lv_aload_n hx hb dX0_redirectFields_29 rfl (lv_at hl 1 rfl) ?_
        refine va_get (D := (dC, dI)) (ci := 0) (v := .ref a1) (C := RX0) (T := TX0) (N := 9) hx hb hts (fun w hw => List.mem_cons_of_mem _ (inX0 w hw)) hown hK hP 0 rfl rfl 0 (by decide) (hts _ (List.mem_cons_of_mem _ mw_61)) (fun _ h9 => h9) rfl dX0_redirectFields_30 ?_
        refine lv_iload hx hb dX0_redirectFields_33 (lv_at hl 0 rfl) ?_
        refine lv_aload_n hx hb dX0_redirectFields_35 rfl (lv_at hl 1 rfl) ?_
        refine lv_aload_n hx hb dX0_redirectFields_36 rfl (lv_at hl 1 rfl) ?_
        refine va_get (D := (dC, dI)) (ci := 0) (v := .ref a1) (C := RX0) (T := TX0) (N := 9) hx hb hts (fun w hw => List.mem_cons_of_mem _ (inX0 w hw)) hown hK hP 0 rfl rfl 0 (by decide) (hts _ (List.mem_cons_of_mem _ mw_61)) (fun _ h9 => h9) rfl dX0_redirectFields_37 ?_
        refine lv_iload hx hb dX0_redirectFields_40 (lv_at hl 0 rfl) ?_
        obtain ⟨v6, hv, hf⟩ := bd hf
        refine q_ild hx hb hK hP 1 0 rfl rfl hv dX0_redirectFields_42 ?_
        obtain ⟨v7, hv, hf⟩ := bd hf
        refine q_ci (wr := []) (va_runV (As := [.int v6]) (rest := [.int v5, .ref a1]) ⟨hx, hb, hml, hown, hts⟩ (ctX0_addressAfterMove l dC dI cI cZ cL h a1 a2 a3 a4 a5 _ w r st rc na tp cn rh sr v6 v7 hv) (cwV 1 hts (gV mw_311 mw_313 mw_16 mw_38 mw_314) rfl rfl rfl (by decide +kernel) ⟨Nat.le_of_ble_eq_true rfl, Nat.le_of_ble_eq_true rfl⟩) (q_preV [.int v6] hK hP hD [0, 1, 2, 3, 4, 5] (by decide) rfl (ci := 0) rfl rfl) rfl rfl hl.1 rfl (lv_room (Nat.le_of_ble_eq_true rfl)) dX0_redirectFields_43 ⟨Nat.le_of_ble_eq_true rfl, Nat.le_of_ble_eq_true rfl⟩) hP hD hS hA [0, 1, 2, 3, 4, 5] [] rfl rfl (by decide) (by decide) (fun H locs hP hD hS => ?_)
        have hP : va_P (dC, dI) vwCl (wX cI h a1 a2 a3 a4 a5 w r st rc na tp cn rh sr) _ := hP
        have hD : va_D A (wX cI h a1 a2 a3 a4 a5 w r st rc na tp cn rh sr) := hD
        obtain ⟨w_8, hv, hf⟩ := bd hf
        refine q_ist hx hb hK hP hD hS 1 0 rfl rfl hv dX0_redirectFields_46 (fun H locs hP hD hS => ?_)
        have hP : va_P (dC, dI) vwCl (wX cI h a1 a2 a3 a4 a5 w_8 r st rc na tp cn rh sr) _ := hP
        have hD : va_D A (wX cI h a1 a2 a3 a4 a5 w_8 r st rc na tp cn rh sr) := hD
        refine lv_iinc (v := x3_ + (1 : Int32)) hx hb dX0_redirectFields_47 hl (k := 4) rfl (by rfl) (by decide) rfl (fun ls hl => ?_)
        have hl : lv_has ls 5 [(3, .int (x3_ + (1 : Int32))), (4, .int v5), (0, .ref h), (1, .int x1_), (2, .int x2_)] := hl
        refine lv_goto (tgt := 8) hx hb dX0_redirectFields_50 (by decide) ?_
        exact ih _ _ _ _ hf _ _ _ hP hD hS (lv_sub hl [2, 3, 4, 0] rfl) k0
set_option maxHeartbeats 4000000 in
set_option maxRecDepth 100000 in
theorem ctX0_redirectFields (l : Launch) (dC : Nat → ClassId) (dI : Nat → Nat → Nat) (cI cZ cL : ClassId) (h a1 a2 a3 a4 a5 : Nat) (sz : Nat) (w : Nat → Int32) (r : Nat → Int32) (st : Nat → Int32) (rc : Nat → Int32) (na : Nat → Int32) (tp : Int32) (cn : Int32) (rh : Int32) (sr : Int32) (x1 : Int32) (w' : Nat → Int32) (hf : fX0_redirectFields w na x1 = some w') : Met l yX0_redirectFields wsX0_redirectFields rmX0_redirectFields (va_Pc [.ref h, .int x1] (q_pre (dC, dI) vwCl (tyA cI cZ cL) sz (wX cI h a1 a2 a3 a4 a5 w r st rc na tp cn rh sr))) (va_Qv (fun (_ : Unit) => True) (fun _ => q_post (dC, dI) vwCl (tyA cI cZ cL) (va_A (wX cI h a1 a2 a3 a4 a5 w r st rc na tp cn rh sr) sz) (wX cI h a1 a2 a3 a4 a5 w' r st rc na tp cn rh sr)) (va_A (wX cI h a1 a2 a3 a4 a5 w r st rc na tp cn rh sr) sz)) 0 0 (va_A (wX cI h a1 a2 a3 a4 a5 w r st rc na tp cn rh sr) sz) := by
  refine Met.ofW (cc := cX0_redirectFields) (maxL := 5) (ret := (none)) (by decide) rfl ?_
  intro p e s m args below meth c s₁ B hml hv
  obtain ⟨rfl, hsz, hP, hK, hD0⟩ := hv
  have hx := B.exec
  have hb := B.bytes
  have hr := B.returns
  have hts := atoms_spec (ws := wsX0_redirectFields) B.pre
  have hown : s.vm.findClass RX0 = some m.cls := findClass_of_methodNamed B.named
  subst hsz
  have hD := hD0.self (sz := s.heap.size)
  generalize hAe : va_A (wX cI h a1 a2 a3 a4 a5 w r st rc na tp cn rh sr) s.heap.size = A at hD ⊢
  have hA : ∀ q : Nat, s.heap.size ≤ q → A q := fun q h => by rw [← hAe]; exact Or.inr h
  have hS : va_S A s.heap s.heap [] := va_S.rf
  have hl := lv_entry ([.ref h, .int x1]) (n := 5) (Nat.le_of_ble_eq_true rfl)
  rw [lg_entry_eq]
  generalize (lg_sl ([.ref h, .int x1]) ++ List.replicate (5 - (lg_sl ([.ref h, .int x1])).length) Slot.unset).toArray = ls at hl ⊢
  have hl : lv_has ls 5 [(0, .ref h), (1, .int x1)] := hl
  unfold fX0_redirectFields at hf
  refine lv_aload_n hx hb dX0_redirectFields_0 rfl (lv_at hl 0 rfl) ?_
  refine lv_iload_n hx hb dX0_redirectFields_1 rfl (lv_at hl 1 rfl) ?_
  obtain ⟨v1, hv, hf⟩ := bd hf
  refine q_ci (wr := []) (va_runV (As := [.int x1]) (rest := []) ⟨hx, hb, hml, hown, hts⟩ (ctX0_fieldCount l dC dI cI cZ cL h a1 a2 a3 a4 a5 _ w r st rc na tp cn rh sr x1 v1 hv) (cwV 1 hts (gV mw_114 mw_116 mw_3 mw_38 mw_117) rfl rfl rfl (by decide +kernel) ⟨Nat.le_of_ble_eq_true rfl, Nat.le_of_ble_eq_true rfl⟩) (q_preV [.int x1] hK hP hD [0, 1, 2, 3, 4, 5] (by decide) rfl (ci := 0) rfl rfl) rfl rfl hl.1 rfl (lv_room (Nat.le_of_ble_eq_true rfl)) dX0_redirectFields_2 ⟨Nat.le_of_ble_eq_true rfl, Nat.le_of_ble_eq_true rfl⟩) hP hD hS hA [0, 1, 2, 3, 4, 5] [] rfl rfl (by decide) (by decide) (fun H locs hP hD hS => ?_)
  have hP : va_P (dC, dI) vwCl (wX cI h a1 a2 a3 a4 a5 w r st rc na tp cn rh sr) _ := hP
  have hD : va_D A (wX cI h a1 a2 a3 a4 a5 w r st rc na tp cn rh sr) := hD
  refine lv_istore_n hx hb dX0_redirectFields_5 rfl hl (by decide) rfl (fun ls hl => ?_)
  have hl : lv_has ls 5 [(2, .int v1), (0, .ref h), (1, .int x1)] := hl
  refine lv_iconst (v := (0 : Int32)) hx hb dX0_redirectFields_6 (by decide) ?_
  refine lv_istore_n hx hb dX0_redirectFields_7 rfl hl (by decide) rfl (fun ls hl => ?_)
  have hl : lv_has ls 5 [(3, .int (0 : Int32)), (2, .int v1), (0, .ref h), (1, .int x1)] := hl
  obtain ⟨⟨x_9, w_10⟩, hv, hf⟩ := bd hf
  dsimp only at hf
  refine wX0_redirectFields_L8 dC dI cI cZ cL h a1 a2 a3 a4 a5 hx hb hml hown hts hK hA x1 v1 r st rc na tp cn rh sr FU (0 : Int32) w x_9 w_10 hv _ _ _ hP hD hS (lv_sub hl [2, 3, 1, 0] rfl) (fun H locs ls hP hD hS hl => ?_)
  have hg0 := Option.some.inj hf
  subst hg0
  exact W.vret hx hb hr (fun t ht hW => ⟨⟨(), rfl, trivial, by rw [ht]; exact hP, va_K.moved hW.alike hK, hD⟩, hS.F ht⟩) hS.2.2 dX0_redirectFields_53
set_option maxHeartbeats 4000000 in
set_option maxRecDepth 100000 in
theorem wX0_moveObjects_L2 {p : Program} {l : Launch} {e : Env} {s : State} {m : MethodId} {args : Array Value} {below : List Frame} {meth : Method} {c : Code} {Q : State → Prop} {A : Nat → Prop} (dC : Nat → ClassId) (dI : Nat → Nat → Nat) (cI cZ cL : ClassId) (h a1 a2 a3 a4 a5 : Nat) (hx : p.tables.exec = Jvm.exec) (hb : c.code = cX0_moveObjects) (hml : c.maxLocals = 3) (hown : s.vm.findClass RX0 = some m.cls) (hts : ∀ w ∈ wsX0_moveObjects, w.before args s = true) (hK : va_K (dC, dI) vwCl (tyA cI cZ cL) s) (hA : ∀ q : Nat, s.heap.size ≤ q → A q) (r : Nat → Int32) (st : Nat → Int32) (rc : Nat → Int32) (na : Nat → Int32) (tp : Int32) (cn : Int32) (rh : Int32) (sr : Int32) (n : Nat) :
    ∀ (x1_ : Int32) (w : Nat → Int32) (x1_' : Int32) (w' : Nat → Int32), fX0_moveObjects_L2 st na cn n x1_ w = some (x1_', w') → ∀ (H : Heap) (locs : List Loc) (ls : Array Slot), va_P (dC, dI) vwCl (wX cI h a1 a2 a3 a4 a5 w r st rc na tp cn rh sr) H → va_D A (wX cI h a1 a2 a3 a4 a5 w r st rc na tp cn rh sr) → va_S A s.heap H locs → lv_has ls 3 [(0, .ref h), (1, .int x1_)] → (∀ (H : Heap) (locs : List Loc) (ls : Array Slot), va_P (dC, dI) vwCl (wX cI h a1 a2 a3 a4 a5 w' r st rc na tp cn rh sr) H → va_D A (wX cI h a1 a2 a3 a4 a5 w' r st rc na tp cn rh sr) → va_S A s.heap H locs → lv_has ls 3 [(0, .ref h), (1, .int x1_')] → W p l e (headSpec wsX0_moveObjects rmX0_moveObjects).room s m args below meth c H locs 0 0 Q (F0 m 56 ls [])) → W p l e (headSpec wsX0_moveObjects rmX0_moveObjects).room s m args below meth c H locs 0 0 Q (F0 m 2 ls []) := by
  induction n with
  | zero => intro x1_ w x1_' w' hf; cases hf
  | succ n ih =>
    intro x1_ w x1_' w' hf H locs ls hP hD hS hl k0
    have hf := (fX0_moveObjects_L2_s st na cn n x1_ w).symm.trans hf
    refine lv_iload_n hx hb dX0_moveObjects_2 rfl (lv_at hl 1 rfl) ?_
    refine lv_aload_n hx hb dX0_moveObjects_3 rfl (lv_at hl 0 rfl) ?_
    refine va_get (D := (dC, dI)) (ci := 0) (v := .int cn) (C := RX0) (T := TX0) (N := 9) hx hb hts (fun w hw => List.mem_cons_of_mem _ (inX0 w hw)) hown hK hP 0 rfl rfl 6 (by decide) (hts _ (List.mem_cons_of_mem _ mw_67)) (fun _ h9 => h9) rfl dX0_moveObjects_4 ?_
    refine lv_icmp_ge (tgt := 56) hx hb dX0_moveObjects_7 (by decide) (fun h1 => ?_) (fun h1 => ?_)
    · have hf := ift h1 hf
      cases hf
      exact k0 _ _ _ hP hD hS (lv_sub hl [0, 1] rfl)
    · have hf := ifn h1 hf
      refine lv_aload_n hx hb dX0_moveObjects_10 rfl (lv_at hl 0 rfl) ?_
      refine va_get (D := (dC, dI)) (ci := 0) (v := .ref a3) (C := RX0) (T := TX0) (N := 9) hx hb hts (fun w hw => List.mem_cons_of_mem _ (inX0 w hw)) hown hK hP 0 rfl rfl 2 (by decide) (hts _ (List.mem_cons_of_mem _ mw_63)) (fun _ h9 => h9) rfl dX0_moveObjects_11 ?_
      refine lv_iload_n hx hb dX0_moveObjects_14 rfl (lv_at hl 1 rfl) ?_
      obtain ⟨v2, hv, hf⟩ := bd hf
      refine q_ild hx hb hK hP 3 0 rfl rfl hv dX0_moveObjects_15 ?_
      refine lv_istore_n hx hb dX0_moveObjects_16 rfl hl (by decide) rfl (fun ls hl => ?_)
      have hl : lv_has ls 3 [(2, .int v2), (0, .ref h), (1, .int x1_)] := hl
      refine lv_aload_n hx hb dX0_moveObjects_17 rfl (lv_at hl 1 rfl) ?_
      refine va_get (D := (dC, dI)) (ci := 0) (v := .ref a5) (C := RX0) (T := TX0) (N := 9) hx hb hts (fun w hw => List.mem_cons_of_mem _ (inX0 w hw)) hown hK hP 0 rfl rfl 4 (by decide) (hts _ (List.mem_cons_of_mem _ mw_65)) (fun _ h9 => h9) rfl dX0_moveObjects_18 ?_
      refine lv_iload_n hx hb dX0_moveObjects_21 rfl (lv_at hl 0 rfl) ?_
      obtain ⟨v3, hv, hf⟩ := bd hf
      refine q_ild hx hb hK hP 5 0 rfl rfl hv dX0_moveObjects_22 ?_
      refine lv_iconst (v := (-1 : Int32)) hx hb dX0_moveObjects_23 (by decide) ?_
      refine lv_icmp_eq (tgt := 50) hx hb dX0_moveObjects_24 (by decide) (fun h4 => ?_) (fun h4 => ?_)
      · have hf := ift h4 hf
        refine lv_iinc (v := x1_ + (1 : Int32)) hx hb dX0_moveObjects_50 hl (k := 2) rfl (by rfl) (by decide) rfl (fun ls hl => ?_)
        have hl : lv_has ls 3 [(1, .int (x1_ + (1 : Int32))), (2, .int v2), (0, .ref h)] := hl
        refine lv_goto (tgt := 2) hx hb dX0_moveObjects_53 (by decide) ?_
        exact ih _ _ _ _ hf _ _ _ hP hD hS (lv_sub hl [2, 0] rfl) k0
      · have hf := ifn h4 hf
        refine lv_aload_n hx hb dX0_moveObjects_27 rfl (lv_at hl 1 rfl) ?_
        refine va_get (D := (dC, dI)) (ci := 0) (v := .ref a1) (C := RX0) (T := TX0) (N := 9) hx hb hts (fun w hw => List.mem_cons_of_mem _ (inX0 w hw)) hown hK hP 0 rfl rfl 0 (by decide) (hts _ (List.mem_cons_of_mem _ mw_61)) (fun _ h9 => h9) rfl dX0_moveObjects_28 ?_
        refine lv_iload_n hx hb dX0_moveObjects_31 rfl (lv_at hl 0 rfl) ?_
        refine lv_aload_n hx hb dX0_moveObjects_32 rfl (lv_at hl 1 rfl) ?_
        refine va_get (D := (dC, dI)) (ci := 0) (v := .ref a1) (C := RX0) (T := TX0) (N := 9) hx hb hts (fun w hw => List.mem_cons_of_mem _ (inX0 w hw)) hown hK hP 0 rfl rfl 0 (by decide) (hts _ (List.mem_cons_of_mem _ mw_61)) (fun _ h9 => h9) rfl dX0_moveObjects_33 ?_
        refine lv_aload_n hx hb dX0_moveObjects_36 rfl (lv_at hl 1 rfl) ?_
        refine va_get (D := (dC, dI)) (ci := 0) (v := .ref a5) (C := RX0) (T := TX0) (N := 9) hx hb hts (fun w hw => List.mem_cons_of_mem _ (inX0 w hw)) hown hK hP 0 rfl rfl 4 (by decide) (hts _ (List.mem_cons_of_mem _ mw_65)) (fun _ h9 => h9) rfl dX0_moveObjects_37 ?_
        refine lv_iload_n hx hb dX0_moveObjects_40 rfl (lv_at hl 0 rfl) ?_
        obtain ⟨v5, hv, hf⟩ := bd hf
        refine q_ild hx hb hK hP 5 0 rfl rfl hv dX0_moveObjects_41 ?_
        refine lv_aload_n hx hb dX0_moveObjects_42 rfl (lv_at hl 1 rfl) ?_
        refine lv_iload_n hx hb dX0_moveObjects_43 rfl (lv_at hl 0 rfl) ?_
        obtain ⟨v6, hv, hf⟩ := bd hf
        refine q_ci (wr := []) (va_runV (As := [.int v2]) (rest := [.int v5, .ref a1, .int v2, .ref a1]) ⟨hx, hb, hml, hown, hts⟩ (ctX0_sizeOf l dC dI cI cZ cL h a1 a2 a3 a4 a5 _ w r st rc na tp cn rh sr v2 v6 hv) (cwV 1 hts (gV mw_303 mw_305 mw_14 mw_38 mw_306) rfl rfl rfl (by decide +kernel) ⟨Nat.le_of_ble_eq_true rfl, Nat.le_of_ble_eq_true rfl⟩) (q_preV [.int v2] hK hP hD [0, 1, 2, 3, 4, 5] (by decide) rfl (ci := 0) rfl rfl) rfl rfl hl.1 rfl (lv_room (Nat.le_of_ble_eq_true rfl)) dX0_moveObjects_44 ⟨Nat.le_of_ble_eq_true rfl, Nat.le_of_ble_eq_true rfl⟩) hP hD hS hA [0, 1, 2, 3, 4, 5] [] rfl rfl (by decide) (by decide) (fun H locs hP hD hS => ?_)
        have hP : va_P (dC, dI) vwCl (wX cI h a1 a2 a3 a4 a5 w r st rc na tp cn rh sr) _ := hP
        have hD : va_D A (wX cI h a1 a2 a3 a4 a5 w r st rc na tp cn rh sr) := hD
        obtain ⟨w_7, hv, hf⟩ := bd hf
        refine q_cp hx hb (hml.trans hl.1.symm) hown (hts _ (List.mem_cons_of_mem _ mw_323)) (hts _ (List.mem_cons_of_mem _ mw_325)) (hts _ (List.mem_cons_of_mem _ mw_324)) (hts _ (List.mem_cons_of_mem _ mw_48)) hK hP hD hS 1 0 rfl rfl hv (Nat.le_of_ble_eq_true rfl) (Nat.le_of_ble_eq_true rfl) dX0_moveObjects_47 (fun H locs hP hD hS => ?_)
        have hP : va_P (dC, dI) vwCl (wX cI h a1 a2 a3 a4 a5 w_7 r st rc na tp cn rh sr) _ := hP
        have hD : va_D A (wX cI h a1 a2 a3 a4 a5 w_7 r st rc na tp cn rh sr) := hD
        refine lv_iinc (v := x1_ + (1 : Int32)) hx hb dX0_moveObjects_50 hl (k := 2) rfl (by rfl) (by decide) rfl (fun ls hl => ?_)
        have hl : lv_has ls 3 [(1, .int (x1_ + (1 : Int32))), (2, .int v2), (0, .ref h)] := hl
        refine lv_goto (tgt := 2) hx hb dX0_moveObjects_53 (by decide) ?_
        exact ih _ _ _ _ hf _ _ _ hP hD hS (lv_sub hl [2, 0] rfl) k0
set_option maxHeartbeats 4000000 in
set_option maxRecDepth 100000 in
theorem ctX0_moveObjects (l : Launch) (dC : Nat → ClassId) (dI : Nat → Nat → Nat) (cI cZ cL : ClassId) (h a1 a2 a3 a4 a5 : Nat) (sz : Nat) (w : Nat → Int32) (r : Nat → Int32) (st : Nat → Int32) (rc : Nat → Int32) (na : Nat → Int32) (tp : Int32) (cn : Int32) (rh : Int32) (sr : Int32) (w' : Nat → Int32) (hf : fX0_moveObjects w st na cn = some w') : Met l yX0_moveObjects wsX0_moveObjects rmX0_moveObjects (va_Pc [.ref h] (q_pre (dC, dI) vwCl (tyA cI cZ cL) sz (wX cI h a1 a2 a3 a4 a5 w r st rc na tp cn rh sr))) (va_Qv (fun (_ : Unit) => True) (fun _ => q_post (dC, dI) vwCl (tyA cI cZ cL) (va_A (wX cI h a1 a2 a3 a4 a5 w r st rc na tp cn rh sr) sz) (wX cI h a1 a2 a3 a4 a5 w' r st rc na tp cn rh sr)) (va_A (wX cI h a1 a2 a3 a4 a5 w r st rc na tp cn rh sr) sz)) 0 0 (va_A (wX cI h a1 a2 a3 a4 a5 w r st rc na tp cn rh sr) sz) := by
  refine Met.ofW (cc := cX0_moveObjects) (maxL := 3) (ret := (none)) (by decide) rfl ?_
  intro p e s m args below meth c s₁ B hml hv
  obtain ⟨rfl, hsz, hP, hK, hD0⟩ := hv
  have hx := B.exec
  have hb := B.bytes
  have hr := B.returns
  have hts := atoms_spec (ws := wsX0_moveObjects) B.pre
  have hown : s.vm.findClass RX0 = some m.cls := findClass_of_methodNamed B.named
  subst hsz
  have hD := hD0.self (sz := s.heap.size)
  generalize hAe : va_A (wX cI h a1 a2 a3 a4 a5 w r st rc na tp cn rh sr) s.heap.size = A at hD ⊢
  have hA : ∀ q : Nat, s.heap.size ≤ q → A q := fun q h => by rw [← hAe]; exact Or.inr h
  have hS : va_S A s.heap s.heap [] := va_S.rf
  have hl := lv_entry ([.ref h]) (n := 3) (Nat.le_of_ble_eq_true rfl)
  rw [lg_entry_eq]
  generalize (lg_sl ([.ref h]) ++ List.replicate (3 - (lg_sl ([.ref h])).length) Slot.unset).toArray = ls at hl ⊢
  have hl : lv_has ls 3 [(0, .ref h)] := hl
  unfold fX0_moveObjects at hf
  refine lv_iconst (v := (0 : Int32)) hx hb dX0_moveObjects_0 (by decide) ?_
  refine lv_istore_n hx hb dX0_moveObjects_1 rfl hl (by decide) rfl (fun ls hl => ?_)
  have hl : lv_has ls 3 [(1, .int (0 : Int32)), (0, .ref h)] := hl
  obtain ⟨⟨x_8, w_9⟩, hv, hf⟩ := bd hf
  dsimp only at hf
  refine wX0_moveObjects_L2 dC dI cI cZ cL h a1 a2 a3 a4 a5 hx hb hml hown hts hK hA r st rc na tp cn rh sr FU (0 : Int32) w x_8 w_9 hv _ _ _ hP hD hS (lv_sub hl [1, 0] rfl) (fun H locs ls hP hD hS hl => ?_)
  have hg0 := Option.some.inj hf
  subst hg0
  exact W.vret hx hb hr (fun t ht hW => ⟨⟨(), rfl, trivial, by rw [ht]; exact hP, va_K.moved hW.alike hK, hD⟩, hS.F ht⟩) hS.2.2 dX0_moveObjects_56
set_option maxHeartbeats 4000000 in
set_option maxRecDepth 100000 in
theorem wX0_listObjects_L4 {p : Program} {l : Launch} {e : Env} {s : State} {m : MethodId} {args : Array Value} {below : List Frame} {meth : Method} {c : Code} {Q : State → Prop} {A : Nat → Prop} (dC : Nat → ClassId) (dI : Nat → Nat → Nat) (cI cZ cL : ClassId) (h a1 a2 a3 a4 a5 : Nat) (hx : p.tables.exec = Jvm.exec) (hb : c.code = cX0_listObjects) (hml : c.maxLocals = 3) (hown : s.vm.findClass RX0 = some m.cls) (hts : ∀ w ∈ wsX0_listObjects, w.before args s = true) (hK : va_K (dC, dI) vwCl (tyA cI cZ cL) s) (hA : ∀ q : Nat, s.heap.size ≤ q → A q) (w : Nat → Int32) (r : Nat → Int32) (rc : Nat → Int32) (na : Nat → Int32) (tp : Int32) (cn : Int32) (rh : Int32) (sr : Int32) (n : Nat) :
    ∀ (x1_ : Int32) (x2_ : Int32) (st : Nat → Int32) (x1_' : Int32) (x2_' : Int32) (st' : Nat → Int32), fX0_listObjects_L4 w rh n x1_ x2_ st = some (x1_', x2_', st') → ∀ (H : Heap) (locs : List Loc) (ls : Array Slot), va_P (dC, dI) vwCl (wX cI h a1 a2 a3 a4 a5 w r st rc na tp cn rh sr) H → va_D A (wX cI h a1 a2 a3 a4 a5 w r st rc na tp cn rh sr) → va_S A s.heap H locs → lv_has ls 3 [(0, .ref h), (1, .int x1_), (2, .int x2_)] → (∀ (H : Heap) (locs : List Loc) (ls : Array Slot), va_P (dC, dI) vwCl (wX cI h a1 a2 a3 a4 a5 w r st' rc na tp cn rh sr) H → va_D A (wX cI h a1 a2 a3 a4 a5 w r st' rc na tp cn rh sr) → va_S A s.heap H locs → lv_has ls 3 [(0, .ref h), (1, .int x1_'), (2, .int x2_')] → W p l e (headSpec wsX0_listObjects rmX0_listObjects).room s m args below meth c H locs 0 0 Q (F0 m 33 ls [])) → W p l e (headSpec wsX0_listObjects rmX0_listObjects).room s m args below meth c H locs 0 0 Q (F0 m 4 ls []) := by
  induction n with
  | zero => intro x1_ x2_ st x1_' x2_' st' hf; cases hf
  | succ n ih =>
    intro x1_ x2_ st x1_' x2_' st' hf H locs ls hP hD hS hl k0
    have hf := (fX0_listObjects_L4_s w rh n x1_ x2_ st).symm.trans hf
    refine lv_iload_n hx hb dX0_listObjects_4 rfl (lv_at hl 2 rfl) ?_
    refine lv_aload_n hx hb dX0_listObjects_5 rfl (lv_at hl 0 rfl) ?_
    refine va_get (D := (dC, dI)) (ci := 0) (v := .int rh) (C := RX0) (T := TX0) (N := 9) hx hb hts (fun w hw => List.mem_cons_of_mem _ (inX0 w hw)) hown hK hP 0 rfl rfl 7 (by decide) (hts _ (List.mem_cons_of_mem _ mw_68)) (fun _ h9 => h9) rfl dX0_listObjects_6 ?_
    refine lv_icmp_ge (tgt := 33) hx hb dX0_listObjects_9 (by decide) (fun h1 => ?_) (fun h1 => ?_)
    · have hf := ift h1 hf
      cases hf
      exact k0 _ _ _ hP hD hS (lv_sub hl [0, 1, 2] rfl)
    · have hf := ifn h1 hf
      refine lv_aload_n hx hb dX0_listObjects_12 rfl (lv_at hl 0 rfl) ?_
      refine va_get (D := (dC, dI)) (ci := 0) (v := .ref a3) (C := RX0) (T := TX0) (N := 9) hx hb hts (fun w hw => List.mem_cons_of_mem _ (inX0 w hw)) hown hK hP 0 rfl rfl 2 (by decide) (hts _ (List.mem_cons_of_mem _ mw_63)) (fun _ h9 => h9) rfl dX0_listObjects_13 ?_
      refine lv_iload_n hx hb dX0_listObjects_16 rfl (lv_at hl 2 rfl) ?_
      refine lv_iload_n hx hb dX0_listObjects_17 rfl (lv_at hl 1 rfl) ?_
      obtain ⟨st_2, hv, hf⟩ := bd hf
      refine q_ist hx hb hK hP hD hS 3 0 rfl rfl hv dX0_listObjects_18 (fun H locs hP hD hS => ?_)
      have hP : va_P (dC, dI) vwCl (wX cI h a1 a2 a3 a4 a5 w r st_2 rc na tp cn rh sr) _ := hP
      have hD : va_D A (wX cI h a1 a2 a3 a4 a5 w r st_2 rc na tp cn rh sr) := hD
      refine lv_iload_n hx hb dX0_listObjects_19 rfl (lv_at hl 1 rfl) ?_
      refine lv_aload_n hx hb dX0_listObjects_20 rfl (lv_at hl 0 rfl) ?_
      refine lv_iload_n hx hb dX0_listObjects_21 rfl (lv_at hl 1 rfl) ?_
      obtain ⟨v3, hv, hf⟩ := bd hf
      refine q_ci (wr := []) (va_runV (As := [.int x1_]) (rest := [.int x1_]) ⟨hx, hb, hml, hown, hts⟩ (ctX0_sizeOf l dC dI cI cZ cL h a1 a2 a3 a4 a5 _ w r st_2 rc na tp cn rh sr x1_ v3 hv) (cwV 1 hts (gV mw_303 mw_305 mw_14 mw_38 mw_306) rfl rfl rfl (by decide +kernel) ⟨Nat.le_of_ble_eq_true rfl, Nat.le_of_ble_eq_true rfl⟩) (q_preV [.int x1_] hK hP hD [0, 1, 2, 3, 4, 5] (by decide) rfl (ci := 0) rfl rfl) rfl rfl hl.1 rfl (lv_room (Nat.le_of_ble_eq_true rfl)) dX0_listObjects_22 ⟨Nat.le_of_ble_eq_true rfl, Nat.le_of_ble_eq_true rfl⟩) hP hD hS hA [0, 1, 2, 3, 4, 5] [] rfl rfl (by decide) (by decide) (fun H locs hP hD hS => ?_)
      have hP : va_P (dC, dI) vwCl (wX cI h a1 a2 a3 a4 a5 w r st_2 rc na tp cn rh sr) _ := hP
      have hD : va_D A (wX cI h a1 a2 a3 a4 a5 w r st_2 rc na tp cn rh sr) := hD
      refine lv_iadd hx hb dX0_listObjects_25 ?_
      refine lv_istore_n hx hb dX0_listObjects_26 rfl hl (by decide) rfl (fun ls hl => ?_)
      have hl : lv_has ls 3 [(1, .int (x1_ + v3)), (0, .ref h), (2, .int x2_)] := hl
      refine lv_iinc (v := x2_ + (1 : Int32)) hx hb dX0_listObjects_27 hl (k := 2) rfl (by rfl) (by decide) rfl (fun ls hl => ?_)
      have hl : lv_has ls 3 [(2, .int (x2_ + (1 : Int32))), (1, .int (x1_ + v3)), (0, .ref h)] := hl
      refine lv_goto (tgt := 4) hx hb dX0_listObjects_30 (by decide) ?_
      exact ih _ _ _ _ _ _ hf _ _ _ hP hD hS (lv_sub hl [2, 1, 0] rfl) k0
set_option maxHeartbeats 4000000 in
set_option maxRecDepth 100000 in
theorem ctX0_listObjects (l : Launch) (dC : Nat → ClassId) (dI : Nat → Nat → Nat) (cI cZ cL : ClassId) (h a1 a2 a3 a4 a5 : Nat) (sz : Nat) (w : Nat → Int32) (r : Nat → Int32) (st : Nat → Int32) (rc : Nat → Int32) (na : Nat → Int32) (tp : Int32) (cn : Int32) (rh : Int32) (sr : Int32) (w' : Nat → Int32) (st' : Nat → Int32) (tp' : Int32) (cn' : Int32) (hf : fX0_listObjects w st tp cn rh = some (w', st', tp', cn')) : Met l yX0_listObjects wsX0_listObjects rmX0_listObjects (va_Pc [.ref h] (q_pre (dC, dI) vwCl (tyA cI cZ cL) sz (wX cI h a1 a2 a3 a4 a5 w r st rc na tp cn rh sr))) (va_Qv (fun (_ : Unit) => True) (fun _ => q_post (dC, dI) vwCl (tyA cI cZ cL) (va_A (wX cI h a1 a2 a3 a4 a5 w r st rc na tp cn rh sr) sz) (wX cI h a1 a2 a3 a4 a5 w' r st' rc na tp' cn' rh sr)) (va_A (wX cI h a1 a2 a3 a4 a5 w r st rc na tp cn rh sr) sz)) 0 0 (va_A (wX cI h a1 a2 a3 a4 a5 w r st rc na tp cn rh sr) sz) := by
  refine Met.ofW (cc := cX0_listObjects) (maxL := 3) (ret := (none)) (by decide) rfl ?_
  intro p e s m args below meth c s₁ B hml hv
  obtain ⟨rfl, hsz, hP, hK, hD0⟩ := hv
  have hx := B.exec
  have hb := B.bytes
  have hr := B.returns
  have hts := atoms_spec (ws := wsX0_listObjects) B.pre
  have hown : s.vm.findClass RX0 = some m.cls := findClass_of_methodNamed B.named
  subst hsz
  have hD := hD0.self (sz := s.heap.size)
  generalize hAe : va_A (wX cI h a1 a2 a3 a4 a5 w r st rc na tp cn rh sr) s.heap.size = A at hD ⊢
  have hA : ∀ q : Nat, s.heap.size ≤ q → A q := fun q h => by rw [← hAe]; exact Or.inr h
  have hS : va_S A s.heap s.heap [] := va_S.rf
  have hl := lv_entry ([.ref h]) (n := 3) (Nat.le_of_ble_eq_true rfl)
  rw [lg_entry_eq]
  generalize (lg_sl ([.ref h]) ++ List.replicate (3 - (lg_sl ([.ref h])).length) Slot.unset).toArray = ls at hl ⊢
  have hl : lv_has ls 3 [(0, .ref h)] := hl
  unfold fX0_listObjects at hf
  refine lv_iconst (v := (0 : Int32)) hx hb dX0_listObjects_0 (by decide) ?_
  refine lv_istore_n hx hb dX0_listObjects_1 rfl hl (by decide) rfl (fun ls hl => ?_)
  have hl : lv_has ls 3 [(1, .int (0 : Int32)), (0, .ref h)] := hl
  refine lv_iconst (v := (0 : Int32)) hx hb dX0_listObjects_2 (by decide) ?_
  refine lv_istore_n hx hb dX0_listObjects_3 rfl hl (by decide) rfl (fun ls hl => ?_)
  have hl : lv_has ls 3 [(2, .int (0 : Int32)), (1, .int (0 : Int32)), (0, .ref h)] := hl
  obtain ⟨⟨x_4, x_5, st_6⟩, hv, hf⟩ := bd hf
  dsimp only at hf
  refine wX0_listObjects_L4 dC dI cI cZ cL h a1 a2 a3 a4 a5 hx hb hml hown hts hK hA w r rc na tp cn rh sr FU (0 : Int32) (0 : Int32) st x_4 x_5 st_6 hv _ _ _ hP hD hS (lv_sub hl [2, 1, 0] rfl) (fun H locs ls hP hD hS hl => ?_)
  refine lv_aload_n hx hb dX0_listObjects_33 rfl (lv_at hl 0 rfl) ?_
  refine lv_aload_n hx hb dX0_listObjects_34 rfl (lv_at hl 0 rfl) ?_
  refine va_get (D := (dC, dI)) (ci := 0) (v := .int rh) (C := RX0) (T := TX0) (N := 9) hx hb hts (fun w hw => List.mem_cons_of_mem _ (inX0 w hw)) hown hK hP 0 rfl rfl 7 (by decide) (hts _ (List.mem_cons_of_mem _ mw_68)) (fun _ h9 => h9) rfl dX0_listObjects_35 ?_
  refine va_put (D := (dC, dI)) (ci := 0) (v := .int rh) (ty := .int) (C := RX0) (T := TX0) (N := 9) hx hb hts (fun w hw => List.mem_cons_of_mem _ (inX0 w hw)) tyX0 tyX0_ok nmX0 hown hK hP hD hS 0 rfl rfl 6 (by decide) (hts _ (List.mem_cons_of_mem _ mw_67)) (fun _ h9 => h9) rfl (by decide +kernel) rfl rfl (Nat.le_of_ble_eq_true rfl) dX0_listObjects_38 (fun H locs hP hD hS => ?_)
  have hP : va_P (dC, dI) vwCl (wX cI h a1 a2 a3 a4 a5 w r st_6 rc na tp rh rh sr) _ := hP
  have hD : va_D A (wX cI h a1 a2 a3 a4 a5 w r st_6 rc na tp rh rh sr) := hD
  refine lv_aload_n hx hb dX0_listObjects_41 rfl (lv_at hl 0 rfl) ?_
  refine va_get (D := (dC, dI)) (ci := 0) (v := .ref a1) (C := RX0) (T := TX0) (N := 9) hx hb hts (fun w hw => List.mem_cons_of_mem _ (inX0 w hw)) hown hK hP 0 rfl rfl 0 (by decide) (hts _ (List.mem_cons_of_mem _ mw_61)) (fun _ h9 => h9) rfl dX0_listObjects_42 ?_
  refine lv_iload_n hx hb dX0_listObjects_45 rfl (lv_at hl 1 rfl) ?_
  refine lv_aload_n hx hb dX0_listObjects_46 rfl (lv_at hl 0 rfl) ?_
  refine va_get (D := (dC, dI)) (ci := 0) (v := .int tp) (C := RX0) (T := TX0) (N := 9) hx hb hts (fun w hw => List.mem_cons_of_mem _ (inX0 w hw)) hown hK hP 0 rfl rfl 5 (by decide) (hts _ (List.mem_cons_of_mem _ mw_66)) (fun _ h9 => h9) rfl dX0_listObjects_47 ?_
  refine lv_iconst (v := (0 : Int32)) hx hb dX0_listObjects_50 (by decide) ?_
  obtain ⟨w_7, hv, hf⟩ := bd hf
  refine q_cv (wr := [(h, .inr (0, [.ref a1, .ref a2, .ref a3, .ref a4, .ref a5, .int tp, .int rh, .int rh, .int sr])), (a2, .inl (cI, 8, .inl r)), (a3, .inl (cI, 128, .inl st_6)), (a4, .inl (cI, 128, .inl rc)), (a5, .inl (cI, 256, .inl na))]) (va_runS (As := [.ref a1, .int x_4, .int tp, .int (0 : Int32)]) (rest := []) ⟨hx, hb, hml, hown, hts⟩ (ctXB_fill l dC dI cI cZ cL a1 256 _ w x_4 tp (0 : Int32) w_7 hv) (va_cwS 4 hts (gS mw_330 mw_331 mw_39 mw_332) rfl rfl rfl (by decide +kernel) ⟨Nat.le_of_ble_eq_true rfl, Nat.le_of_ble_eq_true rfl⟩) (q_preS [.ref a1, .int x_4, .int tp, .int (0 : Int32)] hK hP hD [1] (by decide) rfl) rfl rfl hl.1 rfl (lv_room (Nat.le_of_ble_eq_true rfl)) dX0_listObjects_51 ⟨Nat.le_of_ble_eq_true rfl, Nat.le_of_ble_eq_true rfl⟩) hP hD hS hA [1] [0, 2, 3, 4, 5] rfl rfl (by decide) (by decide) (fun H locs hP hD hS => ?_)
  have hP := hP.sub (ws' := (wX cI h a1 a2 a3 a4 a5 w_7 r st_6 rc na tp rh rh sr)) [0, 5, 1, 2, 3, 4] rfl
  have hD := hD.sub (ws' := (wX cI h a1 a2 a3 a4 a5 w_7 r st_6 rc na tp rh rh sr)) [0, 5, 1, 2, 3, 4] (by decide) rfl
  have hP : va_P (dC, dI) vwCl (wX cI h a1 a2 a3 a4 a5 w_7 r st_6 rc na tp rh rh sr) _ := hP
  have hD : va_D A (wX cI h a1 a2 a3 a4 a5 w_7 r st_6 rc na tp rh rh sr) := hD
  refine lv_aload_n hx hb dX0_listObjects_54 rfl (lv_at hl 0 rfl) ?_
  refine lv_iload_n hx hb dX0_listObjects_55 rfl (lv_at hl 1 rfl) ?_
  refine va_put (D := (dC, dI)) (ci := 0) (v := .int x_4) (ty := .int) (C := RX0) (T := TX0) (N := 9) hx hb hts (fun w hw => List.mem_cons_of_mem _ (inX0 w hw)) tyX0 tyX0_ok nmX0 hown hK hP hD hS 0 rfl rfl 5 (by decide) (hts _ (List.mem_cons_of_mem _ mw_66)) (fun _ h9 => h9) rfl (by decide +kernel) rfl rfl (Nat.le_of_ble_eq_true rfl) dX0_listObjects_56 (fun H locs hP hD hS => ?_)
  have hP : va_P (dC, dI) vwCl (wX cI h a1 a2 a3 a4 a5 w_7 r st_6 rc na x_4 rh rh sr) _ := hP
  have hD : va_D A (wX cI h a1 a2 a3 a4 a5 w_7 r st_6 rc na x_4 rh rh sr) := hD
  have hg0 := Option.some.inj hf
  obtain ⟨hq1, hg1⟩ := Prod.mk.inj hg0
  subst hq1
  obtain ⟨hq2, hg2⟩ := Prod.mk.inj hg1
  subst hq2
  obtain ⟨hq3, hg3⟩ := Prod.mk.inj hg2
  subst hq3
  subst hg3
  exact W.vret hx hb hr (fun t ht hW => ⟨⟨(), rfl, trivial, by rw [ht]; exact hP, va_K.moved hW.alike hK, hD⟩, hS.F ht⟩) hS.2.2 dX0_listObjects_59
