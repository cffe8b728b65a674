set_option maxHeartbeats 4000000 in
set_option maxRecDepth 100000 in
theorem ctX0_kind (l : Launch) (hlt : l.stackTraces = false) (dC : Nat → ClassId) (dI : Nat → Nat → Nat) (cI cZ cL : ClassId) (h a1 a2 a3 a4 a5 : Nat) (sz : Nat) (w : Nat → Int32) (r : Nat → Int32) (st : Nat → Int32) (rc : Nat → Int32) (na : Nat → Int32) (tp : Int32) (cn : Int32) (rh : Int32) (sr : Int32) (x1 : Int32) (x2 : Int32) (ef : Nat) (rs : Int32) (hf : fX0_kind w r x1 x2 = some (ef, rs)) : vx_Met l yX0_kind wsX0_kind (rmX0_kind ef) (va_Pc [.ref h, .int x1, .int x2] (q_preX (dC, dI) vwCl (tyA cI cZ cL) RX0 q_tx sz (wX cI h a1 a2 a3 a4 a5 w r st rc na tp cn rh sr))) (va_Qi (fun r (_ : Unit) => ef = 0 ∧ r = rs) (fun _ => q_post (dC, dI) vwCl (tyA cI cZ cL) (va_A (wX cI h a1 a2 a3 a4 a5 w r st rc na tp cn rh sr) sz) (wX cI h a1 a2 a3 a4 a5 w r st rc na tp cn rh sr)) (va_A (wX cI h a1 a2 a3 a4 a5 w r st rc na tp cn rh sr) sz)) (vx_X (fun (_ : Unit) => ¬ ef = 0) (fun E _ t => E = q_E ef ∧ q_post (dC, dI) vwCl (tyA cI cZ cL) (va_A (wX cI h a1 a2 a3 a4 a5 w r st rc na tp cn rh sr) sz) (wX cI h a1 a2 a3 a4 a5 w r st rc na tp cn rh sr) t) (va_A (wX cI h a1 a2 a3 a4 a5 w r st rc na tp cn rh sr) sz)) (q_mc ef) (q_ms ef) (va_A (wX cI h a1 a2 a3 a4 a5 w r st rc na tp cn rh sr) sz) := by
  refine vx_ofW (cc := cX0_kind) (maxL := 3) (ret := (some .int)) (by decide) rfl ?_
  intro p e s m args below meth c s₁ B hml hno hv
  obtain ⟨rfl, hsz, hP, hK, hD0, hZ0, hT, hN⟩ := hv
  have hx := B.exec
  have hb := B.bytes
  have hr := B.returns
  have hts := atoms_spec (ws := wsX0_kind) B.pre
  have hown : s.vm.findClass RX0 = some m.cls := findClass_of_methodNamed B.named
  have hlk := B.notSynchronized
  subst hsz
  have hD := hD0.self (sz := s.heap.size)
  generalize hAe : va_A (wX cI h a1 a2 a3 a4 a5 w r st rc na tp cn rh sr) s.heap.size = A at hZ0 hD ⊢
  have hA : ∀ q : Nat, s.heap.size ≤ q → A q := fun q h => by rw [← hAe]; exact Or.inr h
  have hS : va_S A s.heap s.heap [] := va_S.rf
  have hl := lv_entry ([.ref h, .int x1, .int x2]) (n := 3) (Nat.le_of_ble_eq_true rfl)
  rw [lg_entry_eq]
  generalize (lg_sl ([.ref h, .int x1, .int x2]) ++ List.replicate (3 - (lg_sl ([.ref h, .int x1, .int x2])).length) Slot.unset).toArray = ls at hl ⊢
  have hl : lv_has ls 3 [(0, .ref h), (1, .int x1), (2, .int x2)] := hl
  unfold fX0_kind at hf
  refine lv_iload_n hx hb dX0_kind_0 rfl (lv_at hl 1 rfl) ?_
  obtain ⟨e1, hv, hf⟩ := bd hf
  by_cases he : e1 = 0
  · replace hf := ift he hf
    subst he
    refine q_nv (wr := (wX cI h a1 a2 a3 a4 a5 w r st rc na tp cn rh sr)) (vx_runS (As := [.int x1]) (rest := []) ⟨hx, hb, hml, hown, hts⟩ (ctX0_requireRoot l hlt dC dI cI cZ cL _ x1 0 hv) (va_cwS 1 hts (gS mw_135 mw_136 mw_38 mw_137) rfl rfl rfl (by decide +kernel) ⟨Nat.le_of_ble_eq_true rfl, Nat.le_of_ble_eq_true rfl⟩) (q_preXS [.int x1] hK hP hD hS hA hZ0 hT hN [] (by decide) rfl) rfl rfl hl.1 rfl (lv_room (Nat.le_of_ble_eq_true rfl)) dX0_kind_1 ⟨(q_le0 _).1, (q_le0 _).2⟩) hP hD hS hA [] [0, 1, 2, 3, 4, 5] rfl rfl (by decide) (by decide) (fun H locs hP hD hS => ?_)
    have hP : va_P (dC, dI) vwCl (wX cI h a1 a2 a3 a4 a5 w r st rc na tp cn rh sr) _ := hP
    have hD : va_D A (wX cI h a1 a2 a3 a4 a5 w r st rc na tp cn rh sr) := hD
    refine lv_aload_n hx hb dX0_kind_4 rfl (lv_at hl 0 rfl) ?_
    refine lv_iload_n hx hb dX0_kind_5 rfl (lv_at hl 1 rfl) ?_
    refine lv_iload_n hx hb dX0_kind_6 rfl (lv_at hl 2 rfl) ?_
    obtain ⟨e2, hv, hf⟩ := bd hf
    by_cases he : e2 = 0
    · replace hf := ift he hf
      subst he
      refine q_nv (wr := []) (vx_runV (As := [.int x1, .int x2]) (rest := []) ⟨hx, hb, hml, hown, hts⟩ (ctX0_requireObjectWithField l hlt dC dI cI cZ cL h a1 a2 a3 a4 a5 _ w r st rc na tp cn rh sr x1 x2 0 hv) (cwV 2 hts (gV mw_365 mw_367 mw_20 mw_38 mw_368) rfl rfl rfl (by decide +kernel) ⟨Nat.le_of_ble_eq_true rfl, Nat.le_of_ble_eq_true rfl⟩) (q_preXV [.int x1, .int x2] hK hP hD hS hA hZ0 hT hN [0, 1, 2, 3, 4, 5] (by decide) rfl (ci := 0) rfl rfl) rfl rfl hl.1 rfl (lv_room (Nat.le_of_ble_eq_true rfl)) dX0_kind_7 ⟨(q_le0 _).1, (q_le0 _).2⟩) hP hD hS hA [0, 1, 2, 3, 4, 5] [] rfl rfl (by decide) (by decide) (fun H locs hP hD hS => ?_)
      have hP : va_P (dC, dI) vwCl (wX cI h a1 a2 a3 a4 a5 w r st rc na tp cn rh sr) _ := hP
      have hD : va_D A (wX cI h a1 a2 a3 a4 a5 w r st rc na tp cn rh sr) := hD
      refine lv_aload_n hx hb dX0_kind_10 rfl (lv_at hl 0 rfl) ?_
      refine lv_aload_n hx hb dX0_kind_11 rfl (lv_at hl 0 rfl) ?_
      refine va_get (D := (dC, dI)) (ci := 0) (v := .ref a2) (C := RX0) (T := TX0) (N := 9) hx hb hts (fun w hw => List.mem_cons_of_mem _ (inX0 w hw)) hown hK hP 0 rfl rfl 1 (by decide) (hts _ (List.mem_cons_of_mem _ mw_62)) (fun _ h9 => h9) rfl dX0_kind_12 ?_
      refine lv_iload_n hx hb dX0_kind_15 rfl (lv_at hl 1 rfl) ?_
      obtain ⟨v3, hv, hf⟩ := bd hf
      refine q_ild hx hb hK hP 2 0 rfl rfl hv dX0_kind_16 ?_
      refine lv_iload_n hx hb dX0_kind_17 rfl (lv_at hl 2 rfl) ?_
      obtain ⟨v4, hv, hf⟩ := bd hf
      refine q_ci (wr := []) (va_runV (As := [.int v3, .int x2]) (rest := []) ⟨hx, hb, hml, hown, hts⟩ (ctX0_fieldKind l dC dI cI cZ cL h a1 a2 a3 a4 a5 _ w r st rc na tp cn rh sr v3 x2 v4 hv) (cwV 2 hts (gV mw_118 mw_120 mw_4 mw_38 mw_121) rfl rfl rfl (by decide +kernel) ⟨Nat.le_of_ble_eq_true rfl, Nat.le_of_ble_eq_true rfl⟩) (q_preV [.int v3, .int x2] hK hP hD [0, 1, 2, 3, 4, 5] (by decide) rfl (ci := 0) rfl rfl) rfl rfl hl.1 rfl (lv_room (Nat.le_of_ble_eq_true rfl)) dX0_kind_18 ⟨Nat.le_of_ble_eq_true rfl, Nat.le_of_ble_eq_true rfl⟩) hP hD hS hA [0, 1, 2, 3, 4, 5] [] rfl rfl (by decide) (by decide) (fun H locs hP hD hS => ?_)
      have hP : va_P (dC, dI) vwCl (wX cI h a1 a2 a3 a4 a5 w r st rc na tp cn rh sr) _ := hP
      have hD : va_D A (wX cI h a1 a2 a3 a4 a5 w r st rc na tp cn rh sr) := hD
      have hg0 := Option.some.inj hf
      obtain ⟨hq1, hg1⟩ := Prod.mk.inj hg0
      subst hq1
      subst hg1
      refine vx_ret ?_
      refine W.widen (k := q_mc 0) (n := q_ms 0) (Nat.zero_le _) (Nat.zero_le _) ?_
      exact W.iret hx hb hr (fun t ht hW => ⟨⟨_, (), rfl, ⟨rfl, rfl⟩, by rw [ht]; exact hP, va_K.moved hW.alike hK, hD⟩, hS.F ht⟩) hS.2.2 dX0_kind_21 hlk
    · replace hf := ifn he hf
      have hg0 := Option.some.inj hf
      obtain ⟨hq1, hg1⟩ := Prod.mk.inj hg0
      subst hq1
      subst hg1
      refine q_tv (wr := []) he (vx_runV (As := [.int x1, .int x2]) (rest := []) ⟨hx, hb, hml, hown, hts⟩ (ctX0_requireObjectWithField l hlt dC dI cI cZ cL h a1 a2 a3 a4 a5 _ w r st rc na tp cn rh sr x1 x2 e2 hv) (cwV 2 hts (gV mw_365 mw_367 mw_20 mw_38 mw_368) rfl rfl rfl (by decide +kernel) ⟨Nat.le_of_ble_eq_true rfl, Nat.le_of_ble_eq_true rfl⟩) (q_preXV [.int x1, .int x2] hK hP hD hS hA hZ0 hT hN [0, 1, 2, 3, 4, 5] (by decide) rfl (ci := 0) rfl rfl) rfl rfl hl.1 rfl (lv_room (Nat.le_of_ble_eq_true rfl)) dX0_kind_7 ⟨q_leC wsX0_kind (rmX0_kind e2) rfl, q_leS wsX0_kind (rmX0_kind e2) rfl⟩) hP hD hS hA [0, 1, 2, 3, 4, 5] [] rfl rfl (by decide) (by decide) (fun ce q9 H locs hP hD hS hc1 hc2 hc3 => ?_)
      have hP : va_P (dC, dI) vwCl (wX cI h a1 a2 a3 a4 a5 w r st rc na tp cn rh sr) _ := hP
      have hD : va_D A (wX cI h a1 a2 a3 a4 a5 w r st rc na tp cn rh sr) := hD
      exact vx_out (fun x hxx => (hno x hxx).elim) hlk hc1 hc2 hc3 (fun t ht hW => ⟨(), he, ⟨rfl, by rw [ht]; exact hP, va_K.moved hW hK, hD⟩, hS.F ht⟩) hS.2.2 (Nat.le_of_eq (Nat.zero_add _)) (Nat.le_of_eq (Nat.zero_add _))
  · replace hf := ifn he hf
    have hg0 := Option.some.inj hf
    obtain ⟨hq1, hg1⟩ := Prod.mk.inj hg0
    subst hq1
    subst hg1
    refine q_tv (wr := (wX cI h a1 a2 a3 a4 a5 w r st rc na tp cn rh sr)) he (vx_runS (As := [.int x1]) (rest := []) ⟨hx, hb, hml, hown, hts⟩ (ctX0_requireRoot l hlt dC dI cI cZ cL _ x1 e1 hv) (va_cwS 1 hts (gS mw_135 mw_136 mw_38 mw_137) rfl rfl rfl (by decide +kernel) ⟨Nat.le_of_ble_eq_true rfl, Nat.le_of_ble_eq_true rfl⟩) (q_preXS [.int x1] hK hP hD hS hA hZ0 hT hN [] (by decide) rfl) rfl rfl hl.1 rfl (lv_room (Nat.le_of_ble_eq_true rfl)) dX0_kind_1 ⟨q_leC wsX0_kind (rmX0_kind e1) rfl, q_leS wsX0_kind (rmX0_kind e1) rfl⟩) hP hD hS hA [] [0, 1, 2, 3, 4, 5] rfl rfl (by decide) (by decide) (fun ce q9 H locs hP hD hS hc1 hc2 hc3 => ?_)
    have hP : va_P (dC, dI) vwCl (wX cI h a1 a2 a3 a4 a5 w r st rc na tp cn rh sr) _ := hP
    have hD : va_D A (wX cI h a1 a2 a3 a4 a5 w r st rc na tp cn rh sr) := hD
    exact vx_out (fun x hxx => (hno x hxx).elim) hlk hc1 hc2 hc3 (fun t ht hW => ⟨(), he, ⟨rfl, by rw [ht]; exact hP, va_K.moved hW hK, hD⟩, hS.F ht⟩) hS.2.2 (Nat.le_of_eq (Nat.zero_add _)) (Nat.le_of_eq (Nat.zero_add _))
set_option maxHeartbeats 4000000 in
set_option maxRecDepth 100000 in
theorem ctX0_serial (l : Launch) (hlt : l.stackTraces = false) (dC : Nat → ClassId) (dI : Nat → Nat → Nat) (cI cZ cL : ClassId) (h a1 a2 a3 a4 a5 : Nat) (sz : Nat) (w : Nat → Int32) (r : Nat → Int32) (st : Nat → Int32) (rc : Nat → Int32) (na : Nat → Int32) (tp : Int32) (cn : Int32) (rh : Int32) (sr : Int32) (x1 : Int32) (ef : Nat) (rs : Int32) (hf : fX0_serial w r x1 = some (ef, rs)) : vx_Met l yX0_serial wsX0_serial (rmX0_serial ef) (va_Pc [.ref h, .int x1] (q_preX (dC, dI) vwCl (tyA cI cZ cL) RX0 q_tx sz (wX cI h a1 a2 a3 a4 a5 w r st rc na tp cn rh sr))) (va_Qi (fun r (_ : Unit) => ef = 0 ∧ r = rs) (fun _ => q_post (dC, dI) vwCl (tyA cI cZ cL) (va_A (wX cI h a1 a2 a3 a4 a5 w r st rc na tp cn rh sr) sz) (wX cI h a1 a2 a3 a4 a5 w r st rc na tp cn rh sr)) (va_A (wX cI h a1 a2 a3 a4 a5 w r st rc na tp cn rh sr) sz)) (vx_X (fun (_ : Unit) => ¬ ef = 0) (fun E _ t => E = q_E ef ∧ q_post (dC, dI) vwCl (tyA cI cZ cL) (va_A (wX cI h a1 a2 a3 a4 a5 w r st rc na tp cn rh sr) sz) (wX cI h a1 a2 a3 a4 a5 w r st rc na tp cn rh sr) t) (va_A (wX cI h a1 a2 a3 a4 a5 w r st rc na tp cn rh sr) sz)) (q_mc ef) (q_ms ef) (va_A (wX cI h a1 a2 a3 a4 a5 w r st rc na tp cn rh sr) sz) := by
  refine vx_ofW (cc := cX0_serial) (maxL := 2) (ret := (some .int)) (by decide) rfl ?_
  intro p e s m args below meth c s₁ B hml hno hv
  obtain ⟨rfl, hsz, hP, hK, hD0, hZ0, hT, hN⟩ := hv
  have hx := B.exec
  have hb := B.bytes
  have hr := B.returns
  have hts := atoms_spec (ws := wsX0_serial) B.pre
  have hown : s.vm.findClass RX0 = some m.cls := findClass_of_methodNamed B.named
  have hlk := B.notSynchronized
  subst hsz
  have hD := hD0.self (sz := s.heap.size)
  generalize hAe : va_A (wX cI h a1 a2 a3 a4 a5 w r st rc na tp cn rh sr) s.heap.size = A at hZ0 hD ⊢
  have hA : ∀ q : Nat, s.heap.size ≤ q → A q := fun q h => by rw [← hAe]; exact Or.inr h
  have hS : va_S A s.heap s.heap [] := va_S.rf
  have hl := lv_entry ([.ref h, .int x1]) (n := 2) (Nat.le_of_ble_eq_true rfl)
  rw [lg_entry_eq]
  generalize (lg_sl ([.ref h, .int x1]) ++ List.replicate (2 - (lg_sl ([.ref h, .int x1])).length) Slot.unset).toArray = ls at hl ⊢
  have hl : lv_has ls 2 [(0, .ref h), (1, .int x1)] := hl
  unfold fX0_serial at hf
  refine lv_iload_n hx hb dX0_serial_0 rfl (lv_at hl 1 rfl) ?_
  obtain ⟨e1, hv, hf⟩ := bd hf
  by_cases he : e1 = 0
  · replace hf := ift he hf
    subst he
    refine q_nv (wr := (wX cI h a1 a2 a3 a4 a5 w r st rc na tp cn rh sr)) (vx_runS (As := [.int x1]) (rest := []) ⟨hx, hb, hml, hown, hts⟩ (ctX0_requireRoot l hlt dC dI cI cZ cL _ x1 0 hv) (va_cwS 1 hts (gS mw_135 mw_136 mw_38 mw_137) rfl rfl rfl (by decide +kernel) ⟨Nat.le_of_ble_eq_true rfl, Nat.le_of_ble_eq_true rfl⟩) (q_preXS [.int x1] hK hP hD hS hA hZ0 hT hN [] (by decide) rfl) rfl rfl hl.1 rfl (lv_room (Nat.le_of_ble_eq_true rfl)) dX0_serial_1 ⟨(q_le0 _).1, (q_le0 _).2⟩) hP hD hS hA [] [0, 1, 2, 3, 4, 5] rfl rfl (by decide) (by decide) (fun H locs hP hD hS => ?_)
    have hP : va_P (dC, dI) vwCl (wX cI h a1 a2 a3 a4 a5 w r st rc na tp cn rh sr) _ := hP
    have hD : va_D A (wX cI h a1 a2 a3 a4 a5 w r st rc na tp cn rh sr) := hD
    refine lv_aload_n hx hb dX0_serial_4 rfl (lv_at hl 0 rfl) ?_
    refine va_get (D := (dC, dI)) (ci := 0) (v := .ref a2) (C := RX0) (T := TX0) (N := 9) hx hb hts (fun w hw => List.mem_cons_of_mem _ (inX0 w hw)) hown hK hP 0 rfl rfl 1 (by decide) (hts _ (List.mem_cons_of_mem _ mw_62)) (fun _ h9 => h9) rfl dX0_serial_5 ?_
    refine lv_iload_n hx hb dX0_serial_8 rfl (lv_at hl 1 rfl) ?_
    obtain ⟨v2, hv, hf⟩ := bd hf
    refine q_ild hx hb hK hP 2 0 rfl rfl hv dX0_serial_9 ?_
    refine lv_iconst (v := (-1 : Int32)) hx hb dX0_serial_10 (by decide) ?_
    refine lv_icmp_ne (tgt := 18) hx hb dX0_serial_11 (by decide) (fun h3 => ?_) (fun h3 => ?_)
    · have hf := ifn h3 hf
      refine lv_aload_n hx hb dX0_serial_18 rfl (lv_at hl 0 rfl) ?_
      refine va_get (D := (dC, dI)) (ci := 0) (v := .ref a1) (C := RX0) (T := TX0) (N := 9) hx hb hts (fun w hw => List.mem_cons_of_mem _ (inX0 w hw)) hown hK hP 0 rfl rfl 0 (by decide) (hts _ (List.mem_cons_of_mem _ mw_61)) (fun _ h9 => h9) rfl dX0_serial_19 ?_
      refine lv_aload_n hx hb dX0_serial_22 rfl (lv_at hl 0 rfl) ?_
      refine va_get (D := (dC, dI)) (ci := 0) (v := .ref a2) (C := RX0) (T := TX0) (N := 9) hx hb hts (fun w hw => List.mem_cons_of_mem _ (inX0 w hw)) hown hK hP 0 rfl rfl 1 (by decide) (hts _ (List.mem_cons_of_mem _ mw_62)) (fun _ h9 => h9) rfl dX0_serial_23 ?_
      refine lv_iload_n hx hb dX0_serial_26 rfl (lv_at hl 1 rfl) ?_
      obtain ⟨v4, hv, hf⟩ := bd hf
      refine q_ild hx hb hK hP 2 0 rfl rfl hv dX0_serial_27 ?_
      refine lv_iconst (v := (1 : Int32)) hx hb dX0_serial_28 (by decide) ?_
      refine lv_iadd hx hb dX0_serial_29 ?_
      obtain ⟨v5, hv, hf⟩ := bd hf
      refine q_ild hx hb hK hP 1 0 rfl rfl hv dX0_serial_30 ?_
      have hg0 := Option.some.inj hf
      obtain ⟨hq1, hg1⟩ := Prod.mk.inj hg0
      subst hq1
      subst hg1
      refine vx_ret ?_
      refine W.widen (k := q_mc 0) (n := q_ms 0) (Nat.zero_le _) (Nat.zero_le _) ?_
      exact W.iret hx hb hr (fun t ht hW => ⟨⟨_, (), rfl, ⟨rfl, rfl⟩, by rw [ht]; exact hP, va_K.moved hW.alike hK, hD⟩, hS.F ht⟩) hS.2.2 dX0_serial_31 hlk
    · have hf := ift h3 hf
      refine lv_iconst (v := (-1 : Int32)) hx hb dX0_serial_14 (by decide) ?_
      refine lv_goto (tgt := 31) hx hb dX0_serial_15 (by decide) ?_
      have hg0 := Option.some.inj hf
      obtain ⟨hq1, hg1⟩ := Prod.mk.inj hg0
      subst hq1
      subst hg1
      refine vx_ret ?_
      refine W.widen (k := q_mc 0) (n := q_ms 0) (Nat.zero_le _) (Nat.zero_le _) ?_
      exact W.iret hx hb hr (fun t ht hW => ⟨⟨_, (), rfl, ⟨rfl, rfl⟩, by rw [ht]; exact hP, va_K.moved hW.alike hK, hD⟩, hS.F ht⟩) hS.2.2 dX0_serial_31 hlk
  · replace hf := ifn he hf
    have hg0 := Option.some.inj hf
    obtain ⟨hq1, hg1⟩ := Prod.mk.inj hg0
    subst hq1
    subst hg1
    refine q_tv (wr := (wX cI h a1 a2 a3 a4 a5 w r st rc na tp cn rh sr)) he (vx_runS (As := [.int x1]) (rest := []) ⟨hx, hb, hml, hown, hts⟩ (ctX0_requireRoot l hlt dC dI cI cZ cL _ x1 e1 hv) (va_cwS 1 hts (gS mw_135 mw_136 mw_38 mw_137) rfl rfl rfl (by decide +kernel) ⟨Nat.le_of_ble_eq_true rfl, Nat.le_of_ble_eq_true rfl⟩) (q_preXS [.int x1] hK hP hD hS hA hZ0 hT hN [] (by decide) rfl) rfl rfl hl.1 rfl (lv_room (Nat.le_of_ble_eq_true rfl)) dX0_serial_1 ⟨q_leC wsX0_serial (rmX0_serial e1) rfl, q_leS wsX0_serial (rmX0_serial e1) rfl⟩) hP hD hS hA [] [0, 1, 2, 3, 4, 5] rfl rfl (by decide) (by decide) (fun ce q9 H locs hP hD hS hc1 hc2 hc3 => ?_)
    have hP : va_P (dC, dI) vwCl (wX cI h a1 a2 a3 a4 a5 w r st rc na tp cn rh sr) _ := hP
    have hD : va_D A (wX cI h a1 a2 a3 a4 a5 w r st rc na tp cn rh sr) := hD
    exact vx_out (fun x hxx => (hno x hxx).elim) hlk hc1 hc2 hc3 (fun t ht hW => ⟨(), he, ⟨rfl, by rw [ht]; exact hP, va_K.moved hW hK, hD⟩, hS.F ht⟩) hS.2.2 (Nat.le_of_eq (Nat.zero_add _)) (Nat.le_of_eq (Nat.zero_add _))
set_option maxHeartbeats 4000000 in
set_option maxRecDepth 100000 in
theorem ctX0_address (l : Launch) (hlt : l.stackTraces = false) (dC : Nat → ClassId) (dI : Nat → Nat → Nat) (cI cZ cL : ClassId) (h a1 a2 a3 a4 a5 : Nat) (sz : Nat) (w : Nat → Int32) (r : Nat → Int32) (st : Nat → Int32) (rc : Nat → Int32) (na : Nat → Int32) (tp : Int32) (cn : Int32) (rh : Int32) (sr : Int32) (x1 : Int32) (ef : Nat) (rs : Int32) (hf : fX0_address r x1 = some (ef, rs)) : vx_Met l yX0_address wsX0_address (rmX0_address ef) (va_Pc [.ref h, .int x1] (q_preX (dC, dI) vwCl (tyA cI cZ cL) RX0 q_tx sz (wX cI h a1 a2 a3 a4 a5 w r st rc na tp cn rh sr))) (va_Qi (fun r (_ : Unit) => ef = 0 ∧ r = rs) (fun _ => q_post (dC, dI) vwCl (tyA cI cZ cL) (va_A (wX cI h a1 a2 a3 a4 a5 w r st rc na tp cn rh sr) sz) (wX cI h a1 a2 a3 a4 a5 w r st rc na tp cn rh sr)) (va_A (wX cI h a1 a2 a3 a4 a5 w r st rc na tp cn rh sr) sz)) (vx_X (fun (_ : Unit) => ¬ ef = 0) (fun E _ t => E = q_E ef ∧ q_post (dC, dI) vwCl (tyA cI cZ cL) (va_A (wX cI h a1 a2 a3 a4 a5 w r st rc na tp cn rh sr) sz) (wX cI h a1 a2 a3 a4 a5 w r st rc na tp cn rh sr) t) (va_A (wX cI h a1 a2 a3 a4 a5 w r st rc na tp cn rh sr) sz)) (q_mc ef) (q_ms ef) (va_A (wX cI h a1 a2 a3 a4 a5 w r st rc na tp cn rh sr) sz) := by
  refine vx_ofW (cc := cX0_address) (maxL := 2) (ret := (some .int)) (by decide) rfl ?_
  intro p e s m args below meth c s₁ B hml hno hv
  obtain ⟨rfl, hsz, hP, hK, hD0, hZ0, hT, hN⟩ := hv
  have hx := B.exec
  have hb := B.bytes
  have hr := B.returns
  have hts := atoms_spec (ws := wsX0_address) B.pre
  have hown : s.vm.findClass RX0 = some m.cls := findClass_of_methodNamed B.named
  have hlk := B.notSynchronized
  subst hsz
  have hD := hD0.self (sz := s.heap.size)
  generalize hAe : va_A (wX cI h a1 a2 a3 a4 a5 w r st rc na tp cn rh sr) s.heap.size = A at hZ0 hD ⊢
  have hA : ∀ q : Nat, s.heap.size ≤ q → A q := fun q h => by rw [← hAe]; exact Or.inr h
  have hS : va_S A s.heap s.heap [] := va_S.rf
  have hl := lv_entry ([.ref h, .int x1]) (n := 2) (Nat.le_of_ble_eq_true rfl)
  rw [lg_entry_eq]
  generalize (lg_sl ([.ref h, .int x1]) ++ List.replicate (2 - (lg_sl ([.ref h, .int x1])).length) Slot.unset).toArray = ls at hl ⊢
  have hl : lv_has ls 2 [(0, .ref h), (1, .int x1)] := hl
  unfold fX0_address at hf
  refine lv_iload_n hx hb dX0_address_0 rfl (lv_at hl 1 rfl) ?_
  obtain ⟨e1, hv, hf⟩ := bd hf
  by_cases he : e1 = 0
  · replace hf := ift he hf
    subst he
    refine q_nv (wr := (wX cI h a1 a2 a3 a4 a5 w r st rc na tp cn rh sr)) (vx_runS (As := [.int x1]) (rest := []) ⟨hx, hb, hml, hown, hts⟩ (ctX0_requireRoot l hlt dC dI cI cZ cL _ x1 0 hv) (va_cwS 1 hts (gS mw_135 mw_136 mw_38 mw_137) rfl rfl rfl (by decide +kernel) ⟨Nat.le_of_ble_eq_true rfl, Nat.le_of_ble_eq_true rfl⟩) (q_preXS [.int x1] hK hP hD hS hA hZ0 hT hN [] (by decide) rfl) rfl rfl hl.1 rfl (lv_room (Nat.le_of_ble_eq_true rfl)) dX0_address_1 ⟨(q_le0 _).1, (q_le0 _).2⟩) hP hD hS hA [] [0, 1, 2, 3, 4, 5] rfl rfl (by decide) (by decide) (fun H locs hP hD hS => ?_)
    have hP : va_P (dC, dI) vwCl (wX cI h a1 a2 a3 a4 a5 w r st rc na tp cn rh sr) _ := hP
    have hD : va_D A (wX cI h a1 a2 a3 a4 a5 w r st rc na tp cn rh sr) := hD
    refine lv_aload_n hx hb dX0_address_4 rfl (lv_at hl 0 rfl) ?_
    refine va_get (D := (dC, dI)) (ci := 0) (v := .ref a2) (C := RX0) (T := TX0) (N := 9) hx hb hts (fun w hw => List.mem_cons_of_mem _ (inX0 w hw)) hown hK hP 0 rfl rfl 1 (by decide) (hts _ (List.mem_cons_of_mem _ mw_62)) (fun _ h9 => h9) rfl dX0_address_5 ?_
    refine lv_iload_n hx hb dX0_address_8 rfl (lv_at hl 1 rfl) ?_
    obtain ⟨v2, hv, hf⟩ := bd hf
    refine q_ild hx hb hK hP 2 0 rfl rfl hv dX0_address_9 ?_
    have hg0 := Option.some.inj hf
    obtain ⟨hq1, hg1⟩ := Prod.mk.inj hg0
    subst hq1
    subst hg1
    refine vx_ret ?_
    refine W.widen (k := q_mc 0) (n := q_ms 0) (Nat.zero_le _) (Nat.zero_le _) ?_
    exact W.iret hx hb hr (fun t ht hW => ⟨⟨_, (), rfl, ⟨rfl, rfl⟩, by rw [ht]; exact hP, va_K.moved hW.alike hK, hD⟩, hS.F ht⟩) hS.2.2 dX0_address_10 hlk
  · replace hf := ifn he hf
    have hg0 := Option.some.inj hf
    obtain ⟨hq1, hg1⟩ := Prod.mk.inj hg0
    subst hq1
    subst hg1
    refine q_tv (wr := (wX cI h a1 a2 a3 a4 a5 w r st rc na tp cn rh sr)) he (vx_runS (As := [.int x1]) (rest := []) ⟨hx, hb, hml, hown, hts⟩ (ctX0_requireRoot l hlt dC dI cI cZ cL _ x1 e1 hv) (va_cwS 1 hts (gS mw_135 mw_136 mw_38 mw_137) rfl rfl rfl (by decide +kernel) ⟨Nat.le_of_ble_eq_true rfl, Nat.le_of_ble_eq_true rfl⟩) (q_preXS [.int x1] hK hP hD hS hA hZ0 hT hN [] (by decide) rfl) rfl rfl hl.1 rfl (lv_room (Nat.le_of_ble_eq_true rfl)) dX0_address_1 ⟨q_leC wsX0_address (rmX0_address e1) rfl, q_leS wsX0_address (rmX0_address e1) rfl⟩) hP hD hS hA [] [0, 1, 2, 3, 4, 5] rfl rfl (by decide) (by decide) (fun ce q9 H locs hP hD hS hc1 hc2 hc3 => ?_)
    have hP : va_P (dC, dI) vwCl (wX cI h a1 a2 a3 a4 a5 w r st rc na tp cn rh sr) _ := hP
    have hD : va_D A (wX cI h a1 a2 a3 a4 a5 w r st rc na tp cn rh sr) := hD
    exact vx_out (fun x hxx => (hno x hxx).elim) hlk hc1 hc2 hc3 (fun t ht hW => ⟨(), he, ⟨rfl, by rw [ht]; exact hP, va_K.moved hW hK, hD⟩, hS.F ht⟩) hS.2.2 (Nat.le_of_eq (Nat.zero_add _)) (Nat.le_of_eq (Nat.zero_add _))
set_option maxHeartbeats 4000000 in
set_option maxRecDepth 100000 in
theorem ctX0_word (l : Launch) (hlt : l.stackTraces = false) (dC : Nat → ClassId) (dI : Nat → Nat → Nat) (cI cZ cL : ClassId) (h a1 a2 a3 a4 a5 : Nat) (sz : Nat) (w : Nat → Int32) (r : Nat → Int32) (st : Nat → Int32) (rc : Nat → Int32) (na : Nat → Int32) (tp : Int32) (cn : Int32) (rh : Int32) (sr : Int32) (x1 : Int32) (ef : Nat) (rs : Int32) (hf : fX0_word w x1 = some (ef, rs)) : vx_Met l yX0_word wsX0_word (rmX0_word ef) (va_Pc [.ref h, .int x1] (q_preX (dC, dI) vwCl (tyA cI cZ cL) RX0 q_tx sz (wX cI h a1 a2 a3 a4 a5 w r st rc na tp cn rh sr))) (va_Qi (fun r (_ : Unit) => ef = 0 ∧ r = rs) (fun _ => q_post (dC, dI) vwCl (tyA cI cZ cL) (va_A (wX cI h a1 a2 a3 a4 a5 w r st rc na tp cn rh sr) sz) (wX cI h a1 a2 a3 a4 a5 w r st rc na tp cn rh sr)) (va_A (wX cI h a1 a2 a3 a4 a5 w r st rc na tp cn rh sr) sz)) (vx_X (fun (_ : Unit) => ¬ ef = 0) (fun E _ t => E = q_E ef ∧ q_post (dC, dI) vwCl (tyA cI cZ cL) (va_A (wX cI h a1 a2 a3 a4 a5 w r st rc na tp cn rh sr) sz) (wX cI h a1 a2 a3 a4 a5 w r st rc na tp cn rh sr) t) (va_A (wX cI h a1 a2 a3 a4 a5 w r st rc na tp cn rh sr) sz)) (q_mc ef) (q_ms ef) (va_A (wX cI h a1 a2 a3 a4 a5 w r st rc na tp cn rh sr) sz) := by
  refine vx_ofW (cc := cX0_word) (maxL := 2) (ret := (some .int)) (by decide) rfl ?_
  intro p e s m args below meth c s₁ B hml hno hv
  obtain ⟨rfl, hsz, hP, hK, hD0, hZ0, hT, hN⟩ := hv
  have hx := B.exec
  have hb := B.bytes
  have hr := B.returns
  have hts := atoms_spec (ws := wsX0_word) B.pre
  have hown : s.vm.findClass RX0 = some m.cls := findClass_of_methodNamed B.named
  have hlk := B.notSynchronized
  subst hsz
  have hD := hD0.self (sz := s.heap.size)
  generalize hAe : va_A (wX cI h a1 a2 a3 a4 a5 w r st rc na tp cn rh sr) s.heap.size = A at hZ0 hD ⊢
  have hA : ∀ q : Nat, s.heap.size ≤ q → A q := fun q h => by rw [← hAe]; exact Or.inr h
  have hS : va_S A s.heap s.heap [] := va_S.rf
  have hl := lv_entry ([.ref h, .int x1]) (n := 2) (Nat.le_of_ble_eq_true rfl)
  rw [lg_entry_eq]
  generalize (lg_sl ([.ref h, .int x1]) ++ List.replicate (2 - (lg_sl ([.ref h, .int x1])).length) Slot.unset).toArray = ls at hl ⊢
  have hl : lv_has ls 2 [(0, .ref h), (1, .int x1)] := hl
  unfold fX0_word at hf
  refine lv_iload_n hx hb dX0_word_0 rfl (lv_at hl 1 rfl) ?_
  refine lv_if_lt (tgt := 11) hx hb dX0_word_1 (by decide) (fun h1 => ?_) (fun h1 => ?_)
  · have hf := ift h1 hf
    have hg0 := Option.some.inj hf
    obtain ⟨hq1, hg1⟩ := Prod.mk.inj hg0
    subst hq1
    subst hg1
    exact q_throw (ef := 1) (text := "no such address") (names := ["java/lang/RuntimeException", "java/lang/Exception"]) hx hb hlt hown (by decide +kernel) (by decide +kernel) (hts _ (List.mem_cons_of_mem _ mw_138)) (hts _ (List.mem_cons_of_mem _ mw_44)) hT (by decide +kernel) (fun w hw => hts w (List.mem_cons_of_mem _ hw)) at_1 hN (by decide +kernel) (by decide +kernel) (by decide +kernel) hZ0 hS (hl.1.trans hml.symm) dX0_word_11 dX0_word_14 dX0_word_15 dX0_word_17 dX0_word_20 hno (Nat.le_of_ble_eq_true rfl) (Nat.le_of_ble_eq_true rfl) (Nat.le_of_ble_eq_true rfl) (Nat.le_of_ble_eq_true rfl) hlk rfl (by decide) hK hP hD (Nat.le_of_ble_eq_true rfl) (Nat.le_of_ble_eq_true rfl)
  · have hf := ifn h1 hf
    refine lv_iload_n hx hb dX0_word_4 rfl (lv_at hl 1 rfl) ?_
    refine lv_sipush (v := (256 : Int32)) hx hb dX0_word_5 (by decide) ?_
    refine lv_icmp_lt (tgt := 21) hx hb dX0_word_8 (by decide) (fun h2 => ?_) (fun h2 => ?_)
    · have hf := ift h2 hf
      refine lv_aload_n hx hb dX0_word_21 rfl (lv_at hl 0 rfl) ?_
      refine va_get (D := (dC, dI)) (ci := 0) (v := .ref a1) (C := RX0) (T := TX0) (N := 9) hx hb hts (fun w hw => List.mem_cons_of_mem _ (inX0 w hw)) hown hK hP 0 rfl rfl 0 (by decide) (hts _ (List.mem_cons_of_mem _ mw_61)) (fun _ h9 => h9) rfl dX0_word_22 ?_
      refine lv_iload_n hx hb dX0_word_25 rfl (lv_at hl 1 rfl) ?_
      obtain ⟨v3, hv, hf⟩ := bd hf
      refine q_ild hx hb hK hP 1 0 rfl rfl hv dX0_word_26 ?_
      have hg0 := Option.some.inj hf
      obtain ⟨hq1, hg1⟩ := Prod.mk.inj hg0
      subst hq1
      subst hg1
      refine vx_ret ?_
      refine W.widen (k := q_mc 0) (n := q_ms 0) (Nat.zero_le _) (Nat.zero_le _) ?_
      exact W.iret hx hb hr (fun t ht hW => ⟨⟨_, (), rfl, ⟨rfl, rfl⟩, by rw [ht]; exact hP, va_K.moved hW.alike hK, hD⟩, hS.F ht⟩) hS.2.2 dX0_word_27 hlk
    · have hf := ifn h2 hf
      have hg0 := Option.some.inj hf
      obtain ⟨hq1, hg1⟩ := Prod.mk.inj hg0
      subst hq1
      subst hg1
      exact q_throw (ef := 1) (text := "no such address") (names := ["java/lang/RuntimeException", "java/lang/Exception"]) hx hb hlt hown (by decide +kernel) (by decide +kernel) (hts _ (List.mem_cons_of_mem _ mw_138)) (hts _ (List.mem_cons_of_mem _ mw_44)) hT (by decide +kernel) (fun w hw => hts w (List.mem_cons_of_mem _ hw)) at_1 hN (by decide +kernel) (by decide +kernel) (by decide +kernel) hZ0 hS (hl.1.trans hml.symm) dX0_word_11 dX0_word_14 dX0_word_15 dX0_word_17 dX0_word_20 hno (Nat.le_of_ble_eq_true rfl) (Nat.le_of_ble_eq_true rfl) (Nat.le_of_ble_eq_true rfl) (Nat.le_of_ble_eq_true rfl) hlk rfl (by decide) hK hP hD (Nat.le_of_ble_eq_true rfl) (Nat.le_of_ble_eq_true rfl)
set_option maxHeartbeats 4000000 in
set_option maxRecDepth 100000 in
theorem ctX0_top (l : Launch) (dC : Nat → ClassId) (dI : Nat → Nat → Nat) (cI cZ cL : ClassId) (h a1 a2 a3 a4 a5 : Nat) (sz : Nat) (w : Nat → Int32) (r : Nat → Int32) (st : Nat → Int32) (rc : Nat → Int32) (na : Nat → Int32) (tp : Int32) (cn : Int32) (rh : Int32) (sr : Int32) (rs : Int32) (hf : fX0_top tp = some rs) : Met l yX0_top wsX0_top rmX0_top (va_Pc [.ref h] (q_pre (dC, dI) vwCl (tyA cI cZ cL) sz (wX cI h a1 a2 a3 a4 a5 w r st rc na tp cn rh sr))) (va_Qi (fun r (_ : Unit) => r = rs) (fun _ => q_post (dC, dI) vwCl (tyA cI cZ cL) (va_A (wX cI h a1 a2 a3 a4 a5 w r st rc na tp cn rh sr) sz) (wX cI h a1 a2 a3 a4 a5 w r st rc na tp cn rh sr)) (va_A (wX cI h a1 a2 a3 a4 a5 w r st rc na tp cn rh sr) sz)) 0 0 (va_A (wX cI h a1 a2 a3 a4 a5 w r st rc na tp cn rh sr) sz) := by
  refine Met.ofW (cc := cX0_top) (maxL := 1) (ret := (some .int)) (by decide) rfl ?_
  intro p e s m args below meth c s₁ B hml hv
  obtain ⟨rfl, hsz, hP, hK, hD0⟩ := hv
  have hx := B.exec
  have hb := B.bytes
  have hr := B.returns
  have hts := atoms_spec (ws := wsX0_top) B.pre
  have hown : s.vm.findClass RX0 = some m.cls := findClass_of_methodNamed B.named
  subst hsz
  have hD := hD0.self (sz := s.heap.size)
  generalize hAe : va_A (wX cI h a1 a2 a3 a4 a5 w r st rc na tp cn rh sr) s.heap.size = A at hD ⊢
  have hA : ∀ q : Nat, s.heap.size ≤ q → A q := fun q h => by rw [← hAe]; exact Or.inr h
  have hS : va_S A s.heap s.heap [] := va_S.rf
  have hl := lv_entry ([.ref h]) (n := 1) (Nat.le_of_ble_eq_true rfl)
  rw [lg_entry_eq]
  generalize (lg_sl ([.ref h]) ++ List.replicate (1 - (lg_sl ([.ref h])).length) Slot.unset).toArray = ls at hl ⊢
  have hl : lv_has ls 1 [(0, .ref h)] := hl
  unfold fX0_top at hf
  refine lv_aload_n hx hb dX0_top_0 rfl (lv_at hl 0 rfl) ?_
  refine va_get (D := (dC, dI)) (ci := 0) (v := .int tp) (C := RX0) (T := TX0) (N := 9) hx hb hts (fun w hw => List.mem_cons_of_mem _ (inX0 w hw)) hown hK hP 0 rfl rfl 5 (by decide) (hts _ (List.mem_cons_of_mem _ mw_66)) (fun _ h9 => h9) rfl dX0_top_1 ?_
  have hg0 := Option.some.inj hf
  subst hg0
  exact W.iret hx hb hr (fun t ht hW => ⟨⟨_, (), rfl, rfl, by rw [ht]; exact hP, va_K.moved hW.alike hK, hD⟩, hS.F ht⟩) hS.2.2 dX0_top_4
set_option maxHeartbeats 4000000 in
set_option maxRecDepth 100000 in
theorem ctX0_objects (l : Launch) (dC : Nat → ClassId) (dI : Nat → Nat → Nat) (cI cZ cL : ClassId) (h a1 a2 a3 a4 a5 : Nat) (sz : Nat) (w : Nat → Int32) (r : Nat → Int32) (st : Nat → Int32) (rc : Nat → Int32) (na : Nat → Int32) (tp : Int32) (cn : Int32) (rh : Int32) (sr : Int32) (rs : Int32) (hf : fX0_objects cn = some rs) : Met l yX0_objects wsX0_objects rmX0_objects (va_Pc [.ref h] (q_pre (dC, dI) vwCl (tyA cI cZ cL) sz (wX cI h a1 a2 a3 a4 a5 w r st rc na tp cn rh sr))) (va_Qi (fun r (_ : Unit) => r = rs) (fun _ => q_post (dC, dI) vwCl (tyA cI cZ cL) (va_A (wX cI h a1 a2 a3 a4 a5 w r st rc na tp cn rh sr) sz) (wX cI h a1 a2 a3 a4 a5 w r st rc na tp cn rh sr)) (va_A (wX cI h a1 a2 a3 a4 a5 w r st rc na tp cn rh sr) sz)) 0 0 (va_A (wX cI h a1 a2 a3 a4 a5 w r st rc na tp cn rh sr) sz) := by
  refine Met.ofW (cc := cX0_objects) (maxL := 1) (ret := (some .int)) (by decide) rfl ?_
  intro p e s m args below meth c s₁ B hml hv
  obtain ⟨rfl, hsz, hP, hK, hD0⟩ := hv
  have hx := B.exec
  have hb := B.bytes
  have hr := B.returns
  have hts := atoms_spec (ws := wsX0_objects) B.pre
  have hown : s.vm.findClass RX0 = some m.cls := findClass_of_methodNamed B.named
  subst hsz
  have hD := hD0.self (sz := s.heap.size)
  generalize hAe : va_A (wX cI h a1 a2 a3 a4 a5 w r st rc na tp cn rh sr) s.heap.size = A at hD ⊢
  have hA : ∀ q : Nat, s.heap.size ≤ q → A q := fun q h => by rw [← hAe]; exact Or.inr h
  have hS : va_S A s.heap s.heap [] := va_S.rf
  have hl := lv_entry ([.ref h]) (n := 1) (Nat.le_of_ble_eq_true rfl)
  rw [lg_entry_eq]
  generalize (lg_sl ([.ref h]) ++ List.replicate (1 - (lg_sl ([.ref h])).length) Slot.unset).toArray = ls at hl ⊢
  have hl : lv_has ls 1 [(0, .ref h)] := hl
  unfold fX0_objects at hf
  refine lv_aload_n hx hb dX0_objects_0 rfl (lv_at hl 0 rfl) ?_
  refine va_get (D := (dC, dI)) (ci := 0) (v := .int cn) (C := RX0) (T := TX0) (N := 9) hx hb hts (fun w hw => List.mem_cons_of_mem _ (inX0 w hw)) hown hK hP 0 rfl rfl 6 (by decide) (hts _ (List.mem_cons_of_mem _ mw_67)) (fun _ h9 => h9) rfl dX0_objects_1 ?_
  have hg0 := Option.some.inj hf
  subst hg0
  exact W.iret hx hb hr (fun t ht hW => ⟨⟨_, (), rfl, rfl, by rw [ht]; exact hP, va_K.moved hW.alike hK, hD⟩, hS.F ht⟩) hS.2.2 dX0_objects_4
set_option maxHeartbeats 4000000 in
set_option maxRecDepth 100000 in
theorem ctX0_alive (l : Launch) (dC : Nat → ClassId) (dI : Nat → Nat → Nat) (cI cZ cL : ClassId) (h a1 a2 a3 a4 a5 : Nat) (sz : Nat) (w : Nat → Int32) (r : Nat → Int32) (st : Nat → Int32) (rc : Nat → Int32) (na : Nat → Int32) (tp : Int32) (cn : Int32) (rh : Int32) (sr : Int32) (rs : Int32) (rc' : Nat → Int32) (na' : Nat → Int32) (rh' : Int32) (hf : fX0_alive w r rc na rh = some (rs, rc', na', rh')) : Met l yX0_alive wsX0_alive rmX0_alive (va_Pc [.ref h] (q_pre (dC, dI) vwCl (tyA cI cZ cL) sz (wX cI h a1 a2 a3 a4 a5 w r st rc na tp cn rh sr))) (va_Qi (fun r (_ : Unit) => r = rs) (fun _ => q_post (dC, dI) vwCl (tyA cI cZ cL) (va_A (wX cI h a1 a2 a3 a4 a5 w r st rc na tp cn rh sr) sz) (wX cI h a1 a2 a3 a4 a5 w r st rc' na' tp cn rh' sr)) (va_A (wX cI h a1 a2 a3 a4 a5 w r st rc na tp cn rh sr) sz)) 0 0 (va_A (wX cI h a1 a2 a3 a4 a5 w r st rc na tp cn rh sr) sz) := by
  refine Met.ofW (cc := cX0_alive) (maxL := 1) (ret := (some .int)) (by decide) rfl ?_
  intro p e s m args below meth c s₁ B hml hv
  obtain ⟨rfl, hsz, hP, hK, hD0⟩ := hv
  have hx := B.exec
  have hb := B.bytes
  have hr := B.returns
  have hts := atoms_spec (ws := wsX0_alive) B.pre
  have hown : s.vm.findClass RX0 = some m.cls := findClass_of_methodNamed B.named
  subst hsz
  have hD := hD0.self (sz := s.heap.size)
  generalize hAe : va_A (wX cI h a1 a2 a3 a4 a5 w r st rc na tp cn rh sr) s.heap.size = A at hD ⊢
  have hA : ∀ q : Nat, s.heap.size ≤ q → A q := fun q h => by rw [← hAe]; exact Or.inr h
  have hS : va_S A s.heap s.heap [] := va_S.rf
  have hl := lv_entry ([.ref h]) (n := 1) (Nat.le_of_ble_eq_true rfl)
  rw [lg_entry_eq]
  generalize (lg_sl ([.ref h]) ++ List.replicate (1 - (lg_sl ([.ref h])).length) Slot.unset).toArray = ls at hl ⊢
  have hl : lv_has ls 1 [(0, .ref h)] := hl
  unfold fX0_alive at hf
  refine lv_aload_n hx hb dX0_alive_0 rfl (lv_at hl 0 rfl) ?_
  obtain ⟨⟨rc_1, na_2, rh_3⟩, hv, hf⟩ := bd hf
  dsimp only at hf
  refine q_cv (wr := []) (va_runV (As := []) (rest := []) ⟨hx, hb, hml, hown, hts⟩ (ctX0_findAlive l dC dI cI cZ cL h a1 a2 a3 a4 a5 _ w r st rc na tp cn rh sr rc_1 na_2 rh_3 hv) (cwV 0 hts (gV mw_102 mw_104 mw_0 mw_38 mw_105) rfl rfl rfl (by decide +kernel) ⟨Nat.le_of_ble_eq_true rfl, Nat.le_of_ble_eq_true rfl⟩) (q_preV [] hK hP hD [0, 1, 2, 3, 4, 5] (by decide) rfl (ci := 0) rfl rfl) rfl rfl hl.1 rfl (lv_room (Nat.le_of_ble_eq_true rfl)) dX0_alive_1 ⟨Nat.le_of_ble_eq_true rfl, Nat.le_of_ble_eq_true rfl⟩) hP hD hS hA [0, 1, 2, 3, 4, 5] [] rfl rfl (by decide) (by decide) (fun H locs hP hD hS => ?_)
  have hP : va_P (dC, dI) vwCl (wX cI h a1 a2 a3 a4 a5 w r st rc_1 na_2 tp cn rh_3 sr) _ := hP
  have hD : va_D A (wX cI h a1 a2 a3 a4 a5 w r st rc_1 na_2 tp cn rh_3 sr) := hD
  refine lv_aload_n hx hb dX0_alive_4 rfl (lv_at hl 0 rfl) ?_
  refine va_get (D := (dC, dI)) (ci := 0) (v := .int rh_3) (C := RX0) (T := TX0) (N := 9) hx hb hts (fun w hw => List.mem_cons_of_mem _ (inX0 w hw)) hown hK hP 0 rfl rfl 7 (by decide) (hts _ (List.mem_cons_of_mem _ mw_68)) (fun _ h9 => h9) rfl dX0_alive_5 ?_
  have hg0 := Option.some.inj hf
  obtain ⟨hq1, hg1⟩ := Prod.mk.inj hg0
  subst hq1
  obtain ⟨hq2, hg2⟩ := Prod.mk.inj hg1
  subst hq2
  obtain ⟨hq3, hg3⟩ := Prod.mk.inj hg2
  subst hq3
  subst hg3
  exact W.iret hx hb hr (fun t ht hW => ⟨⟨_, (), rfl, rfl, by rw [ht]; exact hP, va_K.moved hW.alike hK, hD⟩, hS.F ht⟩) hS.2.2 dX0_alive_8
