set_option maxHeartbeats 4000000 in
set_option maxRecDepth 100000 in
theorem ctX0_copy (l : Launch) (hlt : l.stackTraces = false) (dC : Nat → ClassId) (dI : Nat → Nat → Nat) (cI cZ cL : ClassId) (h a1 a2 a3 a4 a5 : Nat) (sz : Nat) (w : Nat → Int32) (r : Nat → Int32) (st : Nat → Int32) (rc : Nat → Int32) (na : Nat → Int32) (tp : Int32) (cn : Int32) (rh : Int32) (sr : Int32) (x1 : Int32) (x2 : Int32) (ef : Nat) (r' : Nat → Int32) (hf : fX0_copy r x1 x2 = some (ef, r')) : vx_Met l yX0_copy wsX0_copy (rmX0_copy ef) (va_Pc [.ref h, .int x1, .int x2] (q_preX (dC, dI) vwCl (tyA cI cZ cL) RX0 q_tx sz (wX cI h a1 a2 a3 a4 a5 w r st rc na tp cn rh sr))) (va_Qv (fun (_ : Unit) => ef = 0) (fun _ => q_post (dC, dI) vwCl (tyA cI cZ cL) (va_A (wX cI h a1 a2 a3 a4 a5 w r st rc na tp cn rh sr) sz) (wX cI h a1 a2 a3 a4 a5 w r' st rc na tp cn rh sr)) (va_A (wX cI h a1 a2 a3 a4 a5 w r st rc na tp cn rh sr) sz)) (vx_X (fun (_ : Unit) => ¬ ef = 0) (fun E _ t => E = q_E ef ∧ q_post (dC, dI) vwCl (tyA cI cZ cL) (va_A (wX cI h a1 a2 a3 a4 a5 w r st rc na tp cn rh sr) sz) (wX cI h a1 a2 a3 a4 a5 w r' st rc na tp cn rh sr) t) (va_A (wX cI h a1 a2 a3 a4 a5 w r st rc na tp cn rh sr) sz)) (q_mc ef) (q_ms ef) (va_A (wX cI h a1 a2 a3 a4 a5 w r st rc na tp cn rh sr) sz) := by
  refine vx_ofW (cc := cX0_copy) (maxL := 3) (ret := (none)) (by decide) rfl ?_
  intro p e s m args below meth c s₁ B hml hno hv
  obtain ⟨rfl, hsz, hP, hK, hD0, hZ0, hT, hN⟩ := hv
  have hx := B.exec
  have hb := B.bytes
  have hr := B.returns
  have hts := atoms_spec (ws := wsX0_copy) B.pre
  have hown : s.vm.findClass RX0 = some m.cls := findClass_of_methodNamed B.named
  have hlk := B.notSynchronized
  subst hsz
  have hD := hD0.self (sz := s.heap.size)
  generalize hAe : va_A (wX cI h a1 a2 a3 a4 a5 w r st rc na tp cn rh sr) s.heap.size = A at hZ0 hD ⊢
  have hA : ∀ q : Nat, s.heap.size ≤ q → A q := fun q h => by rw [← hAe]; exact Or.inr h
  have hS : va_S A s.heap s.heap [] := va_S.rf
  have hl := lv_entry ([.ref h, .int x1, .int x2]) (n := 3) (Nat.le_of_ble_eq_true rfl)
  rw [lg_entry_eq]
  generalize (lg_sl ([.ref h, .int x1, .int x2]) ++ List.replicate (3 - (lg_sl ([.ref h, .int x1, .int x2])).length) Slot.unset).toArray = ls at hl ⊢
  have hl : lv_has ls 3 [(0, .ref h), (1, .int x1), (2, .int x2)] := hl
  unfold fX0_copy at hf
  refine lv_iload_n hx hb dX0_copy_0 rfl (lv_at hl 1 rfl) ?_
  obtain ⟨e1, hv, hf⟩ := bd hf
  by_cases he : e1 = 0
  · replace hf := ift he hf
    subst he
    refine q_nv (wr := (wX cI h a1 a2 a3 a4 a5 w r st rc na tp cn rh sr)) (vx_runS (As := [.int x1]) (rest := []) ⟨hx, hb, hml, hown, hts⟩ (ctX0_requireRoot l hlt dC dI cI cZ cL _ x1 0 hv) (va_cwS 1 hts (gS mw_135 mw_136 mw_38 mw_137) rfl rfl rfl (by decide +kernel) ⟨Nat.le_of_ble_eq_true rfl, Nat.le_of_ble_eq_true rfl⟩) (q_preXS [.int x1] hK hP hD hS hA hZ0 hT hN [] (by decide) rfl) rfl rfl hl.1 rfl (lv_room (Nat.le_of_ble_eq_true rfl)) dX0_copy_1 ⟨(q_le0 _).1, (q_le0 _).2⟩) hP hD hS hA [] [0, 1, 2, 3, 4, 5] rfl rfl (by decide) (by decide) (fun H locs hP hD hS => ?_)
    have hP : va_P (dC, dI) vwCl (wX cI h a1 a2 a3 a4 a5 w r st rc na tp cn rh sr) _ := hP
    have hD : va_D A (wX cI h a1 a2 a3 a4 a5 w r st rc na tp cn rh sr) := hD
    refine lv_iload_n hx hb dX0_copy_4 rfl (lv_at hl 2 rfl) ?_
    obtain ⟨e2, hv, hf⟩ := bd hf
    by_cases he : e2 = 0
    · replace hf := ift he hf
      subst he
      refine q_nv (wr := (wX cI h a1 a2 a3 a4 a5 w r st rc na tp cn rh sr)) (vx_runS (As := [.int x2]) (rest := []) ⟨hx, hb, hml, hown, hts⟩ (ctX0_requireRoot l hlt dC dI cI cZ cL _ x2 0 hv) (va_cwS 1 hts (gS mw_135 mw_136 mw_38 mw_137) rfl rfl rfl (by decide +kernel) ⟨Nat.le_of_ble_eq_true rfl, Nat.le_of_ble_eq_true rfl⟩) (q_preXS [.int x2] hK hP hD hS hA hZ0 hT hN [] (by decide) rfl) rfl rfl hl.1 rfl (lv_room (Nat.le_of_ble_eq_true rfl)) dX0_copy_5 ⟨(q_le0 _).1, (q_le0 _).2⟩) hP hD hS hA [] [0, 1, 2, 3, 4, 5] rfl rfl (by decide) (by decide) (fun H locs hP hD hS => ?_)
      have hP : va_P (dC, dI) vwCl (wX cI h a1 a2 a3 a4 a5 w r st rc na tp cn rh sr) _ := hP
      have hD : va_D A (wX cI h a1 a2 a3 a4 a5 w r st rc na tp cn rh sr) := hD
      refine lv_aload_n hx hb dX0_copy_8 rfl (lv_at hl 0 rfl) ?_
      refine va_get (D := (dC, dI)) (ci := 0) (v := .ref a2) (C := RX0) (T := TX0) (N := 9) hx hb hts (fun w hw => List.mem_cons_of_mem _ (inX0 w hw)) hown hK hP 0 rfl rfl 1 (by decide) (hts _ (List.mem_cons_of_mem _ mw_62)) (fun _ h9 => h9) rfl dX0_copy_9 ?_
      refine lv_iload_n hx hb dX0_copy_12 rfl (lv_at hl 1 rfl) ?_
      refine lv_aload_n hx hb dX0_copy_13 rfl (lv_at hl 0 rfl) ?_
      refine va_get (D := (dC, dI)) (ci := 0) (v := .ref a2) (C := RX0) (T := TX0) (N := 9) hx hb hts (fun w hw => List.mem_cons_of_mem _ (inX0 w hw)) hown hK hP 0 rfl rfl 1 (by decide) (hts _ (List.mem_cons_of_mem _ mw_62)) (fun _ h9 => h9) rfl dX0_copy_14 ?_
      refine lv_iload_n hx hb dX0_copy_17 rfl (lv_at hl 2 rfl) ?_
      obtain ⟨v3, hv, hf⟩ := bd hf
      refine q_ild hx hb hK hP 2 0 rfl rfl hv dX0_copy_18 ?_
      obtain ⟨r_4, hv, hf⟩ := bd hf
      refine q_ist hx hb hK hP hD hS 2 0 rfl rfl hv dX0_copy_19 (fun H locs hP hD hS => ?_)
      have hP : va_P (dC, dI) vwCl (wX cI h a1 a2 a3 a4 a5 w r_4 st rc na tp cn rh sr) _ := hP
      have hD : va_D A (wX cI h a1 a2 a3 a4 a5 w r_4 st rc na tp cn rh sr) := hD
      have hg0 := Option.some.inj hf
      obtain ⟨hq1, hg1⟩ := Prod.mk.inj hg0
      subst hq1
      subst hg1
      refine vx_ret ?_
      refine W.widen (k := q_mc 0) (n := q_ms 0) (Nat.zero_le _) (Nat.zero_le _) ?_
      exact W.vret hx hb hr (fun t ht hW => ⟨⟨(), rfl, rfl, by rw [ht]; exact hP, va_K.moved hW.alike hK, hD⟩, hS.F ht⟩) hS.2.2 dX0_copy_20 hlk
    · replace hf := ifn he hf
      have hg0 := Option.some.inj hf
      obtain ⟨hq1, hg1⟩ := Prod.mk.inj hg0
      subst hq1
      subst hg1
      refine q_tv (wr := (wX cI h a1 a2 a3 a4 a5 w r st rc na tp cn rh sr)) he (vx_runS (As := [.int x2]) (rest := []) ⟨hx, hb, hml, hown, hts⟩ (ctX0_requireRoot l hlt dC dI cI cZ cL _ x2 e2 hv) (va_cwS 1 hts (gS mw_135 mw_136 mw_38 mw_137) rfl rfl rfl (by decide +kernel) ⟨Nat.le_of_ble_eq_true rfl, Nat.le_of_ble_eq_true rfl⟩) (q_preXS [.int x2] hK hP hD hS hA hZ0 hT hN [] (by decide) rfl) rfl rfl hl.1 rfl (lv_room (Nat.le_of_ble_eq_true rfl)) dX0_copy_5 ⟨q_leC wsX0_copy (rmX0_copy e2) rfl, q_leS wsX0_copy (rmX0_copy e2) rfl⟩) hP hD hS hA [] [0, 1, 2, 3, 4, 5] rfl rfl (by decide) (by decide) (fun ce q9 H locs hP hD hS hc1 hc2 hc3 => ?_)
      have hP : va_P (dC, dI) vwCl (wX cI h a1 a2 a3 a4 a5 w r st rc na tp cn rh sr) _ := hP
      have hD : va_D A (wX cI h a1 a2 a3 a4 a5 w r st rc na tp cn rh sr) := hD
      exact vx_out (fun x hxx => (hno x hxx).elim) hlk hc1 hc2 hc3 (fun t ht hW => ⟨(), he, ⟨rfl, by rw [ht]; exact hP, va_K.moved hW hK, hD⟩, hS.F ht⟩) hS.2.2 (Nat.le_of_eq (Nat.zero_add _)) (Nat.le_of_eq (Nat.zero_add _))
  · replace hf := ifn he hf
    have hg0 := Option.some.inj hf
    obtain ⟨hq1, hg1⟩ := Prod.mk.inj hg0
    subst hq1
    subst hg1
    refine q_tv (wr := (wX cI h a1 a2 a3 a4 a5 w r st rc na tp cn rh sr)) he (vx_runS (As := [.int x1]) (rest := []) ⟨hx, hb, hml, hown, hts⟩ (ctX0_requireRoot l hlt dC dI cI cZ cL _ x1 e1 hv) (va_cwS 1 hts (gS mw_135 mw_136 mw_38 mw_137) rfl rfl rfl (by decide +kernel) ⟨Nat.le_of_ble_eq_true rfl, Nat.le_of_ble_eq_true rfl⟩) (q_preXS [.int x1] hK hP hD hS hA hZ0 hT hN [] (by decide) rfl) rfl rfl hl.1 rfl (lv_room (Nat.le_of_ble_eq_true rfl)) dX0_copy_1 ⟨q_leC wsX0_copy (rmX0_copy e1) rfl, q_leS wsX0_copy (rmX0_copy e1) rfl⟩) hP hD hS hA [] [0, 1, 2, 3, 4, 5] rfl rfl (by decide) (by decide) (fun ce q9 H locs hP hD hS hc1 hc2 hc3 => ?_)
    have hP : va_P (dC, dI) vwCl (wX cI h a1 a2 a3 a4 a5 w r st rc na tp cn rh sr) _ := hP
    have hD : va_D A (wX cI h a1 a2 a3 a4 a5 w r st rc na tp cn rh sr) := hD
    exact vx_out (fun x hxx => (hno x hxx).elim) hlk hc1 hc2 hc3 (fun t ht hW => ⟨(), he, ⟨rfl, by rw [ht]; exact hP, va_K.moved hW hK, hD⟩, hS.F ht⟩) hS.2.2 (Nat.le_of_eq (Nat.zero_add _)) (Nat.le_of_eq (Nat.zero_add _))
set_option maxHeartbeats 4000000 in
set_option maxRecDepth 100000 in
theorem ctX0_clear (l : Launch) (hlt : l.stackTraces = false) (dC : Nat → ClassId) (dI : Nat → Nat → Nat) (cI cZ cL : ClassId) (h a1 a2 a3 a4 a5 : Nat) (sz : Nat) (w : Nat → Int32) (r : Nat → Int32) (st : Nat → Int32) (rc : Nat → Int32) (na : Nat → Int32) (tp : Int32) (cn : Int32) (rh : Int32) (sr : Int32) (x1 : Int32) (ef : Nat) (r' : Nat → Int32) (hf : fX0_clear r x1 = some (ef, r')) : vx_Met l yX0_clear wsX0_clear (rmX0_clear ef) (va_Pc [.ref h, .int x1] (q_preX (dC, dI) vwCl (tyA cI cZ cL) RX0 q_tx sz (wX cI h a1 a2 a3 a4 a5 w r st rc na tp cn rh sr))) (va_Qv (fun (_ : Unit) => ef = 0) (fun _ => q_post (dC, dI) vwCl (tyA cI cZ cL) (va_A (wX cI h a1 a2 a3 a4 a5 w r st rc na tp cn rh sr) sz) (wX cI h a1 a2 a3 a4 a5 w r' st rc na tp cn rh sr)) (va_A (wX cI h a1 a2 a3 a4 a5 w r st rc na tp cn rh sr) sz)) (vx_X (fun (_ : Unit) => ¬ ef = 0) (fun E _ t => E = q_E ef ∧ q_post (dC, dI) vwCl (tyA cI cZ cL) (va_A (wX cI h a1 a2 a3 a4 a5 w r st rc na tp cn rh sr) sz) (wX cI h a1 a2 a3 a4 a5 w r' st rc na tp cn rh sr) t) (va_A (wX cI h a1 a2 a3 a4 a5 w r st rc na tp cn rh sr) sz)) (q_mc ef) (q_ms ef) (va_A (wX cI h a1 a2 a3 a4 a5 w r st rc na tp cn rh sr) sz) := by
  refine vx_ofW (cc := cX0_clear) (maxL := 2) (ret := (none)) (by decide) rfl ?_
  intro p e s m args below meth c s₁ B hml hno hv
  obtain ⟨rfl, hsz, hP, hK, hD0, hZ0, hT, hN⟩ := hv
  have hx := B.exec
  have hb := B.bytes
  have hr := B.returns
  have hts := atoms_spec (ws := wsX0_clear) B.pre
  have hown : s.vm.findClass RX0 = some m.cls := findClass_of_methodNamed B.named
  have hlk := B.notSynchronized
  subst hsz
  have hD := hD0.self (sz := s.heap.size)
  generalize hAe : va_A (wX cI h a1 a2 a3 a4 a5 w r st rc na tp cn rh sr) s.heap.size = A at hZ0 hD ⊢
  have hA : ∀ q : Nat, s.heap.size ≤ q → A q := fun q h => by rw [← hAe]; exact Or.inr h
  have hS : va_S A s.heap s.heap [] := va_S.rf
  have hl := lv_entry ([.ref h, .int x1]) (n := 2) (Nat.le_of_ble_eq_true rfl)
  rw [lg_entry_eq]
  generalize (lg_sl ([.ref h, .int x1]) ++ List.replicate (2 - (lg_sl ([.ref h, .int x1])).length) Slot.unset).toArray = ls at hl ⊢
  have hl : lv_has ls 2 [(0, .ref h), (1, .int x1)] := hl
  unfold fX0_clear at hf
  refine lv_iload_n hx hb dX0_clear_0 rfl (lv_at hl 1 rfl) ?_
  obtain ⟨e1, hv, hf⟩ := bd hf
  by_cases he : e1 = 0
  · replace hf := ift he hf
    subst he
    refine q_nv (wr := (wX cI h a1 a2 a3 a4 a5 w r st rc na tp cn rh sr)) (vx_runS (As := [.int x1]) (rest := []) ⟨hx, hb, hml, hown, hts⟩ (ctX0_requireRoot l hlt dC dI cI cZ cL _ x1 0 hv) (va_cwS 1 hts (gS mw_135 mw_136 mw_38 mw_137) rfl rfl rfl (by decide +kernel) ⟨Nat.le_of_ble_eq_true rfl, Nat.le_of_ble_eq_true rfl⟩) (q_preXS [.int x1] hK hP hD hS hA hZ0 hT hN [] (by decide) rfl) rfl rfl hl.1 rfl (lv_room (Nat.le_of_ble_eq_true rfl)) dX0_clear_1 ⟨(q_le0 _).1, (q_le0 _).2⟩) hP hD hS hA [] [0, 1, 2, 3, 4, 5] rfl rfl (by decide) (by decide) (fun H locs hP hD hS => ?_)
    have hP : va_P (dC, dI) vwCl (wX cI h a1 a2 a3 a4 a5 w r st rc na tp cn rh sr) _ := hP
    have hD : va_D A (wX cI h a1 a2 a3 a4 a5 w r st rc na tp cn rh sr) := hD
    refine lv_aload_n hx hb dX0_clear_4 rfl (lv_at hl 0 rfl) ?_
    refine va_get (D := (dC, dI)) (ci := 0) (v := .ref a2) (C := RX0) (T := TX0) (N := 9) hx hb hts (fun w hw => List.mem_cons_of_mem _ (inX0 w hw)) hown hK hP 0 rfl rfl 1 (by decide) (hts _ (List.mem_cons_of_mem _ mw_62)) (fun _ h9 => h9) rfl dX0_clear_5 ?_
    refine lv_iload_n hx hb dX0_clear_8 rfl (lv_at hl 1 rfl) ?_
    refine lv_iconst (v := (-1 : Int32)) hx hb dX0_clear_9 (by decide) ?_
    obtain ⟨r_2, hv, hf⟩ := bd hf
    refine q_ist hx hb hK hP hD hS 2 0 rfl rfl hv dX0_clear_10 (fun H locs hP hD hS => ?_)
    have hP : va_P (dC, dI) vwCl (wX cI h a1 a2 a3 a4 a5 w r_2 st rc na tp cn rh sr) _ := hP
    have hD : va_D A (wX cI h a1 a2 a3 a4 a5 w r_2 st rc na tp cn rh sr) := hD
    have hg0 := Option.some.inj hf
    obtain ⟨hq1, hg1⟩ := Prod.mk.inj hg0
    subst hq1
    subst hg1
    refine vx_ret ?_
    refine W.widen (k := q_mc 0) (n := q_ms 0) (Nat.zero_le _) (Nat.zero_le _) ?_
    exact W.vret hx hb hr (fun t ht hW => ⟨⟨(), rfl, rfl, by rw [ht]; exact hP, va_K.moved hW.alike hK, hD⟩, hS.F ht⟩) hS.2.2 dX0_clear_11 hlk
  · replace hf := ifn he hf
    have hg0 := Option.some.inj hf
    obtain ⟨hq1, hg1⟩ := Prod.mk.inj hg0
    subst hq1
    subst hg1
    refine q_tv (wr := (wX cI h a1 a2 a3 a4 a5 w r st rc na tp cn rh sr)) he (vx_runS (As := [.int x1]) (rest := []) ⟨hx, hb, hml, hown, hts⟩ (ctX0_requireRoot l hlt dC dI cI cZ cL _ x1 e1 hv) (va_cwS 1 hts (gS mw_135 mw_136 mw_38 mw_137) rfl rfl rfl (by decide +kernel) ⟨Nat.le_of_ble_eq_true rfl, Nat.le_of_ble_eq_true rfl⟩) (q_preXS [.int x1] hK hP hD hS hA hZ0 hT hN [] (by decide) rfl) rfl rfl hl.1 rfl (lv_room (Nat.le_of_ble_eq_true rfl)) dX0_clear_1 ⟨q_leC wsX0_clear (rmX0_clear e1) rfl, q_leS wsX0_clear (rmX0_clear e1) rfl⟩) hP hD hS hA [] [0, 1, 2, 3, 4, 5] rfl rfl (by decide) (by decide) (fun ce q9 H locs hP hD hS hc1 hc2 hc3 => ?_)
    have hP : va_P (dC, dI) vwCl (wX cI h a1 a2 a3 a4 a5 w r st rc na tp cn rh sr) _ := hP
    have hD : va_D A (wX cI h a1 a2 a3 a4 a5 w r st rc na tp cn rh sr) := hD
    exact vx_out (fun x hxx => (hno x hxx).elim) hlk hc1 hc2 hc3 (fun t ht hW => ⟨(), he, ⟨rfl, by rw [ht]; exact hP, va_K.moved hW hK, hD⟩, hS.F ht⟩) hS.2.2 (Nat.le_of_eq (Nat.zero_add _)) (Nat.le_of_eq (Nat.zero_add _))
set_option maxHeartbeats 4000000 in
set_option maxRecDepth 100000 in
theorem ctX0_put (l : Launch) (hlt : l.stackTraces = false) (dC : Nat → ClassId) (dI : Nat → Nat → Nat) (cI cZ cL : ClassId) (h a1 a2 a3 a4 a5 : Nat) (sz : Nat) (w : Nat → Int32) (r : Nat → Int32) (st : Nat → Int32) (rc : Nat → Int32) (na : Nat → Int32) (tp : Int32) (cn : Int32) (rh : Int32) (sr : Int32) (x1 : Int32) (x2 : Int32) (x3 : Int32) (ef : Nat) (w' : Nat → Int32) (hf : fX0_put w r x1 x2 x3 = some (ef, w')) : vx_Met l yX0_put wsX0_put (rmX0_put ef) (va_Pc [.ref h, .int x1, .int x2, .int x3] (q_preX (dC, dI) vwCl (tyA cI cZ cL) RX0 q_tx sz (wX cI h a1 a2 a3 a4 a5 w r st rc na tp cn rh sr))) (va_Qv (fun (_ : Unit) => ef = 0) (fun _ => q_post (dC, dI) vwCl (tyA cI cZ cL) (va_A (wX cI h a1 a2 a3 a4 a5 w r st rc na tp cn rh sr) sz) (wX cI h a1 a2 a3 a4 a5 w' r st rc na tp cn rh sr)) (va_A (wX cI h a1 a2 a3 a4 a5 w r st rc na tp cn rh sr) sz)) (vx_X (fun (_ : Unit) => ¬ ef = 0) (fun E _ t => E = q_E ef ∧ q_post (dC, dI) vwCl (tyA cI cZ cL) (va_A (wX cI h a1 a2 a3 a4 a5 w r st rc na tp cn rh sr) sz) (wX cI h a1 a2 a3 a4 a5 w' r st rc na tp cn rh sr) t) (va_A (wX cI h a1 a2 a3 a4 a5 w r st rc na tp cn rh sr) sz)) (q_mc ef) (q_ms ef) (va_A (wX cI h a1 a2 a3 a4 a5 w r st rc na tp cn rh sr) sz) := by
  refine vx_ofW (cc := cX0_put) (maxL := 4) (ret := (none)) (by decide) rfl ?_
  intro p e s m args below meth c s₁ B hml hno hv
  obtain ⟨rfl, hsz, hP, hK, hD0, hZ0, hT, hN⟩ := hv
  have hx := B.exec
  have hb := B.bytes
  have hr := B.returns
  have hts := atoms_spec (ws := wsX0_put) B.pre
  have hown : s.vm.findClass RX0 = some m.cls := findClass_of_methodNamed B.named
  have hlk := B.notSynchronized
  subst hsz
  have hD := hD0.self (sz := s.heap.size)
  generalize hAe : va_A (wX cI h a1 a2 a3 a4 a5 w r st rc na tp cn rh sr) s.heap.size = A at hZ0 hD ⊢
  have hA : ∀ q : Nat, s.heap.size ≤ q → A q := fun q h => by rw [← hAe]; exact Or.inr h
  have hS : va_S A s.heap s.heap [] := va_S.rf
  have hl := lv_entry ([.ref h, .int x1, .int x2, .int x3]) (n := 4) (Nat.le_of_ble_eq_true rfl)
  rw [lg_entry_eq]
  generalize (lg_sl ([.ref h, .int x1, .int x2, .int x3]) ++ List.replicate (4 - (lg_sl ([.ref h, .int x1, .int x2, .int x3])).length) Slot.unset).toArray = ls at hl ⊢
  have hl : lv_has ls 4 [(0, .ref h), (1, .int x1), (2, .int x2), (3, .int x3)] := hl
  unfold fX0_put at hf
  refine lv_iload_n hx hb dX0_put_0 rfl (lv_at hl 1 rfl) ?_
  obtain ⟨e1, hv, hf⟩ := bd hf
  by_cases he : e1 = 0
  · replace hf := ift he hf
    subst he
    refine q_nv (wr := (wX cI h a1 a2 a3 a4 a5 w r st rc na tp cn rh sr)) (vx_runS (As := [.int x1]) (rest := []) ⟨hx, hb, hml, hown, hts⟩ (ctX0_requireRoot l hlt dC dI cI cZ cL _ x1 0 hv) (va_cwS 1 hts (gS mw_135 mw_136 mw_38 mw_137) rfl rfl rfl (by decide +kernel) ⟨Nat.le_of_ble_eq_true rfl, Nat.le_of_ble_eq_true rfl⟩) (q_preXS [.int x1] hK hP hD hS hA hZ0 hT hN [] (by decide) rfl) rfl rfl hl.1 rfl (lv_room (Nat.le_of_ble_eq_true rfl)) dX0_put_1 ⟨(q_le0 _).1, (q_le0 _).2⟩) hP hD hS hA [] [0, 1, 2, 3, 4, 5] rfl rfl (by decide) (by decide) (fun H locs hP hD hS => ?_)
    have hP : va_P (dC, dI) vwCl (wX cI h a1 a2 a3 a4 a5 w r st rc na tp cn rh sr) _ := hP
    have hD : va_D A (wX cI h a1 a2 a3 a4 a5 w r st rc na tp cn rh sr) := hD
    refine lv_aload_n hx hb dX0_put_4 rfl (lv_at hl 0 rfl) ?_
    refine lv_iload_n hx hb dX0_put_5 rfl (lv_at hl 1 rfl) ?_
    refine lv_iload_n hx hb dX0_put_6 rfl (lv_at hl 2 rfl) ?_
    obtain ⟨e2, hv, hf⟩ := bd hf
    by_cases he : e2 = 0
    · replace hf := ift he hf
      subst he
      refine q_nv (wr := []) (vx_runV (As := [.int x1, .int x2]) (rest := []) ⟨hx, hb, hml, hown, hts⟩ (ctX0_requireObjectWithField l hlt dC dI cI cZ cL h a1 a2 a3 a4 a5 _ w r st rc na tp cn rh sr x1 x2 0 hv) (cwV 2 hts (gV mw_365 mw_367 mw_20 mw_38 mw_368) rfl rfl rfl (by decide +kernel) ⟨Nat.le_of_ble_eq_true rfl, Nat.le_of_ble_eq_true rfl⟩) (q_preXV [.int x1, .int x2] hK hP hD hS hA hZ0 hT hN [0, 1, 2, 3, 4, 5] (by decide) rfl (ci := 0) rfl rfl) rfl rfl hl.1 rfl (lv_room (Nat.le_of_ble_eq_true rfl)) dX0_put_7 ⟨(q_le0 _).1, (q_le0 _).2⟩) hP hD hS hA [0, 1, 2, 3, 4, 5] [] rfl rfl (by decide) (by decide) (fun H locs hP hD hS => ?_)
      have hP : va_P (dC, dI) vwCl (wX cI h a1 a2 a3 a4 a5 w r st rc na tp cn rh sr) _ := hP
      have hD : va_D A (wX cI h a1 a2 a3 a4 a5 w r st rc na tp cn rh sr) := hD
      refine lv_aload_n hx hb dX0_put_10 rfl (lv_at hl 0 rfl) ?_
      refine lv_aload_n hx hb dX0_put_11 rfl (lv_at hl 0 rfl) ?_
      refine va_get (D := (dC, dI)) (ci := 0) (v := .ref a2) (C := RX0) (T := TX0) (N := 9) hx hb hts (fun w hw => List.mem_cons_of_mem _ (inX0 w hw)) hown hK hP 0 rfl rfl 1 (by decide) (hts _ (List.mem_cons_of_mem _ mw_62)) (fun _ h9 => h9) rfl dX0_put_12 ?_
      refine lv_iload_n hx hb dX0_put_15 rfl (lv_at hl 1 rfl) ?_
      obtain ⟨v3, hv, hf⟩ := bd hf
      refine q_ild hx hb hK hP 2 0 rfl rfl hv dX0_put_16 ?_
      refine lv_iload_n hx hb dX0_put_17 rfl (lv_at hl 2 rfl) ?_
      refine lv_iconst (v := (0 : Int32)) hx hb dX0_put_18 (by decide) ?_
      refine lv_iload_n hx hb dX0_put_19 rfl (lv_at hl 3 rfl) ?_
      obtain ⟨w_4, hv, hf⟩ := bd hf
      refine q_cv (wr := []) (va_runV (As := [.int v3, .int x2, .int (0 : Int32), .int x3]) (rest := []) ⟨hx, hb, hml, hown, hts⟩ (ctX0_setField l dC dI cI cZ cL h a1 a2 a3 a4 a5 _ w r st rc na tp cn rh sr v3 x2 (0 : Int32) x3 w_4 hv) (cwV 4 hts (gV mw_386 mw_388 mw_21 mw_38 mw_389) rfl rfl rfl (by decide +kernel) ⟨Nat.le_of_ble_eq_true rfl, Nat.le_of_ble_eq_true rfl⟩) (q_preV [.int v3, .int x2, .int (0 : Int32), .int x3] hK hP hD [0, 1, 2, 3, 4, 5] (by decide) rfl (ci := 0) rfl rfl) rfl rfl hl.1 rfl (lv_room (Nat.le_of_ble_eq_true rfl)) dX0_put_20 ⟨Nat.le_of_ble_eq_true rfl, Nat.le_of_ble_eq_true rfl⟩) hP hD hS hA [0, 1, 2, 3, 4, 5] [] rfl rfl (by decide) (by decide) (fun H locs hP hD hS => ?_)
      have hP : va_P (dC, dI) vwCl (wX cI h a1 a2 a3 a4 a5 w_4 r st rc na tp cn rh sr) _ := hP
      have hD : va_D A (wX cI h a1 a2 a3 a4 a5 w_4 r st rc na tp cn rh sr) := hD
      have hg0 := Option.some.inj hf
      obtain ⟨hq1, hg1⟩ := Prod.mk.inj hg0
      subst hq1
      subst hg1
      refine vx_ret ?_
      refine W.widen (k := q_mc 0) (n := q_ms 0) (Nat.zero_le _) (Nat.zero_le _) ?_
      exact W.vret hx hb hr (fun t ht hW => ⟨⟨(), rfl, rfl, by rw [ht]; exact hP, va_K.moved hW.alike hK, hD⟩, hS.F ht⟩) hS.2.2 dX0_put_23 hlk
    · replace hf := ifn he hf
      have hg0 := Option.some.inj hf
      obtain ⟨hq1, hg1⟩ := Prod.mk.inj hg0
      subst hq1
      subst hg1
      refine q_tv (wr := []) he (vx_runV (As := [.int x1, .int x2]) (rest := []) ⟨hx, hb, hml, hown, hts⟩ (ctX0_requireObjectWithField l hlt dC dI cI cZ cL h a1 a2 a3 a4 a5 _ w r st rc na tp cn rh sr x1 x2 e2 hv) (cwV 2 hts (gV mw_365 mw_367 mw_20 mw_38 mw_368) rfl rfl rfl (by decide +kernel) ⟨Nat.le_of_ble_eq_true rfl, Nat.le_of_ble_eq_true rfl⟩) (q_preXV [.int x1, .int x2] hK hP hD hS hA hZ0 hT hN [0, 1, 2, 3, 4, 5] (by decide) rfl (ci := 0) rfl rfl) rfl rfl hl.1 rfl (lv_room (Nat.le_of_ble_eq_true rfl)) dX0_put_7 ⟨q_leC wsX0_put (rmX0_put e2) rfl, q_leS wsX0_put (rmX0_put e2) rfl⟩) hP hD hS hA [0, 1, 2, 3, 4, 5] [] rfl rfl (by decide) (by decide) (fun ce q9 H locs hP hD hS hc1 hc2 hc3 => ?_)
      have hP : va_P (dC, dI) vwCl (wX cI h a1 a2 a3 a4 a5 w r st rc na tp cn rh sr) _ := hP
      have hD : va_D A (wX cI h a1 a2 a3 a4 a5 w r st rc na tp cn rh sr) := hD
      exact vx_out (fun x hxx => (hno x hxx).elim) hlk hc1 hc2 hc3 (fun t ht hW => ⟨(), he, ⟨rfl, by rw [ht]; exact hP, va_K.moved hW hK, hD⟩, hS.F ht⟩) hS.2.2 (Nat.le_of_eq (Nat.zero_add _)) (Nat.le_of_eq (Nat.zero_add _))
  · replace hf := ifn he hf
    have hg0 := Option.some.inj hf
    obtain ⟨hq1, hg1⟩ := Prod.mk.inj hg0
    subst hq1
    subst hg1
    refine q_tv (wr := (wX cI h a1 a2 a3 a4 a5 w r st rc na tp cn rh sr)) he (vx_runS (As := [.int x1]) (rest := []) ⟨hx, hb, hml, hown, hts⟩ (ctX0_requireRoot l hlt dC dI cI cZ cL _ x1 e1 hv) (va_cwS 1 hts (gS mw_135 mw_136 mw_38 mw_137) rfl rfl rfl (by decide +kernel) ⟨Nat.le_of_ble_eq_true rfl, Nat.le_of_ble_eq_true rfl⟩) (q_preXS [.int x1] hK hP hD hS hA hZ0 hT hN [] (by decide) rfl) rfl rfl hl.1 rfl (lv_room (Nat.le_of_ble_eq_true rfl)) dX0_put_1 ⟨q_leC wsX0_put (rmX0_put e1) rfl, q_leS wsX0_put (rmX0_put e1) rfl⟩) hP hD hS hA [] [0, 1, 2, 3, 4, 5] rfl rfl (by decide) (by decide) (fun ce q9 H locs hP hD hS hc1 hc2 hc3 => ?_)
    have hP : va_P (dC, dI) vwCl (wX cI h a1 a2 a3 a4 a5 w r st rc na tp cn rh sr) _ := hP
    have hD : va_D A (wX cI h a1 a2 a3 a4 a5 w r st rc na tp cn rh sr) := hD
    exact vx_out (fun x hxx => (hno x hxx).elim) hlk hc1 hc2 hc3 (fun t ht hW => ⟨(), he, ⟨rfl, by rw [ht]; exact hP, va_K.moved hW hK, hD⟩, hS.F ht⟩) hS.2.2 (Nat.le_of_eq (Nat.zero_add _)) (Nat.le_of_eq (Nat.zero_add _))
set_option maxHeartbeats 4000000 in
set_option maxRecDepth 100000 in
theorem ctX0_refer (l : Launch) (hlt : l.stackTraces = false) (dC : Nat → ClassId) (dI : Nat → Nat → Nat) (cI cZ cL : ClassId) (h a1 a2 a3 a4 a5 : Nat) (sz : Nat) (w : Nat → Int32) (r : Nat → Int32) (st : Nat → Int32) (rc : Nat → Int32) (na : Nat → Int32) (tp : Int32) (cn : Int32) (rh : Int32) (sr : Int32) (x1 : Int32) (x2 : Int32) (x3 : Int32) (x4 : Int32) (ef : Nat) (w' : Nat → Int32) (hf : fX0_refer w r x1 x2 x3 x4 = some (ef, w')) : vx_Met l yX0_refer wsX0_refer (rmX0_refer ef) (va_Pc [.ref h, .int x1, .int x2, .int x3, .int x4] (q_preX (dC, dI) vwCl (tyA cI cZ cL) RX0 q_tx sz (wX cI h a1 a2 a3 a4 a5 w r st rc na tp cn rh sr))) (va_Qv (fun (_ : Unit) => ef = 0) (fun _ => q_post (dC, dI) vwCl (tyA cI cZ cL) (va_A (wX cI h a1 a2 a3 a4 a5 w r st rc na tp cn rh sr) sz) (wX cI h a1 a2 a3 a4 a5 w' r st rc na tp cn rh sr)) (va_A (wX cI h a1 a2 a3 a4 a5 w r st rc na tp cn rh sr) sz)) (vx_X (fun (_ : Unit) => ¬ ef = 0) (fun E _ t => E = q_E ef ∧ q_post (dC, dI) vwCl (tyA cI cZ cL) (va_A (wX cI h a1 a2 a3 a4 a5 w r st rc na tp cn rh sr) sz) (wX cI h a1 a2 a3 a4 a5 w' r st rc na tp cn rh sr) t) (va_A (wX cI h a1 a2 a3 a4 a5 w r st rc na tp cn rh sr) sz)) (q_mc ef) (q_ms ef) (va_A (wX cI h a1 a2 a3 a4 a5 w r st rc na tp cn rh sr) sz) := by
  refine vx_ofW (cc := cX0_refer) (maxL := 5) (ret := (none)) (by decide) rfl ?_
  intro p e s m args below meth c s₁ B hml hno hv
  obtain ⟨rfl, hsz, hP, hK, hD0, hZ0, hT, hN⟩ := hv
  have hx := B.exec
  have hb := B.bytes
  have hr := B.returns
  have hts := atoms_spec (ws := wsX0_refer) B.pre
  have hown : s.vm.findClass RX0 = some m.cls := findClass_of_methodNamed B.named
  have hlk := B.notSynchronized
  subst hsz
  have hD := hD0.self (sz := s.heap.size)
  generalize hAe : va_A (wX cI h a1 a2 a3 a4 a5 w r st rc na tp cn rh sr) s.heap.size = A at hZ0 hD ⊢
  have hA : ∀ q : Nat, s.heap.size ≤ q → A q := fun q h => by rw [← hAe]; exact Or.inr h
  have hS : va_S A s.heap s.heap [] := va_S.rf
  have hl := lv_entry ([.ref h, .int x1, .int x2, .int x3, .int x4]) (n := 5) (Nat.le_of_ble_eq_true rfl)
  rw [lg_entry_eq]
  generalize (lg_sl ([.ref h, .int x1, .int x2, .int x3, .int x4]) ++ List.replicate (5 - (lg_sl ([.ref h, .int x1, .int x2, .int x3, .int x4])).length) Slot.unset).toArray = ls at hl ⊢
  have hl : lv_has ls 5 [(0, .ref h), (1, .int x1), (2, .int x2), (3, .int x3), (4, .int x4)] := hl
  unfold fX0_refer at hf
  refine lv_iload_n hx hb dX0_refer_0 rfl (lv_at hl 1 rfl) ?_
  obtain ⟨e1, hv, hf⟩ := bd hf
  by_cases he : e1 = 0
  · replace hf := ift he hf
    subst he
    refine q_nv (wr := (wX cI h a1 a2 a3 a4 a5 w r st rc na tp cn rh sr)) (vx_runS (As := [.int x1]) (rest := []) ⟨hx, hb, hml, hown, hts⟩ (ctX0_requireRoot l hlt dC dI cI cZ cL _ x1 0 hv) (va_cwS 1 hts (gS mw_135 mw_136 mw_38 mw_137) rfl rfl rfl (by decide +kernel) ⟨Nat.le_of_ble_eq_true rfl, Nat.le_of_ble_eq_true rfl⟩) (q_preXS [.int x1] hK hP hD hS hA hZ0 hT hN [] (by decide) rfl) rfl rfl hl.1 rfl (lv_room (Nat.le_of_ble_eq_true rfl)) dX0_refer_1 ⟨(q_le0 _).1, (q_le0 _).2⟩) hP hD hS hA [] [0, 1, 2, 3, 4, 5] rfl rfl (by decide) (by decide) (fun H locs hP hD hS => ?_)
    have hP : va_P (dC, dI) vwCl (wX cI h a1 a2 a3 a4 a5 w r st rc na tp cn rh sr) _ := hP
    have hD : va_D A (wX cI h a1 a2 a3 a4 a5 w r st rc na tp cn rh sr) := hD
    refine lv_iload_n hx hb dX0_refer_4 rfl (lv_at hl 3 rfl) ?_
    obtain ⟨e2, hv, hf⟩ := bd hf
    by_cases he : e2 = 0
    · replace hf := ift he hf
      subst he
      refine q_nv (wr := (wX cI h a1 a2 a3 a4 a5 w r st rc na tp cn rh sr)) (vx_runS (As := [.int x3]) (rest := []) ⟨hx, hb, hml, hown, hts⟩ (ctX0_requireRoot l hlt dC dI cI cZ cL _ x3 0 hv) (va_cwS 1 hts (gS mw_135 mw_136 mw_38 mw_137) rfl rfl rfl (by decide +kernel) ⟨Nat.le_of_ble_eq_true rfl, Nat.le_of_ble_eq_true rfl⟩) (q_preXS [.int x3] hK hP hD hS hA hZ0 hT hN [] (by decide) rfl) rfl rfl hl.1 rfl (lv_room (Nat.le_of_ble_eq_true rfl)) dX0_refer_5 ⟨(q_le0 _).1, (q_le0 _).2⟩) hP hD hS hA [] [0, 1, 2, 3, 4, 5] rfl rfl (by decide) (by decide) (fun H locs hP hD hS => ?_)
      have hP : va_P (dC, dI) vwCl (wX cI h a1 a2 a3 a4 a5 w r st rc na tp cn rh sr) _ := hP
      have hD : va_D A (wX cI h a1 a2 a3 a4 a5 w r st rc na tp cn rh sr) := hD
      refine lv_aload_n hx hb dX0_refer_8 rfl (lv_at hl 0 rfl) ?_
      refine lv_iload_n hx hb dX0_refer_9 rfl (lv_at hl 1 rfl) ?_
      refine lv_iload_n hx hb dX0_refer_10 rfl (lv_at hl 2 rfl) ?_
      obtain ⟨e3, hv, hf⟩ := bd hf
      by_cases he : e3 = 0
      · replace hf := ift he hf
        subst he
        refine q_nv (wr := []) (vx_runV (As := [.int x1, .int x2]) (rest := []) ⟨hx, hb, hml, hown, hts⟩ (ctX0_requireObjectWithField l hlt dC dI cI cZ cL h a1 a2 a3 a4 a5 _ w r st rc na tp cn rh sr x1 x2 0 hv) (cwV 2 hts (gV mw_365 mw_367 mw_20 mw_38 mw_368) rfl rfl rfl (by decide +kernel) ⟨Nat.le_of_ble_eq_true rfl, Nat.le_of_ble_eq_true rfl⟩) (q_preXV [.int x1, .int x2] hK hP hD hS hA hZ0 hT hN [0, 1, 2, 3, 4, 5] (by decide) rfl (ci := 0) rfl rfl) rfl rfl hl.1 rfl (lv_room (Nat.le_of_ble_eq_true rfl)) dX0_refer_11 ⟨(q_le0 _).1, (q_le0 _).2⟩) hP hD hS hA [0, 1, 2, 3, 4, 5] [] rfl rfl (by decide) (by decide) (fun H locs hP hD hS => ?_)
        have hP : va_P (dC, dI) vwCl (wX cI h a1 a2 a3 a4 a5 w r st rc na tp cn rh sr) _ := hP
        have hD : va_D A (wX cI h a1 a2 a3 a4 a5 w r st rc na tp cn rh sr) := hD
        refine lv_aload_n hx hb dX0_refer_14 rfl (lv_at hl 0 rfl) ?_
        refine lv_aload_n hx hb dX0_refer_15 rfl (lv_at hl 0 rfl) ?_
        refine va_get (D := (dC, dI)) (ci := 0) (v := .ref a2) (C := RX0) (T := TX0) (N := 9) hx hb hts (fun w hw => List.mem_cons_of_mem _ (inX0 w hw)) hown hK hP 0 rfl rfl 1 (by decide) (hts _ (List.mem_cons_of_mem _ mw_62)) (fun _ h9 => h9) rfl dX0_refer_16 ?_
        refine lv_iload_n hx hb dX0_refer_19 rfl (lv_at hl 1 rfl) ?_
        obtain ⟨v4, hv, hf⟩ := bd hf
        refine q_ild hx hb hK hP 2 0 rfl rfl hv dX0_refer_20 ?_
        refine lv_iload_n hx hb dX0_refer_21 rfl (lv_at hl 2 rfl) ?_
        refine lv_iload hx hb dX0_refer_22 (lv_at hl 4 rfl) ?_
        refine lv_if_eq (tgt := 31) hx hb dX0_refer_24 (by decide) (fun h5 => ?_) (fun h5 => ?_)
        · have hf := ift h5 hf
          refine lv_iconst (v := (1 : Int32)) hx hb dX0_refer_31 (by decide) ?_
          refine lv_aload_n hx hb dX0_refer_32 rfl (lv_at hl 0 rfl) ?_
          refine va_get (D := (dC, dI)) (ci := 0) (v := .ref a2) (C := RX0) (T := TX0) (N := 9) hx hb hts (fun w hw => List.mem_cons_of_mem _ (inX0 w hw)) hown hK hP 0 rfl rfl 1 (by decide) (hts _ (List.mem_cons_of_mem _ mw_62)) (fun _ h9 => h9) rfl dX0_refer_33 ?_
          refine lv_iload_n hx hb dX0_refer_36 rfl (lv_at hl 3 rfl) ?_
          obtain ⟨v6, hv, hf⟩ := bd hf
          refine q_ild hx hb hK hP 2 0 rfl rfl hv dX0_refer_37 ?_
          obtain ⟨w_7, hv, hf⟩ := bd hf
          refine q_cv (wr := []) (va_runV (As := [.int v4, .int x2, .int (1 : Int32), .int v6]) (rest := []) ⟨hx, hb, hml, hown, hts⟩ (ctX0_setField l dC dI cI cZ cL h a1 a2 a3 a4 a5 _ w r st rc na tp cn rh sr v4 x2 (1 : Int32) v6 w_7 hv) (cwV 4 hts (gV mw_386 mw_388 mw_21 mw_38 mw_389) rfl rfl rfl (by decide +kernel) ⟨Nat.le_of_ble_eq_true rfl, Nat.le_of_ble_eq_true rfl⟩) (q_preV [.int v4, .int x2, .int (1 : Int32), .int v6] hK hP hD [0, 1, 2, 3, 4, 5] (by decide) rfl (ci := 0) rfl rfl) rfl rfl hl.1 rfl (lv_room (Nat.le_of_ble_eq_true rfl)) dX0_refer_38 ⟨Nat.le_of_ble_eq_true rfl, Nat.le_of_ble_eq_true rfl⟩) hP hD hS hA [0, 1, 2, 3, 4, 5] [] rfl rfl (by decide) (by decide) (fun H locs hP hD hS => ?_)
          have hP : va_P (dC, dI) vwCl (wX cI h a1 a2 a3 a4 a5 w_7 r st rc na tp cn rh sr) _ := hP
          have hD : va_D A (wX cI h a1 a2 a3 a4 a5 w_7 r st rc na tp cn rh sr) := hD
          have hg0 := Option.some.inj hf
          obtain ⟨hq1, hg1⟩ := Prod.mk.inj hg0
          subst hq1
          subst hg1
          refine vx_ret ?_
          refine W.widen (k := q_mc 0) (n := q_ms 0) (Nat.zero_le _) (Nat.zero_le _) ?_
          exact W.vret hx hb hr (fun t ht hW => ⟨⟨(), rfl, rfl, by rw [ht]; exact hP, va_K.moved hW.alike hK, hD⟩, hS.F ht⟩) hS.2.2 dX0_refer_41 hlk
        · have hf := ifn h5 hf
          refine lv_iconst (v := (2 : Int32)) hx hb dX0_refer_27 (by decide) ?_
          refine lv_goto (tgt := 32) hx hb dX0_refer_28 (by decide) ?_
          refine lv_aload_n hx hb dX0_refer_32 rfl (lv_at hl 0 rfl) ?_
          refine va_get (D := (dC, dI)) (ci := 0) (v := .ref a2) (C := RX0) (T := TX0) (N := 9) hx hb hts (fun w hw => List.mem_cons_of_mem _ (inX0 w hw)) hown hK hP 0 rfl rfl 1 (by decide) (hts _ (List.mem_cons_of_mem _ mw_62)) (fun _ h9 => h9) rfl dX0_refer_33 ?_
          refine lv_iload_n hx hb dX0_refer_36 rfl (lv_at hl 3 rfl) ?_
          obtain ⟨v8, hv, hf⟩ := bd hf
          refine q_ild hx hb hK hP 2 0 rfl rfl hv dX0_refer_37 ?_
          obtain ⟨w_9, hv, hf⟩ := bd hf
          refine q_cv (wr := []) (va_runV (As := [.int v4, .int x2, .int (2 : Int32), .int v8]) (rest := []) ⟨hx, hb, hml, hown, hts⟩ (ctX0_setField l dC dI cI cZ cL h a1 a2 a3 a4 a5 _ w r st rc na tp cn rh sr v4 x2 (2 : Int32) v8 w_9 hv) (cwV 4 hts (gV mw_386 mw_388 mw_21 mw_38 mw_389) rfl rfl rfl (by decide +kernel) ⟨Nat.le_of_ble_eq_true rfl, Nat.le_of_ble_eq_true rfl⟩) (q_preV [.int v4, .int x2, .int (2 : Int32), .int v8] hK hP hD [0, 1, 2, 3, 4, 5] (by decide) rfl (ci := 0) rfl rfl) rfl rfl hl.1 rfl (lv_room (Nat.le_of_ble_eq_true rfl)) dX0_refer_38 ⟨Nat.le_of_ble_eq_true rfl, Nat.le_of_ble_eq_true rfl⟩) hP hD hS hA [0, 1, 2, 3, 4, 5] [] rfl rfl (by decide) (by decide) (fun H locs hP hD hS => ?_)
          have hP : va_P (dC, dI) vwCl (wX cI h a1 a2 a3 a4 a5 w_9 r st rc na tp cn rh sr) _ := hP
          have hD : va_D A (wX cI h a1 a2 a3 a4 a5 w_9 r st rc na tp cn rh sr) := hD
          have hg0 := Option.some.inj hf
          obtain ⟨hq1, hg1⟩ := Prod.mk.inj hg0
          subst hq1
          subst hg1
          refine vx_ret ?_
          refine W.widen (k := q_mc 0) (n := q_ms 0) (Nat.zero_le _) (Nat.zero_le _) ?_
          exact W.vret hx hb hr (fun t ht hW => ⟨⟨(), rfl, rfl, by rw [ht]; exact hP, va_K.moved hW.alike hK, hD⟩, hS.F ht⟩) hS.2.2 dX0_refer_41 hlk
      · replace hf := ifn he hf
        have hg0 := Option.some.inj hf
        obtain ⟨hq1, hg1⟩ := Prod.mk.inj hg0
        subst hq1
        subst hg1
        refine q_tv (wr := []) he (vx_runV (As := [.int x1, .int x2]) (rest := []) ⟨hx, hb, hml, hown, hts⟩ (ctX0_requireObjectWithField l hlt dC dI cI cZ cL h a1 a2 a3 a4 a5 _ w r st rc na tp cn rh sr x1 x2 e3 hv) (cwV 2 hts (gV mw_365 mw_367 mw_20 mw_38 mw_368) rfl rfl rfl (by decide +kernel) ⟨Nat.le_of_ble_eq_true rfl, Nat.le_of_ble_eq_true rfl⟩) (q_preXV [.int x1, .int x2] hK hP hD hS hA hZ0 hT hN [0, 1, 2, 3, 4, 5] (by decide) rfl (ci := 0) rfl rfl) rfl rfl hl.1 rfl (lv_room (Nat.le_of_ble_eq_true rfl)) dX0_refer_11 ⟨q_leC wsX0_refer (rmX0_refer e3) rfl, q_leS wsX0_refer (rmX0_refer e3) rfl⟩) hP hD hS hA [0, 1, 2, 3, 4, 5] [] rfl rfl (by decide) (by decide) (fun ce q9 H locs hP hD hS hc1 hc2 hc3 => ?_)
        have hP : va_P (dC, dI) vwCl (wX cI h a1 a2 a3 a4 a5 w r st rc na tp cn rh sr) _ := hP
        have hD : va_D A (wX cI h a1 a2 a3 a4 a5 w r st rc na tp cn rh sr) := hD
        exact vx_out (fun x hxx => (hno x hxx).elim) hlk hc1 hc2 hc3 (fun t ht hW => ⟨(), he, ⟨rfl, by rw [ht]; exact hP, va_K.moved hW hK, hD⟩, hS.F ht⟩) hS.2.2 (Nat.le_of_eq (Nat.zero_add _)) (Nat.le_of_eq (Nat.zero_add _))
    · replace hf := ifn he hf
      have hg0 := Option.some.inj hf
      obtain ⟨hq1, hg1⟩ := Prod.mk.inj hg0
      subst hq1
      subst hg1
      refine q_tv (wr := (wX cI h a1 a2 a3 a4 a5 w r st rc na tp cn rh sr)) he (vx_runS (As := [.int x3]) (rest := []) ⟨hx, hb, hml, hown, hts⟩ (ctX0_requireRoot l hlt dC dI cI cZ cL _ x3 e2 hv) (va_cwS 1 hts (gS mw_135 mw_136 mw_38 mw_137) rfl rfl rfl (by decide +kernel) ⟨Nat.le_of_ble_eq_true rfl, Nat.le_of_ble_eq_true rfl⟩) (q_preXS [.int x3] hK hP hD hS hA hZ0 hT hN [] (by decide) rfl) rfl rfl hl.1 rfl (lv_room (Nat.le_of_ble_eq_true rfl)) dX0_refer_5 ⟨q_leC wsX0_refer (rmX0_refer e2) rfl, q_leS wsX0_refer (rmX0_refer e2) rfl⟩) hP hD hS hA [] [0, 1, 2, 3, 4, 5] rfl rfl (by decide) (by decide) (fun ce q9 H locs hP hD hS hc1 hc2 hc3 => ?_)
      have hP : va_P (dC, dI) vwCl (wX cI h a1 a2 a3 a4 a5 w r st rc na tp cn rh sr) _ := hP
      have hD : va_D A (wX cI h a1 a2 a3 a4 a5 w r st rc na tp cn rh sr) := hD
      exact vx_out (fun x hxx => (hno x hxx).elim) hlk hc1 hc2 hc3 (fun t ht hW => ⟨(), he, ⟨rfl, by rw [ht]; exact hP, va_K.moved hW hK, hD⟩, hS.F ht⟩) hS.2.2 (Nat.le_of_eq (Nat.zero_add _)) (Nat.le_of_eq (Nat.zero_add _))
  · replace hf := ifn he hf
    have hg0 := Option.some.inj hf
    obtain ⟨hq1, hg1⟩ := Prod.mk.inj hg0
    subst hq1
    subst hg1
    refine q_tv (wr := (wX cI h a1 a2 a3 a4 a5 w r st rc na tp cn rh sr)) he (vx_runS (As := [.int x1]) (rest := []) ⟨hx, hb, hml, hown, hts⟩ (ctX0_requireRoot l hlt dC dI cI cZ cL _ x1 e1 hv) (va_cwS 1 hts (gS mw_135 mw_136 mw_38 mw_137) rfl rfl rfl (by decide +kernel) ⟨Nat.le_of_ble_eq_true rfl, Nat.le_of_ble_eq_true rfl⟩) (q_preXS [.int x1] hK hP hD hS hA hZ0 hT hN [] (by decide) rfl) rfl rfl hl.1 rfl (lv_room (Nat.le_of_ble_eq_true rfl)) dX0_refer_1 ⟨q_leC wsX0_refer (rmX0_refer e1) rfl, q_leS wsX0_refer (rmX0_refer e1) rfl⟩) hP hD hS hA [] [0, 1, 2, 3, 4, 5] rfl rfl (by decide) (by decide) (fun ce q9 H locs hP hD hS hc1 hc2 hc3 => ?_)
    have hP : va_P (dC, dI) vwCl (wX cI h a1 a2 a3 a4 a5 w r st rc na tp cn rh sr) _ := hP
    have hD : va_D A (wX cI h a1 a2 a3 a4 a5 w r st rc na tp cn rh sr) := hD
    exact vx_out (fun x hxx => (hno x hxx).elim) hlk hc1 hc2 hc3 (fun t ht hW => ⟨(), he, ⟨rfl, by rw [ht]; exact hP, va_K.moved hW hK, hD⟩, hS.F ht⟩) hS.2.2 (Nat.le_of_eq (Nat.zero_add _)) (Nat.le_of_eq (Nat.zero_add _))
set_option maxHeartbeats 4000000 in
set_option maxRecDepth 100000 in
theorem ctX0_follow (l : Launch) (hlt : l.stackTraces = false) (dC : Nat → ClassId) (dI : Nat → Nat → Nat) (cI cZ cL : ClassId) (h a1 a2 a3 a4 a5 : Nat) (sz : Nat) (w : Nat → Int32) (r : Nat → Int32) (st : Nat → Int32) (rc : Nat → Int32) (na : Nat → Int32) (tp : Int32) (cn : Int32) (rh : Int32) (sr : Int32) (x1 : Int32) (x2 : Int32) (x3 : Int32) (ef : Nat) (rs : Int32) (r' : Nat → Int32) (hf : fX0_follow w r x1 x2 x3 = some (ef, rs, r')) : vx_Met l yX0_follow wsX0_follow (rmX0_follow ef) (va_Pc [.ref h, .int x1, .int x2, .int x3] (q_preX (dC, dI) vwCl (tyA cI cZ cL) RX0 q_tx sz (wX cI h a1 a2 a3 a4 a5 w r st rc na tp cn rh sr))) (va_Qi (fun r (_ : Unit) => ef = 0 ∧ r = rs) (fun _ => q_post (dC, dI) vwCl (tyA cI cZ cL) (va_A (wX cI h a1 a2 a3 a4 a5 w r st rc na tp cn rh sr) sz) (wX cI h a1 a2 a3 a4 a5 w r' st rc na tp cn rh sr)) (va_A (wX cI h a1 a2 a3 a4 a5 w r st rc na tp cn rh sr) sz)) (vx_X (fun (_ : Unit) => ¬ ef = 0) (fun E _ t => E = q_E ef ∧ q_post (dC, dI) vwCl (tyA cI cZ cL) (va_A (wX cI h a1 a2 a3 a4 a5 w r st rc na tp cn rh sr) sz) (wX cI h a1 a2 a3 a4 a5 w r' st rc na tp cn rh sr) t) (va_A (wX cI h a1 a2 a3 a4 a5 w r st rc na tp cn rh sr) sz)) (q_mc ef) (q_ms ef) (va_A (wX cI h a1 a2 a3 a4 a5 w r st rc na tp cn rh sr) sz) := by
  refine vx_ofW (cc := cX0_follow) (maxL := 4) (ret := (some .boolean)) (by decide) rfl ?_
  intro p e s m args below meth c s₁ B hml hno hv
  obtain ⟨rfl, hsz, hP, hK, hD0, hZ0, hT, hN⟩ := hv
  have hx := B.exec
  have hb := B.bytes
  have hr := B.returns
  have hts := atoms_spec (ws := wsX0_follow) B.pre
  have hown : s.vm.findClass RX0 = some m.cls := findClass_of_methodNamed B.named
  have hlk := B.notSynchronized
  subst hsz
  have hD := hD0.self (sz := s.heap.size)
  generalize hAe : va_A (wX cI h a1 a2 a3 a4 a5 w r st rc na tp cn rh sr) s.heap.size = A at hZ0 hD ⊢
  have hA : ∀ q : Nat, s.heap.size ≤ q → A q := fun q h => by rw [← hAe]; exact Or.inr h
  have hS : va_S A s.heap s.heap [] := va_S.rf
  have hl := lv_entry ([.ref h, .int x1, .int x2, .int x3]) (n := 4) (Nat.le_of_ble_eq_true rfl)
  rw [lg_entry_eq]
  generalize (lg_sl ([.ref h, .int x1, .int x2, .int x3]) ++ List.replicate (4 - (lg_sl ([.ref h, .int x1, .int x2, .int x3])).length) Slot.unset).toArray = ls at hl ⊢
  have hl : lv_has ls 4 [(0, .ref h), (1, .int x1), (2, .int x2), (3, .int x3)] := hl
  unfold fX0_follow at hf
  refine lv_iload_n hx hb dX0_follow_0 rfl (lv_at hl 1 rfl) ?_
  obtain ⟨e1, hv, hf⟩ := bd hf
  by_cases he : e1 = 0
  · replace hf := ift he hf
    subst he
    refine q_nv (wr := (wX cI h a1 a2 a3 a4 a5 w r st rc na tp cn rh sr)) (vx_runS (As := [.int x1]) (rest := []) ⟨hx, hb, hml, hown, hts⟩ (ctX0_requireRoot l hlt dC dI cI cZ cL _ x1 0 hv) (va_cwS 1 hts (gS mw_135 mw_136 mw_38 mw_137) rfl rfl rfl (by decide +kernel) ⟨Nat.le_of_ble_eq_true rfl, Nat.le_of_ble_eq_true rfl⟩) (q_preXS [.int x1] hK hP hD hS hA hZ0 hT hN [] (by decide) rfl) rfl rfl hl.1 rfl (lv_room (Nat.le_of_ble_eq_true rfl)) dX0_follow_1 ⟨(q_le0 _).1, (q_le0 _).2⟩) hP hD hS hA [] [0, 1, 2, 3, 4, 5] rfl rfl (by decide) (by decide) (fun H locs hP hD hS => ?_)
    have hP : va_P (dC, dI) vwCl (wX cI h a1 a2 a3 a4 a5 w r st rc na tp cn rh sr) _ := hP
    have hD : va_D A (wX cI h a1 a2 a3 a4 a5 w r st rc na tp cn rh sr) := hD
    refine lv_iload_n hx hb dX0_follow_4 rfl (lv_at hl 3 rfl) ?_
    obtain ⟨e2, hv, hf⟩ := bd hf
    by_cases he : e2 = 0
    · replace hf := ift he hf
      subst he
      refine q_nv (wr := (wX cI h a1 a2 a3 a4 a5 w r st rc na tp cn rh sr)) (vx_runS (As := [.int x3]) (rest := []) ⟨hx, hb, hml, hown, hts⟩ (ctX0_requireRoot l hlt dC dI cI cZ cL _ x3 0 hv) (va_cwS 1 hts (gS mw_135 mw_136 mw_38 mw_137) rfl rfl rfl (by decide +kernel) ⟨Nat.le_of_ble_eq_true rfl, Nat.le_of_ble_eq_true rfl⟩) (q_preXS [.int x3] hK hP hD hS hA hZ0 hT hN [] (by decide) rfl) rfl rfl hl.1 rfl (lv_room (Nat.le_of_ble_eq_true rfl)) dX0_follow_5 ⟨(q_le0 _).1, (q_le0 _).2⟩) hP hD hS hA [] [0, 1, 2, 3, 4, 5] rfl rfl (by decide) (by decide) (fun H locs hP hD hS => ?_)
      have hP : va_P (dC, dI) vwCl (wX cI h a1 a2 a3 a4 a5 w r st rc na tp cn rh sr) _ := hP
      have hD : va_D A (wX cI h a1 a2 a3 a4 a5 w r st rc na tp cn rh sr) := hD
      refine lv_aload_n hx hb dX0_follow_8 rfl (lv_at hl 0 rfl) ?_
      refine lv_iload_n hx hb dX0_follow_9 rfl (lv_at hl 1 rfl) ?_
      refine lv_iload_n hx hb dX0_follow_10 rfl (lv_at hl 2 rfl) ?_
      obtain ⟨e3, hv, hf⟩ := bd hf
      by_cases he : e3 = 0
      · replace hf := ift he hf
        subst he
        refine q_nv (wr := []) (vx_runV (As := [.int x1, .int x2]) (rest := []) ⟨hx, hb, hml, hown, hts⟩ (ctX0_requireObjectWithField l hlt dC dI cI cZ cL h a1 a2 a3 a4 a5 _ w r st rc na tp cn rh sr x1 x2 0 hv) (cwV 2 hts (gV mw_365 mw_367 mw_20 mw_38 mw_368) rfl rfl rfl (by decide +kernel) ⟨Nat.le_of_ble_eq_true rfl, Nat.le_of_ble_eq_true rfl⟩) (q_preXV [.int x1, .int x2] hK hP hD hS hA hZ0 hT hN [0, 1, 2, 3, 4, 5] (by decide) rfl (ci := 0) rfl rfl) rfl rfl hl.1 rfl (lv_room (Nat.le_of_ble_eq_true rfl)) dX0_follow_11 ⟨(q_le0 _).1, (q_le0 _).2⟩) hP hD hS hA [0, 1, 2, 3, 4, 5] [] rfl rfl (by decide) (by decide) (fun H locs hP hD hS => ?_)
        have hP : va_P (dC, dI) vwCl (wX cI h a1 a2 a3 a4 a5 w r st rc na tp cn rh sr) _ := hP
        have hD : va_D A (wX cI h a1 a2 a3 a4 a5 w r st rc na tp cn rh sr) := hD
        refine lv_aload_n hx hb dX0_follow_14 rfl (lv_at hl 0 rfl) ?_
        refine lv_aload_n hx hb dX0_follow_15 rfl (lv_at hl 0 rfl) ?_
        refine va_get (D := (dC, dI)) (ci := 0) (v := .ref a2) (C := RX0) (T := TX0) (N := 9) hx hb hts (fun w hw => List.mem_cons_of_mem _ (inX0 w hw)) hown hK hP 0 rfl rfl 1 (by decide) (hts _ (List.mem_cons_of_mem _ mw_62)) (fun _ h9 => h9) rfl dX0_follow_16 ?_
        refine lv_iload_n hx hb dX0_follow_19 rfl (lv_at hl 1 rfl) ?_
        obtain ⟨v4, hv, hf⟩ := bd hf
        refine q_ild hx hb hK hP 2 0 rfl rfl hv dX0_follow_20 ?_
        refine lv_iload_n hx hb dX0_follow_21 rfl (lv_at hl 2 rfl) ?_
        obtain ⟨e5, hv, hf⟩ := bd hf
        by_cases he : e5 = 0
        · replace hf := ift he hf
          subst he
          refine q_nv (wr := []) (vx_runV (As := [.int v4, .int x2]) (rest := []) ⟨hx, hb, hml, hown, hts⟩ (ctX0_requireReference l hlt dC dI cI cZ cL h a1 a2 a3 a4 a5 _ w r st rc na tp cn rh sr v4 x2 0 hv) (cwV 2 hts (gV mw_404 mw_406 mw_22 mw_38 mw_407) rfl rfl rfl (by decide +kernel) ⟨Nat.le_of_ble_eq_true rfl, Nat.le_of_ble_eq_true rfl⟩) (q_preXV [.int v4, .int x2] hK hP hD hS hA hZ0 hT hN [0, 1, 2, 3, 4, 5] (by decide) rfl (ci := 0) rfl rfl) rfl rfl hl.1 rfl (lv_room (Nat.le_of_ble_eq_true rfl)) dX0_follow_22 ⟨(q_le0 _).1, (q_le0 _).2⟩) hP hD hS hA [0, 1, 2, 3, 4, 5] [] rfl rfl (by decide) (by decide) (fun H locs hP hD hS => ?_)
          have hP : va_P (dC, dI) vwCl (wX cI h a1 a2 a3 a4 a5 w r st rc na tp cn rh sr) _ := hP
          have hD : va_D A (wX cI h a1 a2 a3 a4 a5 w r st rc na tp cn rh sr) := hD
          refine lv_aload_n hx hb dX0_follow_25 rfl (lv_at hl 0 rfl) ?_
          refine va_get (D := (dC, dI)) (ci := 0) (v := .ref a2) (C := RX0) (T := TX0) (N := 9) hx hb hts (fun w hw => List.mem_cons_of_mem _ (inX0 w hw)) hown hK hP 0 rfl rfl 1 (by decide) (hts _ (List.mem_cons_of_mem _ mw_62)) (fun _ h9 => h9) rfl dX0_follow_26 ?_
          refine lv_iload_n hx hb dX0_follow_29 rfl (lv_at hl 3 rfl) ?_
          refine lv_aload_n hx hb dX0_follow_30 rfl (lv_at hl 0 rfl) ?_
          refine va_get (D := (dC, dI)) (ci := 0) (v := .ref a1) (C := RX0) (T := TX0) (N := 9) hx hb hts (fun w hw => List.mem_cons_of_mem _ (inX0 w hw)) hown hK hP 0 rfl rfl 0 (by decide) (hts _ (List.mem_cons_of_mem _ mw_61)) (fun _ h9 => h9) rfl dX0_follow_31 ?_
          refine lv_aload_n hx hb dX0_follow_34 rfl (lv_at hl 0 rfl) ?_
          refine va_get (D := (dC, dI)) (ci := 0) (v := .ref a2) (C := RX0) (T := TX0) (N := 9) hx hb hts (fun w hw => List.mem_cons_of_mem _ (inX0 w hw)) hown hK hP 0 rfl rfl 1 (by decide) (hts _ (List.mem_cons_of_mem _ mw_62)) (fun _ h9 => h9) rfl dX0_follow_35 ?_
          refine lv_iload_n hx hb dX0_follow_38 rfl (lv_at hl 1 rfl) ?_
          obtain ⟨v6, hv, hf⟩ := bd hf
          refine q_ild hx hb hK hP 2 0 rfl rfl hv dX0_follow_39 ?_
          refine lv_iload_n hx hb dX0_follow_40 rfl (lv_at hl 2 rfl) ?_
          obtain ⟨v7, hv, hf⟩ := bd hf
          refine q_ci (wr := (wX cI h a1 a2 a3 a4 a5 w r st rc na tp cn rh sr)) (va_runS (As := [.int v6, .int x2]) (rest := [.ref a1, .int x3, .ref a2]) ⟨hx, hb, hml, hown, hts⟩ (ctX0_fieldAddress l dC dI cI cZ cL _ v6 x2 v7 hv) (va_cwS 2 hts (gS mw_122 mw_123 mw_38 mw_124) rfl rfl rfl (by decide +kernel) ⟨Nat.le_of_ble_eq_true rfl, Nat.le_of_ble_eq_true rfl⟩) (q_preS [.int v6, .int x2] hK hP hD [] (by decide) rfl) rfl rfl hl.1 rfl (lv_room (Nat.le_of_ble_eq_true rfl)) dX0_follow_41 ⟨Nat.le_of_ble_eq_true rfl, Nat.le_of_ble_eq_true rfl⟩) hP hD hS hA [] [0, 1, 2, 3, 4, 5] rfl rfl (by decide) (by decide) (fun H locs hP hD hS => ?_)
          have hP : va_P (dC, dI) vwCl (wX cI h a1 a2 a3 a4 a5 w r st rc na tp cn rh sr) _ := hP
          have hD : va_D A (wX cI h a1 a2 a3 a4 a5 w r st rc na tp cn rh sr) := hD
          obtain ⟨v8, hv, hf⟩ := bd hf
          refine q_ild hx hb hK hP 1 0 rfl rfl hv dX0_follow_44 ?_
          obtain ⟨r_9, hv, hf⟩ := bd hf
          refine q_ist hx hb hK hP hD hS 2 0 rfl rfl hv dX0_follow_45 (fun H locs hP hD hS => ?_)
          have hP : va_P (dC, dI) vwCl (wX cI h a1 a2 a3 a4 a5 w r_9 st rc na tp cn rh sr) _ := hP
          have hD : va_D A (wX cI h a1 a2 a3 a4 a5 w r_9 st rc na tp cn rh sr) := hD
          refine lv_aload_n hx hb dX0_follow_46 rfl (lv_at hl 0 rfl) ?_
          refine va_get (D := (dC, dI)) (ci := 0) (v := .ref a2) (C := RX0) (T := TX0) (N := 9) hx hb hts (fun w hw => List.mem_cons_of_mem _ (inX0 w hw)) hown hK hP 0 rfl rfl 1 (by decide) (hts _ (List.mem_cons_of_mem _ mw_62)) (fun _ h9 => h9) rfl dX0_follow_47 ?_
          refine lv_iload_n hx hb dX0_follow_50 rfl (lv_at hl 3 rfl) ?_
          obtain ⟨v10, hv, hf⟩ := bd hf
          refine q_ild hx hb hK hP 2 0 rfl rfl hv dX0_follow_51 ?_
          refine lv_iconst (v := (-1 : Int32)) hx hb dX0_follow_52 (by decide) ?_
          refine lv_icmp_eq (tgt := 60) hx hb dX0_follow_53 (by decide) (fun h11 => ?_) (fun h11 => ?_)
          · have hf := ift h11 hf
            refine lv_iconst (v := (0 : Int32)) hx hb dX0_follow_60 (by decide) ?_
            have hg0 := Option.some.inj hf
            obtain ⟨hq1, hg1⟩ := Prod.mk.inj hg0
            subst hq1
            obtain ⟨hq2, hg2⟩ := Prod.mk.inj hg1
            subst hq2
            subst hg2
            refine vx_ret ?_
            refine W.widen (k := q_mc 0) (n := q_ms 0) (Nat.zero_le _) (Nat.zero_le _) ?_
            exact W.zret hx hb hr rfl (fun t ht hW => ⟨⟨_, (), rfl, ⟨rfl, rfl⟩, by rw [ht]; exact hP, va_K.moved hW.alike hK, hD⟩, hS.F ht⟩) hS.2.2 dX0_follow_61 hlk
          · have hf := ifn h11 hf
            refine lv_iconst (v := (1 : Int32)) hx hb dX0_follow_56 (by decide) ?_
            refine lv_goto (tgt := 61) hx hb dX0_follow_57 (by decide) ?_
            have hg0 := Option.some.inj hf
            obtain ⟨hq1, hg1⟩ := Prod.mk.inj hg0
            subst hq1
            obtain ⟨hq2, hg2⟩ := Prod.mk.inj hg1
            subst hq2
            subst hg2
            refine vx_ret ?_
            refine W.widen (k := q_mc 0) (n := q_ms 0) (Nat.zero_le _) (Nat.zero_le _) ?_
            exact W.zret hx hb hr rfl (fun t ht hW => ⟨⟨_, (), rfl, ⟨rfl, rfl⟩, by rw [ht]; exact hP, va_K.moved hW.alike hK, hD⟩, hS.F ht⟩) hS.2.2 dX0_follow_61 hlk
        · replace hf := ifn he hf
          have hg0 := Option.some.inj hf
          obtain ⟨hq1, hg1⟩ := Prod.mk.inj hg0
          subst hq1
          obtain ⟨hq2, hg2⟩ := Prod.mk.inj hg1
          subst hq2
          subst hg2
          refine q_tv (wr := []) he (vx_runV (As := [.int v4, .int x2]) (rest := []) ⟨hx, hb, hml, hown, hts⟩ (ctX0_requireReference l hlt dC dI cI cZ cL h a1 a2 a3 a4 a5 _ w r st rc na tp cn rh sr v4 x2 e5 hv) (cwV 2 hts (gV mw_404 mw_406 mw_22 mw_38 mw_407) rfl rfl rfl (by decide +kernel) ⟨Nat.le_of_ble_eq_true rfl, Nat.le_of_ble_eq_true rfl⟩) (q_preXV [.int v4, .int x2] hK hP hD hS hA hZ0 hT hN [0, 1, 2, 3, 4, 5] (by decide) rfl (ci := 0) rfl rfl) rfl rfl hl.1 rfl (lv_room (Nat.le_of_ble_eq_true rfl)) dX0_follow_22 ⟨q_leC wsX0_follow (rmX0_follow e5) rfl, q_leS wsX0_follow (rmX0_follow e5) rfl⟩) hP hD hS hA [0, 1, 2, 3, 4, 5] [] rfl rfl (by decide) (by decide) (fun ce q9 H locs hP hD hS hc1 hc2 hc3 => ?_)
          have hP : va_P (dC, dI) vwCl (wX cI h a1 a2 a3 a4 a5 w r st rc na tp cn rh sr) _ := hP
          have hD : va_D A (wX cI h a1 a2 a3 a4 a5 w r st rc na tp cn rh sr) := hD
          exact vx_out (fun x hxx => (hno x hxx).elim) hlk hc1 hc2 hc3 (fun t ht hW => ⟨(), he, ⟨rfl, by rw [ht]; exact hP, va_K.moved hW hK, hD⟩, hS.F ht⟩) hS.2.2 (Nat.le_of_eq (Nat.zero_add _)) (Nat.le_of_eq (Nat.zero_add _))
      · replace hf := ifn he hf
        have hg0 := Option.some.inj hf
        obtain ⟨hq1, hg1⟩ := Prod.mk.inj hg0
        subst hq1
        obtain ⟨hq2, hg2⟩ := Prod.mk.inj hg1
        subst hq2
        subst hg2
        refine q_tv (wr := []) he (vx_runV (As := [.int x1, .int x2]) (rest := []) ⟨hx, hb, hml, hown, hts⟩ (ctX0_requireObjectWithField l hlt dC dI cI cZ cL h a1 a2 a3 a4 a5 _ w r st rc na tp cn rh sr x1 x2 e3 hv) (cwV 2 hts (gV mw_365 mw_367 mw_20 mw_38 mw_368) rfl rfl rfl (by decide +kernel) ⟨Nat.le_of_ble_eq_true rfl, Nat.le_of_ble_eq_true rfl⟩) (q_preXV [.int x1, .int x2] hK hP hD hS hA hZ0 hT hN [0, 1, 2, 3, 4, 5] (by decide) rfl (ci := 0) rfl rfl) rfl rfl hl.1 rfl (lv_room (Nat.le_of_ble_eq_true rfl)) dX0_follow_11 ⟨q_leC wsX0_follow (rmX0_follow e3) rfl, q_leS wsX0_follow (rmX0_follow e3) rfl⟩) hP hD hS hA [0, 1, 2, 3, 4, 5] [] rfl rfl (by decide) (by decide) (fun ce q9 H locs hP hD hS hc1 hc2 hc3 => ?_)
        have hP : va_P (dC, dI) vwCl (wX cI h a1 a2 a3 a4 a5 w r st rc na tp cn rh sr) _ := hP
        have hD : va_D A (wX cI h a1 a2 a3 a4 a5 w r st rc na tp cn rh sr) := hD
        exact vx_out (fun x hxx => (hno x hxx).elim) hlk hc1 hc2 hc3 (fun t ht hW => ⟨(), he, ⟨rfl, by rw [ht]; exact hP, va_K.moved hW hK, hD⟩, hS.F ht⟩) hS.2.2 (Nat.le_of_eq (Nat.zero_add _)) (Nat.le_of_eq (Nat.zero_add _))
    · replace hf := ifn he hf
      have hg0 := Option.some.inj hf
      obtain ⟨hq1, hg1⟩ := Prod.mk.inj hg0
      subst hq1
      obtain ⟨hq2, hg2⟩ := Prod.mk.inj hg1
      subst hq2
      subst hg2
      refine q_tv (wr := (wX cI h a1 a2 a3 a4 a5 w r st rc na tp cn rh sr)) he (vx_runS (As := [.int x3]) (rest := []) ⟨hx, hb, hml, hown, hts⟩ (ctX0_requireRoot l hlt dC dI cI cZ cL _ x3 e2 hv) (va_cwS 1 hts (gS mw_135 mw_136 mw_38 mw_137) rfl rfl rfl (by decide +kernel) ⟨Nat.le_of_ble_eq_true rfl, Nat.le_of_ble_eq_true rfl⟩) (q_preXS [.int x3] hK hP hD hS hA hZ0 hT hN [] (by decide) rfl) rfl rfl hl.1 rfl (lv_room (Nat.le_of_ble_eq_true rfl)) dX0_follow_5 ⟨q_leC wsX0_follow (rmX0_follow e2) rfl, q_leS wsX0_follow (rmX0_follow e2) rfl⟩) hP hD hS hA [] [0, 1, 2, 3, 4, 5] rfl rfl (by decide) (by decide) (fun ce q9 H locs hP hD hS hc1 hc2 hc3 => ?_)
      have hP : va_P (dC, dI) vwCl (wX cI h a1 a2 a3 a4 a5 w r st rc na tp cn rh sr) _ := hP
      have hD : va_D A (wX cI h a1 a2 a3 a4 a5 w r st rc na tp cn rh sr) := hD
      exact vx_out (fun x hxx => (hno x hxx).elim) hlk hc1 hc2 hc3 (fun t ht hW => ⟨(), he, ⟨rfl, by rw [ht]; exact hP, va_K.moved hW hK, hD⟩, hS.F ht⟩) hS.2.2 (Nat.le_of_eq (Nat.zero_add _)) (Nat.le_of_eq (Nat.zero_add _))
  · replace hf := ifn he hf
    have hg0 := Option.some.inj hf
    obtain ⟨hq1, hg1⟩ := Prod.mk.inj hg0
    subst hq1
    obtain ⟨hq2, hg2⟩ := Prod.mk.inj hg1
    subst hq2
    subst hg2
    refine q_tv (wr := (wX cI h a1 a2 a3 a4 a5 w r st rc na tp cn rh sr)) he (vx_runS (As := [.int x1]) (rest := []) ⟨hx, hb, hml, hown, hts⟩ (ctX0_requireRoot l hlt dC dI cI cZ cL _ x1 e1 hv) (va_cwS 1 hts (gS mw_135 mw_136 mw_38 mw_137) rfl rfl rfl (by decide +kernel) ⟨Nat.le_of_ble_eq_true rfl, Nat.le_of_ble_eq_true rfl⟩) (q_preXS [.int x1] hK hP hD hS hA hZ0 hT hN [] (by decide) rfl) rfl rfl hl.1 rfl (lv_room (Nat.le_of_ble_eq_true rfl)) dX0_follow_1 ⟨q_leC wsX0_follow (rmX0_follow e1) rfl, q_leS wsX0_follow (rmX0_follow e1) rfl⟩) hP hD hS hA [] [0, 1, 2, 3, 4, 5] rfl rfl (by decide) (by decide) (fun ce q9 H locs hP hD hS hc1 hc2 hc3 => ?_)
    have hP : va_P (dC, dI) vwCl (wX cI h a1 a2 a3 a4 a5 w r st rc na tp cn rh sr) _ := hP
    have hD : va_D A (wX cI h a1 a2 a3 a4 a5 w r st rc na tp cn rh sr) := hD
    exact vx_out (fun x hxx => (hno x hxx).elim) hlk hc1 hc2 hc3 (fun t ht hW => ⟨(), he, ⟨rfl, by rw [ht]; exact hP, va_K.moved hW hK, hD⟩, hS.F ht⟩) hS.2.2 (Nat.le_of_eq (Nat.zero_add _)) (Nat.le_of_eq (Nat.zero_add _))
