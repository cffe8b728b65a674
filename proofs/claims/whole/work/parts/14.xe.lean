set_option maxHeartbeats 4000000 in
set_option maxRecDepth 100000 in
theorem ctX0_allocate (l : Launch) (hlt : l.stackTraces = false) (dC : Nat → ClassId) (dI : Nat → Nat → Nat) (cI cZ cL : ClassId) (h a1 a2 a3 a4 a5 : Nat) (sz : Nat) (w : Nat → Int32) (r : Nat → Int32) (st : Nat → Int32) (rc : Nat → Int32) (na : Nat → Int32) (tp : Int32) (cn : Int32) (rh : Int32) (sr : Int32) (x1 : Int32) (x2 : Int32) (ef : Nat) (rs : Int32) (w' : Nat → Int32) (r' : Nat → Int32) (st' : Nat → Int32) (tp' : Int32) (cn' : Int32) (sr' : Int32) (hf : fX0_allocate w r st tp cn sr x1 x2 = some (ef, rs, w', r', st', tp', cn', sr')) : vx_Met l yX0_allocate wsX0_allocate (rmX0_allocate ef) (va_Pc [.ref h, .int x1, .int x2] (q_preX (dC, dI) vwCl (tyA cI cZ cL) RX0 q_tx sz (wX cI h a1 a2 a3 a4 a5 w r st rc na tp cn rh sr))) (va_Qi (fun r (_ : Unit) => ef = 0 ∧ r = rs) (fun _ => q_post (dC, dI) vwCl (tyA cI cZ cL) (va_A (wX cI h a1 a2 a3 a4 a5 w r st rc na tp cn rh sr) sz) (wX cI h a1 a2 a3 a4 a5 w' r' st' rc na tp' cn' rh sr')) (va_A (wX cI h a1 a2 a3 a4 a5 w r st rc na tp cn rh sr) sz)) (vx_X (fun (_ : Unit) => ¬ ef = 0) (fun E _ t => E = q_E ef ∧ q_post (dC, dI) vwCl (tyA cI cZ cL) (va_A (wX cI h a1 a2 a3 a4 a5 w r st rc na tp cn rh sr) sz) (wX cI h a1 a2 a3 a4 a5 w' r' st' rc na tp' cn' rh sr') t) (va_A (wX cI h a1 a2 a3 a4 a5 w r st rc na tp cn rh sr) sz)) (q_mc ef) (q_ms ef) (va_A (wX cI h a1 a2 a3 a4 a5 w r st rc na tp cn rh sr) sz) := by
  refine vx_ofW (cc := cX0_allocate) (maxL := 3) (ret := (some .int)) (by decide) rfl ?_
  intro p e s m args below meth c s₁ B hml hno hv
  obtain ⟨rfl, hsz, hP, hK, hD0, hZ0, hT, hN⟩ := hv
  have hx := B.exec
  have hb := B.bytes
  have hr := B.returns
  have hts := atoms_spec (ws := wsX0_allocate) B.pre
  have hown : s.vm.findClass RX0 = some m.cls := findClass_of_methodNamed B.named
  have hlk := B.notSynchronized
  subst hsz
  have hD := hD0.self (sz := s.heap.size)
  generalize hAe : va_A (wX cI h a1 a2 a3 a4 a5 w r st rc na tp cn rh sr) s.heap.size = A at hZ0 hD ⊢
  have hA : ∀ q : Nat, s.heap.size ≤ q → A q := fun q h => by rw [← hAe]; exact Or.inr h
  have hS : va_S A s.heap s.heap [] := va_S.rf
  have hl := lv_entry ([.ref h, .int x1, .int x2]) (n := 3) (Nat.le_of_ble_eq_true rfl)
  rw [lg_entry_eq]
  generalize (lg_sl ([.ref h, .int x1, .int x2]) ++ List.replicate (3 - (lg_sl ([.ref h, .int x1, .int x2])).length) Slot.unset).toArray = ls at hl ⊢
  have hl : lv_has ls 3 [(0, .ref h), (1, .int x1), (2, .int x2)] := hl
  unfold fX0_allocate at hf
  refine lv_iload_n hx hb dX0_allocate_0 rfl (lv_at hl 1 rfl) ?_
  obtain ⟨e1, hv, hf⟩ := bd hf
  by_cases he : e1 = 0
  · replace hf := ift he hf
    subst he
    refine q_nv (wr := (wX cI h a1 a2 a3 a4 a5 w r st rc na tp cn rh sr)) (vx_runS (As := [.int x1]) (rest := []) ⟨hx, hb, hml, hown, hts⟩ (ctX0_requireRoot l hlt dC dI cI cZ cL _ x1 0 hv) (va_cwS 1 hts (gS mw_135 mw_136 mw_38 mw_137) rfl rfl rfl (by decide +kernel) ⟨Nat.le_of_ble_eq_true rfl, Nat.le_of_ble_eq_true rfl⟩) (q_preXS [.int x1] hK hP hD hS hA hZ0 hT hN [] (by decide) rfl) rfl rfl hl.1 rfl (lv_room (Nat.le_of_ble_eq_true rfl)) dX0_allocate_1 ⟨(q_le0 _).1, (q_le0 _).2⟩) hP hD hS hA [] [0, 1, 2, 3, 4, 5] rfl rfl (by decide) (by decide) (fun H locs hP hD hS => ?_)
    have hP : va_P (dC, dI) vwCl (wX cI h a1 a2 a3 a4 a5 w r st rc na tp cn rh sr) _ := hP
    have hD : va_D A (wX cI h a1 a2 a3 a4 a5 w r st rc na tp cn rh sr) := hD
    refine lv_iload_n hx hb dX0_allocate_4 rfl (lv_at hl 2 rfl) ?_
    obtain ⟨e2, hv, hf⟩ := bd hf
    by_cases he : e2 = 0
    · replace hf := ift he hf
      subst he
      refine q_nv (wr := (wX cI h a1 a2 a3 a4 a5 w r st rc na tp cn rh sr)) (vx_runS (As := [.int x2]) (rest := []) ⟨hx, hb, hml, hown, hts⟩ (ctX0_requireFieldCount l hlt dC dI cI cZ cL _ x2 0 hv) (va_cwS 1 hts (gS mw_208 mw_209 mw_38 mw_210) rfl rfl rfl (by decide +kernel) ⟨Nat.le_of_ble_eq_true rfl, Nat.le_of_ble_eq_true rfl⟩) (q_preXS [.int x2] hK hP hD hS hA hZ0 hT hN [] (by decide) rfl) rfl rfl hl.1 rfl (lv_room (Nat.le_of_ble_eq_true rfl)) dX0_allocate_5 ⟨(q_le0 _).1, (q_le0 _).2⟩) hP hD hS hA [] [0, 1, 2, 3, 4, 5] rfl rfl (by decide) (by decide) (fun H locs hP hD hS => ?_)
      have hP : va_P (dC, dI) vwCl (wX cI h a1 a2 a3 a4 a5 w r st rc na tp cn rh sr) _ := hP
      have hD : va_D A (wX cI h a1 a2 a3 a4 a5 w r st rc na tp cn rh sr) := hD
      refine lv_aload_n hx hb dX0_allocate_8 rfl (lv_at hl 0 rfl) ?_
      refine lv_iload_n hx hb dX0_allocate_9 rfl (lv_at hl 2 rfl) ?_
      obtain ⟨e3, hv, hf⟩ := bd hf
      by_cases he : e3 = 0
      · replace hf := ift he hf
        subst he
        refine q_nv (wr := []) (vx_runV (As := [.int x2]) (rest := []) ⟨hx, hb, hml, hown, hts⟩ (ctX0_requireRoom l hlt dC dI cI cZ cL h a1 a2 a3 a4 a5 _ w r st rc na tp cn rh sr x2 0 hv) (cwV 1 hts (gV mw_227 mw_229 mw_6 mw_38 mw_230) rfl rfl rfl (by decide +kernel) ⟨Nat.le_of_ble_eq_true rfl, Nat.le_of_ble_eq_true rfl⟩) (q_preXV [.int x2] hK hP hD hS hA hZ0 hT hN [0, 1, 2, 3, 4, 5] (by decide) rfl (ci := 0) rfl rfl) rfl rfl hl.1 rfl (lv_room (Nat.le_of_ble_eq_true rfl)) dX0_allocate_10 ⟨(q_le0 _).1, (q_le0 _).2⟩) hP hD hS hA [0, 1, 2, 3, 4, 5] [] rfl rfl (by decide) (by decide) (fun H locs hP hD hS => ?_)
        have hP : va_P (dC, dI) vwCl (wX cI h a1 a2 a3 a4 a5 w r st rc na tp cn rh sr) _ := hP
        have hD : va_D A (wX cI h a1 a2 a3 a4 a5 w r st rc na tp cn rh sr) := hD
        refine lv_aload_n hx hb dX0_allocate_13 rfl (lv_at hl 0 rfl) ?_
        refine lv_iload_n hx hb dX0_allocate_14 rfl (lv_at hl 1 rfl) ?_
        refine lv_iload_n hx hb dX0_allocate_15 rfl (lv_at hl 2 rfl) ?_
        obtain ⟨⟨v4, w_5, r_6, st_7, tp_8, cn_9, sr_10⟩, hv, hf⟩ := bd hf
        dsimp only at hf
        refine q_ci (wr := []) (va_runV (As := [.int x1, .int x2]) (rest := []) ⟨hx, hb, hml, hown, hts⟩ (ctX0_makeObject l dC dI cI cZ cL h a1 a2 a3 a4 a5 _ w r st rc na tp cn rh sr x1 x2 v4 w_5 r_6 st_7 tp_8 cn_9 sr_10 hv) (cwV 2 hts (gV mw_251 mw_253 mw_8 mw_38 mw_254) rfl rfl rfl (by decide +kernel) ⟨Nat.le_of_ble_eq_true rfl, Nat.le_of_ble_eq_true rfl⟩) (q_preV [.int x1, .int x2] hK hP hD [0, 1, 2, 3, 4, 5] (by decide) rfl (ci := 0) rfl rfl) rfl rfl hl.1 rfl (lv_room (Nat.le_of_ble_eq_true rfl)) dX0_allocate_16 ⟨Nat.le_of_ble_eq_true rfl, Nat.le_of_ble_eq_true rfl⟩) hP hD hS hA [0, 1, 2, 3, 4, 5] [] rfl rfl (by decide) (by decide) (fun H locs hP hD hS => ?_)
        have hP : va_P (dC, dI) vwCl (wX cI h a1 a2 a3 a4 a5 w_5 r_6 st_7 rc na tp_8 cn_9 rh sr_10) _ := hP
        have hD : va_D A (wX cI h a1 a2 a3 a4 a5 w_5 r_6 st_7 rc na tp_8 cn_9 rh sr_10) := hD
        have hg0 := Option.some.inj hf
        obtain ⟨hq1, hg1⟩ := Prod.mk.inj hg0
        subst hq1
        obtain ⟨hq2, hg2⟩ := Prod.mk.inj hg1
        subst hq2
        obtain ⟨hq3, hg3⟩ := Prod.mk.inj hg2
        subst hq3
        obtain ⟨hq4, hg4⟩ := Prod.mk.inj hg3
        subst hq4
        obtain ⟨hq5, hg5⟩ := Prod.mk.inj hg4
        subst hq5
        obtain ⟨hq6, hg6⟩ := Prod.mk.inj hg5
        subst hq6
        obtain ⟨hq7, hg7⟩ := Prod.mk.inj hg6
        subst hq7
        subst hg7
        refine vx_ret ?_
        refine W.widen (k := q_mc 0) (n := q_ms 0) (Nat.zero_le _) (Nat.zero_le _) ?_
        exact W.iret hx hb hr (fun t ht hW => ⟨⟨_, (), rfl, ⟨rfl, rfl⟩, by rw [ht]; exact hP, va_K.moved hW.alike hK, hD⟩, hS.F ht⟩) hS.2.2 dX0_allocate_19 hlk
      · replace hf := ifn he hf
        have hg0 := Option.some.inj hf
        obtain ⟨hq1, hg1⟩ := Prod.mk.inj hg0
        subst hq1
        obtain ⟨hq2, hg2⟩ := Prod.mk.inj hg1
        subst hq2
        obtain ⟨hq3, hg3⟩ := Prod.mk.inj hg2
        subst hq3
        obtain ⟨hq4, hg4⟩ := Prod.mk.inj hg3
        subst hq4
        obtain ⟨hq5, hg5⟩ := Prod.mk.inj hg4
        subst hq5
        obtain ⟨hq6, hg6⟩ := Prod.mk.inj hg5
        subst hq6
        obtain ⟨hq7, hg7⟩ := Prod.mk.inj hg6
        subst hq7
        subst hg7
        refine q_tv (wr := []) he (vx_runV (As := [.int x2]) (rest := []) ⟨hx, hb, hml, hown, hts⟩ (ctX0_requireRoom l hlt dC dI cI cZ cL h a1 a2 a3 a4 a5 _ w r st rc na tp cn rh sr x2 e3 hv) (cwV 1 hts (gV mw_227 mw_229 mw_6 mw_38 mw_230) rfl rfl rfl (by decide +kernel) ⟨Nat.le_of_ble_eq_true rfl, Nat.le_of_ble_eq_true rfl⟩) (q_preXV [.int x2] hK hP hD hS hA hZ0 hT hN [0, 1, 2, 3, 4, 5] (by decide) rfl (ci := 0) rfl rfl) rfl rfl hl.1 rfl (lv_room (Nat.le_of_ble_eq_true rfl)) dX0_allocate_10 ⟨q_leC wsX0_allocate (rmX0_allocate e3) rfl, q_leS wsX0_allocate (rmX0_allocate e3) rfl⟩) hP hD hS hA [0, 1, 2, 3, 4, 5] [] rfl rfl (by decide) (by decide) (fun ce q9 H locs hP hD hS hc1 hc2 hc3 => ?_)
        have hP : va_P (dC, dI) vwCl (wX cI h a1 a2 a3 a4 a5 w r st rc na tp cn rh sr) _ := hP
        have hD : va_D A (wX cI h a1 a2 a3 a4 a5 w r st rc na tp cn rh sr) := hD
        exact vx_out (fun x hxx => (hno x hxx).elim) hlk hc1 hc2 hc3 (fun t ht hW => ⟨(), he, ⟨rfl, by rw [ht]; exact hP, va_K.moved hW hK, hD⟩, hS.F ht⟩) hS.2.2 (Nat.le_of_eq (Nat.zero_add _)) (Nat.le_of_eq (Nat.zero_add _))
    · replace hf := ifn he hf
      have hg0 := Option.some.inj hf
      obtain ⟨hq1, hg1⟩ := Prod.mk.inj hg0
      subst hq1
      obtain ⟨hq2, hg2⟩ := Prod.mk.inj hg1
      subst hq2
      obtain ⟨hq3, hg3⟩ := Prod.mk.inj hg2
      subst hq3
      obtain ⟨hq4, hg4⟩ := Prod.mk.inj hg3
      subst hq4
      obtain ⟨hq5, hg5⟩ := Prod.mk.inj hg4
      subst hq5
      obtain ⟨hq6, hg6⟩ := Prod.mk.inj hg5
      subst hq6
      obtain ⟨hq7, hg7⟩ := Prod.mk.inj hg6
      subst hq7
      subst hg7
      refine q_tv (wr := (wX cI h a1 a2 a3 a4 a5 w r st rc na tp cn rh sr)) he (vx_runS (As := [.int x2]) (rest := []) ⟨hx, hb, hml, hown, hts⟩ (ctX0_requireFieldCount l hlt dC dI cI cZ cL _ x2 e2 hv) (va_cwS 1 hts (gS mw_208 mw_209 mw_38 mw_210) rfl rfl rfl (by decide +kernel) ⟨Nat.le_of_ble_eq_true rfl, Nat.le_of_ble_eq_true rfl⟩) (q_preXS [.int x2] hK hP hD hS hA hZ0 hT hN [] (by decide) rfl) rfl rfl hl.1 rfl (lv_room (Nat.le_of_ble_eq_true rfl)) dX0_allocate_5 ⟨q_leC wsX0_allocate (rmX0_allocate e2) rfl, q_leS wsX0_allocate (rmX0_allocate e2) rfl⟩) hP hD hS hA [] [0, 1, 2, 3, 4, 5] rfl rfl (by decide) (by decide) (fun ce q9 H locs hP hD hS hc1 hc2 hc3 => ?_)
      have hP : va_P (dC, dI) vwCl (wX cI h a1 a2 a3 a4 a5 w r st rc na tp cn rh sr) _ := hP
      have hD : va_D A (wX cI h a1 a2 a3 a4 a5 w r st rc na tp cn rh sr) := hD
      exact vx_out (fun x hxx => (hno x hxx).elim) hlk hc1 hc2 hc3 (fun t ht hW => ⟨(), he, ⟨rfl, by rw [ht]; exact hP, va_K.moved hW hK, hD⟩, hS.F ht⟩) hS.2.2 (Nat.le_of_eq (Nat.zero_add _)) (Nat.le_of_eq (Nat.zero_add _))
  · replace hf := ifn he hf
    have hg0 := Option.some.inj hf
    obtain ⟨hq1, hg1⟩ := Prod.mk.inj hg0
    subst hq1
    obtain ⟨hq2, hg2⟩ := Prod.mk.inj hg1
    subst hq2
    obtain ⟨hq3, hg3⟩ := Prod.mk.inj hg2
    subst hq3
    obtain ⟨hq4, hg4⟩ := Prod.mk.inj hg3
    subst hq4
    obtain ⟨hq5, hg5⟩ := Prod.mk.inj hg4
    subst hq5
    obtain ⟨hq6, hg6⟩ := Prod.mk.inj hg5
    subst hq6
    obtain ⟨hq7, hg7⟩ := Prod.mk.inj hg6
    subst hq7
    subst hg7
    refine q_tv (wr := (wX cI h a1 a2 a3 a4 a5 w r st rc na tp cn rh sr)) he (vx_runS (As := [.int x1]) (rest := []) ⟨hx, hb, hml, hown, hts⟩ (ctX0_requireRoot l hlt dC dI cI cZ cL _ x1 e1 hv) (va_cwS 1 hts (gS mw_135 mw_136 mw_38 mw_137) rfl rfl rfl (by decide +kernel) ⟨Nat.le_of_ble_eq_true rfl, Nat.le_of_ble_eq_true rfl⟩) (q_preXS [.int x1] hK hP hD hS hA hZ0 hT hN [] (by decide) rfl) rfl rfl hl.1 rfl (lv_room (Nat.le_of_ble_eq_true rfl)) dX0_allocate_1 ⟨q_leC wsX0_allocate (rmX0_allocate e1) rfl, q_leS wsX0_allocate (rmX0_allocate e1) rfl⟩) hP hD hS hA [] [0, 1, 2, 3, 4, 5] rfl rfl (by decide) (by decide) (fun ce q9 H locs hP hD hS hc1 hc2 hc3 => ?_)
    have hP : va_P (dC, dI) vwCl (wX cI h a1 a2 a3 a4 a5 w r st rc na tp cn rh sr) _ := hP
    have hD : va_D A (wX cI h a1 a2 a3 a4 a5 w r st rc na tp cn rh sr) := hD
    exact vx_out (fun x hxx => (hno x hxx).elim) hlk hc1 hc2 hc3 (fun t ht hW => ⟨(), he, ⟨rfl, by rw [ht]; exact hP, va_K.moved hW hK, hD⟩, hS.F ht⟩) hS.2.2 (Nat.le_of_eq (Nat.zero_add _)) (Nat.le_of_eq (Nat.zero_add _))
