set_option maxHeartbeats 4000000 in
set_option maxRecDepth 100000 in
theorem ctX0_claim (l : Launch) (hlt : l.stackTraces = false) (dC : Nat → ClassId) (dI : Nat → Nat → Nat) (cI cZ cL : ClassId) (h a1 a2 a3 a4 a5 : Nat) (sz : Nat) (w : Nat → Int32) (r : Nat → Int32) (st : Nat → Int32) (rc : Nat → Int32) (na : Nat → Int32) (tp : Int32) (cn : Int32) (rh : Int32) (sr : Int32) (x1 : Int32) (x2 : Int32) (x3 : Int32) (ef : Nat) (rs : Int32) (w' : Nat → Int32) (r' : Nat → Int32) (st' : Nat → Int32) (rc' : Nat → Int32) (na' : Nat → Int32) (tp' : Int32) (cn' : Int32) (rh' : Int32) (sr' : Int32) (hf : fX0_claim w r st rc na tp cn rh sr x1 x2 x3 = some (ef, rs, w', r', st', rc', na', tp', cn', rh', sr')) : vx_Met l yX0_claim wsX0_claim (rmX0_claim ef) (va_Pc [.ref h, .int x1, .int x2, .int x3] (q_preX (dC, dI) vwCl (tyA cI cZ cL) RX0 q_tx sz (wX cI h a1 a2 a3 a4 a5 w r st rc na tp cn rh sr))) (va_Qi (fun r (_ : Unit) => ef = 0 ∧ r = rs) (fun _ => q_post (dC, dI) vwCl (tyA cI cZ cL) (va_A (wX cI h a1 a2 a3 a4 a5 w r st rc na tp cn rh sr) sz) (wX cI h a1 a2 a3 a4 a5 w' r' st' rc' na' tp' cn' rh' sr')) (va_A (wX cI h a1 a2 a3 a4 a5 w r st rc na tp cn rh sr) sz)) (vx_X (fun (_ : Unit) => ¬ ef = 0) (fun E _ t => E = q_E ef ∧ q_post (dC, dI) vwCl (tyA cI cZ cL) (va_A (wX cI h a1 a2 a3 a4 a5 w r st rc na tp cn rh sr) sz) (wX cI h a1 a2 a3 a4 a5 w' r' st' rc' na' tp' cn' rh' sr') t) (va_A (wX cI h a1 a2 a3 a4 a5 w r st rc na tp cn rh sr) sz)) (q_mc ef) (q_ms ef) (va_A (wX cI h a1 a2 a3 a4 a5 w r st rc na tp cn rh sr) sz) := by
  refine vx_ofW (cc := cX0_claim) (maxL := 4) (ret := (some .int)) (by decide) rfl ?_
  intro p e s m args below meth c s₁ B hml hno hv
  obtain ⟨rfl, hsz, hP, hK, hD0, hZ0, hT, hN⟩ := hv
  have hx := B.exec
  have hb := B.bytes
  have hr := B.returns
  have hts := atoms_spec (ws := wsX0_claim) B.pre
  have hown : s.vm.findClass RX0 = some m.cls := findClass_of_methodNamed B.named
  have hlk := B.notSynchronized
  subst hsz
  have hD := hD0.self (sz := s.heap.size)
  generalize hAe : va_A (wX cI h a1 a2 a3 a4 a5 w r st rc na tp cn rh sr) s.heap.size = A at hZ0 hD ⊢
  have hA : ∀ q : Nat, s.heap.size ≤ q → A q := fun q h => by rw [← hAe]; exact Or.inr h
  have hS : va_S A s.heap s.heap [] := va_S.rf
  have hl := lv_entry ([.ref h, .int x1, .int x2, .int x3]) (n := 4) (Nat.le_of_ble_eq_true rfl)
  rw [lg_entry_eq]
  generalize (lg_sl ([.ref h, .int x1, .int x2, .int x3]) ++ List.replicate (4 - (lg_sl ([.ref h, .int x1, .int x2, .int x3])).length) Slot.unset).toArray = ls at hl ⊢
  have hl : lv_has ls 4 [(0, .ref h), (1, .int x1), (2, .int x2), (3, .int x3)] := hl
  unfold fX0_claim at hf
  refine lv_iload_n hx hb dX0_claim_0 rfl (lv_at hl 1 rfl) ?_
  obtain ⟨e1, hv, hf⟩ := bd hf
  by_cases he : e1 = 0
  · replace hf := ift he hf
    subst he
    refine q_nv (wr := (wX cI h a1 a2 a3 a4 a5 w r st rc na tp cn rh sr)) (vx_runS (As := [.int x1]) (rest := []) ⟨hx, hb, hml, hown, hts⟩ (ctX0_requireRoot l hlt dC dI cI cZ cL _ x1 0 hv) (va_cwS 1 hts (gS mw_135 mw_136 mw_38 mw_137) rfl rfl rfl (by decide +kernel) ⟨Nat.le_of_ble_eq_true rfl, Nat.le_of_ble_eq_true rfl⟩) (q_preXS [.int x1] hK hP hD hS hA hZ0 hT hN [] (by decide) rfl) rfl rfl hl.1 rfl (lv_room (Nat.le_of_ble_eq_true rfl)) dX0_claim_1 ⟨(q_le0 _).1, (q_le0 _).2⟩) hP hD hS hA [] [0, 1, 2, 3, 4, 5] rfl rfl (by decide) (by decide) (fun H locs hP hD hS => ?_)
    have hP : va_P (dC, dI) vwCl (wX cI h a1 a2 a3 a4 a5 w r st rc na tp cn rh sr) _ := hP
    have hD : va_D A (wX cI h a1 a2 a3 a4 a5 w r st rc na tp cn rh sr) := hD
    refine lv_iload_n hx hb dX0_claim_4 rfl (lv_at hl 2 rfl) ?_
    obtain ⟨e2, hv, hf⟩ := bd hf
    by_cases he : e2 = 0
    · replace hf := ift he hf
      subst he
      refine q_nv (wr := (wX cI h a1 a2 a3 a4 a5 w r st rc na tp cn rh sr)) (vx_runS (As := [.int x2]) (rest := []) ⟨hx, hb, hml, hown, hts⟩ (ctX0_requireFieldCount l hlt dC dI cI cZ cL _ x2 0 hv) (va_cwS 1 hts (gS mw_208 mw_209 mw_38 mw_210) rfl rfl rfl (by decide +kernel) ⟨Nat.le_of_ble_eq_true rfl, Nat.le_of_ble_eq_true rfl⟩) (q_preXS [.int x2] hK hP hD hS hA hZ0 hT hN [] (by decide) rfl) rfl rfl hl.1 rfl (lv_room (Nat.le_of_ble_eq_true rfl)) dX0_claim_5 ⟨(q_le0 _).1, (q_le0 _).2⟩) hP hD hS hA [] [0, 1, 2, 3, 4, 5] rfl rfl (by decide) (by decide) (fun H locs hP hD hS => ?_)
      have hP : va_P (dC, dI) vwCl (wX cI h a1 a2 a3 a4 a5 w r st rc na tp cn rh sr) _ := hP
      have hD : va_D A (wX cI h a1 a2 a3 a4 a5 w r st rc na tp cn rh sr) := hD
      refine lv_iload_n hx hb dX0_claim_8 rfl (lv_at hl 3 rfl) ?_
      obtain ⟨e3, hv, hf⟩ := bd hf
      by_cases he : e3 = 0
      · replace hf := ift he hf
        subst he
        refine q_nv (wr := (wX cI h a1 a2 a3 a4 a5 w r st rc na tp cn rh sr)) (vx_runS (As := [.int x3]) (rest := []) ⟨hx, hb, hml, hown, hts⟩ (ctX0_requireWay l hlt dC dI cI cZ cL _ x3 0 hv) (va_cwS 1 hts (gS mw_263 mw_264 mw_38 mw_265) rfl rfl rfl (by decide +kernel) ⟨Nat.le_of_ble_eq_true rfl, Nat.le_of_ble_eq_true rfl⟩) (q_preXS [.int x3] hK hP hD hS hA hZ0 hT hN [] (by decide) rfl) rfl rfl hl.1 rfl (lv_room (Nat.le_of_ble_eq_true rfl)) dX0_claim_9 ⟨(q_le0 _).1, (q_le0 _).2⟩) hP hD hS hA [] [0, 1, 2, 3, 4, 5] rfl rfl (by decide) (by decide) (fun H locs hP hD hS => ?_)
        have hP : va_P (dC, dI) vwCl (wX cI h a1 a2 a3 a4 a5 w r st rc na tp cn rh sr) _ := hP
        have hD : va_D A (wX cI h a1 a2 a3 a4 a5 w r st rc na tp cn rh sr) := hD
        refine lv_aload_n hx hb dX0_claim_12 rfl (lv_at hl 0 rfl) ?_
        refine lv_iload_n hx hb dX0_claim_13 rfl (lv_at hl 2 rfl) ?_
        obtain ⟨v4, hv, hf⟩ := bd hf
        refine q_ci (wr := []) (va_runV (As := [.int x2]) (rest := []) ⟨hx, hb, hml, hown, hts⟩ (ctX0_hasRoom l dC dI cI cZ cL h a1 a2 a3 a4 a5 _ w r st rc na tp cn rh sr x2 v4 hv) (cwV 1 hts (gV mw_231 mw_233 mw_7 mw_38 mw_234) rfl rfl rfl (by decide +kernel) ⟨Nat.le_of_ble_eq_true rfl, Nat.le_of_ble_eq_true rfl⟩) (q_preV [.int x2] hK hP hD [0, 1, 2, 3, 4, 5] (by decide) rfl (ci := 0) rfl rfl) rfl rfl hl.1 rfl (lv_room (Nat.le_of_ble_eq_true rfl)) dX0_claim_14 ⟨Nat.le_of_ble_eq_true rfl, Nat.le_of_ble_eq_true rfl⟩) hP hD hS hA [0, 1, 2, 3, 4, 5] [] rfl rfl (by decide) (by decide) (fun H locs hP hD hS => ?_)
        have hP : va_P (dC, dI) vwCl (wX cI h a1 a2 a3 a4 a5 w r st rc na tp cn rh sr) _ := hP
        have hD : va_D A (wX cI h a1 a2 a3 a4 a5 w r st rc na tp cn rh sr) := hD
        refine lv_if_ne (tgt := 35) hx hb dX0_claim_17 (by decide) (fun h5 => ?_) (fun h5 => ?_)
        · have hf := ifn h5 hf
          refine lv_aload_n hx hb dX0_claim_35 rfl (lv_at hl 0 rfl) ?_
          refine lv_iload_n hx hb dX0_claim_36 rfl (lv_at hl 1 rfl) ?_
          refine lv_iload_n hx hb dX0_claim_37 rfl (lv_at hl 2 rfl) ?_
          obtain ⟨⟨v6, w_7, r_8, st_9, tp_10, cn_11, sr_12⟩, hv, hf⟩ := bd hf
          dsimp only at hf
          refine q_ci (wr := []) (va_runV (As := [.int x1, .int x2]) (rest := []) ⟨hx, hb, hml, hown, hts⟩ (ctX0_makeObject l dC dI cI cZ cL h a1 a2 a3 a4 a5 _ w r st rc na tp cn rh sr x1 x2 v6 w_7 r_8 st_9 tp_10 cn_11 sr_12 hv) (cwV 2 hts (gV mw_251 mw_253 mw_8 mw_38 mw_254) rfl rfl rfl (by decide +kernel) ⟨Nat.le_of_ble_eq_true rfl, Nat.le_of_ble_eq_true rfl⟩) (q_preV [.int x1, .int x2] hK hP hD [0, 1, 2, 3, 4, 5] (by decide) rfl (ci := 0) rfl rfl) rfl rfl hl.1 rfl (lv_room (Nat.le_of_ble_eq_true rfl)) dX0_claim_38 ⟨Nat.le_of_ble_eq_true rfl, Nat.le_of_ble_eq_true rfl⟩) hP hD hS hA [0, 1, 2, 3, 4, 5] [] rfl rfl (by decide) (by decide) (fun H locs hP hD hS => ?_)
          have hP : va_P (dC, dI) vwCl (wX cI h a1 a2 a3 a4 a5 w_7 r_8 st_9 rc na tp_10 cn_11 rh sr_12) _ := hP
          have hD : va_D A (wX cI h a1 a2 a3 a4 a5 w_7 r_8 st_9 rc na tp_10 cn_11 rh sr_12) := hD
          have hg0 := Option.some.inj hf
          obtain ⟨hq1, hg1⟩ := Prod.mk.inj hg0
          subst hq1
          obtain ⟨hq2, hg2⟩ := Prod.mk.inj hg1
          subst hq2
          obtain ⟨hq3, hg3⟩ := Prod.mk.inj hg2
          subst hq3
          obtain ⟨hq4, hg4⟩ := Prod.mk.inj hg3
          subst hq4
          obtain ⟨hq5, hg5⟩ := Prod.mk.inj hg4
          subst hq5
          obtain ⟨hq6, hg6⟩ := Prod.mk.inj hg5
          subst hq6
          obtain ⟨hq7, hg7⟩ := Prod.mk.inj hg6
          subst hq7
          obtain ⟨hq8, hg8⟩ := Prod.mk.inj hg7
          subst hq8
          obtain ⟨hq9, hg9⟩ := Prod.mk.inj hg8
          subst hq9
          obtain ⟨hq10, hg10⟩ := Prod.mk.inj hg9
          subst hq10
          subst hg10
          refine vx_ret ?_
          refine W.widen (k := q_mc 0) (n := q_ms 0) (Nat.zero_le _) (Nat.zero_le _) ?_
          exact W.iret hx hb hr (fun t ht hW => ⟨⟨_, (), rfl, ⟨rfl, rfl⟩, by rw [ht]; exact hP, va_K.moved hW.alike hK, hD⟩, hS.F ht⟩) hS.2.2 dX0_claim_41 hlk
        · have hf := ift h5 hf
          refine lv_aload_n hx hb dX0_claim_20 rfl (lv_at hl 0 rfl) ?_
          refine lv_iload_n hx hb dX0_claim_21 rfl (lv_at hl 3 rfl) ?_
          obtain ⟨e13, hv, hf⟩ := bd hf
          by_cases he : e13 = 0
          · replace hf := ift he hf
            subst he
            refine q_nv (wr := []) (vx_runV (As := [.int x3]) (rest := []) ⟨hx, hb, hml, hown, hts⟩ (ctX0_requireSizesFor l hlt dC dI cI cZ cL h a1 a2 a3 a4 a5 _ w r st rc na tp cn rh sr x3 0 hv) (cwV 1 hts (gV mw_267 mw_269 mw_9 mw_38 mw_270) rfl rfl rfl (by decide +kernel) ⟨Nat.le_of_ble_eq_true rfl, Nat.le_of_ble_eq_true rfl⟩) (q_preXV [.int x3] hK hP hD hS hA hZ0 hT hN [0, 1, 2, 3, 4, 5] (by decide) rfl (ci := 0) rfl rfl) rfl rfl hl.1 rfl (lv_room (Nat.le_of_ble_eq_true rfl)) dX0_claim_22 ⟨(q_le0 _).1, (q_le0 _).2⟩) hP hD hS hA [0, 1, 2, 3, 4, 5] [] rfl rfl (by decide) (by decide) (fun H locs hP hD hS => ?_)
            have hP : va_P (dC, dI) vwCl (wX cI h a1 a2 a3 a4 a5 w r st rc na tp cn rh sr) _ := hP
            have hD : va_D A (wX cI h a1 a2 a3 a4 a5 w r st rc na tp cn rh sr) := hD
            refine lv_aload_n hx hb dX0_claim_25 rfl (lv_at hl 0 rfl) ?_
            refine lv_iload_n hx hb dX0_claim_26 rfl (lv_at hl 3 rfl) ?_
            obtain ⟨⟨w_14, r_15, st_16, rc_17, na_18, tp_19, cn_20, rh_21⟩, hv, hf⟩ := bd hf
            dsimp only at hf
            refine q_cv (wr := []) (va_runV (As := [.int x3]) (rest := []) ⟨hx, hb, hml, hown, hts⟩ (ctX0_moveTogether l dC dI cI cZ cL h a1 a2 a3 a4 a5 _ w r st rc na tp cn rh sr x3 w_14 r_15 st_16 rc_17 na_18 tp_19 cn_20 rh_21 hv) (cwV 1 hts (gV mw_291 mw_293 mw_11 mw_38 mw_294) rfl rfl rfl (by decide +kernel) ⟨Nat.le_of_ble_eq_true rfl, Nat.le_of_ble_eq_true rfl⟩) (q_preV [.int x3] hK hP hD [0, 1, 2, 3, 4, 5] (by decide) rfl (ci := 0) rfl rfl) rfl rfl hl.1 rfl (lv_room (Nat.le_of_ble_eq_true rfl)) dX0_claim_27 ⟨Nat.le_of_ble_eq_true rfl, Nat.le_of_ble_eq_true rfl⟩) hP hD hS hA [0, 1, 2, 3, 4, 5] [] rfl rfl (by decide) (by decide) (fun H locs hP hD hS => ?_)
            have hP : va_P (dC, dI) vwCl (wX cI h a1 a2 a3 a4 a5 w_14 r_15 st_16 rc_17 na_18 tp_19 cn_20 rh_21 sr) _ := hP
            have hD : va_D A (wX cI h a1 a2 a3 a4 a5 w_14 r_15 st_16 rc_17 na_18 tp_19 cn_20 rh_21 sr) := hD
            refine lv_aload_n hx hb dX0_claim_30 rfl (lv_at hl 0 rfl) ?_
            refine lv_iload_n hx hb dX0_claim_31 rfl (lv_at hl 2 rfl) ?_
            obtain ⟨e22, hv, hf⟩ := bd hf
            by_cases he : e22 = 0
            · replace hf := ift he hf
              subst he
              refine q_nv (wr := []) (vx_runV (As := [.int x2]) (rest := []) ⟨hx, hb, hml, hown, hts⟩ (ctX0_requireRoom l hlt dC dI cI cZ cL h a1 a2 a3 a4 a5 _ w_14 r_15 st_16 rc_17 na_18 tp_19 cn_20 rh_21 sr x2 0 hv) (cwV 1 hts (gV mw_227 mw_229 mw_6 mw_38 mw_230) rfl rfl rfl (by decide +kernel) ⟨Nat.le_of_ble_eq_true rfl, Nat.le_of_ble_eq_true rfl⟩) (q_preXV [.int x2] hK hP hD hS hA hZ0 hT hN [0, 1, 2, 3, 4, 5] (by decide) rfl (ci := 0) rfl rfl) rfl rfl hl.1 rfl (lv_room (Nat.le_of_ble_eq_true rfl)) dX0_claim_32 ⟨(q_le0 _).1, (q_le0 _).2⟩) hP hD hS hA [0, 1, 2, 3, 4, 5] [] rfl rfl (by decide) (by decide) (fun H locs hP hD hS => ?_)
              have hP : va_P (dC, dI) vwCl (wX cI h a1 a2 a3 a4 a5 w_14 r_15 st_16 rc_17 na_18 tp_19 cn_20 rh_21 sr) _ := hP
              have hD : va_D A (wX cI h a1 a2 a3 a4 a5 w_14 r_15 st_16 rc_17 na_18 tp_19 cn_20 rh_21 sr) := hD
              refine lv_aload_n hx hb dX0_claim_35 rfl (lv_at hl 0 rfl) ?_
              refine lv_iload_n hx hb dX0_claim_36 rfl (lv_at hl 1 rfl) ?_
              refine lv_iload_n hx hb dX0_claim_37 rfl (lv_at hl 2 rfl) ?_
              obtain ⟨⟨v23, w_24, r_25, st_26, tp_27, cn_28, sr_29⟩, hv, hf⟩ := bd hf
              dsimp only at hf
              refine q_ci (wr := []) (va_runV (As := [.int x1, .int x2]) (rest := []) ⟨hx, hb, hml, hown, hts⟩ (ctX0_makeObject l dC dI cI cZ cL h a1 a2 a3 a4 a5 _ w_14 r_15 st_16 rc_17 na_18 tp_19 cn_20 rh_21 sr x1 x2 v23 w_24 r_25 st_26 tp_27 cn_28 sr_29 hv) (cwV 2 hts (gV mw_251 mw_253 mw_8 mw_38 mw_254) rfl rfl rfl (by decide +kernel) ⟨Nat.le_of_ble_eq_true rfl, Nat.le_of_ble_eq_true rfl⟩) (q_preV [.int x1, .int x2] hK hP hD [0, 1, 2, 3, 4, 5] (by decide) rfl (ci := 0) rfl rfl) rfl rfl hl.1 rfl (lv_room (Nat.le_of_ble_eq_true rfl)) dX0_claim_38 ⟨Nat.le_of_ble_eq_true rfl, Nat.le_of_ble_eq_true rfl⟩) hP hD hS hA [0, 1, 2, 3, 4, 5] [] rfl rfl (by decide) (by decide) (fun H locs hP hD hS => ?_)
              have hP : va_P (dC, dI) vwCl (wX cI h a1 a2 a3 a4 a5 w_24 r_25 st_26 rc_17 na_18 tp_27 cn_28 rh_21 sr_29) _ := hP
              have hD : va_D A (wX cI h a1 a2 a3 a4 a5 w_24 r_25 st_26 rc_17 na_18 tp_27 cn_28 rh_21 sr_29) := hD
              have hg0 := Option.some.inj hf
              obtain ⟨hq1, hg1⟩ := Prod.mk.inj hg0
              subst hq1
              obtain ⟨hq2, hg2⟩ := Prod.mk.inj hg1
              subst hq2
              obtain ⟨hq3, hg3⟩ := Prod.mk.inj hg2
              subst hq3
              obtain ⟨hq4, hg4⟩ := Prod.mk.inj hg3
              subst hq4
              obtain ⟨hq5, hg5⟩ := Prod.mk.inj hg4
              subst hq5
              obtain ⟨hq6, hg6⟩ := Prod.mk.inj hg5
              subst hq6
              obtain ⟨hq7, hg7⟩ := Prod.mk.inj hg6
              subst hq7
              obtain ⟨hq8, hg8⟩ := Prod.mk.inj hg7
              subst hq8
              obtain ⟨hq9, hg9⟩ := Prod.mk.inj hg8
              subst hq9
              obtain ⟨hq10, hg10⟩ := Prod.mk.inj hg9
              subst hq10
              subst hg10
              refine vx_ret ?_
              refine W.widen (k := q_mc 0) (n := q_ms 0) (Nat.zero_le _) (Nat.zero_le _) ?_
              exact W.iret hx hb hr (fun t ht hW => ⟨⟨_, (), rfl, ⟨rfl, rfl⟩, by rw [ht]; exact hP, va_K.moved hW.alike hK, hD⟩, hS.F ht⟩) hS.2.2 dX0_claim_41 hlk
            · replace hf := ifn he hf
              have hg0 := Option.some.inj hf
              obtain ⟨hq1, hg1⟩ := Prod.mk.inj hg0
              subst hq1
              obtain ⟨hq2, hg2⟩ := Prod.mk.inj hg1
              subst hq2
              obtain ⟨hq3, hg3⟩ := Prod.mk.inj hg2
              subst hq3
              obtain ⟨hq4, hg4⟩ := Prod.mk.inj hg3
              subst hq4
              obtain ⟨hq5, hg5⟩ := Prod.mk.inj hg4
              subst hq5
              obtain ⟨hq6, hg6⟩ := Prod.mk.inj hg5
              subst hq6
              obtain ⟨hq7, hg7⟩ := Prod.mk.inj hg6
              subst hq7
              obtain ⟨hq8, hg8⟩ := Prod.mk.inj hg7
              subst hq8
              obtain ⟨hq9, hg9⟩ := Prod.mk.inj hg8
              subst hq9
              obtain ⟨hq10, hg10⟩ := Prod.mk.inj hg9
              subst hq10
              subst hg10
              refine q_tv (wr := []) he (vx_runV (As := [.int x2]) (rest := []) ⟨hx, hb, hml, hown, hts⟩ (ctX0_requireRoom l hlt dC dI cI cZ cL h a1 a2 a3 a4 a5 _ w_14 r_15 st_16 rc_17 na_18 tp_19 cn_20 rh_21 sr x2 e22 hv) (cwV 1 hts (gV mw_227 mw_229 mw_6 mw_38 mw_230) rfl rfl rfl (by decide +kernel) ⟨Nat.le_of_ble_eq_true rfl, Nat.le_of_ble_eq_true rfl⟩) (q_preXV [.int x2] hK hP hD hS hA hZ0 hT hN [0, 1, 2, 3, 4, 5] (by decide) rfl (ci := 0) rfl rfl) rfl rfl hl.1 rfl (lv_room (Nat.le_of_ble_eq_true rfl)) dX0_claim_32 ⟨q_leC wsX0_claim (rmX0_claim e22) rfl, q_leS wsX0_claim (rmX0_claim e22) rfl⟩) hP hD hS hA [0, 1, 2, 3, 4, 5] [] rfl rfl (by decide) (by decide) (fun ce q9 H locs hP hD hS hc1 hc2 hc3 => ?_)
              have hP : va_P (dC, dI) vwCl (wX cI h a1 a2 a3 a4 a5 w_14 r_15 st_16 rc_17 na_18 tp_19 cn_20 rh_21 sr) _ := hP
              have hD : va_D A (wX cI h a1 a2 a3 a4 a5 w_14 r_15 st_16 rc_17 na_18 tp_19 cn_20 rh_21 sr) := hD
              exact vx_out (fun x hxx => (hno x hxx).elim) hlk hc1 hc2 hc3 (fun t ht hW => ⟨(), he, ⟨rfl, by rw [ht]; exact hP, va_K.moved hW hK, hD⟩, hS.F ht⟩) hS.2.2 (Nat.le_of_eq (Nat.zero_add _)) (Nat.le_of_eq (Nat.zero_add _))
          · replace hf := ifn he hf
            have hg0 := Option.some.inj hf
            obtain ⟨hq1, hg1⟩ := Prod.mk.inj hg0
            subst hq1
            obtain ⟨hq2, hg2⟩ := Prod.mk.inj hg1
            subst hq2
            obtain ⟨hq3, hg3⟩ := Prod.mk.inj hg2
            subst hq3
            obtain ⟨hq4, hg4⟩ := Prod.mk.inj hg3
            subst hq4
            obtain ⟨hq5, hg5⟩ := Prod.mk.inj hg4
            subst hq5
            obtain ⟨hq6, hg6⟩ := Prod.mk.inj hg5
            subst hq6
            obtain ⟨hq7, hg7⟩ := Prod.mk.inj hg6
            subst hq7
            obtain ⟨hq8, hg8⟩ := Prod.mk.inj hg7
            subst hq8
            obtain ⟨hq9, hg9⟩ := Prod.mk.inj hg8
            subst hq9
            obtain ⟨hq10, hg10⟩ := Prod.mk.inj hg9
            subst hq10
            subst hg10
            refine q_tv (wr := []) he (vx_runV (As := [.int x3]) (rest := []) ⟨hx, hb, hml, hown, hts⟩ (ctX0_requireSizesFor l hlt dC dI cI cZ cL h a1 a2 a3 a4 a5 _ w r st rc na tp cn rh sr x3 e13 hv) (cwV 1 hts (gV mw_267 mw_269 mw_9 mw_38 mw_270) rfl rfl rfl (by decide +kernel) ⟨Nat.le_of_ble_eq_true rfl, Nat.le_of_ble_eq_true rfl⟩) (q_preXV [.int x3] hK hP hD hS hA hZ0 hT hN [0, 1, 2, 3, 4, 5] (by decide) rfl (ci := 0) rfl rfl) rfl rfl hl.1 rfl (lv_room (Nat.le_of_ble_eq_true rfl)) dX0_claim_22 ⟨q_leC wsX0_claim (rmX0_claim e13) rfl, q_leS wsX0_claim (rmX0_claim e13) rfl⟩) hP hD hS hA [0, 1, 2, 3, 4, 5] [] rfl rfl (by decide) (by decide) (fun ce q9 H locs hP hD hS hc1 hc2 hc3 => ?_)
            have hP : va_P (dC, dI) vwCl (wX cI h a1 a2 a3 a4 a5 w r st rc na tp cn rh sr) _ := hP
            have hD : va_D A (wX cI h a1 a2 a3 a4 a5 w r st rc na tp cn rh sr) := hD
            exact vx_out (fun x hxx => (hno x hxx).elim) hlk hc1 hc2 hc3 (fun t ht hW => ⟨(), he, ⟨rfl, by rw [ht]; exact hP, va_K.moved hW hK, hD⟩, hS.F ht⟩) hS.2.2 (Nat.le_of_eq (Nat.zero_add _)) (Nat.le_of_eq (Nat.zero_add _))
      · replace hf := ifn he hf
        have hg0 := Option.some.inj hf
        obtain ⟨hq1, hg1⟩ := Prod.mk.inj hg0
        subst hq1
        obtain ⟨hq2, hg2⟩ := Prod.mk.inj hg1
        subst hq2
        obtain ⟨hq3, hg3⟩ := Prod.mk.inj hg2
        subst hq3
        obtain ⟨hq4, hg4⟩ := Prod.mk.inj hg3
        subst hq4
        obtain ⟨hq5, hg5⟩ := Prod.mk.inj hg4
        subst hq5
        obtain ⟨hq6, hg6⟩ := Prod.mk.inj hg5
        subst hq6
        obtain ⟨hq7, hg7⟩ := Prod.mk.inj hg6
        subst hq7
        obtain ⟨hq8, hg8⟩ := Prod.mk.inj hg7
        subst hq8
        obtain ⟨hq9, hg9⟩ := Prod.mk.inj hg8
        subst hq9
        obtain ⟨hq10, hg10⟩ := Prod.mk.inj hg9
        subst hq10
        subst hg10
        refine q_tv (wr := (wX cI h a1 a2 a3 a4 a5 w r st rc na tp cn rh sr)) he (vx_runS (As := [.int x3]) (rest := []) ⟨hx, hb, hml, hown, hts⟩ (ctX0_requireWay l hlt dC dI cI cZ cL _ x3 e3 hv) (va_cwS 1 hts (gS mw_263 mw_264 mw_38 mw_265) rfl rfl rfl (by decide +kernel) ⟨Nat.le_of_ble_eq_true rfl, Nat.le_of_ble_eq_true rfl⟩) (q_preXS [.int x3] hK hP hD hS hA hZ0 hT hN [] (by decide) rfl) rfl rfl hl.1 rfl (lv_room (Nat.le_of_ble_eq_true rfl)) dX0_claim_9 ⟨q_leC wsX0_claim (rmX0_claim e3) rfl, q_leS wsX0_claim (rmX0_claim e3) rfl⟩) hP hD hS hA [] [0, 1, 2, 3, 4, 5] rfl rfl (by decide) (by decide) (fun ce q9 H locs hP hD hS hc1 hc2 hc3 => ?_)
        have hP : va_P (dC, dI) vwCl (wX cI h a1 a2 a3 a4 a5 w r st rc na tp cn rh sr) _ := hP
        have hD : va_D A (wX cI h a1 a2 a3 a4 a5 w r st rc na tp cn rh sr) := hD
        exact vx_out (fun x hxx => (hno x hxx).elim) hlk hc1 hc2 hc3 (fun t ht hW => ⟨(), he, ⟨rfl, by rw [ht]; exact hP, va_K.moved hW hK, hD⟩, hS.F ht⟩) hS.2.2 (Nat.le_of_eq (Nat.zero_add _)) (Nat.le_of_eq (Nat.zero_add _))
    · replace hf := ifn he hf
      have hg0 := Option.some.inj hf
      obtain ⟨hq1, hg1⟩ := Prod.mk.inj hg0
      subst hq1
      obtain ⟨hq2, hg2⟩ := Prod.mk.inj hg1
      subst hq2
      obtain ⟨hq3, hg3⟩ := Prod.mk.inj hg2
      subst hq3
      obtain ⟨hq4, hg4⟩ := Prod.mk.inj hg3
      subst hq4
      obtain ⟨hq5, hg5⟩ := Prod.mk.inj hg4
      subst hq5
      obtain ⟨hq6, hg6⟩ := Prod.mk.inj hg5
      subst hq6
      obtain ⟨hq7, hg7⟩ := Prod.mk.inj hg6
      subst hq7
      obtain ⟨hq8, hg8⟩ := Prod.mk.inj hg7
      subst hq8
      obtain ⟨hq9, hg9⟩ := Prod.mk.inj hg8
      subst hq9
      obtain ⟨hq10, hg10⟩ := Prod.mk.inj hg9
      subst hq10
      subst hg10
      refine q_tv (wr := (wX cI h a1 a2 a3 a4 a5 w r st rc na tp cn rh sr)) he (vx_runS (As := [.int x2]) (rest := []) ⟨hx, hb, hml, hown, hts⟩ (ctX0_requireFieldCount l hlt dC dI cI cZ cL _ x2 e2 hv) (va_cwS 1 hts (gS mw_208 mw_209 mw_38 mw_210) rfl rfl rfl (by decide +kernel) ⟨Nat.le_of_ble_eq_true rfl, Nat.le_of_ble_eq_true rfl⟩) (q_preXS [.int x2] hK hP hD hS hA hZ0 hT hN [] (by decide) rfl) rfl rfl hl.1 rfl (lv_room (Nat.le_of_ble_eq_true rfl)) dX0_claim_5 ⟨q_leC wsX0_claim (rmX0_claim e2) rfl, q_leS wsX0_claim (rmX0_claim e2) rfl⟩) hP hD hS hA [] [0, 1, 2, 3, 4, 5] rfl rfl (by decide) (by decide) (fun ce q9 H locs hP hD hS hc1 hc2 hc3 => ?_)
      have hP : va_P (dC, dI) vwCl (wX cI h a1 a2 a3 a4 a5 w r st rc na tp cn rh sr) _ := hP
      have hD : va_D A (wX cI h a1 a2 a3 a4 a5 w r st rc na tp cn rh sr) := hD
      exact vx_out (fun x hxx => (hno x hxx).elim) hlk hc1 hc2 hc3 (fun t ht hW => ⟨(), he, ⟨rfl, by rw [ht]; exact hP, va_K.moved hW hK, hD⟩, hS.F ht⟩) hS.2.2 (Nat.le_of_eq (Nat.zero_add _)) (Nat.le_of_eq (Nat.zero_add _))
  · replace hf := ifn he hf
    have hg0 := Option.some.inj hf
    obtain ⟨hq1, hg1⟩ := Prod.mk.inj hg0
    subst hq1
    obtain ⟨hq2, hg2⟩ := Prod.mk.inj hg1
    subst hq2
    obtain ⟨hq3, hg3⟩ := Prod.mk.inj hg2
    subst hq3
    obtain ⟨hq4, hg4⟩ := Prod.mk.inj hg3
    subst hq4
    obtain ⟨hq5, hg5⟩ := Prod.mk.inj hg4
    subst hq5
    obtain ⟨hq6, hg6⟩ := Prod.mk.inj hg5
    subst hq6
    obtain ⟨hq7, hg7⟩ := Prod.mk.inj hg6
    subst hq7
    obtain ⟨hq8, hg8⟩ := Prod.mk.inj hg7
    subst hq8
    obtain ⟨hq9, hg9⟩ := Prod.mk.inj hg8
    subst hq9
    obtain ⟨hq10, hg10⟩ := Prod.mk.inj hg9
    subst hq10
    subst hg10
    refine q_tv (wr := (wX cI h a1 a2 a3 a4 a5 w r st rc na tp cn rh sr)) he (vx_runS (As := [.int x1]) (rest := []) ⟨hx, hb, hml, hown, hts⟩ (ctX0_requireRoot l hlt dC dI cI cZ cL _ x1 e1 hv) (va_cwS 1 hts (gS mw_135 mw_136 mw_38 mw_137) rfl rfl rfl (by decide +kernel) ⟨Nat.le_of_ble_eq_true rfl, Nat.le_of_ble_eq_true rfl⟩) (q_preXS [.int x1] hK hP hD hS hA hZ0 hT hN [] (by decide) rfl) rfl rfl hl.1 rfl (lv_room (Nat.le_of_ble_eq_true rfl)) dX0_claim_1 ⟨q_leC wsX0_claim (rmX0_claim e1) rfl, q_leS wsX0_claim (rmX0_claim e1) rfl⟩) hP hD hS hA [] [0, 1, 2, 3, 4, 5] rfl rfl (by decide) (by decide) (fun ce q9 H locs hP hD hS hc1 hc2 hc3 => ?_)
    have hP : va_P (dC, dI) vwCl (wX cI h a1 a2 a3 a4 a5 w r st rc na tp cn rh sr) _ := hP
    have hD : va_D A (wX cI h a1 a2 a3 a4 a5 w r st rc na tp cn rh sr) := hD
    exact vx_out (fun x hxx => (hno x hxx).elim) hlk hc1 hc2 hc3 (fun t ht hW => ⟨(), he, ⟨rfl, by rw [ht]; exact hP, va_K.moved hW hK, hD⟩, hS.F ht⟩) hS.2.2 (Nat.le_of_eq (Nat.zero_add _)) (Nat.le_of_eq (Nat.zero_add _))
set_option maxHeartbeats 4000000 in
set_option maxRecDepth 100000 in
theorem ctX0_compact (l : Launch) (hlt : l.stackTraces = false) (dC : Nat → ClassId) (dI : Nat → Nat → Nat) (cI cZ cL : ClassId) (h a1 a2 a3 a4 a5 : Nat) (sz : Nat) (w : Nat → Int32) (r : Nat → Int32) (st : Nat → Int32) (rc : Nat → Int32) (na : Nat → Int32) (tp : Int32) (cn : Int32) (rh : Int32) (sr : Int32) (x1 : Int32) (ef : Nat) (rs : Int32) (w' : Nat → Int32) (r' : Nat → Int32) (st' : Nat → Int32) (rc' : Nat → Int32) (na' : Nat → Int32) (tp' : Int32) (cn' : Int32) (rh' : Int32) (hf : fX0_compact w r st rc na tp cn rh x1 = some (ef, rs, w', r', st', rc', na', tp', cn', rh')) : vx_Met l yX0_compact wsX0_compact (rmX0_compact ef) (va_Pc [.ref h, .int x1] (q_preX (dC, dI) vwCl (tyA cI cZ cL) RX0 q_tx sz (wX cI h a1 a2 a3 a4 a5 w r st rc na tp cn rh sr))) (va_Qi (fun r (_ : Unit) => ef = 0 ∧ r = rs) (fun _ => q_post (dC, dI) vwCl (tyA cI cZ cL) (va_A (wX cI h a1 a2 a3 a4 a5 w r st rc na tp cn rh sr) sz) (wX cI h a1 a2 a3 a4 a5 w' r' st' rc' na' tp' cn' rh' sr)) (va_A (wX cI h a1 a2 a3 a4 a5 w r st rc na tp cn rh sr) sz)) (vx_X (fun (_ : Unit) => ¬ ef = 0) (fun E _ t => E = q_E ef ∧ q_post (dC, dI) vwCl (tyA cI cZ cL) (va_A (wX cI h a1 a2 a3 a4 a5 w r st rc na tp cn rh sr) sz) (wX cI h a1 a2 a3 a4 a5 w' r' st' rc' na' tp' cn' rh' sr) t) (va_A (wX cI h a1 a2 a3 a4 a5 w r st rc na tp cn rh sr) sz)) (q_mc ef) (q_ms ef) (va_A (wX cI h a1 a2 a3 a4 a5 w r st rc na tp cn rh sr) sz) := by
  refine vx_ofW (cc := cX0_compact) (maxL := 3) (ret := (some .int)) (by decide) rfl ?_
  intro p e s m args below meth c s₁ B hml hno hv
  obtain ⟨rfl, hsz, hP, hK, hD0, hZ0, hT, hN⟩ := hv
  have hx := B.exec
  have hb := B.bytes
  have hr := B.returns
  have hts := atoms_spec (ws := wsX0_compact) B.pre
  have hown : s.vm.findClass RX0 = some m.cls := findClass_of_methodNamed B.named
  have hlk := B.notSynchronized
  subst hsz
  have hD := hD0.self (sz := s.heap.size)
  generalize hAe : va_A (wX cI h a1 a2 a3 a4 a5 w r st rc na tp cn rh sr) s.heap.size = A at hZ0 hD ⊢
  have hA : ∀ q : Nat, s.heap.size ≤ q → A q := fun q h => by rw [← hAe]; exact Or.inr h
  have hS : va_S A s.heap s.heap [] := va_S.rf
  have hl := lv_entry ([.ref h, .int x1]) (n := 3) (Nat.le_of_ble_eq_true rfl)
  rw [lg_entry_eq]
  generalize (lg_sl ([.ref h, .int x1]) ++ List.replicate (3 - (lg_sl ([.ref h, .int x1])).length) Slot.unset).toArray = ls at hl ⊢
  have hl : lv_has ls 3 [(0, .ref h), (1, .int x1)] := hl
  unfold fX0_compact at hf
  refine lv_iload_n hx hb dX0_compact_0 rfl (lv_at hl 1 rfl) ?_
  obtain ⟨e1, hv, hf⟩ := bd hf
  by_cases he : e1 = 0
  · replace hf := ift he hf
    subst he
    refine q_nv (wr := (wX cI h a1 a2 a3 a4 a5 w r st rc na tp cn rh sr)) (vx_runS (As := [.int x1]) (rest := []) ⟨hx, hb, hml, hown, hts⟩ (ctX0_requireWay l hlt dC dI cI cZ cL _ x1 0 hv) (va_cwS 1 hts (gS mw_263 mw_264 mw_38 mw_265) rfl rfl rfl (by decide +kernel) ⟨Nat.le_of_ble_eq_true rfl, Nat.le_of_ble_eq_true rfl⟩) (q_preXS [.int x1] hK hP hD hS hA hZ0 hT hN [] (by decide) rfl) rfl rfl hl.1 rfl (lv_room (Nat.le_of_ble_eq_true rfl)) dX0_compact_1 ⟨(q_le0 _).1, (q_le0 _).2⟩) hP hD hS hA [] [0, 1, 2, 3, 4, 5] rfl rfl (by decide) (by decide) (fun H locs hP hD hS => ?_)
    have hP : va_P (dC, dI) vwCl (wX cI h a1 a2 a3 a4 a5 w r st rc na tp cn rh sr) _ := hP
    have hD : va_D A (wX cI h a1 a2 a3 a4 a5 w r st rc na tp cn rh sr) := hD
    refine lv_aload_n hx hb dX0_compact_4 rfl (lv_at hl 0 rfl) ?_
    refine lv_iload_n hx hb dX0_compact_5 rfl (lv_at hl 1 rfl) ?_
    obtain ⟨e2, hv, hf⟩ := bd hf
    by_cases he : e2 = 0
    · replace hf := ift he hf
      subst he
      refine q_nv (wr := []) (vx_runV (As := [.int x1]) (rest := []) ⟨hx, hb, hml, hown, hts⟩ (ctX0_requireSizesFor l hlt dC dI cI cZ cL h a1 a2 a3 a4 a5 _ w r st rc na tp cn rh sr x1 0 hv) (cwV 1 hts (gV mw_267 mw_269 mw_9 mw_38 mw_270) rfl rfl rfl (by decide +kernel) ⟨Nat.le_of_ble_eq_true rfl, Nat.le_of_ble_eq_true rfl⟩) (q_preXV [.int x1] hK hP hD hS hA hZ0 hT hN [0, 1, 2, 3, 4, 5] (by decide) rfl (ci := 0) rfl rfl) rfl rfl hl.1 rfl (lv_room (Nat.le_of_ble_eq_true rfl)) dX0_compact_6 ⟨(q_le0 _).1, (q_le0 _).2⟩) hP hD hS hA [0, 1, 2, 3, 4, 5] [] rfl rfl (by decide) (by decide) (fun H locs hP hD hS => ?_)
      have hP : va_P (dC, dI) vwCl (wX cI h a1 a2 a3 a4 a5 w r st rc na tp cn rh sr) _ := hP
      have hD : va_D A (wX cI h a1 a2 a3 a4 a5 w r st rc na tp cn rh sr) := hD
      refine lv_aload_n hx hb dX0_compact_9 rfl (lv_at hl 0 rfl) ?_
      refine va_get (D := (dC, dI)) (ci := 0) (v := .int tp) (C := RX0) (T := TX0) (N := 9) hx hb hts (fun w hw => List.mem_cons_of_mem _ (inX0 w hw)) hown hK hP 0 rfl rfl 5 (by decide) (hts _ (List.mem_cons_of_mem _ mw_66)) (fun _ h9 => h9) rfl dX0_compact_10 ?_
      refine lv_istore_n hx hb dX0_compact_13 rfl hl (by decide) rfl (fun ls hl => ?_)
      have hl : lv_has ls 3 [(2, .int tp), (0, .ref h), (1, .int x1)] := hl
      refine lv_aload_n hx hb dX0_compact_14 rfl (lv_at hl 1 rfl) ?_
      refine lv_iload_n hx hb dX0_compact_15 rfl (lv_at hl 2 rfl) ?_
      obtain ⟨⟨w_3, r_4, st_5, rc_6, na_7, tp_8, cn_9, rh_10⟩, hv, hf⟩ := bd hf
      dsimp only at hf
      refine q_cv (wr := []) (va_runV (As := [.int x1]) (rest := []) ⟨hx, hb, hml, hown, hts⟩ (ctX0_moveTogether l dC dI cI cZ cL h a1 a2 a3 a4 a5 _ w r st rc na tp cn rh sr x1 w_3 r_4 st_5 rc_6 na_7 tp_8 cn_9 rh_10 hv) (cwV 1 hts (gV mw_291 mw_293 mw_11 mw_38 mw_294) rfl rfl rfl (by decide +kernel) ⟨Nat.le_of_ble_eq_true rfl, Nat.le_of_ble_eq_true rfl⟩) (q_preV [.int x1] hK hP hD [0, 1, 2, 3, 4, 5] (by decide) rfl (ci := 0) rfl rfl) rfl rfl hl.1 rfl (lv_room (Nat.le_of_ble_eq_true rfl)) dX0_compact_16 ⟨Nat.le_of_ble_eq_true rfl, Nat.le_of_ble_eq_true rfl⟩) hP hD hS hA [0, 1, 2, 3, 4, 5] [] rfl rfl (by decide) (by decide) (fun H locs hP hD hS => ?_)
      have hP : va_P (dC, dI) vwCl (wX cI h a1 a2 a3 a4 a5 w_3 r_4 st_5 rc_6 na_7 tp_8 cn_9 rh_10 sr) _ := hP
      have hD : va_D A (wX cI h a1 a2 a3 a4 a5 w_3 r_4 st_5 rc_6 na_7 tp_8 cn_9 rh_10 sr) := hD
      refine lv_iload_n hx hb dX0_compact_19 rfl (lv_at hl 0 rfl) ?_
      refine lv_aload_n hx hb dX0_compact_20 rfl (lv_at hl 1 rfl) ?_
      refine va_get (D := (dC, dI)) (ci := 0) (v := .int tp_8) (C := RX0) (T := TX0) (N := 9) hx hb hts (fun w hw => List.mem_cons_of_mem _ (inX0 w hw)) hown hK hP 0 rfl rfl 5 (by decide) (hts _ (List.mem_cons_of_mem _ mw_66)) (fun _ h9 => h9) rfl dX0_compact_21 ?_
      refine lv_isub hx hb dX0_compact_24 ?_
      have hg0 := Option.some.inj hf
      obtain ⟨hq1, hg1⟩ := Prod.mk.inj hg0
      subst hq1
      obtain ⟨hq2, hg2⟩ := Prod.mk.inj hg1
      subst hq2
      obtain ⟨hq3, hg3⟩ := Prod.mk.inj hg2
      subst hq3
      obtain ⟨hq4, hg4⟩ := Prod.mk.inj hg3
      subst hq4
      obtain ⟨hq5, hg5⟩ := Prod.mk.inj hg4
      subst hq5
      obtain ⟨hq6, hg6⟩ := Prod.mk.inj hg5
      subst hq6
      obtain ⟨hq7, hg7⟩ := Prod.mk.inj hg6
      subst hq7
      obtain ⟨hq8, hg8⟩ := Prod.mk.inj hg7
      subst hq8
      obtain ⟨hq9, hg9⟩ := Prod.mk.inj hg8
      subst hq9
      subst hg9
      refine vx_ret ?_
      refine W.widen (k := q_mc 0) (n := q_ms 0) (Nat.zero_le _) (Nat.zero_le _) ?_
      exact W.iret hx hb hr (fun t ht hW => ⟨⟨_, (), rfl, ⟨rfl, rfl⟩, by rw [ht]; exact hP, va_K.moved hW.alike hK, hD⟩, hS.F ht⟩) hS.2.2 dX0_compact_25 hlk
    · replace hf := ifn he hf
      have hg0 := Option.some.inj hf
      obtain ⟨hq1, hg1⟩ := Prod.mk.inj hg0
      subst hq1
      obtain ⟨hq2, hg2⟩ := Prod.mk.inj hg1
      subst hq2
      obtain ⟨hq3, hg3⟩ := Prod.mk.inj hg2
      subst hq3
      obtain ⟨hq4, hg4⟩ := Prod.mk.inj hg3
      subst hq4
      obtain ⟨hq5, hg5⟩ := Prod.mk.inj hg4
      subst hq5
      obtain ⟨hq6, hg6⟩ := Prod.mk.inj hg5
      subst hq6
      obtain ⟨hq7, hg7⟩ := Prod.mk.inj hg6
      subst hq7
      obtain ⟨hq8, hg8⟩ := Prod.mk.inj hg7
      subst hq8
      obtain ⟨hq9, hg9⟩ := Prod.mk.inj hg8
      subst hq9
      subst hg9
      refine q_tv (wr := []) he (vx_runV (As := [.int x1]) (rest := []) ⟨hx, hb, hml, hown, hts⟩ (ctX0_requireSizesFor l hlt dC dI cI cZ cL h a1 a2 a3 a4 a5 _ w r st rc na tp cn rh sr x1 e2 hv) (cwV 1 hts (gV mw_267 mw_269 mw_9 mw_38 mw_270) rfl rfl rfl (by decide +kernel) ⟨Nat.le_of_ble_eq_true rfl, Nat.le_of_ble_eq_true rfl⟩) (q_preXV [.int x1] hK hP hD hS hA hZ0 hT hN [0, 1, 2, 3, 4, 5] (by decide) rfl (ci := 0) rfl rfl) rfl rfl hl.1 rfl (lv_room (Nat.le_of_ble_eq_true rfl)) dX0_compact_6 ⟨q_leC wsX0_compact (rmX0_compact e2) rfl, q_leS wsX0_compact (rmX0_compact e2) rfl⟩) hP hD hS hA [0, 1, 2, 3, 4, 5] [] rfl rfl (by decide) (by decide) (fun ce q9 H locs hP hD hS hc1 hc2 hc3 => ?_)
      have hP : va_P (dC, dI) vwCl (wX cI h a1 a2 a3 a4 a5 w r st rc na tp cn rh sr) _ := hP
      have hD : va_D A (wX cI h a1 a2 a3 a4 a5 w r st rc na tp cn rh sr) := hD
      exact vx_out (fun x hxx => (hno x hxx).elim) hlk hc1 hc2 hc3 (fun t ht hW => ⟨(), he, ⟨rfl, by rw [ht]; exact hP, va_K.moved hW hK, hD⟩, hS.F ht⟩) hS.2.2 (Nat.le_of_eq (Nat.zero_add _)) (Nat.le_of_eq (Nat.zero_add _))
  · replace hf := ifn he hf
    have hg0 := Option.some.inj hf
    obtain ⟨hq1, hg1⟩ := Prod.mk.inj hg0
    subst hq1
    obtain ⟨hq2, hg2⟩ := Prod.mk.inj hg1
    subst hq2
    obtain ⟨hq3, hg3⟩ := Prod.mk.inj hg2
    subst hq3
    obtain ⟨hq4, hg4⟩ := Prod.mk.inj hg3
    subst hq4
    obtain ⟨hq5, hg5⟩ := Prod.mk.inj hg4
    subst hq5
    obtain ⟨hq6, hg6⟩ := Prod.mk.inj hg5
    subst hq6
    obtain ⟨hq7, hg7⟩ := Prod.mk.inj hg6
    subst hq7
    obtain ⟨hq8, hg8⟩ := Prod.mk.inj hg7
    subst hq8
    obtain ⟨hq9, hg9⟩ := Prod.mk.inj hg8
    subst hq9
    subst hg9
    refine q_tv (wr := (wX cI h a1 a2 a3 a4 a5 w r st rc na tp cn rh sr)) he (vx_runS (As := [.int x1]) (rest := []) ⟨hx, hb, hml, hown, hts⟩ (ctX0_requireWay l hlt dC dI cI cZ cL _ x1 e1 hv) (va_cwS 1 hts (gS mw_263 mw_264 mw_38 mw_265) rfl rfl rfl (by decide +kernel) ⟨Nat.le_of_ble_eq_true rfl, Nat.le_of_ble_eq_true rfl⟩) (q_preXS [.int x1] hK hP hD hS hA hZ0 hT hN [] (by decide) rfl) rfl rfl hl.1 rfl (lv_room (Nat.le_of_ble_eq_true rfl)) dX0_compact_1 ⟨q_leC wsX0_compact (rmX0_compact e1) rfl, q_leS wsX0_compact (rmX0_compact e1) rfl⟩) hP hD hS hA [] [0, 1, 2, 3, 4, 5] rfl rfl (by decide) (by decide) (fun ce q9 H locs hP hD hS hc1 hc2 hc3 => ?_)
    have hP : va_P (dC, dI) vwCl (wX cI h a1 a2 a3 a4 a5 w r st rc na tp cn rh sr) _ := hP
    have hD : va_D A (wX cI h a1 a2 a3 a4 a5 w r st rc na tp cn rh sr) := hD
    exact vx_out (fun x hxx => (hno x hxx).elim) hlk hc1 hc2 hc3 (fun t ht hW => ⟨(), he, ⟨rfl, by rw [ht]; exact hP, va_K.moved hW hK, hD⟩, hS.F ht⟩) hS.2.2 (Nat.le_of_eq (Nat.zero_add _)) (Nat.le_of_eq (Nat.zero_add _))
