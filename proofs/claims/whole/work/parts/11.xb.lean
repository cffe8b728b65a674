set_option maxHeartbeats 4000000 in
set_option maxRecDepth 100000 in
theorem ctX0_setField (l : Launch) (dC : Nat → ClassId) (dI : Nat → Nat → Nat) (cI cZ cL : ClassId) (h a1 a2 a3 a4 a5 : Nat) (sz : Nat) (w : Nat → Int32) (r : Nat → Int32) (st : Nat → Int32) (rc : Nat → Int32) (na : Nat → Int32) (tp : Int32) (cn : Int32) (rh : Int32) (sr : Int32) (x1 : Int32) (x2 : Int32) (x3 : Int32) (x4 : Int32) (w' : Nat → Int32) (hf : fX0_setField w x1 x2 x3 x4 = some w') : Met l yX0_setField wsX0_setField rmX0_setField (va_Pc [.ref h, .int x1, .int x2, .int x3, .int x4] (q_pre (dC, dI) vwCl (tyA cI cZ cL) sz (wX cI h a1 a2 a3 a4 a5 w r st rc na tp cn rh sr))) (va_Qv (fun (_ : Unit) => True) (fun _ => q_post (dC, dI) vwCl (tyA cI cZ cL) (va_A (wX cI h a1 a2 a3 a4 a5 w r st rc na tp cn rh sr) sz) (wX cI h a1 a2 a3 a4 a5 w' r st rc na tp cn rh sr)) (va_A (wX cI h a1 a2 a3 a4 a5 w r st rc na tp cn rh sr) sz)) 0 0 (va_A (wX cI h a1 a2 a3 a4 a5 w r st rc na tp cn rh sr) sz) := by
  refine Met.ofW (cc := cX0_setField) (maxL := 8) (ret := (none)) (by decide) rfl ?_
  intro p e s m args below meth c s₁ B hml hv
  obtain ⟨rfl, hsz, hP, hK, hD0⟩ := hv
  have hx := B.exec
  have hb := B.bytes
  have hr := B.returns
  have hts := atoms_spec (ws := wsX0_setField) B.pre
  have hown : s.vm.findClass RX0 = some m.cls := findClass_of_methodNamed B.named
  subst hsz
  have hD := hD0.self (sz := s.heap.size)
  generalize hAe : va_A (wX cI h a1 a2 a3 a4 a5 w r st rc na tp cn rh sr) s.heap.size = A at hD ⊢
  have hA : ∀ q : Nat, s.heap.size ≤ q → A q := fun q h => by rw [← hAe]; exact Or.inr h
  have hS : va_S A s.heap s.heap [] := va_S.rf
  have hl := lv_entry ([.ref h, .int x1, .int x2, .int x3, .int x4]) (n := 8) (Nat.le_of_ble_eq_true rfl)
  rw [lg_entry_eq]
  generalize (lg_sl ([.ref h, .int x1, .int x2, .int x3, .int x4]) ++ List.replicate (8 - (lg_sl ([.ref h, .int x1, .int x2, .int x3, .int x4])).length) Slot.unset).toArray = ls at hl ⊢
  have hl : lv_has ls 8 [(0, .ref h), (1, .int x1), (2, .int x2), (3, .int x3), (4, .int x4)] := hl
  unfold fX0_setField at hf
  refine lv_bipush (v := (16 : Int32)) hx hb dX0_setField_0 (by decide) ?_
  refine lv_iload_n hx hb dX0_setField_2 rfl (lv_at hl 2 rfl) ?_
  refine lv_ishl hx hb dX0_setField_3 ?_
  refine lv_istore hx hb dX0_setField_4 hl (by decide) rfl (fun ls hl => ?_)
  have hl : lv_has ls 8 [(5, .int ((16 : Int32) <<< (x2 &&& 31))), (0, .ref h), (1, .int x1), (2, .int x2), (3, .int x3), (4, .int x4)] := hl
  refine lv_sipush (v := (1024 : Int32)) hx hb dX0_setField_6 (by decide) ?_
  refine lv_iload_n hx hb dX0_setField_9 rfl (lv_at hl 3 rfl) ?_
  refine lv_ishl hx hb dX0_setField_10 ?_
  refine lv_istore hx hb dX0_setField_11 hl (by decide) rfl (fun ls hl => ?_)
  have hl : lv_has ls 8 [(6, .int ((1024 : Int32) <<< (x2 &&& 31))), (5, .int ((16 : Int32) <<< (x2 &&& 31))), (0, .ref h), (1, .int x1), (2, .int x2), (3, .int x3), (4, .int x4)] := hl
  refine lv_aload_n hx hb dX0_setField_13 rfl (lv_at hl 2 rfl) ?_
  refine va_get (D := (dC, dI)) (ci := 0) (v := .ref a1) (C := RX0) (T := TX0) (N := 9) hx hb hts (fun w hw => List.mem_cons_of_mem _ (inX0 w hw)) hown hK hP 0 rfl rfl 0 (by decide) (hts _ (List.mem_cons_of_mem _ mw_61)) (fun _ h9 => h9) rfl dX0_setField_14 ?_
  refine lv_iload_n hx hb dX0_setField_17 rfl (lv_at hl 3 rfl) ?_
  obtain ⟨v1, hv, hf⟩ := bd hf
  refine q_ild hx hb hK hP 1 0 rfl rfl hv dX0_setField_18 ?_
  refine lv_iload hx hb dX0_setField_19 (lv_at hl 1 rfl) ?_
  refine lv_iload hx hb dX0_setField_21 (lv_at hl 0 rfl) ?_
  refine lv_ior hx hb dX0_setField_23 ?_
  refine lv_iconst (v := (-1 : Int32)) hx hb dX0_setField_24 (by decide) ?_
  refine lv_ixor hx hb dX0_setField_25 ?_
  refine lv_iand hx hb dX0_setField_26 ?_
  refine lv_istore hx hb dX0_setField_27 hl (by decide) rfl (fun ls hl => ?_)
  have hl : lv_has ls 8 [(7, .int (v1 &&& ((((16 : Int32) <<< (x2 &&& 31)) ||| ((1024 : Int32) <<< (x2 &&& 31))) ^^^ (-1 : Int32)))), (6, .int ((1024 : Int32) <<< (x2 &&& 31))), (5, .int ((16 : Int32) <<< (x2 &&& 31))), (0, .ref h), (1, .int x1), (2, .int x2), (3, .int x3), (4, .int x4)] := hl
  refine lv_iload_n hx hb dX0_setField_29 rfl (lv_at hl 6 rfl) ?_
  refine lv_iconst (v := (1 : Int32)) hx hb dX0_setField_30 (by decide) ?_
  refine lv_icmp_ne (tgt := 44) hx hb dX0_setField_31 (by decide) (fun h2 => ?_) (fun h2 => ?_)
  · have hf := ifn h2 hf
    refine lv_iload_n hx hb dX0_setField_44 rfl (lv_at hl 6 rfl) ?_
    refine lv_iconst (v := (2 : Int32)) hx hb dX0_setField_45 (by decide) ?_
    refine lv_icmp_ne (tgt := 56) hx hb dX0_setField_46 (by decide) (fun h3 => ?_) (fun h3 => ?_)
    · have hf := ifn h3 hf
      refine lv_aload_n hx hb dX0_setField_56 rfl (lv_at hl 3 rfl) ?_
      refine va_get (D := (dC, dI)) (ci := 0) (v := .ref a1) (C := RX0) (T := TX0) (N := 9) hx hb hts (fun w hw => List.mem_cons_of_mem _ (inX0 w hw)) hown hK hP 0 rfl rfl 0 (by decide) (hts _ (List.mem_cons_of_mem _ mw_61)) (fun _ h9 => h9) rfl dX0_setField_57 ?_
      refine lv_iload_n hx hb dX0_setField_60 rfl (lv_at hl 4 rfl) ?_
      refine lv_iload hx hb dX0_setField_61 (lv_at hl 0 rfl) ?_
      obtain ⟨w_4, hv, hf⟩ := bd hf
      refine q_ist hx hb hK hP hD hS 1 0 rfl rfl hv dX0_setField_63 (fun H locs hP hD hS => ?_)
      have hP : va_P (dC, dI) vwCl (wX cI h a1 a2 a3 a4 a5 w_4 r st rc na tp cn rh sr) _ := hP
      have hD : va_D A (wX cI h a1 a2 a3 a4 a5 w_4 r st rc na tp cn rh sr) := hD
      refine lv_aload_n hx hb dX0_setField_64 rfl (lv_at hl 3 rfl) ?_
      refine va_get (D := (dC, dI)) (ci := 0) (v := .ref a1) (C := RX0) (T := TX0) (N := 9) hx hb hts (fun w hw => List.mem_cons_of_mem _ (inX0 w hw)) hown hK hP 0 rfl rfl 0 (by decide) (hts _ (List.mem_cons_of_mem _ mw_61)) (fun _ h9 => h9) rfl dX0_setField_65 ?_
      refine lv_iload_n hx hb dX0_setField_68 rfl (lv_at hl 4 rfl) ?_
      refine lv_iload_n hx hb dX0_setField_69 rfl (lv_at hl 5 rfl) ?_
      obtain ⟨v5, hv, hf⟩ := bd hf
      refine q_ci (wr := (wX cI h a1 a2 a3 a4 a5 w_4 r st rc na tp cn rh sr)) (va_runS (As := [.int x1, .int x2]) (rest := [.ref a1]) ⟨hx, hb, hml, hown, hts⟩ (ctX0_fieldAddress l dC dI cI cZ cL _ x1 x2 v5 hv) (va_cwS 2 hts (gS mw_122 mw_123 mw_38 mw_124) rfl rfl rfl (by decide +kernel) ⟨Nat.le_of_ble_eq_true rfl, Nat.le_of_ble_eq_true rfl⟩) (q_preS [.int x1, .int x2] hK hP hD [] (by decide) rfl) rfl rfl hl.1 rfl (lv_room (Nat.le_of_ble_eq_true rfl)) dX0_setField_70 ⟨Nat.le_of_ble_eq_true rfl, Nat.le_of_ble_eq_true rfl⟩) hP hD hS hA [] [0, 1, 2, 3, 4, 5] rfl rfl (by decide) (by decide) (fun H locs hP hD hS => ?_)
      have hP : va_P (dC, dI) vwCl (wX cI h a1 a2 a3 a4 a5 w_4 r st rc na tp cn rh sr) _ := hP
      have hD : va_D A (wX cI h a1 a2 a3 a4 a5 w_4 r st rc na tp cn rh sr) := hD
      refine lv_iload hx hb dX0_setField_73 (lv_at hl 7 rfl) ?_
      obtain ⟨w_6, hv, hf⟩ := bd hf
      refine q_ist hx hb hK hP hD hS 1 0 rfl rfl hv dX0_setField_75 (fun H locs hP hD hS => ?_)
      have hP : va_P (dC, dI) vwCl (wX cI h a1 a2 a3 a4 a5 w_6 r st rc na tp cn rh sr) _ := hP
      have hD : va_D A (wX cI h a1 a2 a3 a4 a5 w_6 r st rc na tp cn rh sr) := hD
      have hg0 := Option.some.inj hf
      subst hg0
      exact W.vret hx hb hr (fun t ht hW => ⟨⟨(), rfl, trivial, by rw [ht]; exact hP, va_K.moved hW.alike hK, hD⟩, hS.F ht⟩) hS.2.2 dX0_setField_76
    · have hf := ift h3 hf
      refine lv_iload hx hb dX0_setField_49 (lv_at hl 0 rfl) ?_
      refine lv_iload hx hb dX0_setField_51 (lv_at hl 1 rfl) ?_
      refine lv_ior hx hb dX0_setField_53 ?_
      refine lv_istore hx hb dX0_setField_54 hl (by decide) rfl (fun ls hl => ?_)
      have hl : lv_has ls 8 [(7, .int ((v1 &&& ((((16 : Int32) <<< (x2 &&& 31)) ||| ((1024 : Int32) <<< (x2 &&& 31))) ^^^ (-1 : Int32))) ||| ((1024 : Int32) <<< (x2 &&& 31)))), (6, .int ((1024 : Int32) <<< (x2 &&& 31))), (5, .int ((16 : Int32) <<< (x2 &&& 31))), (0, .ref h), (1, .int x1), (2, .int x2), (3, .int x3), (4, .int x4)] := hl
      refine lv_aload_n hx hb dX0_setField_56 rfl (lv_at hl 3 rfl) ?_
      refine va_get (D := (dC, dI)) (ci := 0) (v := .ref a1) (C := RX0) (T := TX0) (N := 9) hx hb hts (fun w hw => List.mem_cons_of_mem _ (inX0 w hw)) hown hK hP 0 rfl rfl 0 (by decide) (hts _ (List.mem_cons_of_mem _ mw_61)) (fun _ h9 => h9) rfl dX0_setField_57 ?_
      refine lv_iload_n hx hb dX0_setField_60 rfl (lv_at hl 4 rfl) ?_
      refine lv_iload hx hb dX0_setField_61 (lv_at hl 0 rfl) ?_
      obtain ⟨w_7, hv, hf⟩ := bd hf
      refine q_ist hx hb hK hP hD hS 1 0 rfl rfl hv dX0_setField_63 (fun H locs hP hD hS => ?_)
      have hP : va_P (dC, dI) vwCl (wX cI h a1 a2 a3 a4 a5 w_7 r st rc na tp cn rh sr) _ := hP
      have hD : va_D A (wX cI h a1 a2 a3 a4 a5 w_7 r st rc na tp cn rh sr) := hD
      refine lv_aload_n hx hb dX0_setField_64 rfl (lv_at hl 3 rfl) ?_
      refine va_get (D := (dC, dI)) (ci := 0) (v := .ref a1) (C := RX0) (T := TX0) (N := 9) hx hb hts (fun w hw => List.mem_cons_of_mem _ (inX0 w hw)) hown hK hP 0 rfl rfl 0 (by decide) (hts _ (List.mem_cons_of_mem _ mw_61)) (fun _ h9 => h9) rfl dX0_setField_65 ?_
      refine lv_iload_n hx hb dX0_setField_68 rfl (lv_at hl 4 rfl) ?_
      refine lv_iload_n hx hb dX0_setField_69 rfl (lv_at hl 5 rfl) ?_
      obtain ⟨v8, hv, hf⟩ := bd hf
      refine q_ci (wr := (wX cI h a1 a2 a3 a4 a5 w_7 r st rc na tp cn rh sr)) (va_runS (As := [.int x1, .int x2]) (rest := [.ref a1]) ⟨hx, hb, hml, hown, hts⟩ (ctX0_fieldAddress l dC dI cI cZ cL _ x1 x2 v8 hv) (va_cwS 2 hts (gS mw_122 mw_123 mw_38 mw_124) rfl rfl rfl (by decide +kernel) ⟨Nat.le_of_ble_eq_true rfl, Nat.le_of_ble_eq_true rfl⟩) (q_preS [.int x1, .int x2] hK hP hD [] (by decide) rfl) rfl rfl hl.1 rfl (lv_room (Nat.le_of_ble_eq_true rfl)) dX0_setField_70 ⟨Nat.le_of_ble_eq_true rfl, Nat.le_of_ble_eq_true rfl⟩) hP hD hS hA [] [0, 1, 2, 3, 4, 5] rfl rfl (by decide) (by decide) (fun H locs hP hD hS => ?_)
      have hP : va_P (dC, dI) vwCl (wX cI h a1 a2 a3 a4 a5 w_7 r st rc na tp cn rh sr) _ := hP
      have hD : va_D A (wX cI h a1 a2 a3 a4 a5 w_7 r st rc na tp cn rh sr) := hD
      refine lv_iload hx hb dX0_setField_73 (lv_at hl 7 rfl) ?_
      obtain ⟨w_9, hv, hf⟩ := bd hf
      refine q_ist hx hb hK hP hD hS 1 0 rfl rfl hv dX0_setField_75 (fun H locs hP hD hS => ?_)
      have hP : va_P (dC, dI) vwCl (wX cI h a1 a2 a3 a4 a5 w_9 r st rc na tp cn rh sr) _ := hP
      have hD : va_D A (wX cI h a1 a2 a3 a4 a5 w_9 r st rc na tp cn rh sr) := hD
      have hg0 := Option.some.inj hf
      subst hg0
      exact W.vret hx hb hr (fun t ht hW => ⟨⟨(), rfl, trivial, by rw [ht]; exact hP, va_K.moved hW.alike hK, hD⟩, hS.F ht⟩) hS.2.2 dX0_setField_76
  · have hf := ift h2 hf
    refine lv_iload hx hb dX0_setField_34 (lv_at hl 0 rfl) ?_
    refine lv_iload hx hb dX0_setField_36 (lv_at hl 2 rfl) ?_
    refine lv_ior hx hb dX0_setField_38 ?_
    refine lv_istore hx hb dX0_setField_39 hl (by decide) rfl (fun ls hl => ?_)
    have hl : lv_has ls 8 [(7, .int ((v1 &&& ((((16 : Int32) <<< (x2 &&& 31)) ||| ((1024 : Int32) <<< (x2 &&& 31))) ^^^ (-1 : Int32))) ||| ((16 : Int32) <<< (x2 &&& 31)))), (6, .int ((1024 : Int32) <<< (x2 &&& 31))), (5, .int ((16 : Int32) <<< (x2 &&& 31))), (0, .ref h), (1, .int x1), (2, .int x2), (3, .int x3), (4, .int x4)] := hl
    refine lv_goto (tgt := 56) hx hb dX0_setField_41 (by decide) ?_
    refine lv_aload_n hx hb dX0_setField_56 rfl (lv_at hl 3 rfl) ?_
    refine va_get (D := (dC, dI)) (ci := 0) (v := .ref a1) (C := RX0) (T := TX0) (N := 9) hx hb hts (fun w hw => List.mem_cons_of_mem _ (inX0 w hw)) hown hK hP 0 rfl rfl 0 (by decide) (hts _ (List.mem_cons_of_mem _ mw_61)) (fun _ h9 => h9) rfl dX0_setField_57 ?_
    refine lv_iload_n hx hb dX0_setField_60 rfl (lv_at hl 4 rfl) ?_
    refine lv_iload hx hb dX0_setField_61 (lv_at hl 0 rfl) ?_
    obtain ⟨w_10, hv, hf⟩ := bd hf
    refine q_ist hx hb hK hP hD hS 1 0 rfl rfl hv dX0_setField_63 (fun H locs hP hD hS => ?_)
    have hP : va_P (dC, dI) vwCl (wX cI h a1 a2 a3 a4 a5 w_10 r st rc na tp cn rh sr) _ := hP
    have hD : va_D A (wX cI h a1 a2 a3 a4 a5 w_10 r st rc na tp cn rh sr) := hD
    refine lv_aload_n hx hb dX0_setField_64 rfl (lv_at hl 3 rfl) ?_
    refine va_get (D := (dC, dI)) (ci := 0) (v := .ref a1) (C := RX0) (T := TX0) (N := 9) hx hb hts (fun w hw => List.mem_cons_of_mem _ (inX0 w hw)) hown hK hP 0 rfl rfl 0 (by decide) (hts _ (List.mem_cons_of_mem _ mw_61)) (fun _ h9 => h9) rfl dX0_setField_65 ?_
    refine lv_iload_n hx hb dX0_setField_68 rfl (lv_at hl 4 rfl) ?_
    refine lv_iload_n hx hb dX0_setField_69 rfl (lv_at hl 5 rfl) ?_
    obtain ⟨v11, hv, hf⟩ := bd hf
    refine q_ci (wr := (wX cI h a1 a2 a3 a4 a5 w_10 r st rc na tp cn rh sr)) (va_runS (As := [.int x1, .int x2]) (rest := [.ref a1]) ⟨hx, hb, hml, hown, hts⟩ (ctX0_fieldAddress l dC dI cI cZ cL _ x1 x2 v11 hv) (va_cwS 2 hts (gS mw_122 mw_123 mw_38 mw_124) rfl rfl rfl (by decide +kernel) ⟨Nat.le_of_ble_eq_true rfl, Nat.le_of_ble_eq_true rfl⟩) (q_preS [.int x1, .int x2] hK hP hD [] (by decide) rfl) rfl rfl hl.1 rfl (lv_room (Nat.le_of_ble_eq_true rfl)) dX0_setField_70 ⟨Nat.le_of_ble_eq_true rfl, Nat.le_of_ble_eq_true rfl⟩) hP hD hS hA [] [0, 1, 2, 3, 4, 5] rfl rfl (by decide) (by decide) (fun H locs hP hD hS => ?_)
    have hP : va_P (dC, dI) vwCl (wX cI h a1 a2 a3 a4 a5 w_10 r st rc na tp cn rh sr) _ := hP
    have hD : va_D A (wX cI h a1 a2 a3 a4 a5 w_10 r st rc na tp cn rh sr) := hD
    refine lv_iload hx hb dX0_setField_73 (lv_at hl 7 rfl) ?_
    obtain ⟨w_12, hv, hf⟩ := bd hf
    refine q_ist hx hb hK hP hD hS 1 0 rfl rfl hv dX0_setField_75 (fun H locs hP hD hS => ?_)
    have hP : va_P (dC, dI) vwCl (wX cI h a1 a2 a3 a4 a5 w_12 r st rc na tp cn rh sr) _ := hP
    have hD : va_D A (wX cI h a1 a2 a3 a4 a5 w_12 r st rc na tp cn rh sr) := hD
    have hg0 := Option.some.inj hf
    subst hg0
    exact W.vret hx hb hr (fun t ht hW => ⟨⟨(), rfl, trivial, by rw [ht]; exact hP, va_K.moved hW.alike hK, hD⟩, hS.F ht⟩) hS.2.2 dX0_setField_76
set_option maxHeartbeats 4000000 in
set_option maxRecDepth 100000 in
theorem ctX0_makeObject (l : Launch) (dC : Nat → ClassId) (dI : Nat → Nat → Nat) (cI cZ cL : ClassId) (h a1 a2 a3 a4 a5 : Nat) (sz : Nat) (w : Nat → Int32) (r : Nat → Int32) (st : Nat → Int32) (rc : Nat → Int32) (na : Nat → Int32) (tp : Int32) (cn : Int32) (rh : Int32) (sr : Int32) (x1 : Int32) (x2 : Int32) (rs : Int32) (w' : Nat → Int32) (r' : Nat → Int32) (st' : Nat → Int32) (tp' : Int32) (cn' : Int32) (sr' : Int32) (hf : fX0_makeObject w r st tp cn sr x1 x2 = some (rs, w', r', st', tp', cn', sr')) : Met l yX0_makeObject wsX0_makeObject rmX0_makeObject (va_Pc [.ref h, .int x1, .int x2] (q_pre (dC, dI) vwCl (tyA cI cZ cL) sz (wX cI h a1 a2 a3 a4 a5 w r st rc na tp cn rh sr))) (va_Qi (fun r (_ : Unit) => r = rs) (fun _ => q_post (dC, dI) vwCl (tyA cI cZ cL) (va_A (wX cI h a1 a2 a3 a4 a5 w r st rc na tp cn rh sr) sz) (wX cI h a1 a2 a3 a4 a5 w' r' st' rc na tp' cn' rh sr')) (va_A (wX cI h a1 a2 a3 a4 a5 w r st rc na tp cn rh sr) sz)) 0 0 (va_A (wX cI h a1 a2 a3 a4 a5 w r st rc na tp cn rh sr) sz) := by
  refine Met.ofW (cc := cX0_makeObject) (maxL := 3) (ret := (some .int)) (by decide) rfl ?_
  intro p e s m args below meth c s₁ B hml hv
  obtain ⟨rfl, hsz, hP, hK, hD0⟩ := hv
  have hx := B.exec
  have hb := B.bytes
  have hr := B.returns
  have hts := atoms_spec (ws := wsX0_makeObject) B.pre
  have hown : s.vm.findClass RX0 = some m.cls := findClass_of_methodNamed B.named
  subst hsz
  have hD := hD0.self (sz := s.heap.size)
  generalize hAe : va_A (wX cI h a1 a2 a3 a4 a5 w r st rc na tp cn rh sr) s.heap.size = A at hD ⊢
  have hA : ∀ q : Nat, s.heap.size ≤ q → A q := fun q h => by rw [← hAe]; exact Or.inr h
  have hS : va_S A s.heap s.heap [] := va_S.rf
  have hl := lv_entry ([.ref h, .int x1, .int x2]) (n := 3) (Nat.le_of_ble_eq_true rfl)
  rw [lg_entry_eq]
  generalize (lg_sl ([.ref h, .int x1, .int x2]) ++ List.replicate (3 - (lg_sl ([.ref h, .int x1, .int x2])).length) Slot.unset).toArray = ls at hl ⊢
  have hl : lv_has ls 3 [(0, .ref h), (1, .int x1), (2, .int x2)] := hl
  unfold fX0_makeObject at hf
  refine lv_aload_n hx hb dX0_makeObject_0 rfl (lv_at hl 0 rfl) ?_
  refine lv_dup hx hb dX0_makeObject_1 rfl ?_
  refine va_get (D := (dC, dI)) (ci := 0) (v := .int sr) (C := RX0) (T := TX0) (N := 9) hx hb hts (fun w hw => List.mem_cons_of_mem _ (inX0 w hw)) hown hK hP 0 rfl rfl 8 (by decide) (hts _ (List.mem_cons_of_mem _ mw_69)) (fun _ h9 => h9) rfl dX0_makeObject_2 ?_
  refine lv_iconst (v := (1 : Int32)) hx hb dX0_makeObject_5 (by decide) ?_
  refine lv_iadd hx hb dX0_makeObject_6 ?_
  refine va_put (D := (dC, dI)) (ci := 0) (v := .int (sr + (1 : Int32))) (ty := .int) (C := RX0) (T := TX0) (N := 9) hx hb hts (fun w hw => List.mem_cons_of_mem _ (inX0 w hw)) tyX0 tyX0_ok nmX0 hown hK hP hD hS 0 rfl rfl 8 (by decide) (hts _ (List.mem_cons_of_mem _ mw_69)) (fun _ h9 => h9) rfl (by decide +kernel) rfl rfl (Nat.le_of_ble_eq_true rfl) dX0_makeObject_7 (fun H locs hP hD hS => ?_)
  have hP : va_P (dC, dI) vwCl (wX cI h a1 a2 a3 a4 a5 w r st rc na tp cn rh (sr + (1 : Int32))) _ := hP
  have hD : va_D A (wX cI h a1 a2 a3 a4 a5 w r st rc na tp cn rh (sr + (1 : Int32))) := hD
  refine lv_aload_n hx hb dX0_makeObject_10 rfl (lv_at hl 0 rfl) ?_
  refine va_get (D := (dC, dI)) (ci := 0) (v := .ref a1) (C := RX0) (T := TX0) (N := 9) hx hb hts (fun w hw => List.mem_cons_of_mem _ (inX0 w hw)) hown hK hP 0 rfl rfl 0 (by decide) (hts _ (List.mem_cons_of_mem _ mw_61)) (fun _ h9 => h9) rfl dX0_makeObject_11 ?_
  refine lv_aload_n hx hb dX0_makeObject_14 rfl (lv_at hl 0 rfl) ?_
  refine va_get (D := (dC, dI)) (ci := 0) (v := .int tp) (C := RX0) (T := TX0) (N := 9) hx hb hts (fun w hw => List.mem_cons_of_mem _ (inX0 w hw)) hown hK hP 0 rfl rfl 5 (by decide) (hts _ (List.mem_cons_of_mem _ mw_66)) (fun _ h9 => h9) rfl dX0_makeObject_15 ?_
  refine lv_iload_n hx hb dX0_makeObject_18 rfl (lv_at hl 2 rfl) ?_
  obtain ⟨w_1, hv, hf⟩ := bd hf
  refine q_ist hx hb hK hP hD hS 1 0 rfl rfl hv dX0_makeObject_19 (fun H locs hP hD hS => ?_)
  have hP : va_P (dC, dI) vwCl (wX cI h a1 a2 a3 a4 a5 w_1 r st rc na tp cn rh (sr + (1 : Int32))) _ := hP
  have hD : va_D A (wX cI h a1 a2 a3 a4 a5 w_1 r st rc na tp cn rh (sr + (1 : Int32))) := hD
  refine lv_aload_n hx hb dX0_makeObject_20 rfl (lv_at hl 0 rfl) ?_
  refine va_get (D := (dC, dI)) (ci := 0) (v := .ref a1) (C := RX0) (T := TX0) (N := 9) hx hb hts (fun w hw => List.mem_cons_of_mem _ (inX0 w hw)) hown hK hP 0 rfl rfl 0 (by decide) (hts _ (List.mem_cons_of_mem _ mw_61)) (fun _ h9 => h9) rfl dX0_makeObject_21 ?_
  refine lv_aload_n hx hb dX0_makeObject_24 rfl (lv_at hl 0 rfl) ?_
  refine va_get (D := (dC, dI)) (ci := 0) (v := .int tp) (C := RX0) (T := TX0) (N := 9) hx hb hts (fun w hw => List.mem_cons_of_mem _ (inX0 w hw)) hown hK hP 0 rfl rfl 5 (by decide) (hts _ (List.mem_cons_of_mem _ mw_66)) (fun _ h9 => h9) rfl dX0_makeObject_25 ?_
  refine lv_iconst (v := (1 : Int32)) hx hb dX0_makeObject_28 (by decide) ?_
  refine lv_iadd hx hb dX0_makeObject_29 ?_
  refine lv_aload_n hx hb dX0_makeObject_30 rfl (lv_at hl 0 rfl) ?_
  refine va_get (D := (dC, dI)) (ci := 0) (v := .int (sr + (1 : Int32))) (C := RX0) (T := TX0) (N := 9) hx hb hts (fun w hw => List.mem_cons_of_mem _ (inX0 w hw)) hown hK hP 0 rfl rfl 8 (by decide) (hts _ (List.mem_cons_of_mem _ mw_69)) (fun _ h9 => h9) rfl dX0_makeObject_31 ?_
  obtain ⟨w_2, hv, hf⟩ := bd hf
  refine q_ist hx hb hK hP hD hS 1 0 rfl rfl hv dX0_makeObject_34 (fun H locs hP hD hS => ?_)
  have hP : va_P (dC, dI) vwCl (wX cI h a1 a2 a3 a4 a5 w_2 r st rc na tp cn rh (sr + (1 : Int32))) _ := hP
  have hD : va_D A (wX cI h a1 a2 a3 a4 a5 w_2 r st rc na tp cn rh (sr + (1 : Int32))) := hD
  refine lv_aload_n hx hb dX0_makeObject_35 rfl (lv_at hl 0 rfl) ?_
  refine va_get (D := (dC, dI)) (ci := 0) (v := .ref a2) (C := RX0) (T := TX0) (N := 9) hx hb hts (fun w hw => List.mem_cons_of_mem _ (inX0 w hw)) hown hK hP 0 rfl rfl 1 (by decide) (hts _ (List.mem_cons_of_mem _ mw_62)) (fun _ h9 => h9) rfl dX0_makeObject_36 ?_
  refine lv_iload_n hx hb dX0_makeObject_39 rfl (lv_at hl 1 rfl) ?_
  refine lv_aload_n hx hb dX0_makeObject_40 rfl (lv_at hl 0 rfl) ?_
  refine va_get (D := (dC, dI)) (ci := 0) (v := .int tp) (C := RX0) (T := TX0) (N := 9) hx hb hts (fun w hw => List.mem_cons_of_mem _ (inX0 w hw)) hown hK hP 0 rfl rfl 5 (by decide) (hts _ (List.mem_cons_of_mem _ mw_66)) (fun _ h9 => h9) rfl dX0_makeObject_41 ?_
  obtain ⟨r_3, hv, hf⟩ := bd hf
  refine q_ist hx hb hK hP hD hS 2 0 rfl rfl hv dX0_makeObject_44 (fun H locs hP hD hS => ?_)
  have hP : va_P (dC, dI) vwCl (wX cI h a1 a2 a3 a4 a5 w_2 r_3 st rc na tp cn rh (sr + (1 : Int32))) _ := hP
  have hD : va_D A (wX cI h a1 a2 a3 a4 a5 w_2 r_3 st rc na tp cn rh (sr + (1 : Int32))) := hD
  refine lv_aload_n hx hb dX0_makeObject_45 rfl (lv_at hl 0 rfl) ?_
  refine va_get (D := (dC, dI)) (ci := 0) (v := .ref a3) (C := RX0) (T := TX0) (N := 9) hx hb hts (fun w hw => List.mem_cons_of_mem _ (inX0 w hw)) hown hK hP 0 rfl rfl 2 (by decide) (hts _ (List.mem_cons_of_mem _ mw_63)) (fun _ h9 => h9) rfl dX0_makeObject_46 ?_
  refine lv_aload_n hx hb dX0_makeObject_49 rfl (lv_at hl 0 rfl) ?_
  refine va_get (D := (dC, dI)) (ci := 0) (v := .int cn) (C := RX0) (T := TX0) (N := 9) hx hb hts (fun w hw => List.mem_cons_of_mem _ (inX0 w hw)) hown hK hP 0 rfl rfl 6 (by decide) (hts _ (List.mem_cons_of_mem _ mw_67)) (fun _ h9 => h9) rfl dX0_makeObject_50 ?_
  refine lv_aload_n hx hb dX0_makeObject_53 rfl (lv_at hl 0 rfl) ?_
  refine va_get (D := (dC, dI)) (ci := 0) (v := .int tp) (C := RX0) (T := TX0) (N := 9) hx hb hts (fun w hw => List.mem_cons_of_mem _ (inX0 w hw)) hown hK hP 0 rfl rfl 5 (by decide) (hts _ (List.mem_cons_of_mem _ mw_66)) (fun _ h9 => h9) rfl dX0_makeObject_54 ?_
  obtain ⟨st_4, hv, hf⟩ := bd hf
  refine q_ist hx hb hK hP hD hS 3 0 rfl rfl hv dX0_makeObject_57 (fun H locs hP hD hS => ?_)
  have hP : va_P (dC, dI) vwCl (wX cI h a1 a2 a3 a4 a5 w_2 r_3 st_4 rc na tp cn rh (sr + (1 : Int32))) _ := hP
  have hD : va_D A (wX cI h a1 a2 a3 a4 a5 w_2 r_3 st_4 rc na tp cn rh (sr + (1 : Int32))) := hD
  refine lv_aload_n hx hb dX0_makeObject_58 rfl (lv_at hl 0 rfl) ?_
  refine lv_dup hx hb dX0_makeObject_59 rfl ?_
  refine va_get (D := (dC, dI)) (ci := 0) (v := .int cn) (C := RX0) (T := TX0) (N := 9) hx hb hts (fun w hw => List.mem_cons_of_mem _ (inX0 w hw)) hown hK hP 0 rfl rfl 6 (by decide) (hts _ (List.mem_cons_of_mem _ mw_67)) (fun _ h9 => h9) rfl dX0_makeObject_60 ?_
  refine lv_iconst (v := (1 : Int32)) hx hb dX0_makeObject_63 (by decide) ?_
  refine lv_iadd hx hb dX0_makeObject_64 ?_
  refine va_put (D := (dC, dI)) (ci := 0) (v := .int (cn + (1 : Int32))) (ty := .int) (C := RX0) (T := TX0) (N := 9) hx hb hts (fun w hw => List.mem_cons_of_mem _ (inX0 w hw)) tyX0 tyX0_ok nmX0 hown hK hP hD hS 0 rfl rfl 6 (by decide) (hts _ (List.mem_cons_of_mem _ mw_67)) (fun _ h9 => h9) rfl (by decide +kernel) rfl rfl (Nat.le_of_ble_eq_true rfl) dX0_makeObject_65 (fun H locs hP hD hS => ?_)
  have hP : va_P (dC, dI) vwCl (wX cI h a1 a2 a3 a4 a5 w_2 r_3 st_4 rc na tp (cn + (1 : Int32)) rh (sr + (1 : Int32))) _ := hP
  have hD : va_D A (wX cI h a1 a2 a3 a4 a5 w_2 r_3 st_4 rc na tp (cn + (1 : Int32)) rh (sr + (1 : Int32))) := hD
  refine lv_aload_n hx hb dX0_makeObject_68 rfl (lv_at hl 0 rfl) ?_
  refine lv_dup hx hb dX0_makeObject_69 rfl ?_
  refine va_get (D := (dC, dI)) (ci := 0) (v := .int tp) (C := RX0) (T := TX0) (N := 9) hx hb hts (fun w hw => List.mem_cons_of_mem _ (inX0 w hw)) hown hK hP 0 rfl rfl 5 (by decide) (hts _ (List.mem_cons_of_mem _ mw_66)) (fun _ h9 => h9) rfl dX0_makeObject_70 ?_
  refine lv_iconst (v := (2 : Int32)) hx hb dX0_makeObject_73 (by decide) ?_
  refine lv_iload_n hx hb dX0_makeObject_74 rfl (lv_at hl 2 rfl) ?_
  refine lv_iadd hx hb dX0_makeObject_75 ?_
  refine lv_iadd hx hb dX0_makeObject_76 ?_
  refine va_put (D := (dC, dI)) (ci := 0) (v := .int (tp + ((2 : Int32) + x2))) (ty := .int) (C := RX0) (T := TX0) (N := 9) hx hb hts (fun w hw => List.mem_cons_of_mem _ (inX0 w hw)) tyX0 tyX0_ok nmX0 hown hK hP hD hS 0 rfl rfl 5 (by decide) (hts _ (List.mem_cons_of_mem _ mw_66)) (fun _ h9 => h9) rfl (by decide +kernel) rfl rfl (Nat.le_of_ble_eq_true rfl) dX0_makeObject_77 (fun H locs hP hD hS => ?_)
  have hP : va_P (dC, dI) vwCl (wX cI h a1 a2 a3 a4 a5 w_2 r_3 st_4 rc na (tp + ((2 : Int32) + x2)) (cn + (1 : Int32)) rh (sr + (1 : Int32))) _ := hP
  have hD : va_D A (wX cI h a1 a2 a3 a4 a5 w_2 r_3 st_4 rc na (tp + ((2 : Int32) + x2)) (cn + (1 : Int32)) rh (sr + (1 : Int32))) := hD
  refine lv_aload_n hx hb dX0_makeObject_80 rfl (lv_at hl 0 rfl) ?_
  refine va_get (D := (dC, dI)) (ci := 0) (v := .int (sr + (1 : Int32))) (C := RX0) (T := TX0) (N := 9) hx hb hts (fun w hw => List.mem_cons_of_mem _ (inX0 w hw)) hown hK hP 0 rfl rfl 8 (by decide) (hts _ (List.mem_cons_of_mem _ mw_69)) (fun _ h9 => h9) rfl dX0_makeObject_81 ?_
  have hg0 := Option.some.inj hf
  obtain ⟨hq1, hg1⟩ := Prod.mk.inj hg0
  subst hq1
  obtain ⟨hq2, hg2⟩ := Prod.mk.inj hg1
  subst hq2
  obtain ⟨hq3, hg3⟩ := Prod.mk.inj hg2
  subst hq3
  obtain ⟨hq4, hg4⟩ := Prod.mk.inj hg3
  subst hq4
  obtain ⟨hq5, hg5⟩ := Prod.mk.inj hg4
  subst hq5
  obtain ⟨hq6, hg6⟩ := Prod.mk.inj hg5
  subst hq6
  subst hg6
  exact W.iret hx hb hr (fun t ht hW => ⟨⟨_, (), rfl, rfl, by rw [ht]; exact hP, va_K.moved hW.alike hK, hD⟩, hS.F ht⟩) hS.2.2 dX0_makeObject_84
set_option maxHeartbeats 4000000 in
set_option maxRecDepth 100000 in
theorem ctX0_reach (l : Launch) (dC : Nat → ClassId) (dI : Nat → Nat → Nat) (cI cZ cL : ClassId) (h a1 a2 a3 a4 a5 : Nat) (sz : Nat) (w : Nat → Int32) (r : Nat → Int32) (st : Nat → Int32) (rc : Nat → Int32) (na : Nat → Int32) (tp : Int32) (cn : Int32) (rh : Int32) (sr : Int32) (x1 : Int32) (rc' : Nat → Int32) (na' : Nat → Int32) (rh' : Int32) (hf : fX0_reach rc na rh x1 = some (rc', na', rh')) : Met l yX0_reach wsX0_reach rmX0_reach (va_Pc [.ref h, .int x1] (q_pre (dC, dI) vwCl (tyA cI cZ cL) sz (wX cI h a1 a2 a3 a4 a5 w r st rc na tp cn rh sr))) (va_Qv (fun (_ : Unit) => True) (fun _ => q_post (dC, dI) vwCl (tyA cI cZ cL) (va_A (wX cI h a1 a2 a3 a4 a5 w r st rc na tp cn rh sr) sz) (wX cI h a1 a2 a3 a4 a5 w r st rc' na' tp cn rh' sr)) (va_A (wX cI h a1 a2 a3 a4 a5 w r st rc na tp cn rh sr) sz)) 0 0 (va_A (wX cI h a1 a2 a3 a4 a5 w r st rc na tp cn rh sr) sz) := by
  refine Met.ofW (cc := cX0_reach) (maxL := 2) (ret := (none)) (by decide) rfl ?_
  intro p e s m args below meth c s₁ B hml hv
  obtain ⟨rfl, hsz, hP, hK, hD0⟩ := hv
  have hx := B.exec
  have hb := B.bytes
  have hr := B.returns
  have hts := atoms_spec (ws := wsX0_reach) B.pre
  have hown : s.vm.findClass RX0 = some m.cls := findClass_of_methodNamed B.named
  subst hsz
  have hD := hD0.self (sz := s.heap.size)
  generalize hAe : va_A (wX cI h a1 a2 a3 a4 a5 w r st rc na tp cn rh sr) s.heap.size = A at hD ⊢
  have hA : ∀ q : Nat, s.heap.size ≤ q → A q := fun q h => by rw [← hAe]; exact Or.inr h
  have hS : va_S A s.heap s.heap [] := va_S.rf
  have hl := lv_entry ([.ref h, .int x1]) (n := 2) (Nat.le_of_ble_eq_true rfl)
  rw [lg_entry_eq]
  generalize (lg_sl ([.ref h, .int x1]) ++ List.replicate (2 - (lg_sl ([.ref h, .int x1])).length) Slot.unset).toArray = ls at hl ⊢
  have hl : lv_has ls 2 [(0, .ref h), (1, .int x1)] := hl
  unfold fX0_reach at hf
  refine lv_iload_n hx hb dX0_reach_0 rfl (lv_at hl 1 rfl) ?_
  refine lv_iconst (v := (-1 : Int32)) hx hb dX0_reach_1 (by decide) ?_
  refine lv_icmp_eq (tgt := 42) hx hb dX0_reach_2 (by decide) (fun h1 => ?_) (fun h1 => ?_)
  · have hf := ift h1 hf
    have hg0 := Option.some.inj hf
    obtain ⟨hq1, hg1⟩ := Prod.mk.inj hg0
    subst hq1
    obtain ⟨hq2, hg2⟩ := Prod.mk.inj hg1
    subst hq2
    subst hg2
    exact W.vret hx hb hr (fun t ht hW => ⟨⟨(), rfl, trivial, by rw [ht]; exact hP, va_K.moved hW.alike hK, hD⟩, hS.F ht⟩) hS.2.2 dX0_reach_42
  · have hf := ifn h1 hf
    refine lv_aload_n hx hb dX0_reach_5 rfl (lv_at hl 0 rfl) ?_
    refine va_get (D := (dC, dI)) (ci := 0) (v := .ref a5) (C := RX0) (T := TX0) (N := 9) hx hb hts (fun w hw => List.mem_cons_of_mem _ (inX0 w hw)) hown hK hP 0 rfl rfl 4 (by decide) (hts _ (List.mem_cons_of_mem _ mw_65)) (fun _ h9 => h9) rfl dX0_reach_6 ?_
    refine lv_iload_n hx hb dX0_reach_9 rfl (lv_at hl 1 rfl) ?_
    obtain ⟨v2, hv, hf⟩ := bd hf
    refine q_ild hx hb hK hP 5 0 rfl rfl hv dX0_reach_10 ?_
    refine lv_iconst (v := (-1 : Int32)) hx hb dX0_reach_11 (by decide) ?_
    refine lv_icmp_ne (tgt := 42) hx hb dX0_reach_12 (by decide) (fun h3 => ?_) (fun h3 => ?_)
    · have hf := ifn h3 hf
      have hg0 := Option.some.inj hf
      obtain ⟨hq1, hg1⟩ := Prod.mk.inj hg0
      subst hq1
      obtain ⟨hq2, hg2⟩ := Prod.mk.inj hg1
      subst hq2
      subst hg2
      exact W.vret hx hb hr (fun t ht hW => ⟨⟨(), rfl, trivial, by rw [ht]; exact hP, va_K.moved hW.alike hK, hD⟩, hS.F ht⟩) hS.2.2 dX0_reach_42
    · have hf := ift h3 hf
      refine lv_aload_n hx hb dX0_reach_15 rfl (lv_at hl 0 rfl) ?_
      refine va_get (D := (dC, dI)) (ci := 0) (v := .ref a5) (C := RX0) (T := TX0) (N := 9) hx hb hts (fun w hw => List.mem_cons_of_mem _ (inX0 w hw)) hown hK hP 0 rfl rfl 4 (by decide) (hts _ (List.mem_cons_of_mem _ mw_65)) (fun _ h9 => h9) rfl dX0_reach_16 ?_
      refine lv_iload_n hx hb dX0_reach_19 rfl (lv_at hl 1 rfl) ?_
      refine lv_iload_n hx hb dX0_reach_20 rfl (lv_at hl 1 rfl) ?_
      obtain ⟨na_4, hv, hf⟩ := bd hf
      refine q_ist hx hb hK hP hD hS 5 0 rfl rfl hv dX0_reach_21 (fun H locs hP hD hS => ?_)
      have hP : va_P (dC, dI) vwCl (wX cI h a1 a2 a3 a4 a5 w r st rc na_4 tp cn rh sr) _ := hP
      have hD : va_D A (wX cI h a1 a2 a3 a4 a5 w r st rc na_4 tp cn rh sr) := hD
      refine lv_aload_n hx hb dX0_reach_22 rfl (lv_at hl 0 rfl) ?_
      refine va_get (D := (dC, dI)) (ci := 0) (v := .ref a4) (C := RX0) (T := TX0) (N := 9) hx hb hts (fun w hw => List.mem_cons_of_mem _ (inX0 w hw)) hown hK hP 0 rfl rfl 3 (by decide) (hts _ (List.mem_cons_of_mem _ mw_64)) (fun _ h9 => h9) rfl dX0_reach_23 ?_
      refine lv_aload_n hx hb dX0_reach_26 rfl (lv_at hl 0 rfl) ?_
      refine va_get (D := (dC, dI)) (ci := 0) (v := .int rh) (C := RX0) (T := TX0) (N := 9) hx hb hts (fun w hw => List.mem_cons_of_mem _ (inX0 w hw)) hown hK hP 0 rfl rfl 7 (by decide) (hts _ (List.mem_cons_of_mem _ mw_68)) (fun _ h9 => h9) rfl dX0_reach_27 ?_
      refine lv_iload_n hx hb dX0_reach_30 rfl (lv_at hl 1 rfl) ?_
      obtain ⟨rc_5, hv, hf⟩ := bd hf
      refine q_ist hx hb hK hP hD hS 4 0 rfl rfl hv dX0_reach_31 (fun H locs hP hD hS => ?_)
      have hP : va_P (dC, dI) vwCl (wX cI h a1 a2 a3 a4 a5 w r st rc_5 na_4 tp cn rh sr) _ := hP
      have hD : va_D A (wX cI h a1 a2 a3 a4 a5 w r st rc_5 na_4 tp cn rh sr) := hD
      refine lv_aload_n hx hb dX0_reach_32 rfl (lv_at hl 0 rfl) ?_
      refine lv_dup hx hb dX0_reach_33 rfl ?_
      refine va_get (D := (dC, dI)) (ci := 0) (v := .int rh) (C := RX0) (T := TX0) (N := 9) hx hb hts (fun w hw => List.mem_cons_of_mem _ (inX0 w hw)) hown hK hP 0 rfl rfl 7 (by decide) (hts _ (List.mem_cons_of_mem _ mw_68)) (fun _ h9 => h9) rfl dX0_reach_34 ?_
      refine lv_iconst (v := (1 : Int32)) hx hb dX0_reach_37 (by decide) ?_
      refine lv_iadd hx hb dX0_reach_38 ?_
      refine va_put (D := (dC, dI)) (ci := 0) (v := .int (rh + (1 : Int32))) (ty := .int) (C := RX0) (T := TX0) (N := 9) hx hb hts (fun w hw => List.mem_cons_of_mem _ (inX0 w hw)) tyX0 tyX0_ok nmX0 hown hK hP hD hS 0 rfl rfl 7 (by decide) (hts _ (List.mem_cons_of_mem _ mw_68)) (fun _ h9 => h9) rfl (by decide +kernel) rfl rfl (Nat.le_of_ble_eq_true rfl) dX0_reach_39 (fun H locs hP hD hS => ?_)
      have hP : va_P (dC, dI) vwCl (wX cI h a1 a2 a3 a4 a5 w r st rc_5 na_4 tp cn (rh + (1 : Int32)) sr) _ := hP
      have hD : va_D A (wX cI h a1 a2 a3 a4 a5 w r st rc_5 na_4 tp cn (rh + (1 : Int32)) sr) := hD
      have hg0 := Option.some.inj hf
      obtain ⟨hq1, hg1⟩ := Prod.mk.inj hg0
      subst hq1
      obtain ⟨hq2, hg2⟩ := Prod.mk.inj hg1
      subst hq2
      subst hg2
      exact W.vret hx hb hr (fun t ht hW => ⟨⟨(), rfl, trivial, by rw [ht]; exact hP, va_K.moved hW.alike hK, hD⟩, hS.F ht⟩) hS.2.2 dX0_reach_42
set_option maxHeartbeats 4000000 in
set_option maxRecDepth 100000 in
theorem wX0_reachFrom_L8 {p : Program} {l : Launch} {e : Env} {s : State} {m : MethodId} {args : Array Value} {below : List Frame} {meth : Method} {c : Code} {Q : State → Prop} {A : Nat → Prop} (dC : Nat → ClassId) (dI : Nat → Nat → Nat) (cI cZ cL : ClassId) (h a1 a2 a3 a4 a5 : Nat) (hx : p.tables.exec = Jvm.exec) (hb : c.code = cX0_reachFrom) (hml : c.maxLocals = 4) (hown : s.vm.findClass RX0 = some m.cls) (hts : ∀ w ∈ wsX0_reachFrom, w.before args s = true) (hK : va_K (dC, dI) vwCl (tyA cI cZ cL) s) (hA : ∀ q : Nat, s.heap.size ≤ q → A q) (x1_ : Int32) (x2_ : Int32) (w : Nat → Int32) (r : Nat → Int32) (st : Nat → Int32) (tp : Int32) (cn : Int32) (sr : Int32) (n : Nat) :
    ∀ (x3_ : Int32) (rc : Nat → Int32) (na : Nat → Int32) (rh : Int32) (x3_' : Int32) (rc' : Nat → Int32) (na' : Nat → Int32) (rh' : Int32), fX0_reachFrom_L8 x1_ x2_ w n x3_ rc na rh = some (x3_', rc', na', rh') → ∀ (H : Heap) (locs : List Loc) (ls : Array Slot), va_P (dC, dI) vwCl (wX cI h a1 a2 a3 a4 a5 w r st rc na tp cn rh sr) H → va_D A (wX cI h a1 a2 a3 a4 a5 w r st rc na tp cn rh sr) → va_S A s.heap H locs → lv_has ls 4 [(0, .ref h), (1, .int x1_), (2, .int x2_), (3, .int x3_)] → (∀ (H : Heap) (locs : List Loc) (ls : Array Slot), va_P (dC, dI) vwCl (wX cI h a1 a2 a3 a4 a5 w r st rc' na' tp cn rh' sr) H → va_D A (wX cI h a1 a2 a3 a4 a5 w r st rc' na' tp cn rh' sr) → va_S A s.heap H locs → lv_has ls 4 [(0, .ref h), (1, .int x1_), (2, .int x2_), (3, .int x3_')] → W p l e (headSpec wsX0_reachFrom rmX0_reachFrom).room s m args below meth c H locs 0 0 Q (F0 m 43 ls [])) → W p l e (headSpec wsX0_reachFrom rmX0_reachFrom).room s m args below meth c H locs 0 0 Q (F0 m 8 ls []) := by
  induction n with
  | zero => intro x3_ rc na rh x3_' rc' na' rh' hf; cases hf
  | succ n ih =>
    intro x3_ rc na rh x3_' rc' na' rh' hf H locs ls hP hD hS hl k0
    have hf := (fX0_reachFrom_L8_s x1_ x2_ w n x3_ rc na rh).symm.trans hf
    refine lv_iload_n hx hb dX0_reachFrom_8 rfl (lv_at hl 3 rfl) ?_
    refine lv_iload_n hx hb dX0_reachFrom_9 rfl (lv_at hl 2 rfl) ?_
    refine lv_icmp_ge (tgt := 43) hx hb dX0_reachFrom_10 (by decide) (fun h2 => ?_) (fun h2 => ?_)
    · have hf := ift h2 hf
      cases hf
      exact k0 _ _ _ hP hD hS (lv_sub hl [0, 1, 2, 3] rfl)
    · have hf := ifn h2 hf
      refine lv_aload_n hx hb dX0_reachFrom_13 rfl (lv_at hl 0 rfl) ?_
      refine lv_iload_n hx hb dX0_reachFrom_14 rfl (lv_at hl 1 rfl) ?_
      refine lv_iload_n hx hb dX0_reachFrom_15 rfl (lv_at hl 3 rfl) ?_
      obtain ⟨v3, hv, hf⟩ := bd hf
      refine q_ci (wr := []) (va_runV (As := [.int x1_, .int x3_]) (rest := []) ⟨hx, hb, hml, hown, hts⟩ (ctX0_fieldKind l dC dI cI cZ cL h a1 a2 a3 a4 a5 _ w r st rc na tp cn rh sr x1_ x3_ v3 hv) (cwV 2 hts (gV mw_118 mw_120 mw_4 mw_38 mw_121) rfl rfl rfl (by decide +kernel) ⟨Nat.le_of_ble_eq_true rfl, Nat.le_of_ble_eq_true rfl⟩) (q_preV [.int x1_, .int x3_] hK hP hD [0, 1, 2, 3, 4, 5] (by decide) rfl (ci := 0) rfl rfl) rfl rfl hl.1 rfl (lv_room (Nat.le_of_ble_eq_true rfl)) dX0_reachFrom_16 ⟨Nat.le_of_ble_eq_true rfl, Nat.le_of_ble_eq_true rfl⟩) hP hD hS hA [0, 1, 2, 3, 4, 5] [] rfl rfl (by decide) (by decide) (fun H locs hP hD hS => ?_)
      have hP : va_P (dC, dI) vwCl (wX cI h a1 a2 a3 a4 a5 w r st rc na tp cn rh sr) _ := hP
      have hD : va_D A (wX cI h a1 a2 a3 a4 a5 w r st rc na tp cn rh sr) := hD
      refine lv_iconst (v := (1 : Int32)) hx hb dX0_reachFrom_19 (by decide) ?_
      refine lv_icmp_ne (tgt := 37) hx hb dX0_reachFrom_20 (by decide) (fun h4 => ?_) (fun h4 => ?_)
      · have hf := ifn h4 hf
        refine lv_iinc (v := x3_ + (1 : Int32)) hx hb dX0_reachFrom_37 hl (k := 3) rfl (by rfl) (by decide) rfl (fun ls hl => ?_)
        have hl : lv_has ls 4 [(3, .int (x3_ + (1 : Int32))), (0, .ref h), (1, .int x1_), (2, .int x2_)] := hl
        refine lv_goto (tgt := 8) hx hb dX0_reachFrom_40 (by decide) ?_
        exact ih _ _ _ _ _ _ _ _ hf _ _ _ hP hD hS (lv_sub hl [1, 2, 3, 0] rfl) k0
      · have hf := ift h4 hf
        refine lv_aload_n hx hb dX0_reachFrom_23 rfl (lv_at hl 0 rfl) ?_
        refine lv_aload_n hx hb dX0_reachFrom_24 rfl (lv_at hl 0 rfl) ?_
        refine va_get (D := (dC, dI)) (ci := 0) (v := .ref a1) (C := RX0) (T := TX0) (N := 9) hx hb hts (fun w hw => List.mem_cons_of_mem _ (inX0 w hw)) hown hK hP 0 rfl rfl 0 (by decide) (hts _ (List.mem_cons_of_mem _ mw_61)) (fun _ h9 => h9) rfl dX0_reachFrom_25 ?_
        refine lv_iload_n hx hb dX0_reachFrom_28 rfl (lv_at hl 1 rfl) ?_
        refine lv_iload_n hx hb dX0_reachFrom_29 rfl (lv_at hl 3 rfl) ?_
        obtain ⟨v5, hv, hf⟩ := bd hf
        refine q_ci (wr := (wX cI h a1 a2 a3 a4 a5 w r st rc na tp cn rh sr)) (va_runS (As := [.int x1_, .int x3_]) (rest := [.ref a1, .ref h]) ⟨hx, hb, hml, hown, hts⟩ (ctX0_fieldAddress l dC dI cI cZ cL _ x1_ x3_ v5 hv) (va_cwS 2 hts (gS mw_122 mw_123 mw_38 mw_124) rfl rfl rfl (by decide +kernel) ⟨Nat.le_of_ble_eq_true rfl, Nat.le_of_ble_eq_true rfl⟩) (q_preS [.int x1_, .int x3_] hK hP hD [] (by decide) rfl) rfl rfl hl.1 rfl (lv_room (Nat.le_of_ble_eq_true rfl)) dX0_reachFrom_30 ⟨Nat.le_of_ble_eq_true rfl, Nat.le_of_ble_eq_true rfl⟩) hP hD hS hA [] [0, 1, 2, 3, 4, 5] rfl rfl (by decide) (by decide) (fun H locs hP hD hS => ?_)
        have hP : va_P (dC, dI) vwCl (wX cI h a1 a2 a3 a4 a5 w r st rc na tp cn rh sr) _ := hP
        have hD : va_D A (wX cI h a1 a2 a3 a4 a5 w r st rc na tp cn rh sr) := hD
        obtain ⟨v6, hv, hf⟩ := bd hf
        refine q_ild hx hb hK hP 1 0 rfl rfl hv dX0_reachFrom_33 ?_
        obtain ⟨⟨rc_7, na_8, rh_9⟩, hv, hf⟩ := bd hf
        dsimp only at hf
        refine q_cv (wr := []) (va_runV (As := [.int v6]) (rest := []) ⟨hx, hb, hml, hown, hts⟩ (ctX0_reach l dC dI cI cZ cL h a1 a2 a3 a4 a5 _ w r st rc na tp cn rh sr v6 rc_7 na_8 rh_9 hv) (cwV 1 hts (gV mw_106 mw_108 mw_1 mw_38 mw_109) rfl rfl rfl (by decide +kernel) ⟨Nat.le_of_ble_eq_true rfl, Nat.le_of_ble_eq_true rfl⟩) (q_preV [.int v6] hK hP hD [0, 1, 2, 3, 4, 5] (by decide) rfl (ci := 0) rfl rfl) rfl rfl hl.1 rfl (lv_room (Nat.le_of_ble_eq_true rfl)) dX0_reachFrom_34 ⟨Nat.le_of_ble_eq_true rfl, Nat.le_of_ble_eq_true rfl⟩) hP hD hS hA [0, 1, 2, 3, 4, 5] [] rfl rfl (by decide) (by decide) (fun H locs hP hD hS => ?_)
        have hP : va_P (dC, dI) vwCl (wX cI h a1 a2 a3 a4 a5 w r st rc_7 na_8 tp cn rh_9 sr) _ := hP
        have hD : va_D A (wX cI h a1 a2 a3 a4 a5 w r st rc_7 na_8 tp cn rh_9 sr) := hD
        refine lv_iinc (v := x3_ + (1 : Int32)) hx hb dX0_reachFrom_37 hl (k := 3) rfl (by rfl) (by decide) rfl (fun ls hl => ?_)
        have hl : lv_has ls 4 [(3, .int (x3_ + (1 : Int32))), (0, .ref h), (1, .int x1_), (2, .int x2_)] := hl
        refine lv_goto (tgt := 8) hx hb dX0_reachFrom_40 (by decide) ?_
        exact ih _ _ _ _ _ _ _ _ hf _ _ _ hP hD hS (lv_sub hl [1, 2, 3, 0] rfl) k0
set_option maxHeartbeats 4000000 in
set_option maxRecDepth 100000 in
theorem ctX0_reachFrom (l : Launch) (dC : Nat → ClassId) (dI : Nat → Nat → Nat) (cI cZ cL : ClassId) (h a1 a2 a3 a4 a5 : Nat) (sz : Nat) (w : Nat → Int32) (r : Nat → Int32) (st : Nat → Int32) (rc : Nat → Int32) (na : Nat → Int32) (tp : Int32) (cn : Int32) (rh : Int32) (sr : Int32) (x1 : Int32) (rc' : Nat → Int32) (na' : Nat → Int32) (rh' : Int32) (hf : fX0_reachFrom w rc na rh x1 = some (rc', na', rh')) : Met l yX0_reachFrom wsX0_reachFrom rmX0_reachFrom (va_Pc [.ref h, .int x1] (q_pre (dC, dI) vwCl (tyA cI cZ cL) sz (wX cI h a1 a2 a3 a4 a5 w r st rc na tp cn rh sr))) (va_Qv (fun (_ : Unit) => True) (fun _ => q_post (dC, dI) vwCl (tyA cI cZ cL) (va_A (wX cI h a1 a2 a3 a4 a5 w r st rc na tp cn rh sr) sz) (wX cI h a1 a2 a3 a4 a5 w r st rc' na' tp cn rh' sr)) (va_A (wX cI h a1 a2 a3 a4 a5 w r st rc na tp cn rh sr) sz)) 0 0 (va_A (wX cI h a1 a2 a3 a4 a5 w r st rc na tp cn rh sr) sz) := by
  refine Met.ofW (cc := cX0_reachFrom) (maxL := 4) (ret := (none)) (by decide) rfl ?_
  intro p e s m args below meth c s₁ B hml hv
  obtain ⟨rfl, hsz, hP, hK, hD0⟩ := hv
  have hx := B.exec
  have hb := B.bytes
  have hr := B.returns
  have hts := atoms_spec (ws := wsX0_reachFrom) B.pre
  have hown : s.vm.findClass RX0 = some m.cls := findClass_of_methodNamed B.named
  subst hsz
  have hD := hD0.self (sz := s.heap.size)
  generalize hAe : va_A (wX cI h a1 a2 a3 a4 a5 w r st rc na tp cn rh sr) s.heap.size = A at hD ⊢
  have hA : ∀ q : Nat, s.heap.size ≤ q → A q := fun q h => by rw [← hAe]; exact Or.inr h
  have hS : va_S A s.heap s.heap [] := va_S.rf
  have hl := lv_entry ([.ref h, .int x1]) (n := 4) (Nat.le_of_ble_eq_true rfl)
  rw [lg_entry_eq]
  generalize (lg_sl ([.ref h, .int x1]) ++ List.replicate (4 - (lg_sl ([.ref h, .int x1])).length) Slot.unset).toArray = ls at hl ⊢
  have hl : lv_has ls 4 [(0, .ref h), (1, .int x1)] := hl
  unfold fX0_reachFrom at hf
  refine lv_aload_n hx hb dX0_reachFrom_0 rfl (lv_at hl 0 rfl) ?_
  refine lv_iload_n hx hb dX0_reachFrom_1 rfl (lv_at hl 1 rfl) ?_
  obtain ⟨v1, hv, hf⟩ := bd hf
  refine q_ci (wr := []) (va_runV (As := [.int x1]) (rest := []) ⟨hx, hb, hml, hown, hts⟩ (ctX0_fieldCount l dC dI cI cZ cL h a1 a2 a3 a4 a5 _ w r st rc na tp cn rh sr x1 v1 hv) (cwV 1 hts (gV mw_114 mw_116 mw_3 mw_38 mw_117) rfl rfl rfl (by decide +kernel) ⟨Nat.le_of_ble_eq_true rfl, Nat.le_of_ble_eq_true rfl⟩) (q_preV [.int x1] hK hP hD [0, 1, 2, 3, 4, 5] (by decide) rfl (ci := 0) rfl rfl) rfl rfl hl.1 rfl (lv_room (Nat.le_of_ble_eq_true rfl)) dX0_reachFrom_2 ⟨Nat.le_of_ble_eq_true rfl, Nat.le_of_ble_eq_true rfl⟩) hP hD hS hA [0, 1, 2, 3, 4, 5] [] rfl rfl (by decide) (by decide) (fun H locs hP hD hS => ?_)
  have hP : va_P (dC, dI) vwCl (wX cI h a1 a2 a3 a4 a5 w r st rc na tp cn rh sr) _ := hP
  have hD : va_D A (wX cI h a1 a2 a3 a4 a5 w r st rc na tp cn rh sr) := hD
  refine lv_istore_n hx hb dX0_reachFrom_5 rfl hl (by decide) rfl (fun ls hl => ?_)
  have hl : lv_has ls 4 [(2, .int v1), (0, .ref h), (1, .int x1)] := hl
  refine lv_iconst (v := (0 : Int32)) hx hb dX0_reachFrom_6 (by decide) ?_
  refine lv_istore_n hx hb dX0_reachFrom_7 rfl hl (by decide) rfl (fun ls hl => ?_)
  have hl : lv_has ls 4 [(3, .int (0 : Int32)), (2, .int v1), (0, .ref h), (1, .int x1)] := hl
  obtain ⟨⟨x_10, rc_11, na_12, rh_13⟩, hv, hf⟩ := bd hf
  dsimp only at hf
  refine wX0_reachFrom_L8 dC dI cI cZ cL h a1 a2 a3 a4 a5 hx hb hml hown hts hK hA x1 v1 w r st tp cn sr FU (0 : Int32) rc na rh x_10 rc_11 na_12 rh_13 hv _ _ _ hP hD hS (lv_sub hl [2, 3, 1, 0] rfl) (fun H locs ls hP hD hS hl => ?_)
  have hg0 := Option.some.inj hf
  obtain ⟨hq1, hg1⟩ := Prod.mk.inj hg0
  subst hq1
  obtain ⟨hq2, hg2⟩ := Prod.mk.inj hg1
  subst hq2
  subst hg2
  exact W.vret hx hb hr (fun t ht hW => ⟨⟨(), rfl, trivial, by rw [ht]; exact hP, va_K.moved hW.alike hK, hD⟩, hS.F ht⟩) hS.2.2 dX0_reachFrom_43
set_option maxHeartbeats 4000000 in
set_option maxRecDepth 100000 in
theorem wX0_findAlive_L15 {p : Program} {l : Launch} {e : Env} {s : State} {m : MethodId} {args : Array Value} {below : List Frame} {meth : Method} {c : Code} {Q : State → Prop} {A : Nat → Prop} (dC : Nat → ClassId) (dI : Nat → Nat → Nat) (cI cZ cL : ClassId) (h a1 a2 a3 a4 a5 : Nat) (hx : p.tables.exec = Jvm.exec) (hb : c.code = cX0_findAlive) (hml : c.maxLocals = 2) (hown : s.vm.findClass RX0 = some m.cls) (hts : ∀ w ∈ wsX0_findAlive, w.before args s = true) (hK : va_K (dC, dI) vwCl (tyA cI cZ cL) s) (hA : ∀ q : Nat, s.heap.size ≤ q → A q) (w : Nat → Int32) (r : Nat → Int32) (st : Nat → Int32) (tp : Int32) (cn : Int32) (sr : Int32) (n : Nat) :
    ∀ (x1_ : Int32) (rc : Nat → Int32) (na : Nat → Int32) (rh : Int32) (x1_' : Int32) (rc' : Nat → Int32) (na' : Nat → Int32) (rh' : Int32), fX0_findAlive_L15 r n x1_ rc na rh = some (x1_', rc', na', rh') → ∀ (H : Heap) (locs : List Loc) (ls : Array Slot), va_P (dC, dI) vwCl (wX cI h a1 a2 a3 a4 a5 w r st rc na tp cn rh sr) H → va_D A (wX cI h a1 a2 a3 a4 a5 w r st rc na tp cn rh sr) → va_S A s.heap H locs → lv_has ls 2 [(0, .ref h), (1, .int x1_)] → (∀ (H : Heap) (locs : List Loc) (ls : Array Slot), va_P (dC, dI) vwCl (wX cI h a1 a2 a3 a4 a5 w r st rc' na' tp cn rh' sr) H → va_D A (wX cI h a1 a2 a3 a4 a5 w r st rc' na' tp cn rh' sr) → va_S A s.heap H locs → lv_has ls 2 [(0, .ref h), (1, .int x1_')] → W p l e (headSpec wsX0_findAlive rmX0_findAlive).room s m args below meth c H locs 0 0 Q (F0 m 37 ls [])) → W p l e (headSpec wsX0_findAlive rmX0_findAlive).room s m args below meth c H locs 0 0 Q (F0 m 15 ls []) := by
  induction n with
  | zero => intro x1_ rc na rh x1_' rc' na' rh' hf; cases hf
  | succ n ih =>
    intro x1_ rc na rh x1_' rc' na' rh' hf H locs ls hP hD hS hl k0
    have hf := (fX0_findAlive_L15_s r n x1_ rc na rh).symm.trans hf
    refine lv_iload_n hx hb dX0_findAlive_15 rfl (lv_at hl 1 rfl) ?_
    refine lv_bipush (v := (8 : Int32)) hx hb dX0_findAlive_16 (by decide) ?_
    refine lv_icmp_ge (tgt := 37) hx hb dX0_findAlive_18 (by decide) (fun h2 => ?_) (fun h2 => ?_)
    · have hf := ift h2 hf
      cases hf
      exact k0 _ _ _ hP hD hS (lv_sub hl [0, 1] rfl)
    · have hf := ifn h2 hf
      refine lv_aload_n hx hb dX0_findAlive_21 rfl (lv_at hl 0 rfl) ?_
      refine lv_aload_n hx hb dX0_findAlive_22 rfl (lv_at hl 0 rfl) ?_
      refine va_get (D := (dC, dI)) (ci := 0) (v := .ref a2) (C := RX0) (T := TX0) (N := 9) hx hb hts (fun w hw => List.mem_cons_of_mem _ (inX0 w hw)) hown hK hP 0 rfl rfl 1 (by decide) (hts _ (List.mem_cons_of_mem _ mw_62)) (fun _ h9 => h9) rfl dX0_findAlive_23 ?_
      refine lv_iload_n hx hb dX0_findAlive_26 rfl (lv_at hl 1 rfl) ?_
      obtain ⟨v3, hv, hf⟩ := bd hf
      refine q_ild hx hb hK hP 2 0 rfl rfl hv dX0_findAlive_27 ?_
      obtain ⟨⟨rc_4, na_5, rh_6⟩, hv, hf⟩ := bd hf
      dsimp only at hf
      refine q_cv (wr := []) (va_runV (As := [.int v3]) (rest := []) ⟨hx, hb, hml, hown, hts⟩ (ctX0_reach l dC dI cI cZ cL h a1 a2 a3 a4 a5 _ w r st rc na tp cn rh sr v3 rc_4 na_5 rh_6 hv) (cwV 1 hts (gV mw_106 mw_108 mw_1 mw_38 mw_109) rfl rfl rfl (by decide +kernel) ⟨Nat.le_of_ble_eq_true rfl, Nat.le_of_ble_eq_true rfl⟩) (q_preV [.int v3] hK hP hD [0, 1, 2, 3, 4, 5] (by decide) rfl (ci := 0) rfl rfl) rfl rfl hl.1 rfl (lv_room (Nat.le_of_ble_eq_true rfl)) dX0_findAlive_28 ⟨Nat.le_of_ble_eq_true rfl, Nat.le_of_ble_eq_true rfl⟩) hP hD hS hA [0, 1, 2, 3, 4, 5] [] rfl rfl (by decide) (by decide) (fun H locs hP hD hS => ?_)
      have hP : va_P (dC, dI) vwCl (wX cI h a1 a2 a3 a4 a5 w r st rc_4 na_5 tp cn rh_6 sr) _ := hP
      have hD : va_D A (wX cI h a1 a2 a3 a4 a5 w r st rc_4 na_5 tp cn rh_6 sr) := hD
      refine lv_iinc (v := x1_ + (1 : Int32)) hx hb dX0_findAlive_31 hl (k := 1) rfl (by rfl) (by decide) rfl (fun ls hl => ?_)
      have hl : lv_has ls 2 [(1, .int (x1_ + (1 : Int32))), (0, .ref h)] := hl
      refine lv_goto (tgt := 15) hx hb dX0_findAlive_34 (by decide) ?_
      exact ih _ _ _ _ _ _ _ _ hf _ _ _ hP hD hS (lv_sub hl [1, 0] rfl) k0
set_option maxHeartbeats 4000000 in
set_option maxRecDepth 100000 in
theorem wX0_findAlive_L39 {p : Program} {l : Launch} {e : Env} {s : State} {m : MethodId} {args : Array Value} {below : List Frame} {meth : Method} {c : Code} {Q : State → Prop} {A : Nat → Prop} (dC : Nat → ClassId) (dI : Nat → Nat → Nat) (cI cZ cL : ClassId) (h a1 a2 a3 a4 a5 : Nat) (hx : p.tables.exec = Jvm.exec) (hb : c.code = cX0_findAlive) (hml : c.maxLocals = 2) (hown : s.vm.findClass RX0 = some m.cls) (hts : ∀ w ∈ wsX0_findAlive, w.before args s = true) (hK : va_K (dC, dI) vwCl (tyA cI cZ cL) s) (hA : ∀ q : Nat, s.heap.size ≤ q → A q) (w : Nat → Int32) (r : Nat → Int32) (st : Nat → Int32) (tp : Int32) (cn : Int32) (sr : Int32) (n : Nat) :
    ∀ (x1_ : Int32) (rc : Nat → Int32) (na : Nat → Int32) (rh : Int32) (x1_' : Int32) (rc' : Nat → Int32) (na' : Nat → Int32) (rh' : Int32), fX0_findAlive_L39 w n x1_ rc na rh = some (x1_', rc', na', rh') → ∀ (H : Heap) (locs : List Loc) (ls : Array Slot), va_P (dC, dI) vwCl (wX cI h a1 a2 a3 a4 a5 w r st rc na tp cn rh sr) H → va_D A (wX cI h a1 a2 a3 a4 a5 w r st rc na tp cn rh sr) → va_S A s.heap H locs → lv_has ls 2 [(0, .ref h), (1, .int x1_)] → (∀ (H : Heap) (locs : List Loc) (ls : Array Slot), va_P (dC, dI) vwCl (wX cI h a1 a2 a3 a4 a5 w r st rc' na' tp cn rh' sr) H → va_D A (wX cI h a1 a2 a3 a4 a5 w r st rc' na' tp cn rh' sr) → va_S A s.heap H locs → lv_has ls 2 [(0, .ref h), (1, .int x1_')] → W p l e (headSpec wsX0_findAlive rmX0_findAlive).room s m args below meth c H locs 0 0 Q (F0 m 70 ls [])) → W p l e (headSpec wsX0_findAlive rmX0_findAlive).room s m args below meth c H locs 0 0 Q (F0 m 39 ls []) := by
  induction n with
  | zero => intro x1_ rc na rh x1_' rc' na' rh' hf; cases hf
  | succ n ih =>
    intro x1_ rc na rh x1_' rc' na' rh' hf H locs ls hP hD hS hl k0
    have hf := (fX0_findAlive_L39_s w n x1_ rc na rh).symm.trans hf
    refine lv_iload_n hx hb dX0_findAlive_39 rfl (lv_at hl 1 rfl) ?_
    refine lv_aload_n hx hb dX0_findAlive_40 rfl (lv_at hl 0 rfl) ?_
    refine va_get (D := (dC, dI)) (ci := 0) (v := .int rh) (C := RX0) (T := TX0) (N := 9) hx hb hts (fun w hw => List.mem_cons_of_mem _ (inX0 w hw)) hown hK hP 0 rfl rfl 7 (by decide) (hts _ (List.mem_cons_of_mem _ mw_68)) (fun _ h9 => h9) rfl dX0_findAlive_41 ?_
    refine lv_icmp_ge (tgt := 70) hx hb dX0_findAlive_44 (by decide) (fun h11 => ?_) (fun h11 => ?_)
    · have hf := ift h11 hf
      cases hf
      exact k0 _ _ _ hP hD hS (lv_sub hl [0, 1] rfl)
    · have hf := ifn h11 hf
      refine lv_iload_n hx hb dX0_findAlive_47 rfl (lv_at hl 1 rfl) ?_
      refine lv_sipush (v := (128 : Int32)) hx hb dX0_findAlive_48 (by decide) ?_
      refine lv_icmp_ge (tgt := 70) hx hb dX0_findAlive_51 (by decide) (fun h12 => ?_) (fun h12 => ?_)
      · have hf := ift h12 hf
        cases hf
        exact k0 _ _ _ hP hD hS (lv_sub hl [0, 1] rfl)
      · have hf := ifn h12 hf
        refine lv_aload_n hx hb dX0_findAlive_54 rfl (lv_at hl 0 rfl) ?_
        refine lv_aload_n hx hb dX0_findAlive_55 rfl (lv_at hl 0 rfl) ?_
        refine va_get (D := (dC, dI)) (ci := 0) (v := .ref a4) (C := RX0) (T := TX0) (N := 9) hx hb hts (fun w hw => List.mem_cons_of_mem _ (inX0 w hw)) hown hK hP 0 rfl rfl 3 (by decide) (hts _ (List.mem_cons_of_mem _ mw_64)) (fun _ h9 => h9) rfl dX0_findAlive_56 ?_
        refine lv_iload_n hx hb dX0_findAlive_59 rfl (lv_at hl 1 rfl) ?_
        obtain ⟨v13, hv, hf⟩ := bd hf
        refine q_ild hx hb hK hP 4 0 rfl rfl hv dX0_findAlive_60 ?_
        obtain ⟨⟨rc_14, na_15, rh_16⟩, hv, hf⟩ := bd hf
        dsimp only at hf
        refine q_cv (wr := []) (va_runV (As := [.int v13]) (rest := []) ⟨hx, hb, hml, hown, hts⟩ (ctX0_reachFrom l dC dI cI cZ cL h a1 a2 a3 a4 a5 _ w r st rc na tp cn rh sr v13 rc_14 na_15 rh_16 hv) (cwV 1 hts (gV mw_110 mw_112 mw_2 mw_38 mw_113) rfl rfl rfl (by decide +kernel) ⟨Nat.le_of_ble_eq_true rfl, Nat.le_of_ble_eq_true rfl⟩) (q_preV [.int v13] hK hP hD [0, 1, 2, 3, 4, 5] (by decide) rfl (ci := 0) rfl rfl) rfl rfl hl.1 rfl (lv_room (Nat.le_of_ble_eq_true rfl)) dX0_findAlive_61 ⟨Nat.le_of_ble_eq_true rfl, Nat.le_of_ble_eq_true rfl⟩) hP hD hS hA [0, 1, 2, 3, 4, 5] [] rfl rfl (by decide) (by decide) (fun H locs hP hD hS => ?_)
        have hP : va_P (dC, dI) vwCl (wX cI h a1 a2 a3 a4 a5 w r st rc_14 na_15 tp cn rh_16 sr) _ := hP
        have hD : va_D A (wX cI h a1 a2 a3 a4 a5 w r st rc_14 na_15 tp cn rh_16 sr) := hD
        refine lv_iinc (v := x1_ + (1 : Int32)) hx hb dX0_findAlive_64 hl (k := 1) rfl (by rfl) (by decide) rfl (fun ls hl => ?_)
        have hl : lv_has ls 2 [(1, .int (x1_ + (1 : Int32))), (0, .ref h)] := hl
        refine lv_goto (tgt := 39) hx hb dX0_findAlive_67 (by decide) ?_
        exact ih _ _ _ _ _ _ _ _ hf _ _ _ hP hD hS (lv_sub hl [1, 0] rfl) k0
set_option maxHeartbeats 4000000 in
set_option maxRecDepth 100000 in
theorem ctX0_findAlive (l : Launch) (dC : Nat → ClassId) (dI : Nat → Nat → Nat) (cI cZ cL : ClassId) (h a1 a2 a3 a4 a5 : Nat) (sz : Nat) (w : Nat → Int32) (r : Nat → Int32) (st : Nat → Int32) (rc : Nat → Int32) (na : Nat → Int32) (tp : Int32) (cn : Int32) (rh : Int32) (sr : Int32) (rc' : Nat → Int32) (na' : Nat → Int32) (rh' : Int32) (hf : fX0_findAlive w r rc na rh = some (rc', na', rh')) : Met l yX0_findAlive wsX0_findAlive rmX0_findAlive (va_Pc [.ref h] (q_pre (dC, dI) vwCl (tyA cI cZ cL) sz (wX cI h a1 a2 a3 a4 a5 w r st rc na tp cn rh sr))) (va_Qv (fun (_ : Unit) => True) (fun _ => q_post (dC, dI) vwCl (tyA cI cZ cL) (va_A (wX cI h a1 a2 a3 a4 a5 w r st rc na tp cn rh sr) sz) (wX cI h a1 a2 a3 a4 a5 w r st rc' na' tp cn rh' sr)) (va_A (wX cI h a1 a2 a3 a4 a5 w r st rc na tp cn rh sr) sz)) 0 0 (va_A (wX cI h a1 a2 a3 a4 a5 w r st rc na tp cn rh sr) sz) := by
  refine Met.ofW (cc := cX0_findAlive) (maxL := 2) (ret := (none)) (by decide) rfl ?_
  intro p e s m args below meth c s₁ B hml hv
  obtain ⟨rfl, hsz, hP, hK, hD0⟩ := hv
  have hx := B.exec
  have hb := B.bytes
  have hr := B.returns
  have hts := atoms_spec (ws := wsX0_findAlive) B.pre
  have hown : s.vm.findClass RX0 = some m.cls := findClass_of_methodNamed B.named
  subst hsz
  have hD := hD0.self (sz := s.heap.size)
  generalize hAe : va_A (wX cI h a1 a2 a3 a4 a5 w r st rc na tp cn rh sr) s.heap.size = A at hD ⊢
  have hA : ∀ q : Nat, s.heap.size ≤ q → A q := fun q h => by rw [← hAe]; exact Or.inr h
  have hS : va_S A s.heap s.heap [] := va_S.rf
  have hl := lv_entry ([.ref h]) (n := 2) (Nat.le_of_ble_eq_true rfl)
  rw [lg_entry_eq]
  generalize (lg_sl ([.ref h]) ++ List.replicate (2 - (lg_sl ([.ref h])).length) Slot.unset).toArray = ls at hl ⊢
  have hl : lv_has ls 2 [(0, .ref h)] := hl
  unfold fX0_findAlive at hf
  refine lv_aload_n hx hb dX0_findAlive_0 rfl (lv_at hl 0 rfl) ?_
  refine va_get (D := (dC, dI)) (ci := 0) (v := .ref a5) (C := RX0) (T := TX0) (N := 9) hx hb hts (fun w hw => List.mem_cons_of_mem _ (inX0 w hw)) hown hK hP 0 rfl rfl 4 (by decide) (hts _ (List.mem_cons_of_mem _ mw_65)) (fun _ h9 => h9) rfl dX0_findAlive_1 ?_
  refine lv_iconst (v := (-1 : Int32)) hx hb dX0_findAlive_4 (by decide) ?_
  obtain ⟨na_1, hv, hf⟩ := bd hf
  refine q_cv (wr := [(h, .inr (0, [.ref a1, .ref a2, .ref a3, .ref a4, .ref a5, .int tp, .int cn, .int rh, .int sr])), (a1, .inl (cI, 256, .inl w)), (a2, .inl (cI, 8, .inl r)), (a3, .inl (cI, 128, .inl st)), (a4, .inl (cI, 128, .inl rc))]) (va_runS (As := [.ref a5, .int (-1 : Int32)]) (rest := []) ⟨hx, hb, hml, hown, hts⟩ (ctXA_fill l dC dI cI cZ cL a5 256 _ na (-1 : Int32) na_1 hv) (va_cwS 2 hts (gS mw_58 mw_59 mw_39 mw_60) rfl rfl rfl (by decide +kernel) ⟨Nat.le_of_ble_eq_true rfl, Nat.le_of_ble_eq_true rfl⟩) (q_preS [.ref a5, .int (-1 : Int32)] hK hP hD [5] (by decide) rfl) rfl rfl hl.1 rfl (lv_room (Nat.le_of_ble_eq_true rfl)) dX0_findAlive_5 ⟨Nat.le_of_ble_eq_true rfl, Nat.le_of_ble_eq_true rfl⟩) hP hD hS hA [5] [0, 1, 2, 3, 4] rfl rfl (by decide) (by decide) (fun H locs hP hD hS => ?_)
  have hP : va_P (dC, dI) vwCl (wX cI h a1 a2 a3 a4 a5 w r st rc na_1 tp cn rh sr) _ := hP
  have hD : va_D A (wX cI h a1 a2 a3 a4 a5 w r st rc na_1 tp cn rh sr) := hD
  refine lv_aload_n hx hb dX0_findAlive_8 rfl (lv_at hl 0 rfl) ?_
  refine lv_iconst (v := (0 : Int32)) hx hb dX0_findAlive_9 (by decide) ?_
  refine va_put (D := (dC, dI)) (ci := 0) (v := .int (0 : Int32)) (ty := .int) (C := RX0) (T := TX0) (N := 9) hx hb hts (fun w hw => List.mem_cons_of_mem _ (inX0 w hw)) tyX0 tyX0_ok nmX0 hown hK hP hD hS 0 rfl rfl 7 (by decide) (hts _ (List.mem_cons_of_mem _ mw_68)) (fun _ h9 => h9) rfl (by decide +kernel) rfl rfl (Nat.le_of_ble_eq_true rfl) dX0_findAlive_10 (fun H locs hP hD hS => ?_)
  have hP : va_P (dC, dI) vwCl (wX cI h a1 a2 a3 a4 a5 w r st rc na_1 tp cn (0 : Int32) sr) _ := hP
  have hD : va_D A (wX cI h a1 a2 a3 a4 a5 w r st rc na_1 tp cn (0 : Int32) sr) := hD
  refine lv_iconst (v := (0 : Int32)) hx hb dX0_findAlive_13 (by decide) ?_
  refine lv_istore_n hx hb dX0_findAlive_14 rfl hl (by decide) rfl (fun ls hl => ?_)
  have hl : lv_has ls 2 [(1, .int (0 : Int32)), (0, .ref h)] := hl
  obtain ⟨⟨x_7, rc_8, na_9, rh_10⟩, hv, hf⟩ := bd hf
  dsimp only at hf
  refine wX0_findAlive_L15 dC dI cI cZ cL h a1 a2 a3 a4 a5 hx hb hml hown hts hK hA w r st tp cn sr FU (0 : Int32) rc na_1 (0 : Int32) x_7 rc_8 na_9 rh_10 hv _ _ _ hP hD hS (lv_sub hl [1, 0] rfl) (fun H locs ls hP hD hS hl => ?_)
  refine lv_iconst (v := (0 : Int32)) hx hb dX0_findAlive_37 (by decide) ?_
  refine lv_istore_n hx hb dX0_findAlive_38 rfl hl (by decide) rfl (fun ls hl => ?_)
  have hl : lv_has ls 2 [(1, .int (0 : Int32)), (0, .ref h)] := hl
  obtain ⟨⟨x_17, rc_18, na_19, rh_20⟩, hv, hf⟩ := bd hf
  dsimp only at hf
  refine wX0_findAlive_L39 dC dI cI cZ cL h a1 a2 a3 a4 a5 hx hb hml hown hts hK hA w r st tp cn sr FU (0 : Int32) rc_8 na_9 rh_10 x_17 rc_18 na_19 rh_20 hv _ _ _ hP hD hS (lv_sub hl [1, 0] rfl) (fun H locs ls hP hD hS hl => ?_)
  have hg0 := Option.some.inj hf
  obtain ⟨hq1, hg1⟩ := Prod.mk.inj hg0
  subst hq1
  obtain ⟨hq2, hg2⟩ := Prod.mk.inj hg1
  subst hq2
  subst hg2
  exact W.vret hx hb hr (fun t ht hW => ⟨⟨(), rfl, trivial, by rw [ht]; exact hP, va_K.moved hW.alike hK, hD⟩, hS.F ht⟩) hS.2.2 dX0_findAlive_70
