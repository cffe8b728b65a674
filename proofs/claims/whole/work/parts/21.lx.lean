set_option maxHeartbeats 4000000 in
set_option maxRecDepth 100000 in
theorem ctL_allocate (l : Launch) (hlt : l.stackTraces = false) (dC : Nat → ClassId) (dI : Nat → Nat → Nat) (cI cZ cL : ClassId) (h a1 a2 a3 a4 a5 oa : Nat) (sz : Nat) (w : Nat → Int32) (r : Nat → Int32) (st : Nat → Int32) (rc : Nat → Int32) (na : Nat → Int32) (tp : Int32) (cn : Int32) (rh : Int32) (sr : Int32) (ou : Nat → Int64) (x1 : Int32) (x2 : Int32) (rs : Int32) (w' : Nat → Int32) (r' : Nat → Int32) (st' : Nat → Int32) (tp' : Int32) (cn' : Int32) (sr' : Int32) (ou' : Nat → Int64) (hf : fL_allocate w r st tp cn sr ou x1 x2 = some (rs, w', r', st', tp', cn', sr', ou')) : vx_Met l yL_allocate wsL_allocate rmL_allocate (va_Pc [.ref h, .int x1, .int x2, .ref oa] (q_preW (dC, dI) vwCl (tyA cI cZ cL) RX0 q_tx sz (wY cI cL h a1 a2 a3 a4 a5 oa w r st rc na tp cn rh sr ou))) (va_Qi (fun r (_ : Unit) => (0 : Nat) = 0 ∧ r = rs) (fun _ => q_post (dC, dI) vwCl (tyA cI cZ cL) (va_A (wY cI cL h a1 a2 a3 a4 a5 oa w r st rc na tp cn rh sr ou) sz) (wY cI cL h a1 a2 a3 a4 a5 oa w' r' st' rc na tp' cn' rh sr' ou')) (va_A (wY cI cL h a1 a2 a3 a4 a5 oa w r st rc na tp cn rh sr ou) sz)) (vx_X (fun (_ : Unit) => ¬ (0 : Nat) = 0) (fun E _ t => E = q_E 0 ∧ q_post (dC, dI) vwCl (tyA cI cZ cL) (va_A (wY cI cL h a1 a2 a3 a4 a5 oa w r st rc na tp cn rh sr ou) sz) (wY cI cL h a1 a2 a3 a4 a5 oa w' r' st' rc na tp' cn' rh sr' ou') t) (va_A (wY cI cL h a1 a2 a3 a4 a5 oa w r st rc na tp cn rh sr ou) sz)) 1 6 (va_A (wY cI cL h a1 a2 a3 a4 a5 oa w r st rc na tp cn rh sr ou) sz) := by
  refine vx_ofWH (cc := cL_allocate) (maxL := 5) (ret := (some .int)) (hh := [(0, 10, 13, 13), (0, 10, 17, 15), (0, 10, 21, 17)]) (by decide) rfl ?_
  intro p e s m args below meth c s₁ B hml hv
  obtain ⟨rfl, hsz, hP, hK, hD0, hZ0, hT, hN, hC⟩ := hv
  have hx := B.exec
  have hb := B.bytes
  have hr := B.returns
  have hts := atoms_spec (ws := wsL_allocate) B.pre
  have hown : s.vm.findClass RL = some m.cls := findClass_of_methodNamed B.named
  have hlk := B.notSynchronized
  have htab := vx_table (x := yL_allocate) B (hts _ List.mem_cons_self)
  subst hsz
  have hD := hD0.self (sz := s.heap.size)
  generalize hAe : va_A (wY cI cL h a1 a2 a3 a4 a5 oa w r st rc na tp cn rh sr ou) s.heap.size = A at hZ0 hD ⊢
  have hA : ∀ q : Nat, s.heap.size ≤ q → A q := fun q h => by rw [← hAe]; exact Or.inr h
  have hS : va_S A s.heap s.heap [] := va_S.rf
  have hl := lv_entry ([.ref h, .int x1, .int x2, .ref oa]) (n := 5) (Nat.le_of_ble_eq_true rfl)
  rw [lg_entry_eq]
  generalize (lg_sl ([.ref h, .int x1, .int x2, .ref oa]) ++ List.replicate (5 - (lg_sl ([.ref h, .int x1, .int x2, .ref oa])).length) Slot.unset).toArray = ls at hl ⊢
  have hl : lv_has ls 5 [(0, .ref h), (1, .int x1), (2, .int x2), (3, .ref oa)] := hl
  unfold fL_allocate at hf
  refine lv_aload_n hx hb dL_allocate_0 rfl (lv_at hl 3 rfl) ?_
  refine lv_iconst (v := (0 : Int32)) hx hb dL_allocate_1 (by decide) ?_
  refine lv_aload_n hx hb dL_allocate_2 rfl (lv_at hl 0 rfl) ?_
  refine lv_iload_n hx hb dL_allocate_3 rfl (lv_at hl 1 rfl) ?_
  refine lv_iload_n hx hb dL_allocate_4 rfl (lv_at hl 2 rfl) ?_
  obtain ⟨⟨e1, v2, w_3, r_4, st_5, tp_6, cn_7, sr_8⟩, hv, hf⟩ := bd hf
  dsimp only at hf
  by_cases he : e1 = 0
  · replace hf := ift he hf
    subst he
    refine q_ni (wr := [(oa, .inl (cL, 1, .inr (.inl ou)))]) (vx_runV (As := [.int x1, .int x2]) (rest := [.int (0 : Int32), .ref oa]) ⟨hx, hb, hml, hown, hts⟩ (ctX0_allocate l hlt dC dI cI cZ cL h a1 a2 a3 a4 a5 _ w r st rc na tp cn rh sr x1 x2 0 v2 w_3 r_4 st_5 tp_6 cn_7 sr_8 hv) (cwV 2 hts (gV mw_131 mw_132 mw_133 mw_38 mw_134) rfl rfl rfl (by decide +kernel) ⟨Nat.le_of_ble_eq_true rfl, Nat.le_of_ble_eq_true rfl⟩) (q_preXV [.int x1, .int x2] hK hP hD hS hA hZ0 hT hN [0, 1, 2, 3, 4, 5] (by decide) rfl (ci := 0) rfl rfl) rfl rfl hl.1 rfl (lv_room (Nat.le_of_ble_eq_true rfl)) dL_allocate_5 ⟨(q_le0 _).1, (q_le0 _).2⟩) hP hD hS hA [0, 1, 2, 3, 4, 5] [6] rfl rfl (by decide) (by decide) (fun H locs hP hD hS => ?_)
    have hP := hP.sub (ws' := (wY cI cL h a1 a2 a3 a4 a5 oa w_3 r_4 st_5 rc na tp_6 cn_7 rh sr_8 ou)) [1, 2, 3, 4, 5, 6, 0] rfl
    have hD := hD.sub (ws' := (wY cI cL h a1 a2 a3 a4 a5 oa w_3 r_4 st_5 rc na tp_6 cn_7 rh sr_8 ou)) [1, 2, 3, 4, 5, 6, 0] (by decide) rfl
    have hP : va_P (dC, dI) vwCl (wY cI cL h a1 a2 a3 a4 a5 oa w_3 r_4 st_5 rc na tp_6 cn_7 rh sr_8 ou) _ := hP
    have hD : va_D A (wY cI cL h a1 a2 a3 a4 a5 oa w_3 r_4 st_5 rc na tp_6 cn_7 rh sr_8 ou) := hD
    refine lv_i2l hx hb dL_allocate_8 rfl ?_
    obtain ⟨ou_9, hv, hf⟩ := bd hf
    refine q_lst hx hb hK hP hD hS 6 2 rfl rfl hv dL_allocate_9 (fun H locs hP hD hS => ?_)
    have hP : va_P (dC, dI) vwCl (wY cI cL h a1 a2 a3 a4 a5 oa w_3 r_4 st_5 rc na tp_6 cn_7 rh sr_8 ou_9) _ := hP
    have hD : va_D A (wY cI cL h a1 a2 a3 a4 a5 oa w_3 r_4 st_5 rc na tp_6 cn_7 rh sr_8 ou_9) := hD
    refine lv_goto (tgt := 25) hx hb dL_allocate_10 (by decide) ?_
    refine lv_iconst (v := (0 : Int32)) hx hb dL_allocate_25 (by decide) ?_
    have hg0 := Option.some.inj hf
    obtain ⟨hq1, hg1⟩ := Prod.mk.inj hg0
    subst hq1
    obtain ⟨hq2, hg2⟩ := Prod.mk.inj hg1
    subst hq2
    obtain ⟨hq3, hg3⟩ := Prod.mk.inj hg2
    subst hq3
    obtain ⟨hq4, hg4⟩ := Prod.mk.inj hg3
    subst hq4
    obtain ⟨hq5, hg5⟩ := Prod.mk.inj hg4
    subst hq5
    obtain ⟨hq6, hg6⟩ := Prod.mk.inj hg5
    subst hq6
    obtain ⟨hq7, hg7⟩ := Prod.mk.inj hg6
    subst hq7
    subst hg7
    refine vx_ret ?_
    refine W.widen (k := 1) (n := 6) (by decide) (by decide) ?_
    exact W.iret hx hb hr (fun t ht hW => ⟨⟨_, (), rfl, ⟨rfl, rfl⟩, by rw [ht]; exact hP, va_K.moved hW.alike hK, hD⟩, hS.F ht⟩) hS.2.2 dL_allocate_26 hlk
  · replace hf := ifn he hf
    refine q_ti (wr := [(oa, .inl (cL, 1, .inr (.inl ou)))]) he (vx_runV (As := [.int x1, .int x2]) (rest := [.int (0 : Int32), .ref oa]) ⟨hx, hb, hml, hown, hts⟩ (ctX0_allocate l hlt dC dI cI cZ cL h a1 a2 a3 a4 a5 _ w r st rc na tp cn rh sr x1 x2 e1 v2 w_3 r_4 st_5 tp_6 cn_7 sr_8 hv) (cwV 2 hts (gV mw_131 mw_132 mw_133 mw_38 mw_134) rfl rfl rfl (by decide +kernel) ⟨Nat.le_of_ble_eq_true rfl, Nat.le_of_ble_eq_true rfl⟩) (q_preXV [.int x1, .int x2] hK hP hD hS hA hZ0 hT hN [0, 1, 2, 3, 4, 5] (by decide) rfl (ci := 0) rfl rfl) rfl rfl hl.1 rfl (lv_room (Nat.le_of_ble_eq_true rfl)) dL_allocate_5 ⟨q_w1 wsL_allocate rmL_allocate e1 rfl, q_w6 wsL_allocate rmL_allocate e1 rfl⟩) hP hD hS hA [0, 1, 2, 3, 4, 5] [6] rfl rfl (by decide) (by decide) (fun ce q9 H locs hP hD hS hc1 hc2 hc3 => ?_)
    have hP := hP.sub (ws' := (wY cI cL h a1 a2 a3 a4 a5 oa w_3 r_4 st_5 rc na tp_6 cn_7 rh sr_8 ou)) [1, 2, 3, 4, 5, 6, 0] rfl
    have hD := hD.sub (ws' := (wY cI cL h a1 a2 a3 a4 a5 oa w_3 r_4 st_5 rc na tp_6 cn_7 rh sr_8 ou)) [1, 2, 3, 4, 5, 6, 0] (by decide) rfl
    have hP : va_P (dC, dI) vwCl (wY cI cL h a1 a2 a3 a4 a5 oa w_3 r_4 st_5 rc na tp_6 cn_7 rh sr_8 ou) _ := hP
    have hD : va_D A (wY cI cL h a1 a2 a3 a4 a5 oa w_3 r_4 st_5 rc na tp_6 cn_7 rh sr_8 ou) := hD
    by_cases hj : e1 = 1
    · replace hf := ift hj hf
      subst hj
      refine vx_catch (own := RL) (E := q_E 1) (name := "java/lang/IndexOutOfBoundsException") hown ([] : List ExceptionTableEntry) ⟨0, 10, 13, 13⟩ ([⟨0, 10, 17, 15⟩, ⟨0, 10, 21, 17⟩] : List ExceptionTableEntry) (htab.trans rfl) (fun _ h9 => absurd h9 List.not_mem_nil) (by decide) (by decide) (hts _ (List.mem_cons_of_mem _ mw_128)) (va_Nw.use (w := Cond.castable "java/lang/IndexOutOfBoundsException" "java/lang/IndexOutOfBoundsException") rfl (hN.2 "java/lang/IndexOutOfBoundsException" (by decide +kernel))) hc1 hc2 hc3 ?_
      refine lv_astore hx hb dL_allocate_13 hl (by decide) rfl (fun ls hl => ?_)
      have hl : lv_has ls 5 [(4, .ref q9), (0, .ref h), (1, .int x1), (2, .int x2), (3, .ref oa)] := hl
      refine lv_iconst (v := (1 : Int32)) hx hb dL_allocate_15 (by decide) ?_
      have hg0 := Option.some.inj hf
      obtain ⟨hq1, hg1⟩ := Prod.mk.inj hg0
      subst hq1
      obtain ⟨hq2, hg2⟩ := Prod.mk.inj hg1
      subst hq2
      obtain ⟨hq3, hg3⟩ := Prod.mk.inj hg2
      subst hq3
      obtain ⟨hq4, hg4⟩ := Prod.mk.inj hg3
      subst hq4
      obtain ⟨hq5, hg5⟩ := Prod.mk.inj hg4
      subst hq5
      obtain ⟨hq6, hg6⟩ := Prod.mk.inj hg5
      subst hq6
      obtain ⟨hq7, hg7⟩ := Prod.mk.inj hg6
      subst hq7
      subst hg7
      refine vx_ret ?_
      refine W.widen (k := 1) (n := 6) (by decide) (by decide) ?_
      exact W.iret hx hb hr (fun t ht hW => ⟨⟨_, (), rfl, ⟨rfl, rfl⟩, by rw [ht]; exact hP, va_K.moved hW.alike hK, hD⟩, hS.F ht⟩) hS.2.2 dL_allocate_16 hlk
    · replace hf := ifn hj hf
      by_cases hj : e1 = 2
      · replace hf := ift hj hf
        subst hj
        refine vx_catch (own := RL) (E := q_E 2) (name := "java/lang/IllegalArgumentException") hown ([⟨0, 10, 13, 13⟩] : List ExceptionTableEntry) ⟨0, 10, 17, 15⟩ ([⟨0, 10, 21, 17⟩] : List ExceptionTableEntry) (htab.trans rfl) (List.forall_mem_cons.mpr ⟨Or.inr ⟨by decide, "java/lang/IndexOutOfBoundsException", hts _ (List.mem_cons_of_mem _ mw_128), hC ("java/lang/IllegalArgumentException", "java/lang/IndexOutOfBoundsException") (by decide +kernel)⟩, fun _ h9 => absurd h9 List.not_mem_nil⟩) (by decide) (by decide) (hts _ (List.mem_cons_of_mem _ mw_129)) (va_Nw.use (w := Cond.castable "java/lang/IllegalArgumentException" "java/lang/IllegalArgumentException") rfl (hN.2 "java/lang/IllegalArgumentException" (by decide +kernel))) hc1 hc2 hc3 ?_
        refine lv_astore hx hb dL_allocate_17 hl (by decide) rfl (fun ls hl => ?_)
        have hl : lv_has ls 5 [(4, .ref q9), (0, .ref h), (1, .int x1), (2, .int x2), (3, .ref oa)] := hl
        refine lv_iconst (v := (2 : Int32)) hx hb dL_allocate_19 (by decide) ?_
        have hg0 := Option.some.inj hf
        obtain ⟨hq1, hg1⟩ := Prod.mk.inj hg0
        subst hq1
        obtain ⟨hq2, hg2⟩ := Prod.mk.inj hg1
        subst hq2
        obtain ⟨hq3, hg3⟩ := Prod.mk.inj hg2
        subst hq3
        obtain ⟨hq4, hg4⟩ := Prod.mk.inj hg3
        subst hq4
        obtain ⟨hq5, hg5⟩ := Prod.mk.inj hg4
        subst hq5
        obtain ⟨hq6, hg6⟩ := Prod.mk.inj hg5
        subst hq6
        obtain ⟨hq7, hg7⟩ := Prod.mk.inj hg6
        subst hq7
        subst hg7
        refine vx_ret ?_
        refine W.widen (k := 1) (n := 6) (by decide) (by decide) ?_
        exact W.iret hx hb hr (fun t ht hW => ⟨⟨_, (), rfl, ⟨rfl, rfl⟩, by rw [ht]; exact hP, va_K.moved hW.alike hK, hD⟩, hS.F ht⟩) hS.2.2 dL_allocate_20 hlk
      · replace hf := ifn hj hf
        by_cases hj : e1 = 3
        · replace hf := ift hj hf
          subst hj
          refine vx_catch (own := RL) (E := q_E 3) (name := "java/lang/IllegalStateException") hown ([⟨0, 10, 13, 13⟩, ⟨0, 10, 17, 15⟩] : List ExceptionTableEntry) ⟨0, 10, 21, 17⟩ ([] : List ExceptionTableEntry) (htab.trans rfl) (List.forall_mem_cons.mpr ⟨Or.inr ⟨by decide, "java/lang/IndexOutOfBoundsException", hts _ (List.mem_cons_of_mem _ mw_128), hC ("java/lang/IllegalStateException", "java/lang/IndexOutOfBoundsException") (by decide +kernel)⟩, List.forall_mem_cons.mpr ⟨Or.inr ⟨by decide, "java/lang/IllegalArgumentException", hts _ (List.mem_cons_of_mem _ mw_129), hC ("java/lang/IllegalStateException", "java/lang/IllegalArgumentException") (by decide +kernel)⟩, fun _ h9 => absurd h9 List.not_mem_nil⟩⟩) (by decide) (by decide) (hts _ (List.mem_cons_of_mem _ mw_130)) (va_Nw.use (w := Cond.castable "java/lang/IllegalStateException" "java/lang/IllegalStateException") rfl (hN.2 "java/lang/IllegalStateException" (by decide +kernel))) hc1 hc2 hc3 ?_
          refine lv_astore hx hb dL_allocate_21 hl (by decide) rfl (fun ls hl => ?_)
          have hl : lv_has ls 5 [(4, .ref q9), (0, .ref h), (1, .int x1), (2, .int x2), (3, .ref oa)] := hl
          refine lv_iconst (v := (3 : Int32)) hx hb dL_allocate_23 (by decide) ?_
          have hg0 := Option.some.inj hf
          obtain ⟨hq1, hg1⟩ := Prod.mk.inj hg0
          subst hq1
          obtain ⟨hq2, hg2⟩ := Prod.mk.inj hg1
          subst hq2
          obtain ⟨hq3, hg3⟩ := Prod.mk.inj hg2
          subst hq3
          obtain ⟨hq4, hg4⟩ := Prod.mk.inj hg3
          subst hq4
          obtain ⟨hq5, hg5⟩ := Prod.mk.inj hg4
          subst hq5
          obtain ⟨hq6, hg6⟩ := Prod.mk.inj hg5
          subst hq6
          obtain ⟨hq7, hg7⟩ := Prod.mk.inj hg6
          subst hq7
          subst hg7
          refine vx_ret ?_
          refine W.widen (k := 1) (n := 6) (by decide) (by decide) ?_
          exact W.iret hx hb hr (fun t ht hW => ⟨⟨_, (), rfl, ⟨rfl, rfl⟩, by rw [ht]; exact hP, va_K.moved hW.alike hK, hD⟩, hS.F ht⟩) hS.2.2 dL_allocate_24 hlk
        · replace hf := ifn hj hf
          cases hf
set_option maxHeartbeats 4000000 in
set_option maxRecDepth 100000 in
theorem ctL_claim (l : Launch) (hlt : l.stackTraces = false) (dC : Nat → ClassId) (dI : Nat → Nat → Nat) (cI cZ cL : ClassId) (h a1 a2 a3 a4 a5 oa : Nat) (sz : Nat) (w : Nat → Int32) (r : Nat → Int32) (st : Nat → Int32) (rc : Nat → Int32) (na : Nat → Int32) (tp : Int32) (cn : Int32) (rh : Int32) (sr : Int32) (ou : Nat → Int64) (x1 : Int32) (x2 : Int32) (x3 : Int32) (rs : Int32) (w' : Nat → Int32) (r' : Nat → Int32) (st' : Nat → Int32) (rc' : Nat → Int32) (na' : Nat → Int32) (tp' : Int32) (cn' : Int32) (rh' : Int32) (sr' : Int32) (ou' : Nat → Int64) (hf : fL_claim w r st rc na tp cn rh sr ou x1 x2 x3 = some (rs, w', r', st', rc', na', tp', cn', rh', sr', ou')) : vx_Met l yL_claim wsL_claim rmL_claim (va_Pc [.ref h, .int x1, .int x2, .int x3, .ref oa] (q_preW (dC, dI) vwCl (tyA cI cZ cL) RX0 q_tx sz (wY cI cL h a1 a2 a3 a4 a5 oa w r st rc na tp cn rh sr ou))) (va_Qi (fun r (_ : Unit) => (0 : Nat) = 0 ∧ r = rs) (fun _ => q_post (dC, dI) vwCl (tyA cI cZ cL) (va_A (wY cI cL h a1 a2 a3 a4 a5 oa w r st rc na tp cn rh sr ou) sz) (wY cI cL h a1 a2 a3 a4 a5 oa w' r' st' rc' na' tp' cn' rh' sr' ou')) (va_A (wY cI cL h a1 a2 a3 a4 a5 oa w r st rc na tp cn rh sr ou) sz)) (vx_X (fun (_ : Unit) => ¬ (0 : Nat) = 0) (fun E _ t => E = q_E 0 ∧ q_post (dC, dI) vwCl (tyA cI cZ cL) (va_A (wY cI cL h a1 a2 a3 a4 a5 oa w r st rc na tp cn rh sr ou) sz) (wY cI cL h a1 a2 a3 a4 a5 oa w' r' st' rc' na' tp' cn' rh' sr' ou') t) (va_A (wY cI cL h a1 a2 a3 a4 a5 oa w r st rc na tp cn rh sr ou) sz)) 1 6 (va_A (wY cI cL h a1 a2 a3 a4 a5 oa w r st rc na tp cn rh sr ou) sz) := by
  refine vx_ofWH (cc := cL_claim) (maxL := 6) (ret := (some .int)) (hh := [(0, 12, 15, 13), (0, 12, 19, 15), (0, 12, 23, 23), (0, 12, 27, 17)]) (by decide) rfl ?_
  intro p e s m args below meth c s₁ B hml hv
  obtain ⟨rfl, hsz, hP, hK, hD0, hZ0, hT, hN, hC⟩ := hv
  have hx := B.exec
  have hb := B.bytes
  have hr := B.returns
  have hts := atoms_spec (ws := wsL_claim) B.pre
  have hown : s.vm.findClass RL = some m.cls := findClass_of_methodNamed B.named
  have hlk := B.notSynchronized
  have htab := vx_table (x := yL_claim) B (hts _ List.mem_cons_self)
  subst hsz
  have hD := hD0.self (sz := s.heap.size)
  generalize hAe : va_A (wY cI cL h a1 a2 a3 a4 a5 oa w r st rc na tp cn rh sr ou) s.heap.size = A at hZ0 hD ⊢
  have hA : ∀ q : Nat, s.heap.size ≤ q → A q := fun q h => by rw [← hAe]; exact Or.inr h
  have hS : va_S A s.heap s.heap [] := va_S.rf
  have hl := lv_entry ([.ref h, .int x1, .int x2, .int x3, .ref oa]) (n := 6) (Nat.le_of_ble_eq_true rfl)
  rw [lg_entry_eq]
  generalize (lg_sl ([.ref h, .int x1, .int x2, .int x3, .ref oa]) ++ List.replicate (6 - (lg_sl ([.ref h, .int x1, .int x2, .int x3, .ref oa])).length) Slot.unset).toArray = ls at hl ⊢
  have hl : lv_has ls 6 [(0, .ref h), (1, .int x1), (2, .int x2), (3, .int x3), (4, .ref oa)] := hl
  unfold fL_claim at hf
  refine lv_aload hx hb dL_claim_0 (lv_at hl 4 rfl) ?_
  refine lv_iconst (v := (0 : Int32)) hx hb dL_claim_2 (by decide) ?_
  refine lv_aload_n hx hb dL_claim_3 rfl (lv_at hl 0 rfl) ?_
  refine lv_iload_n hx hb dL_claim_4 rfl (lv_at hl 1 rfl) ?_
  refine lv_iload_n hx hb dL_claim_5 rfl (lv_at hl 2 rfl) ?_
  refine lv_iload_n hx hb dL_claim_6 rfl (lv_at hl 3 rfl) ?_
  obtain ⟨⟨e1, v2, w_3, r_4, st_5, rc_6, na_7, tp_8, cn_9, rh_10, sr_11⟩, hv, hf⟩ := bd hf
  dsimp only at hf
  by_cases he : e1 = 0
  · replace hf := ift he hf
    subst he
    refine q_ni (wr := [(oa, .inl (cL, 1, .inr (.inl ou)))]) (vx_runV (As := [.int x1, .int x2, .int x3]) (rest := [.int (0 : Int32), .ref oa]) ⟨hx, hb, hml, hown, hts⟩ (ctX0_claim l hlt dC dI cI cZ cL h a1 a2 a3 a4 a5 _ w r st rc na tp cn rh sr x1 x2 x3 0 v2 w_3 r_4 st_5 rc_6 na_7 tp_8 cn_9 rh_10 sr_11 hv) (cwV 3 hts (gV mw_259 mw_260 mw_261 mw_38 mw_262) rfl rfl rfl (by decide +kernel) ⟨Nat.le_of_ble_eq_true rfl, Nat.le_of_ble_eq_true rfl⟩) (q_preXV [.int x1, .int x2, .int x3] hK hP hD hS hA hZ0 hT hN [0, 1, 2, 3, 4, 5] (by decide) rfl (ci := 0) rfl rfl) rfl rfl hl.1 rfl (lv_room (Nat.le_of_ble_eq_true rfl)) dL_claim_7 ⟨(q_le0 _).1, (q_le0 _).2⟩) hP hD hS hA [0, 1, 2, 3, 4, 5] [6] rfl rfl (by decide) (by decide) (fun H locs hP hD hS => ?_)
    have hP := hP.sub (ws' := (wY cI cL h a1 a2 a3 a4 a5 oa w_3 r_4 st_5 rc_6 na_7 tp_8 cn_9 rh_10 sr_11 ou)) [1, 2, 3, 4, 5, 6, 0] rfl
    have hD := hD.sub (ws' := (wY cI cL h a1 a2 a3 a4 a5 oa w_3 r_4 st_5 rc_6 na_7 tp_8 cn_9 rh_10 sr_11 ou)) [1, 2, 3, 4, 5, 6, 0] (by decide) rfl
    have hP : va_P (dC, dI) vwCl (wY cI cL h a1 a2 a3 a4 a5 oa w_3 r_4 st_5 rc_6 na_7 tp_8 cn_9 rh_10 sr_11 ou) _ := hP
    have hD : va_D A (wY cI cL h a1 a2 a3 a4 a5 oa w_3 r_4 st_5 rc_6 na_7 tp_8 cn_9 rh_10 sr_11 ou) := hD
    refine lv_i2l hx hb dL_claim_10 rfl ?_
    obtain ⟨ou_12, hv, hf⟩ := bd hf
    refine q_lst hx hb hK hP hD hS 6 2 rfl rfl hv dL_claim_11 (fun H locs hP hD hS => ?_)
    have hP : va_P (dC, dI) vwCl (wY cI cL h a1 a2 a3 a4 a5 oa w_3 r_4 st_5 rc_6 na_7 tp_8 cn_9 rh_10 sr_11 ou_12) _ := hP
    have hD : va_D A (wY cI cL h a1 a2 a3 a4 a5 oa w_3 r_4 st_5 rc_6 na_7 tp_8 cn_9 rh_10 sr_11 ou_12) := hD
    refine lv_goto (tgt := 31) hx hb dL_claim_12 (by decide) ?_
    refine lv_iconst (v := (0 : Int32)) hx hb dL_claim_31 (by decide) ?_
    have hg0 := Option.some.inj hf
    obtain ⟨hq1, hg1⟩ := Prod.mk.inj hg0
    subst hq1
    obtain ⟨hq2, hg2⟩ := Prod.mk.inj hg1
    subst hq2
    obtain ⟨hq3, hg3⟩ := Prod.mk.inj hg2
    subst hq3
    obtain ⟨hq4, hg4⟩ := Prod.mk.inj hg3
    subst hq4
    obtain ⟨hq5, hg5⟩ := Prod.mk.inj hg4
    subst hq5
    obtain ⟨hq6, hg6⟩ := Prod.mk.inj hg5
    subst hq6
    obtain ⟨hq7, hg7⟩ := Prod.mk.inj hg6
    subst hq7
    obtain ⟨hq8, hg8⟩ := Prod.mk.inj hg7
    subst hq8
    obtain ⟨hq9, hg9⟩ := Prod.mk.inj hg8
    subst hq9
    obtain ⟨hq10, hg10⟩ := Prod.mk.inj hg9
    subst hq10
    subst hg10
    refine vx_ret ?_
    refine W.widen (k := 1) (n := 6) (by decide) (by decide) ?_
    exact W.iret hx hb hr (fun t ht hW => ⟨⟨_, (), rfl, ⟨rfl, rfl⟩, by rw [ht]; exact hP, va_K.moved hW.alike hK, hD⟩, hS.F ht⟩) hS.2.2 dL_claim_32 hlk
  · replace hf := ifn he hf
    refine q_ti (wr := [(oa, .inl (cL, 1, .inr (.inl ou)))]) he (vx_runV (As := [.int x1, .int x2, .int x3]) (rest := [.int (0 : Int32), .ref oa]) ⟨hx, hb, hml, hown, hts⟩ (ctX0_claim l hlt dC dI cI cZ cL h a1 a2 a3 a4 a5 _ w r st rc na tp cn rh sr x1 x2 x3 e1 v2 w_3 r_4 st_5 rc_6 na_7 tp_8 cn_9 rh_10 sr_11 hv) (cwV 3 hts (gV mw_259 mw_260 mw_261 mw_38 mw_262) rfl rfl rfl (by decide +kernel) ⟨Nat.le_of_ble_eq_true rfl, Nat.le_of_ble_eq_true rfl⟩) (q_preXV [.int x1, .int x2, .int x3] hK hP hD hS hA hZ0 hT hN [0, 1, 2, 3, 4, 5] (by decide) rfl (ci := 0) rfl rfl) rfl rfl hl.1 rfl (lv_room (Nat.le_of_ble_eq_true rfl)) dL_claim_7 ⟨q_w1 wsL_claim rmL_claim e1 rfl, q_w6 wsL_claim rmL_claim e1 rfl⟩) hP hD hS hA [0, 1, 2, 3, 4, 5] [6] rfl rfl (by decide) (by decide) (fun ce q9 H locs hP hD hS hc1 hc2 hc3 => ?_)
    have hP := hP.sub (ws' := (wY cI cL h a1 a2 a3 a4 a5 oa w_3 r_4 st_5 rc_6 na_7 tp_8 cn_9 rh_10 sr_11 ou)) [1, 2, 3, 4, 5, 6, 0] rfl
    have hD := hD.sub (ws' := (wY cI cL h a1 a2 a3 a4 a5 oa w_3 r_4 st_5 rc_6 na_7 tp_8 cn_9 rh_10 sr_11 ou)) [1, 2, 3, 4, 5, 6, 0] (by decide) rfl
    have hP : va_P (dC, dI) vwCl (wY cI cL h a1 a2 a3 a4 a5 oa w_3 r_4 st_5 rc_6 na_7 tp_8 cn_9 rh_10 sr_11 ou) _ := hP
    have hD : va_D A (wY cI cL h a1 a2 a3 a4 a5 oa w_3 r_4 st_5 rc_6 na_7 tp_8 cn_9 rh_10 sr_11 ou) := hD
    by_cases hj : e1 = 1
    · replace hf := ift hj hf
      subst hj
      refine vx_catch (own := RL) (E := q_E 1) (name := "java/lang/IndexOutOfBoundsException") hown ([] : List ExceptionTableEntry) ⟨0, 12, 15, 13⟩ ([⟨0, 12, 19, 15⟩, ⟨0, 12, 23, 23⟩, ⟨0, 12, 27, 17⟩] : List ExceptionTableEntry) (htab.trans rfl) (fun _ h9 => absurd h9 List.not_mem_nil) (by decide) (by decide) (hts _ (List.mem_cons_of_mem _ mw_128)) (va_Nw.use (w := Cond.castable "java/lang/IndexOutOfBoundsException" "java/lang/IndexOutOfBoundsException") rfl (hN.2 "java/lang/IndexOutOfBoundsException" (by decide +kernel))) hc1 hc2 hc3 ?_
      refine lv_astore hx hb dL_claim_15 hl (by decide) rfl (fun ls hl => ?_)
      have hl : lv_has ls 6 [(5, .ref q9), (0, .ref h), (1, .int x1), (2, .int x2), (3, .int x3), (4, .ref oa)] := hl
      refine lv_iconst (v := (1 : Int32)) hx hb dL_claim_17 (by decide) ?_
      have hg0 := Option.some.inj hf
      obtain ⟨hq1, hg1⟩ := Prod.mk.inj hg0
      subst hq1
      obtain ⟨hq2, hg2⟩ := Prod.mk.inj hg1
      subst hq2
      obtain ⟨hq3, hg3⟩ := Prod.mk.inj hg2
      subst hq3
      obtain ⟨hq4, hg4⟩ := Prod.mk.inj hg3
      subst hq4
      obtain ⟨hq5, hg5⟩ := Prod.mk.inj hg4
      subst hq5
      obtain ⟨hq6, hg6⟩ := Prod.mk.inj hg5
      subst hq6
      obtain ⟨hq7, hg7⟩ := Prod.mk.inj hg6
      subst hq7
      obtain ⟨hq8, hg8⟩ := Prod.mk.inj hg7
      subst hq8
      obtain ⟨hq9, hg9⟩ := Prod.mk.inj hg8
      subst hq9
      obtain ⟨hq10, hg10⟩ := Prod.mk.inj hg9
      subst hq10
      subst hg10
      refine vx_ret ?_
      refine W.widen (k := 1) (n := 6) (by decide) (by decide) ?_
      exact W.iret hx hb hr (fun t ht hW => ⟨⟨_, (), rfl, ⟨rfl, rfl⟩, by rw [ht]; exact hP, va_K.moved hW.alike hK, hD⟩, hS.F ht⟩) hS.2.2 dL_claim_18 hlk
    · replace hf := ifn hj hf
      by_cases hj : e1 = 2
      · replace hf := ift hj hf
        subst hj
        refine vx_catch (own := RL) (E := q_E 2) (name := "java/lang/IllegalArgumentException") hown ([⟨0, 12, 15, 13⟩] : List ExceptionTableEntry) ⟨0, 12, 19, 15⟩ ([⟨0, 12, 23, 23⟩, ⟨0, 12, 27, 17⟩] : List ExceptionTableEntry) (htab.trans rfl) (List.forall_mem_cons.mpr ⟨Or.inr ⟨by decide, "java/lang/IndexOutOfBoundsException", hts _ (List.mem_cons_of_mem _ mw_128), hC ("java/lang/IllegalArgumentException", "java/lang/IndexOutOfBoundsException") (by decide +kernel)⟩, fun _ h9 => absurd h9 List.not_mem_nil⟩) (by decide) (by decide) (hts _ (List.mem_cons_of_mem _ mw_129)) (va_Nw.use (w := Cond.castable "java/lang/IllegalArgumentException" "java/lang/IllegalArgumentException") rfl (hN.2 "java/lang/IllegalArgumentException" (by decide +kernel))) hc1 hc2 hc3 ?_
        refine lv_astore hx hb dL_claim_19 hl (by decide) rfl (fun ls hl => ?_)
        have hl : lv_has ls 6 [(5, .ref q9), (0, .ref h), (1, .int x1), (2, .int x2), (3, .int x3), (4, .ref oa)] := hl
        refine lv_iconst (v := (2 : Int32)) hx hb dL_claim_21 (by decide) ?_
        have hg0 := Option.some.inj hf
        obtain ⟨hq1, hg1⟩ := Prod.mk.inj hg0
        subst hq1
        obtain ⟨hq2, hg2⟩ := Prod.mk.inj hg1
        subst hq2
        obtain ⟨hq3, hg3⟩ := Prod.mk.inj hg2
        subst hq3
        obtain ⟨hq4, hg4⟩ := Prod.mk.inj hg3
        subst hq4
        obtain ⟨hq5, hg5⟩ := Prod.mk.inj hg4
        subst hq5
        obtain ⟨hq6, hg6⟩ := Prod.mk.inj hg5
        subst hq6
        obtain ⟨hq7, hg7⟩ := Prod.mk.inj hg6
        subst hq7
        obtain ⟨hq8, hg8⟩ := Prod.mk.inj hg7
        subst hq8
        obtain ⟨hq9, hg9⟩ := Prod.mk.inj hg8
        subst hq9
        obtain ⟨hq10, hg10⟩ := Prod.mk.inj hg9
        subst hq10
        subst hg10
        refine vx_ret ?_
        refine W.widen (k := 1) (n := 6) (by decide) (by decide) ?_
        exact W.iret hx hb hr (fun t ht hW => ⟨⟨_, (), rfl, ⟨rfl, rfl⟩, by rw [ht]; exact hP, va_K.moved hW.alike hK, hD⟩, hS.F ht⟩) hS.2.2 dL_claim_22 hlk
      · replace hf := ifn hj hf
        by_cases hj : e1 = 4
        · replace hf := ift hj hf
          subst hj
          refine vx_catch (own := RL) (E := q_E 4) (name := "java/lang/UnsupportedOperationException") hown ([⟨0, 12, 15, 13⟩, ⟨0, 12, 19, 15⟩] : List ExceptionTableEntry) ⟨0, 12, 23, 23⟩ ([⟨0, 12, 27, 17⟩] : List ExceptionTableEntry) (htab.trans rfl) (List.forall_mem_cons.mpr ⟨Or.inr ⟨by decide, "java/lang/IndexOutOfBoundsException", hts _ (List.mem_cons_of_mem _ mw_128), hC ("java/lang/UnsupportedOperationException", "java/lang/IndexOutOfBoundsException") (by decide +kernel)⟩, List.forall_mem_cons.mpr ⟨Or.inr ⟨by decide, "java/lang/IllegalArgumentException", hts _ (List.mem_cons_of_mem _ mw_129), hC ("java/lang/UnsupportedOperationException", "java/lang/IllegalArgumentException") (by decide +kernel)⟩, fun _ h9 => absurd h9 List.not_mem_nil⟩⟩) (by decide) (by decide) (hts _ (List.mem_cons_of_mem _ mw_258)) (va_Nw.use (w := Cond.castable "java/lang/UnsupportedOperationException" "java/lang/UnsupportedOperationException") rfl (hN.2 "java/lang/UnsupportedOperationException" (by decide +kernel))) hc1 hc2 hc3 ?_
          refine lv_astore hx hb dL_claim_23 hl (by decide) rfl (fun ls hl => ?_)
          have hl : lv_has ls 6 [(5, .ref q9), (0, .ref h), (1, .int x1), (2, .int x2), (3, .int x3), (4, .ref oa)] := hl
          refine lv_iconst (v := (3 : Int32)) hx hb dL_claim_25 (by decide) ?_
          have hg0 := Option.some.inj hf
          obtain ⟨hq1, hg1⟩ := Prod.mk.inj hg0
          subst hq1
          obtain ⟨hq2, hg2⟩ := Prod.mk.inj hg1
          subst hq2
          obtain ⟨hq3, hg3⟩ := Prod.mk.inj hg2
          subst hq3
          obtain ⟨hq4, hg4⟩ := Prod.mk.inj hg3
          subst hq4
          obtain ⟨hq5, hg5⟩ := Prod.mk.inj hg4
          subst hq5
          obtain ⟨hq6, hg6⟩ := Prod.mk.inj hg5
          subst hq6
          obtain ⟨hq7, hg7⟩ := Prod.mk.inj hg6
          subst hq7
          obtain ⟨hq8, hg8⟩ := Prod.mk.inj hg7
          subst hq8
          obtain ⟨hq9, hg9⟩ := Prod.mk.inj hg8
          subst hq9
          obtain ⟨hq10, hg10⟩ := Prod.mk.inj hg9
          subst hq10
          subst hg10
          refine vx_ret ?_
          refine W.widen (k := 1) (n := 6) (by decide) (by decide) ?_
          exact W.iret hx hb hr (fun t ht hW => ⟨⟨_, (), rfl, ⟨rfl, rfl⟩, by rw [ht]; exact hP, va_K.moved hW.alike hK, hD⟩, hS.F ht⟩) hS.2.2 dL_claim_26 hlk
        · replace hf := ifn hj hf
          by_cases hj : e1 = 3
          · replace hf := ift hj hf
            subst hj
            refine vx_catch (own := RL) (E := q_E 3) (name := "java/lang/IllegalStateException") hown ([⟨0, 12, 15, 13⟩, ⟨0, 12, 19, 15⟩, ⟨0, 12, 23, 23⟩] : List ExceptionTableEntry) ⟨0, 12, 27, 17⟩ ([] : List ExceptionTableEntry) (htab.trans rfl) (List.forall_mem_cons.mpr ⟨Or.inr ⟨by decide, "java/lang/IndexOutOfBoundsException", hts _ (List.mem_cons_of_mem _ mw_128), hC ("java/lang/IllegalStateException", "java/lang/IndexOutOfBoundsException") (by decide +kernel)⟩, List.forall_mem_cons.mpr ⟨Or.inr ⟨by decide, "java/lang/IllegalArgumentException", hts _ (List.mem_cons_of_mem _ mw_129), hC ("java/lang/IllegalStateException", "java/lang/IllegalArgumentException") (by decide +kernel)⟩, List.forall_mem_cons.mpr ⟨Or.inr ⟨by decide, "java/lang/UnsupportedOperationException", hts _ (List.mem_cons_of_mem _ mw_258), hC ("java/lang/IllegalStateException", "java/lang/UnsupportedOperationException") (by decide +kernel)⟩, fun _ h9 => absurd h9 List.not_mem_nil⟩⟩⟩) (by decide) (by decide) (hts _ (List.mem_cons_of_mem _ mw_130)) (va_Nw.use (w := Cond.castable "java/lang/IllegalStateException" "java/lang/IllegalStateException") rfl (hN.2 "java/lang/IllegalStateException" (by decide +kernel))) hc1 hc2 hc3 ?_
            refine lv_astore hx hb dL_claim_27 hl (by decide) rfl (fun ls hl => ?_)
            have hl : lv_has ls 6 [(5, .ref q9), (0, .ref h), (1, .int x1), (2, .int x2), (3, .int x3), (4, .ref oa)] := hl
            refine lv_iconst (v := (4 : Int32)) hx hb dL_claim_29 (by decide) ?_
            have hg0 := Option.some.inj hf
            obtain ⟨hq1, hg1⟩ := Prod.mk.inj hg0
            subst hq1
            obtain ⟨hq2, hg2⟩ := Prod.mk.inj hg1
            subst hq2
            obtain ⟨hq3, hg3⟩ := Prod.mk.inj hg2
            subst hq3
            obtain ⟨hq4, hg4⟩ := Prod.mk.inj hg3
            subst hq4
            obtain ⟨hq5, hg5⟩ := Prod.mk.inj hg4
            subst hq5
            obtain ⟨hq6, hg6⟩ := Prod.mk.inj hg5
            subst hq6
            obtain ⟨hq7, hg7⟩ := Prod.mk.inj hg6
            subst hq7
            obtain ⟨hq8, hg8⟩ := Prod.mk.inj hg7
            subst hq8
            obtain ⟨hq9, hg9⟩ := Prod.mk.inj hg8
            subst hq9
            obtain ⟨hq10, hg10⟩ := Prod.mk.inj hg9
            subst hq10
            subst hg10
            refine vx_ret ?_
            refine W.widen (k := 1) (n := 6) (by decide) (by decide) ?_
            exact W.iret hx hb hr (fun t ht hW => ⟨⟨_, (), rfl, ⟨rfl, rfl⟩, by rw [ht]; exact hP, va_K.moved hW.alike hK, hD⟩, hS.F ht⟩) hS.2.2 dL_claim_30 hlk
          · replace hf := ifn hj hf
            cases hf
set_option maxHeartbeats 4000000 in
set_option maxRecDepth 100000 in
theorem ctL_compact (l : Launch) (hlt : l.stackTraces = false) (dC : Nat → ClassId) (dI : Nat → Nat → Nat) (cI cZ cL : ClassId) (h a1 a2 a3 a4 a5 oa : Nat) (sz : Nat) (w : Nat → Int32) (r : Nat → Int32) (st : Nat → Int32) (rc : Nat → Int32) (na : Nat → Int32) (tp : Int32) (cn : Int32) (rh : Int32) (sr : Int32) (ou : Nat → Int64) (x1 : Int32) (rs : Int32) (w' : Nat → Int32) (r' : Nat → Int32) (st' : Nat → Int32) (rc' : Nat → Int32) (na' : Nat → Int32) (tp' : Int32) (cn' : Int32) (rh' : Int32) (ou' : Nat → Int64) (hf : fL_compact w r st rc na tp cn rh ou x1 = some (rs, w', r', st', rc', na', tp', cn', rh', ou')) : vx_Met l yL_compact wsL_compact rmL_compact (va_Pc [.ref h, .int x1, .ref oa] (q_preW (dC, dI) vwCl (tyA cI cZ cL) RX0 q_tx sz (wY cI cL h a1 a2 a3 a4 a5 oa w r st rc na tp cn rh sr ou))) (va_Qi (fun r (_ : Unit) => (0 : Nat) = 0 ∧ r = rs) (fun _ => q_post (dC, dI) vwCl (tyA cI cZ cL) (va_A (wY cI cL h a1 a2 a3 a4 a5 oa w r st rc na tp cn rh sr ou) sz) (wY cI cL h a1 a2 a3 a4 a5 oa w' r' st' rc' na' tp' cn' rh' sr ou')) (va_A (wY cI cL h a1 a2 a3 a4 a5 oa w r st rc na tp cn rh sr ou) sz)) (vx_X (fun (_ : Unit) => ¬ (0 : Nat) = 0) (fun E _ t => E = q_E 0 ∧ q_post (dC, dI) vwCl (tyA cI cZ cL) (va_A (wY cI cL h a1 a2 a3 a4 a5 oa w r st rc na tp cn rh sr ou) sz) (wY cI cL h a1 a2 a3 a4 a5 oa w' r' st' rc' na' tp' cn' rh' sr ou') t) (va_A (wY cI cL h a1 a2 a3 a4 a5 oa w r st rc na tp cn rh sr ou) sz)) 1 6 (va_A (wY cI cL h a1 a2 a3 a4 a5 oa w r st rc na tp cn rh sr ou) sz) := by
  refine vx_ofWH (cc := cL_compact) (maxL := 4) (ret := (some .int)) (hh := [(0, 9, 12, 15), (0, 9, 15, 23)]) (by decide) rfl ?_
  intro p e s m args below meth c s₁ B hml hv
  obtain ⟨rfl, hsz, hP, hK, hD0, hZ0, hT, hN, hC⟩ := hv
  have hx := B.exec
  have hb := B.bytes
  have hr := B.returns
  have hts := atoms_spec (ws := wsL_compact) B.pre
  have hown : s.vm.findClass RL = some m.cls := findClass_of_methodNamed B.named
  have hlk := B.notSynchronized
  have htab := vx_table (x := yL_compact) B (hts _ List.mem_cons_self)
  subst hsz
  have hD := hD0.self (sz := s.heap.size)
  generalize hAe : va_A (wY cI cL h a1 a2 a3 a4 a5 oa w r st rc na tp cn rh sr ou) s.heap.size = A at hZ0 hD ⊢
  have hA : ∀ q : Nat, s.heap.size ≤ q → A q := fun q h => by rw [← hAe]; exact Or.inr h
  have hS : va_S A s.heap s.heap [] := va_S.rf
  have hl := lv_entry ([.ref h, .int x1, .ref oa]) (n := 4) (Nat.le_of_ble_eq_true rfl)
  rw [lg_entry_eq]
  generalize (lg_sl ([.ref h, .int x1, .ref oa]) ++ List.replicate (4 - (lg_sl ([.ref h, .int x1, .ref oa])).length) Slot.unset).toArray = ls at hl ⊢
  have hl : lv_has ls 4 [(0, .ref h), (1, .int x1), (2, .ref oa)] := hl
  unfold fL_compact at hf
  refine lv_aload_n hx hb dL_compact_0 rfl (lv_at hl 2 rfl) ?_
  refine lv_iconst (v := (0 : Int32)) hx hb dL_compact_1 (by decide) ?_
  refine lv_aload_n hx hb dL_compact_2 rfl (lv_at hl 0 rfl) ?_
  refine lv_iload_n hx hb dL_compact_3 rfl (lv_at hl 1 rfl) ?_
  obtain ⟨⟨e1, v2, w_3, r_4, st_5, rc_6, na_7, tp_8, cn_9, rh_10⟩, hv, hf⟩ := bd hf
  dsimp only at hf
  by_cases he : e1 = 0
  · replace hf := ift he hf
    subst he
    refine q_ni (wr := [(oa, .inl (cL, 1, .inr (.inl ou)))]) (vx_runV (As := [.int x1]) (rest := [.int (0 : Int32), .ref oa]) ⟨hx, hb, hml, hown, hts⟩ (ctX0_compact l hlt dC dI cI cZ cL h a1 a2 a3 a4 a5 _ w r st rc na tp cn rh sr x1 0 v2 w_3 r_4 st_5 rc_6 na_7 tp_8 cn_9 rh_10 hv) (cwV 1 hts (gV mw_339 mw_340 mw_341 mw_38 mw_342) rfl rfl rfl (by decide +kernel) ⟨Nat.le_of_ble_eq_true rfl, Nat.le_of_ble_eq_true rfl⟩) (q_preXV [.int x1] hK hP hD hS hA hZ0 hT hN [0, 1, 2, 3, 4, 5] (by decide) rfl (ci := 0) rfl rfl) rfl rfl hl.1 rfl (lv_room (Nat.le_of_ble_eq_true rfl)) dL_compact_4 ⟨(q_le0 _).1, (q_le0 _).2⟩) hP hD hS hA [0, 1, 2, 3, 4, 5] [6] rfl rfl (by decide) (by decide) (fun H locs hP hD hS => ?_)
    have hP := hP.sub (ws' := (wY cI cL h a1 a2 a3 a4 a5 oa w_3 r_4 st_5 rc_6 na_7 tp_8 cn_9 rh_10 sr ou)) [1, 2, 3, 4, 5, 6, 0] rfl
    have hD := hD.sub (ws' := (wY cI cL h a1 a2 a3 a4 a5 oa w_3 r_4 st_5 rc_6 na_7 tp_8 cn_9 rh_10 sr ou)) [1, 2, 3, 4, 5, 6, 0] (by decide) rfl
    have hP : va_P (dC, dI) vwCl (wY cI cL h a1 a2 a3 a4 a5 oa w_3 r_4 st_5 rc_6 na_7 tp_8 cn_9 rh_10 sr ou) _ := hP
    have hD : va_D A (wY cI cL h a1 a2 a3 a4 a5 oa w_3 r_4 st_5 rc_6 na_7 tp_8 cn_9 rh_10 sr ou) := hD
    refine lv_i2l hx hb dL_compact_7 rfl ?_
    obtain ⟨ou_11, hv, hf⟩ := bd hf
    refine q_lst hx hb hK hP hD hS 6 2 rfl rfl hv dL_compact_8 (fun H locs hP hD hS => ?_)
    have hP : va_P (dC, dI) vwCl (wY cI cL h a1 a2 a3 a4 a5 oa w_3 r_4 st_5 rc_6 na_7 tp_8 cn_9 rh_10 sr ou_11) _ := hP
    have hD : va_D A (wY cI cL h a1 a2 a3 a4 a5 oa w_3 r_4 st_5 rc_6 na_7 tp_8 cn_9 rh_10 sr ou_11) := hD
    refine lv_goto (tgt := 18) hx hb dL_compact_9 (by decide) ?_
    refine lv_iconst (v := (0 : Int32)) hx hb dL_compact_18 (by decide) ?_
    have hg0 := Option.some.inj hf
    obtain ⟨hq1, hg1⟩ := Prod.mk.inj hg0
    subst hq1
    obtain ⟨hq2, hg2⟩ := Prod.mk.inj hg1
    subst hq2
    obtain ⟨hq3, hg3⟩ := Prod.mk.inj hg2
    subst hq3
    obtain ⟨hq4, hg4⟩ := Prod.mk.inj hg3
    subst hq4
    obtain ⟨hq5, hg5⟩ := Prod.mk.inj hg4
    subst hq5
    obtain ⟨hq6, hg6⟩ := Prod.mk.inj hg5
    subst hq6
    obtain ⟨hq7, hg7⟩ := Prod.mk.inj hg6
    subst hq7
    obtain ⟨hq8, hg8⟩ := Prod.mk.inj hg7
    subst hq8
    obtain ⟨hq9, hg9⟩ := Prod.mk.inj hg8
    subst hq9
    subst hg9
    refine vx_ret ?_
    refine W.widen (k := 1) (n := 6) (by decide) (by decide) ?_
    exact W.iret hx hb hr (fun t ht hW => ⟨⟨_, (), rfl, ⟨rfl, rfl⟩, by rw [ht]; exact hP, va_K.moved hW.alike hK, hD⟩, hS.F ht⟩) hS.2.2 dL_compact_19 hlk
  · replace hf := ifn he hf
    refine q_ti (wr := [(oa, .inl (cL, 1, .inr (.inl ou)))]) he (vx_runV (As := [.int x1]) (rest := [.int (0 : Int32), .ref oa]) ⟨hx, hb, hml, hown, hts⟩ (ctX0_compact l hlt dC dI cI cZ cL h a1 a2 a3 a4 a5 _ w r st rc na tp cn rh sr x1 e1 v2 w_3 r_4 st_5 rc_6 na_7 tp_8 cn_9 rh_10 hv) (cwV 1 hts (gV mw_339 mw_340 mw_341 mw_38 mw_342) rfl rfl rfl (by decide +kernel) ⟨Nat.le_of_ble_eq_true rfl, Nat.le_of_ble_eq_true rfl⟩) (q_preXV [.int x1] hK hP hD hS hA hZ0 hT hN [0, 1, 2, 3, 4, 5] (by decide) rfl (ci := 0) rfl rfl) rfl rfl hl.1 rfl (lv_room (Nat.le_of_ble_eq_true rfl)) dL_compact_4 ⟨q_w1 wsL_compact rmL_compact e1 rfl, q_w6 wsL_compact rmL_compact e1 rfl⟩) hP hD hS hA [0, 1, 2, 3, 4, 5] [6] rfl rfl (by decide) (by decide) (fun ce q9 H locs hP hD hS hc1 hc2 hc3 => ?_)
    have hP := hP.sub (ws' := (wY cI cL h a1 a2 a3 a4 a5 oa w_3 r_4 st_5 rc_6 na_7 tp_8 cn_9 rh_10 sr ou)) [1, 2, 3, 4, 5, 6, 0] rfl
    have hD := hD.sub (ws' := (wY cI cL h a1 a2 a3 a4 a5 oa w_3 r_4 st_5 rc_6 na_7 tp_8 cn_9 rh_10 sr ou)) [1, 2, 3, 4, 5, 6, 0] (by decide) rfl
    have hP : va_P (dC, dI) vwCl (wY cI cL h a1 a2 a3 a4 a5 oa w_3 r_4 st_5 rc_6 na_7 tp_8 cn_9 rh_10 sr ou) _ := hP
    have hD : va_D A (wY cI cL h a1 a2 a3 a4 a5 oa w_3 r_4 st_5 rc_6 na_7 tp_8 cn_9 rh_10 sr ou) := hD
    by_cases hj : e1 = 2
    · replace hf := ift hj hf
      subst hj
      refine vx_catch (own := RL) (E := q_E 2) (name := "java/lang/IllegalArgumentException") hown ([] : List ExceptionTableEntry) ⟨0, 9, 12, 15⟩ ([⟨0, 9, 15, 23⟩] : List ExceptionTableEntry) (htab.trans rfl) (fun _ h9 => absurd h9 List.not_mem_nil) (by decide) (by decide) (hts _ (List.mem_cons_of_mem _ mw_129)) (va_Nw.use (w := Cond.castable "java/lang/IllegalArgumentException" "java/lang/IllegalArgumentException") rfl (hN.2 "java/lang/IllegalArgumentException" (by decide +kernel))) hc1 hc2 hc3 ?_
      refine lv_astore_n hx hb dL_compact_12 rfl hl (by decide) rfl (fun ls hl => ?_)
      have hl : lv_has ls 4 [(3, .ref q9), (0, .ref h), (1, .int x1), (2, .ref oa)] := hl
      refine lv_iconst (v := (1 : Int32)) hx hb dL_compact_13 (by decide) ?_
      have hg0 := Option.some.inj hf
      obtain ⟨hq1, hg1⟩ := Prod.mk.inj hg0
      subst hq1
      obtain ⟨hq2, hg2⟩ := Prod.mk.inj hg1
      subst hq2
      obtain ⟨hq3, hg3⟩ := Prod.mk.inj hg2
      subst hq3
      obtain ⟨hq4, hg4⟩ := Prod.mk.inj hg3
      subst hq4
      obtain ⟨hq5, hg5⟩ := Prod.mk.inj hg4
      subst hq5
      obtain ⟨hq6, hg6⟩ := Prod.mk.inj hg5
      subst hq6
      obtain ⟨hq7, hg7⟩ := Prod.mk.inj hg6
      subst hq7
      obtain ⟨hq8, hg8⟩ := Prod.mk.inj hg7
      subst hq8
      obtain ⟨hq9, hg9⟩ := Prod.mk.inj hg8
      subst hq9
      subst hg9
      refine vx_ret ?_
      refine W.widen (k := 1) (n := 6) (by decide) (by decide) ?_
      exact W.iret hx hb hr (fun t ht hW => ⟨⟨_, (), rfl, ⟨rfl, rfl⟩, by rw [ht]; exact hP, va_K.moved hW.alike hK, hD⟩, hS.F ht⟩) hS.2.2 dL_compact_14 hlk
    · replace hf := ifn hj hf
      by_cases hj : e1 = 4
      · replace hf := ift hj hf
        subst hj
        refine vx_catch (own := RL) (E := q_E 4) (name := "java/lang/UnsupportedOperationException") hown ([⟨0, 9, 12, 15⟩] : List ExceptionTableEntry) ⟨0, 9, 15, 23⟩ ([] : List ExceptionTableEntry) (htab.trans rfl) (List.forall_mem_cons.mpr ⟨Or.inr ⟨by decide, "java/lang/IllegalArgumentException", hts _ (List.mem_cons_of_mem _ mw_129), hC ("java/lang/UnsupportedOperationException", "java/lang/IllegalArgumentException") (by decide +kernel)⟩, fun _ h9 => absurd h9 List.not_mem_nil⟩) (by decide) (by decide) (hts _ (List.mem_cons_of_mem _ mw_258)) (va_Nw.use (w := Cond.castable "java/lang/UnsupportedOperationException" "java/lang/UnsupportedOperationException") rfl (hN.2 "java/lang/UnsupportedOperationException" (by decide +kernel))) hc1 hc2 hc3 ?_
        refine lv_astore_n hx hb dL_compact_15 rfl hl (by decide) rfl (fun ls hl => ?_)
        have hl : lv_has ls 4 [(3, .ref q9), (0, .ref h), (1, .int x1), (2, .ref oa)] := hl
        refine lv_iconst (v := (2 : Int32)) hx hb dL_compact_16 (by decide) ?_
        have hg0 := Option.some.inj hf
        obtain ⟨hq1, hg1⟩ := Prod.mk.inj hg0
        subst hq1
        obtain ⟨hq2, hg2⟩ := Prod.mk.inj hg1
        subst hq2
        obtain ⟨hq3, hg3⟩ := Prod.mk.inj hg2
        subst hq3
        obtain ⟨hq4, hg4⟩ := Prod.mk.inj hg3
        subst hq4
        obtain ⟨hq5, hg5⟩ := Prod.mk.inj hg4
        subst hq5
        obtain ⟨hq6, hg6⟩ := Prod.mk.inj hg5
        subst hq6
        obtain ⟨hq7, hg7⟩ := Prod.mk.inj hg6
        subst hq7
        obtain ⟨hq8, hg8⟩ := Prod.mk.inj hg7
        subst hq8
        obtain ⟨hq9, hg9⟩ := Prod.mk.inj hg8
        subst hq9
        subst hg9
        refine vx_ret ?_
        refine W.widen (k := 1) (n := 6) (by decide) (by decide) ?_
        exact W.iret hx hb hr (fun t ht hW => ⟨⟨_, (), rfl, ⟨rfl, rfl⟩, by rw [ht]; exact hP, va_K.moved hW.alike hK, hD⟩, hS.F ht⟩) hS.2.2 dL_compact_17 hlk
      · replace hf := ifn hj hf
        cases hf
set_option maxHeartbeats 4000000 in
set_option maxRecDepth 100000 in
theorem ctL_copy (l : Launch) (hlt : l.stackTraces = false) (dC : Nat → ClassId) (dI : Nat → Nat → Nat) (cI cZ cL : ClassId) (h a1 a2 a3 a4 a5 : Nat) (sz : Nat) (w : Nat → Int32) (r : Nat → Int32) (st : Nat → Int32) (rc : Nat → Int32) (na : Nat → Int32) (tp : Int32) (cn : Int32) (rh : Int32) (sr : Int32) (x1 : Int32) (x2 : Int32) (rs : Int32) (r' : Nat → Int32) (hf : fL_copy r x1 x2 = some (rs, r')) : vx_Met l yL_copy wsL_copy rmL_copy (va_Pc [.ref h, .int x1, .int x2] (q_preW (dC, dI) vwCl (tyA cI cZ cL) RX0 q_tx sz (wX cI h a1 a2 a3 a4 a5 w r st rc na tp cn rh sr))) (va_Qi (fun r (_ : Unit) => (0 : Nat) = 0 ∧ r = rs) (fun _ => q_post (dC, dI) vwCl (tyA cI cZ cL) (va_A (wX cI h a1 a2 a3 a4 a5 w r st rc na tp cn rh sr) sz) (wX cI h a1 a2 a3 a4 a5 w r' st rc na tp cn rh sr)) (va_A (wX cI h a1 a2 a3 a4 a5 w r st rc na tp cn rh sr) sz)) (vx_X (fun (_ : Unit) => ¬ (0 : Nat) = 0) (fun E _ t => E = q_E 0 ∧ q_post (dC, dI) vwCl (tyA cI cZ cL) (va_A (wX cI h a1 a2 a3 a4 a5 w r st rc na tp cn rh sr) sz) (wX cI h a1 a2 a3 a4 a5 w r' st rc na tp cn rh sr) t) (va_A (wX cI h a1 a2 a3 a4 a5 w r st rc na tp cn rh sr) sz)) 1 6 (va_A (wX cI h a1 a2 a3 a4 a5 w r st rc na tp cn rh sr) sz) := by
  refine vx_ofWH (cc := cL_copy) (maxL := 4) (ret := (some .int)) (hh := [(0, 6, 9, 13)]) (by decide) rfl ?_
  intro p e s m args below meth c s₁ B hml hv
  obtain ⟨rfl, hsz, hP, hK, hD0, hZ0, hT, hN, hC⟩ := hv
  have hx := B.exec
  have hb := B.bytes
  have hr := B.returns
  have hts := atoms_spec (ws := wsL_copy) B.pre
  have hown : s.vm.findClass RL = some m.cls := findClass_of_methodNamed B.named
  have hlk := B.notSynchronized
  have htab := vx_table (x := yL_copy) B (hts _ List.mem_cons_self)
  subst hsz
  have hD := hD0.self (sz := s.heap.size)
  generalize hAe : va_A (wX cI h a1 a2 a3 a4 a5 w r st rc na tp cn rh sr) s.heap.size = A at hZ0 hD ⊢
  have hA : ∀ q : Nat, s.heap.size ≤ q → A q := fun q h => by rw [← hAe]; exact Or.inr h
  have hS : va_S A s.heap s.heap [] := va_S.rf
  have hl := lv_entry ([.ref h, .int x1, .int x2]) (n := 4) (Nat.le_of_ble_eq_true rfl)
  rw [lg_entry_eq]
  generalize (lg_sl ([.ref h, .int x1, .int x2]) ++ List.replicate (4 - (lg_sl ([.ref h, .int x1, .int x2])).length) Slot.unset).toArray = ls at hl ⊢
  have hl : lv_has ls 4 [(0, .ref h), (1, .int x1), (2, .int x2)] := hl
  unfold fL_copy at hf
  refine lv_aload_n hx hb dL_copy_0 rfl (lv_at hl 0 rfl) ?_
  refine lv_iload_n hx hb dL_copy_1 rfl (lv_at hl 1 rfl) ?_
  refine lv_iload_n hx hb dL_copy_2 rfl (lv_at hl 2 rfl) ?_
  obtain ⟨⟨e1, r_2⟩, hv, hf⟩ := bd hf
  dsimp only at hf
  by_cases he : e1 = 0
  · replace hf := ift he hf
    subst he
    refine q_nv (wr := []) (vx_runV (As := [.int x1, .int x2]) (rest := []) ⟨hx, hb, hml, hown, hts⟩ (ctX0_copy l hlt dC dI cI cZ cL h a1 a2 a3 a4 a5 _ w r st rc na tp cn rh sr x1 x2 0 r_2 hv) (cwV 2 hts (gV mw_346 mw_347 mw_348 mw_38 mw_349) rfl rfl rfl (by decide +kernel) ⟨Nat.le_of_ble_eq_true rfl, Nat.le_of_ble_eq_true rfl⟩) (q_preXV [.int x1, .int x2] hK hP hD hS hA hZ0 hT hN [0, 1, 2, 3, 4, 5] (by decide) rfl (ci := 0) rfl rfl) rfl rfl hl.1 rfl (lv_room (Nat.le_of_ble_eq_true rfl)) dL_copy_3 ⟨(q_le0 _).1, (q_le0 _).2⟩) hP hD hS hA [0, 1, 2, 3, 4, 5] [] rfl rfl (by decide) (by decide) (fun H locs hP hD hS => ?_)
    have hP : va_P (dC, dI) vwCl (wX cI h a1 a2 a3 a4 a5 w r_2 st rc na tp cn rh sr) _ := hP
    have hD : va_D A (wX cI h a1 a2 a3 a4 a5 w r_2 st rc na tp cn rh sr) := hD
    refine lv_goto (tgt := 12) hx hb dL_copy_6 (by decide) ?_
    refine lv_iconst (v := (0 : Int32)) hx hb dL_copy_12 (by decide) ?_
    have hg0 := Option.some.inj hf
    obtain ⟨hq1, hg1⟩ := Prod.mk.inj hg0
    subst hq1
    subst hg1
    refine vx_ret ?_
    refine W.widen (k := 1) (n := 6) (by decide) (by decide) ?_
    exact W.iret hx hb hr (fun t ht hW => ⟨⟨_, (), rfl, ⟨rfl, rfl⟩, by rw [ht]; exact hP, va_K.moved hW.alike hK, hD⟩, hS.F ht⟩) hS.2.2 dL_copy_13 hlk
  · replace hf := ifn he hf
    refine q_tv (wr := []) he (vx_runV (As := [.int x1, .int x2]) (rest := []) ⟨hx, hb, hml, hown, hts⟩ (ctX0_copy l hlt dC dI cI cZ cL h a1 a2 a3 a4 a5 _ w r st rc na tp cn rh sr x1 x2 e1 r_2 hv) (cwV 2 hts (gV mw_346 mw_347 mw_348 mw_38 mw_349) rfl rfl rfl (by decide +kernel) ⟨Nat.le_of_ble_eq_true rfl, Nat.le_of_ble_eq_true rfl⟩) (q_preXV [.int x1, .int x2] hK hP hD hS hA hZ0 hT hN [0, 1, 2, 3, 4, 5] (by decide) rfl (ci := 0) rfl rfl) rfl rfl hl.1 rfl (lv_room (Nat.le_of_ble_eq_true rfl)) dL_copy_3 ⟨q_w1 wsL_copy rmL_copy e1 rfl, q_w6 wsL_copy rmL_copy e1 rfl⟩) hP hD hS hA [0, 1, 2, 3, 4, 5] [] rfl rfl (by decide) (by decide) (fun ce q9 H locs hP hD hS hc1 hc2 hc3 => ?_)
    have hP : va_P (dC, dI) vwCl (wX cI h a1 a2 a3 a4 a5 w r_2 st rc na tp cn rh sr) _ := hP
    have hD : va_D A (wX cI h a1 a2 a3 a4 a5 w r_2 st rc na tp cn rh sr) := hD
    by_cases hj : e1 = 1
    · replace hf := ift hj hf
      subst hj
      refine vx_catch (own := RL) (E := q_E 1) (name := "java/lang/IndexOutOfBoundsException") hown ([] : List ExceptionTableEntry) ⟨0, 6, 9, 13⟩ ([] : List ExceptionTableEntry) (htab.trans rfl) (fun _ h9 => absurd h9 List.not_mem_nil) (by decide) (by decide) (hts _ (List.mem_cons_of_mem _ mw_128)) (va_Nw.use (w := Cond.castable "java/lang/IndexOutOfBoundsException" "java/lang/IndexOutOfBoundsException") rfl (hN.2 "java/lang/IndexOutOfBoundsException" (by decide +kernel))) hc1 hc2 hc3 ?_
      refine lv_astore_n hx hb dL_copy_9 rfl hl (by decide) rfl (fun ls hl => ?_)
      have hl : lv_has ls 4 [(3, .ref q9), (0, .ref h), (1, .int x1), (2, .int x2)] := hl
      refine lv_iconst (v := (1 : Int32)) hx hb dL_copy_10 (by decide) ?_
      have hg0 := Option.some.inj hf
      obtain ⟨hq1, hg1⟩ := Prod.mk.inj hg0
      subst hq1
      subst hg1
      refine vx_ret ?_
      refine W.widen (k := 1) (n := 6) (by decide) (by decide) ?_
      exact W.iret hx hb hr (fun t ht hW => ⟨⟨_, (), rfl, ⟨rfl, rfl⟩, by rw [ht]; exact hP, va_K.moved hW.alike hK, hD⟩, hS.F ht⟩) hS.2.2 dL_copy_11 hlk
    · replace hf := ifn hj hf
      cases hf
set_option maxHeartbeats 4000000 in
set_option maxRecDepth 100000 in
theorem ctL_clear (l : Launch) (hlt : l.stackTraces = false) (dC : Nat → ClassId) (dI : Nat → Nat → Nat) (cI cZ cL : ClassId) (h a1 a2 a3 a4 a5 : Nat) (sz : Nat) (w : Nat → Int32) (r : Nat → Int32) (st : Nat → Int32) (rc : Nat → Int32) (na : Nat → Int32) (tp : Int32) (cn : Int32) (rh : Int32) (sr : Int32) (x1 : Int32) (rs : Int32) (r' : Nat → Int32) (hf : fL_clear r x1 = some (rs, r')) : vx_Met l yL_clear wsL_clear rmL_clear (va_Pc [.ref h, .int x1] (q_preW (dC, dI) vwCl (tyA cI cZ cL) RX0 q_tx sz (wX cI h a1 a2 a3 a4 a5 w r st rc na tp cn rh sr))) (va_Qi (fun r (_ : Unit) => (0 : Nat) = 0 ∧ r = rs) (fun _ => q_post (dC, dI) vwCl (tyA cI cZ cL) (va_A (wX cI h a1 a2 a3 a4 a5 w r st rc na tp cn rh sr) sz) (wX cI h a1 a2 a3 a4 a5 w r' st rc na tp cn rh sr)) (va_A (wX cI h a1 a2 a3 a4 a5 w r st rc na tp cn rh sr) sz)) (vx_X (fun (_ : Unit) => ¬ (0 : Nat) = 0) (fun E _ t => E = q_E 0 ∧ q_post (dC, dI) vwCl (tyA cI cZ cL) (va_A (wX cI h a1 a2 a3 a4 a5 w r st rc na tp cn rh sr) sz) (wX cI h a1 a2 a3 a4 a5 w r' st rc na tp cn rh sr) t) (va_A (wX cI h a1 a2 a3 a4 a5 w r st rc na tp cn rh sr) sz)) 1 6 (va_A (wX cI h a1 a2 a3 a4 a5 w r st rc na tp cn rh sr) sz) := by
  refine vx_ofWH (cc := cL_clear) (maxL := 3) (ret := (some .int)) (hh := [(0, 5, 8, 13)]) (by decide) rfl ?_
  intro p e s m args below meth c s₁ B hml hv
  obtain ⟨rfl, hsz, hP, hK, hD0, hZ0, hT, hN, hC⟩ := hv
  have hx := B.exec
  have hb := B.bytes
  have hr := B.returns
  have hts := atoms_spec (ws := wsL_clear) B.pre
  have hown : s.vm.findClass RL = some m.cls := findClass_of_methodNamed B.named
  have hlk := B.notSynchronized
  have htab := vx_table (x := yL_clear) B (hts _ List.mem_cons_self)
  subst hsz
  have hD := hD0.self (sz := s.heap.size)
  generalize hAe : va_A (wX cI h a1 a2 a3 a4 a5 w r st rc na tp cn rh sr) s.heap.size = A at hZ0 hD ⊢
  have hA : ∀ q : Nat, s.heap.size ≤ q → A q := fun q h => by rw [← hAe]; exact Or.inr h
  have hS : va_S A s.heap s.heap [] := va_S.rf
  have hl := lv_entry ([.ref h, .int x1]) (n := 3) (Nat.le_of_ble_eq_true rfl)
  rw [lg_entry_eq]
  generalize (lg_sl ([.ref h, .int x1]) ++ List.replicate (3 - (lg_sl ([.ref h, .int x1])).length) Slot.unset).toArray = ls at hl ⊢
  have hl : lv_has ls 3 [(0, .ref h), (1, .int x1)] := hl
  unfold fL_clear at hf
  refine lv_aload_n hx hb dL_clear_0 rfl (lv_at hl 0 rfl) ?_
  refine lv_iload_n hx hb dL_clear_1 rfl (lv_at hl 1 rfl) ?_
  obtain ⟨⟨e1, r_2⟩, hv, hf⟩ := bd hf
  dsimp only at hf
  by_cases he : e1 = 0
  · replace hf := ift he hf
    subst he
    refine q_nv (wr := []) (vx_runV (As := [.int x1]) (rest := []) ⟨hx, hb, hml, hown, hts⟩ (ctX0_clear l hlt dC dI cI cZ cL h a1 a2 a3 a4 a5 _ w r st rc na tp cn rh sr x1 0 r_2 hv) (cwV 1 hts (gV mw_353 mw_354 mw_355 mw_38 mw_356) rfl rfl rfl (by decide +kernel) ⟨Nat.le_of_ble_eq_true rfl, Nat.le_of_ble_eq_true rfl⟩) (q_preXV [.int x1] hK hP hD hS hA hZ0 hT hN [0, 1, 2, 3, 4, 5] (by decide) rfl (ci := 0) rfl rfl) rfl rfl hl.1 rfl (lv_room (Nat.le_of_ble_eq_true rfl)) dL_clear_2 ⟨(q_le0 _).1, (q_le0 _).2⟩) hP hD hS hA [0, 1, 2, 3, 4, 5] [] rfl rfl (by decide) (by decide) (fun H locs hP hD hS => ?_)
    have hP : va_P (dC, dI) vwCl (wX cI h a1 a2 a3 a4 a5 w r_2 st rc na tp cn rh sr) _ := hP
    have hD : va_D A (wX cI h a1 a2 a3 a4 a5 w r_2 st rc na tp cn rh sr) := hD
    refine lv_goto (tgt := 11) hx hb dL_clear_5 (by decide) ?_
    refine lv_iconst (v := (0 : Int32)) hx hb dL_clear_11 (by decide) ?_
    have hg0 := Option.some.inj hf
    obtain ⟨hq1, hg1⟩ := Prod.mk.inj hg0
    subst hq1
    subst hg1
    refine vx_ret ?_
    refine W.widen (k := 1) (n := 6) (by decide) (by decide) ?_
    exact W.iret hx hb hr (fun t ht hW => ⟨⟨_, (), rfl, ⟨rfl, rfl⟩, by rw [ht]; exact hP, va_K.moved hW.alike hK, hD⟩, hS.F ht⟩) hS.2.2 dL_clear_12 hlk
  · replace hf := ifn he hf
    refine q_tv (wr := []) he (vx_runV (As := [.int x1]) (rest := []) ⟨hx, hb, hml, hown, hts⟩ (ctX0_clear l hlt dC dI cI cZ cL h a1 a2 a3 a4 a5 _ w r st rc na tp cn rh sr x1 e1 r_2 hv) (cwV 1 hts (gV mw_353 mw_354 mw_355 mw_38 mw_356) rfl rfl rfl (by decide +kernel) ⟨Nat.le_of_ble_eq_true rfl, Nat.le_of_ble_eq_true rfl⟩) (q_preXV [.int x1] hK hP hD hS hA hZ0 hT hN [0, 1, 2, 3, 4, 5] (by decide) rfl (ci := 0) rfl rfl) rfl rfl hl.1 rfl (lv_room (Nat.le_of_ble_eq_true rfl)) dL_clear_2 ⟨q_w1 wsL_clear rmL_clear e1 rfl, q_w6 wsL_clear rmL_clear e1 rfl⟩) hP hD hS hA [0, 1, 2, 3, 4, 5] [] rfl rfl (by decide) (by decide) (fun ce q9 H locs hP hD hS hc1 hc2 hc3 => ?_)
    have hP : va_P (dC, dI) vwCl (wX cI h a1 a2 a3 a4 a5 w r_2 st rc na tp cn rh sr) _ := hP
    have hD : va_D A (wX cI h a1 a2 a3 a4 a5 w r_2 st rc na tp cn rh sr) := hD
    by_cases hj : e1 = 1
    · replace hf := ift hj hf
      subst hj
      refine vx_catch (own := RL) (E := q_E 1) (name := "java/lang/IndexOutOfBoundsException") hown ([] : List ExceptionTableEntry) ⟨0, 5, 8, 13⟩ ([] : List ExceptionTableEntry) (htab.trans rfl) (fun _ h9 => absurd h9 List.not_mem_nil) (by decide) (by decide) (hts _ (List.mem_cons_of_mem _ mw_128)) (va_Nw.use (w := Cond.castable "java/lang/IndexOutOfBoundsException" "java/lang/IndexOutOfBoundsException") rfl (hN.2 "java/lang/IndexOutOfBoundsException" (by decide +kernel))) hc1 hc2 hc3 ?_
      refine lv_astore_n hx hb dL_clear_8 rfl hl (by decide) rfl (fun ls hl => ?_)
      have hl : lv_has ls 3 [(2, .ref q9), (0, .ref h), (1, .int x1)] := hl
      refine lv_iconst (v := (1 : Int32)) hx hb dL_clear_9 (by decide) ?_
      have hg0 := Option.some.inj hf
      obtain ⟨hq1, hg1⟩ := Prod.mk.inj hg0
      subst hq1
      subst hg1
      refine vx_ret ?_
      refine W.widen (k := 1) (n := 6) (by decide) (by decide) ?_
      exact W.iret hx hb hr (fun t ht hW => ⟨⟨_, (), rfl, ⟨rfl, rfl⟩, by rw [ht]; exact hP, va_K.moved hW.alike hK, hD⟩, hS.F ht⟩) hS.2.2 dL_clear_10 hlk
    · replace hf := ifn hj hf
      cases hf
set_option maxHeartbeats 4000000 in
set_option maxRecDepth 100000 in
theorem ctL_put (l : Launch) (hlt : l.stackTraces = false) (dC : Nat → ClassId) (dI : Nat → Nat → Nat) (cI cZ cL : ClassId) (h a1 a2 a3 a4 a5 : Nat) (sz : Nat) (w : Nat → Int32) (r : Nat → Int32) (st : Nat → Int32) (rc : Nat → Int32) (na : Nat → Int32) (tp : Int32) (cn : Int32) (rh : Int32) (sr : Int32) (x1 : Int32) (x2 : Int32) (x3 : Int32) (rs : Int32) (w' : Nat → Int32) (hf : fL_put w r x1 x2 x3 = some (rs, w')) : vx_Met l yL_put wsL_put rmL_put (va_Pc [.ref h, .int x1, .int x2, .int x3] (q_preW (dC, dI) vwCl (tyA cI cZ cL) RX0 q_tx sz (wX cI h a1 a2 a3 a4 a5 w r st rc na tp cn rh sr))) (va_Qi (fun r (_ : Unit) => (0 : Nat) = 0 ∧ r = rs) (fun _ => q_post (dC, dI) vwCl (tyA cI cZ cL) (va_A (wX cI h a1 a2 a3 a4 a5 w r st rc na tp cn rh sr) sz) (wX cI h a1 a2 a3 a4 a5 w' r st rc na tp cn rh sr)) (va_A (wX cI h a1 a2 a3 a4 a5 w r st rc na tp cn rh sr) sz)) (vx_X (fun (_ : Unit) => ¬ (0 : Nat) = 0) (fun E _ t => E = q_E 0 ∧ q_post (dC, dI) vwCl (tyA cI cZ cL) (va_A (wX cI h a1 a2 a3 a4 a5 w r st rc na tp cn rh sr) sz) (wX cI h a1 a2 a3 a4 a5 w' r st rc na tp cn rh sr) t) (va_A (wX cI h a1 a2 a3 a4 a5 w r st rc na tp cn rh sr) sz)) 1 6 (va_A (wX cI h a1 a2 a3 a4 a5 w r st rc na tp cn rh sr) sz) := by
  refine vx_ofWH (cc := cL_put) (maxL := 5) (ret := (some .int)) (hh := [(0, 7, 10, 13), (0, 7, 14, 41)]) (by decide) rfl ?_
  intro p e s m args below meth c s₁ B hml hv
  obtain ⟨rfl, hsz, hP, hK, hD0, hZ0, hT, hN, hC⟩ := hv
  have hx := B.exec
  have hb := B.bytes
  have hr := B.returns
  have hts := atoms_spec (ws := wsL_put) B.pre
  have hown : s.vm.findClass RL = some m.cls := findClass_of_methodNamed B.named
  have hlk := B.notSynchronized
  have htab := vx_table (x := yL_put) B (hts _ List.mem_cons_self)
  subst hsz
  have hD := hD0.self (sz := s.heap.size)
  generalize hAe : va_A (wX cI h a1 a2 a3 a4 a5 w r st rc na tp cn rh sr) s.heap.size = A at hZ0 hD ⊢
  have hA : ∀ q : Nat, s.heap.size ≤ q → A q := fun q h => by rw [← hAe]; exact Or.inr h
  have hS : va_S A s.heap s.heap [] := va_S.rf
  have hl := lv_entry ([.ref h, .int x1, .int x2, .int x3]) (n := 5) (Nat.le_of_ble_eq_true rfl)
  rw [lg_entry_eq]
  generalize (lg_sl ([.ref h, .int x1, .int x2, .int x3]) ++ List.replicate (5 - (lg_sl ([.ref h, .int x1, .int x2, .int x3])).length) Slot.unset).toArray = ls at hl ⊢
  have hl : lv_has ls 5 [(0, .ref h), (1, .int x1), (2, .int x2), (3, .int x3)] := hl
  unfold fL_put at hf
  refine lv_aload_n hx hb dL_put_0 rfl (lv_at hl 0 rfl) ?_
  refine lv_iload_n hx hb dL_put_1 rfl (lv_at hl 1 rfl) ?_
  refine lv_iload_n hx hb dL_put_2 rfl (lv_at hl 2 rfl) ?_
  refine lv_iload_n hx hb dL_put_3 rfl (lv_at hl 3 rfl) ?_
  obtain ⟨⟨e1, w_2⟩, hv, hf⟩ := bd hf
  dsimp only at hf
  by_cases he : e1 = 0
  · replace hf := ift he hf
    subst he
    refine q_nv (wr := []) (vx_runV (As := [.int x1, .int x2, .int x3]) (rest := []) ⟨hx, hb, hml, hown, hts⟩ (ctX0_put l hlt dC dI cI cZ cL h a1 a2 a3 a4 a5 _ w r st rc na tp cn rh sr x1 x2 x3 0 w_2 hv) (cwV 3 hts (gV mw_361 mw_362 mw_363 mw_38 mw_364) rfl rfl rfl (by decide +kernel) ⟨Nat.le_of_ble_eq_true rfl, Nat.le_of_ble_eq_true rfl⟩) (q_preXV [.int x1, .int x2, .int x3] hK hP hD hS hA hZ0 hT hN [0, 1, 2, 3, 4, 5] (by decide) rfl (ci := 0) rfl rfl) rfl rfl hl.1 rfl (lv_room (Nat.le_of_ble_eq_true rfl)) dL_put_4 ⟨(q_le0 _).1, (q_le0 _).2⟩) hP hD hS hA [0, 1, 2, 3, 4, 5] [] rfl rfl (by decide) (by decide) (fun H locs hP hD hS => ?_)
    have hP : va_P (dC, dI) vwCl (wX cI h a1 a2 a3 a4 a5 w_2 r st rc na tp cn rh sr) _ := hP
    have hD : va_D A (wX cI h a1 a2 a3 a4 a5 w_2 r st rc na tp cn rh sr) := hD
    refine lv_goto (tgt := 18) hx hb dL_put_7 (by decide) ?_
    refine lv_iconst (v := (0 : Int32)) hx hb dL_put_18 (by decide) ?_
    have hg0 := Option.some.inj hf
    obtain ⟨hq1, hg1⟩ := Prod.mk.inj hg0
    subst hq1
    subst hg1
    refine vx_ret ?_
    refine W.widen (k := 1) (n := 6) (by decide) (by decide) ?_
    exact W.iret hx hb hr (fun t ht hW => ⟨⟨_, (), rfl, ⟨rfl, rfl⟩, by rw [ht]; exact hP, va_K.moved hW.alike hK, hD⟩, hS.F ht⟩) hS.2.2 dL_put_19 hlk
  · replace hf := ifn he hf
    refine q_tv (wr := []) he (vx_runV (As := [.int x1, .int x2, .int x3]) (rest := []) ⟨hx, hb, hml, hown, hts⟩ (ctX0_put l hlt dC dI cI cZ cL h a1 a2 a3 a4 a5 _ w r st rc na tp cn rh sr x1 x2 x3 e1 w_2 hv) (cwV 3 hts (gV mw_361 mw_362 mw_363 mw_38 mw_364) rfl rfl rfl (by decide +kernel) ⟨Nat.le_of_ble_eq_true rfl, Nat.le_of_ble_eq_true rfl⟩) (q_preXV [.int x1, .int x2, .int x3] hK hP hD hS hA hZ0 hT hN [0, 1, 2, 3, 4, 5] (by decide) rfl (ci := 0) rfl rfl) rfl rfl hl.1 rfl (lv_room (Nat.le_of_ble_eq_true rfl)) dL_put_4 ⟨q_w1 wsL_put rmL_put e1 rfl, q_w6 wsL_put rmL_put e1 rfl⟩) hP hD hS hA [0, 1, 2, 3, 4, 5] [] rfl rfl (by decide) (by decide) (fun ce q9 H locs hP hD hS hc1 hc2 hc3 => ?_)
    have hP : va_P (dC, dI) vwCl (wX cI h a1 a2 a3 a4 a5 w_2 r st rc na tp cn rh sr) _ := hP
    have hD : va_D A (wX cI h a1 a2 a3 a4 a5 w_2 r st rc na tp cn rh sr) := hD
    by_cases hj : e1 = 1
    · replace hf := ift hj hf
      subst hj
      refine vx_catch (own := RL) (E := q_E 1) (name := "java/lang/IndexOutOfBoundsException") hown ([] : List ExceptionTableEntry) ⟨0, 7, 10, 13⟩ ([⟨0, 7, 14, 41⟩] : List ExceptionTableEntry) (htab.trans rfl) (fun _ h9 => absurd h9 List.not_mem_nil) (by decide) (by decide) (hts _ (List.mem_cons_of_mem _ mw_128)) (va_Nw.use (w := Cond.castable "java/lang/IndexOutOfBoundsException" "java/lang/IndexOutOfBoundsException") rfl (hN.2 "java/lang/IndexOutOfBoundsException" (by decide +kernel))) hc1 hc2 hc3 ?_
      refine lv_astore hx hb dL_put_10 hl (by decide) rfl (fun ls hl => ?_)
      have hl : lv_has ls 5 [(4, .ref q9), (0, .ref h), (1, .int x1), (2, .int x2), (3, .int x3)] := hl
      refine lv_iconst (v := (1 : Int32)) hx hb dL_put_12 (by decide) ?_
      have hg0 := Option.some.inj hf
      obtain ⟨hq1, hg1⟩ := Prod.mk.inj hg0
      subst hq1
      subst hg1
      refine vx_ret ?_
      refine W.widen (k := 1) (n := 6) (by decide) (by decide) ?_
      exact W.iret hx hb hr (fun t ht hW => ⟨⟨_, (), rfl, ⟨rfl, rfl⟩, by rw [ht]; exact hP, va_K.moved hW.alike hK, hD⟩, hS.F ht⟩) hS.2.2 dL_put_13 hlk
    · replace hf := ifn hj hf
      by_cases hj : e1 = 5
      · replace hf := ift hj hf
        subst hj
        refine vx_catch (own := RL) (E := q_E 5) (name := "java/util/NoSuchElementException") hown ([⟨0, 7, 10, 13⟩] : List ExceptionTableEntry) ⟨0, 7, 14, 41⟩ ([] : List ExceptionTableEntry) (htab.trans rfl) (List.forall_mem_cons.mpr ⟨Or.inr ⟨by decide, "java/lang/IndexOutOfBoundsException", hts _ (List.mem_cons_of_mem _ mw_128), hC ("java/util/NoSuchElementException", "java/lang/IndexOutOfBoundsException") (by decide +kernel)⟩, fun _ h9 => absurd h9 List.not_mem_nil⟩) (by decide) (by decide) (hts _ (List.mem_cons_of_mem _ mw_360)) (va_Nw.use (w := Cond.castable "java/util/NoSuchElementException" "java/util/NoSuchElementException") rfl (hN.2 "java/util/NoSuchElementException" (by decide +kernel))) hc1 hc2 hc3 ?_
        refine lv_astore hx hb dL_put_14 hl (by decide) rfl (fun ls hl => ?_)
        have hl : lv_has ls 5 [(4, .ref q9), (0, .ref h), (1, .int x1), (2, .int x2), (3, .int x3)] := hl
        refine lv_iconst (v := (2 : Int32)) hx hb dL_put_16 (by decide) ?_
        have hg0 := Option.some.inj hf
        obtain ⟨hq1, hg1⟩ := Prod.mk.inj hg0
        subst hq1
        subst hg1
        refine vx_ret ?_
        refine W.widen (k := 1) (n := 6) (by decide) (by decide) ?_
        exact W.iret hx hb hr (fun t ht hW => ⟨⟨_, (), rfl, ⟨rfl, rfl⟩, by rw [ht]; exact hP, va_K.moved hW.alike hK, hD⟩, hS.F ht⟩) hS.2.2 dL_put_17 hlk
      · replace hf := ifn hj hf
        cases hf
set_option maxHeartbeats 4000000 in
set_option maxRecDepth 100000 in
theorem ctL_refer (l : Launch) (hlt : l.stackTraces = false) (dC : Nat → ClassId) (dI : Nat → Nat → Nat) (cI cZ cL : ClassId) (h a1 a2 a3 a4 a5 : Nat) (sz : Nat) (w : Nat → Int32) (r : Nat → Int32) (st : Nat → Int32) (rc : Nat → Int32) (na : Nat → Int32) (tp : Int32) (cn : Int32) (rh : Int32) (sr : Int32) (x1 : Int32) (x2 : Int32) (x3 : Int32) (x4 : Int32) (rs : Int32) (w' : Nat → Int32) (hf : fL_refer w r x1 x2 x3 x4 = some (rs, w')) : vx_Met l yL_refer wsL_refer rmL_refer (va_Pc [.ref h, .int x1, .int x2, .int x3, .int x4] (q_preW (dC, dI) vwCl (tyA cI cZ cL) RX0 q_tx sz (wX cI h a1 a2 a3 a4 a5 w r st rc na tp cn rh sr))) (va_Qi (fun r (_ : Unit) => (0 : Nat) = 0 ∧ r = rs) (fun _ => q_post (dC, dI) vwCl (tyA cI cZ cL) (va_A (wX cI h a1 a2 a3 a4 a5 w r st rc na tp cn rh sr) sz) (wX cI h a1 a2 a3 a4 a5 w' r st rc na tp cn rh sr)) (va_A (wX cI h a1 a2 a3 a4 a5 w r st rc na tp cn rh sr) sz)) (vx_X (fun (_ : Unit) => ¬ (0 : Nat) = 0) (fun E _ t => E = q_E 0 ∧ q_post (dC, dI) vwCl (tyA cI cZ cL) (va_A (wX cI h a1 a2 a3 a4 a5 w r st rc na tp cn rh sr) sz) (wX cI h a1 a2 a3 a4 a5 w' r st rc na tp cn rh sr) t) (va_A (wX cI h a1 a2 a3 a4 a5 w r st rc na tp cn rh sr) sz)) 1 6 (va_A (wX cI h a1 a2 a3 a4 a5 w r st rc na tp cn rh sr) sz) := by
  refine vx_ofWH (cc := cL_refer) (maxL := 6) (ret := (some .int)) (hh := [(0, 9, 12, 13), (0, 9, 16, 41)]) (by decide) rfl ?_
  intro p e s m args below meth c s₁ B hml hv
  obtain ⟨rfl, hsz, hP, hK, hD0, hZ0, hT, hN, hC⟩ := hv
  have hx := B.exec
  have hb := B.bytes
  have hr := B.returns
  have hts := atoms_spec (ws := wsL_refer) B.pre
  have hown : s.vm.findClass RL = some m.cls := findClass_of_methodNamed B.named
  have hlk := B.notSynchronized
  have htab := vx_table (x := yL_refer) B (hts _ List.mem_cons_self)
  subst hsz
  have hD := hD0.self (sz := s.heap.size)
  generalize hAe : va_A (wX cI h a1 a2 a3 a4 a5 w r st rc na tp cn rh sr) s.heap.size = A at hZ0 hD ⊢
  have hA : ∀ q : Nat, s.heap.size ≤ q → A q := fun q h => by rw [← hAe]; exact Or.inr h
  have hS : va_S A s.heap s.heap [] := va_S.rf
  have hl := lv_entry ([.ref h, .int x1, .int x2, .int x3, .int x4]) (n := 6) (Nat.le_of_ble_eq_true rfl)
  rw [lg_entry_eq]
  generalize (lg_sl ([.ref h, .int x1, .int x2, .int x3, .int x4]) ++ List.replicate (6 - (lg_sl ([.ref h, .int x1, .int x2, .int x3, .int x4])).length) Slot.unset).toArray = ls at hl ⊢
  have hl : lv_has ls 6 [(0, .ref h), (1, .int x1), (2, .int x2), (3, .int x3), (4, .int x4)] := hl
  unfold fL_refer at hf
  refine lv_aload_n hx hb dL_refer_0 rfl (lv_at hl 0 rfl) ?_
  refine lv_iload_n hx hb dL_refer_1 rfl (lv_at hl 1 rfl) ?_
  refine lv_iload_n hx hb dL_refer_2 rfl (lv_at hl 2 rfl) ?_
  refine lv_iload_n hx hb dL_refer_3 rfl (lv_at hl 3 rfl) ?_
  refine lv_iload hx hb dL_refer_4 (lv_at hl 4 rfl) ?_
  obtain ⟨⟨e1, w_2⟩, hv, hf⟩ := bd hf
  dsimp only at hf
  by_cases he : e1 = 0
  · replace hf := ift he hf
    subst he
    refine q_nv (wr := []) (vx_runV (As := [.int x1, .int x2, .int x3, .int x4]) (rest := []) ⟨hx, hb, hml, hown, hts⟩ (ctX0_refer l hlt dC dI cI cZ cL h a1 a2 a3 a4 a5 _ w r st rc na tp cn rh sr x1 x2 x3 x4 0 w_2 hv) (cwV 4 hts (gV mw_393 mw_394 mw_395 mw_38 mw_396) rfl rfl rfl (by decide +kernel) ⟨Nat.le_of_ble_eq_true rfl, Nat.le_of_ble_eq_true rfl⟩) (q_preXV [.int x1, .int x2, .int x3, .int x4] hK hP hD hS hA hZ0 hT hN [0, 1, 2, 3, 4, 5] (by decide) rfl (ci := 0) rfl rfl) rfl rfl hl.1 rfl (lv_room (Nat.le_of_ble_eq_true rfl)) dL_refer_6 ⟨(q_le0 _).1, (q_le0 _).2⟩) hP hD hS hA [0, 1, 2, 3, 4, 5] [] rfl rfl (by decide) (by decide) (fun H locs hP hD hS => ?_)
    have hP : va_P (dC, dI) vwCl (wX cI h a1 a2 a3 a4 a5 w_2 r st rc na tp cn rh sr) _ := hP
    have hD : va_D A (wX cI h a1 a2 a3 a4 a5 w_2 r st rc na tp cn rh sr) := hD
    refine lv_goto (tgt := 20) hx hb dL_refer_9 (by decide) ?_
    refine lv_iconst (v := (0 : Int32)) hx hb dL_refer_20 (by decide) ?_
    have hg0 := Option.some.inj hf
    obtain ⟨hq1, hg1⟩ := Prod.mk.inj hg0
    subst hq1
    subst hg1
    refine vx_ret ?_
    refine W.widen (k := 1) (n := 6) (by decide) (by decide) ?_
    exact W.iret hx hb hr (fun t ht hW => ⟨⟨_, (), rfl, ⟨rfl, rfl⟩, by rw [ht]; exact hP, va_K.moved hW.alike hK, hD⟩, hS.F ht⟩) hS.2.2 dL_refer_21 hlk
  · replace hf := ifn he hf
    refine q_tv (wr := []) he (vx_runV (As := [.int x1, .int x2, .int x3, .int x4]) (rest := []) ⟨hx, hb, hml, hown, hts⟩ (ctX0_refer l hlt dC dI cI cZ cL h a1 a2 a3 a4 a5 _ w r st rc na tp cn rh sr x1 x2 x3 x4 e1 w_2 hv) (cwV 4 hts (gV mw_393 mw_394 mw_395 mw_38 mw_396) rfl rfl rfl (by decide +kernel) ⟨Nat.le_of_ble_eq_true rfl, Nat.le_of_ble_eq_true rfl⟩) (q_preXV [.int x1, .int x2, .int x3, .int x4] hK hP hD hS hA hZ0 hT hN [0, 1, 2, 3, 4, 5] (by decide) rfl (ci := 0) rfl rfl) rfl rfl hl.1 rfl (lv_room (Nat.le_of_ble_eq_true rfl)) dL_refer_6 ⟨q_w1 wsL_refer rmL_refer e1 rfl, q_w6 wsL_refer rmL_refer e1 rfl⟩) hP hD hS hA [0, 1, 2, 3, 4, 5] [] rfl rfl (by decide) (by decide) (fun ce q9 H locs hP hD hS hc1 hc2 hc3 => ?_)
    have hP : va_P (dC, dI) vwCl (wX cI h a1 a2 a3 a4 a5 w_2 r st rc na tp cn rh sr) _ := hP
    have hD : va_D A (wX cI h a1 a2 a3 a4 a5 w_2 r st rc na tp cn rh sr) := hD
    by_cases hj : e1 = 1
    · replace hf := ift hj hf
      subst hj
      refine vx_catch (own := RL) (E := q_E 1) (name := "java/lang/IndexOutOfBoundsException") hown ([] : List ExceptionTableEntry) ⟨0, 9, 12, 13⟩ ([⟨0, 9, 16, 41⟩] : List ExceptionTableEntry) (htab.trans rfl) (fun _ h9 => absurd h9 List.not_mem_nil) (by decide) (by decide) (hts _ (List.mem_cons_of_mem _ mw_128)) (va_Nw.use (w := Cond.castable "java/lang/IndexOutOfBoundsException" "java/lang/IndexOutOfBoundsException") rfl (hN.2 "java/lang/IndexOutOfBoundsException" (by decide +kernel))) hc1 hc2 hc3 ?_
      refine lv_astore hx hb dL_refer_12 hl (by decide) rfl (fun ls hl => ?_)
      have hl : lv_has ls 6 [(5, .ref q9), (0, .ref h), (1, .int x1), (2, .int x2), (3, .int x3), (4, .int x4)] := hl
      refine lv_iconst (v := (1 : Int32)) hx hb dL_refer_14 (by decide) ?_
      have hg0 := Option.some.inj hf
      obtain ⟨hq1, hg1⟩ := Prod.mk.inj hg0
      subst hq1
      subst hg1
      refine vx_ret ?_
      refine W.widen (k := 1) (n := 6) (by decide) (by decide) ?_
      exact W.iret hx hb hr (fun t ht hW => ⟨⟨_, (), rfl, ⟨rfl, rfl⟩, by rw [ht]; exact hP, va_K.moved hW.alike hK, hD⟩, hS.F ht⟩) hS.2.2 dL_refer_15 hlk
    · replace hf := ifn hj hf
      by_cases hj : e1 = 5
      · replace hf := ift hj hf
        subst hj
        refine vx_catch (own := RL) (E := q_E 5) (name := "java/util/NoSuchElementException") hown ([⟨0, 9, 12, 13⟩] : List ExceptionTableEntry) ⟨0, 9, 16, 41⟩ ([] : List ExceptionTableEntry) (htab.trans rfl) (List.forall_mem_cons.mpr ⟨Or.inr ⟨by decide, "java/lang/IndexOutOfBoundsException", hts _ (List.mem_cons_of_mem _ mw_128), hC ("java/util/NoSuchElementException", "java/lang/IndexOutOfBoundsException") (by decide +kernel)⟩, fun _ h9 => absurd h9 List.not_mem_nil⟩) (by decide) (by decide) (hts _ (List.mem_cons_of_mem _ mw_360)) (va_Nw.use (w := Cond.castable "java/util/NoSuchElementException" "java/util/NoSuchElementException") rfl (hN.2 "java/util/NoSuchElementException" (by decide +kernel))) hc1 hc2 hc3 ?_
        refine lv_astore hx hb dL_refer_16 hl (by decide) rfl (fun ls hl => ?_)
        have hl : lv_has ls 6 [(5, .ref q9), (0, .ref h), (1, .int x1), (2, .int x2), (3, .int x3), (4, .int x4)] := hl
        refine lv_iconst (v := (2 : Int32)) hx hb dL_refer_18 (by decide) ?_
        have hg0 := Option.some.inj hf
        obtain ⟨hq1, hg1⟩ := Prod.mk.inj hg0
        subst hq1
        subst hg1
        refine vx_ret ?_
        refine W.widen (k := 1) (n := 6) (by decide) (by decide) ?_
        exact W.iret hx hb hr (fun t ht hW => ⟨⟨_, (), rfl, ⟨rfl, rfl⟩, by rw [ht]; exact hP, va_K.moved hW.alike hK, hD⟩, hS.F ht⟩) hS.2.2 dL_refer_19 hlk
      · replace hf := ifn hj hf
        cases hf
set_option maxHeartbeats 4000000 in
set_option maxRecDepth 100000 in
theorem ctL_follow (l : Launch) (hlt : l.stackTraces = false) (dC : Nat → ClassId) (dI : Nat → Nat → Nat) (cI cZ cL : ClassId) (h a1 a2 a3 a4 a5 oa : Nat) (sz : Nat) (w : Nat → Int32) (r : Nat → Int32) (st : Nat → Int32) (rc : Nat → Int32) (na : Nat → Int32) (tp : Int32) (cn : Int32) (rh : Int32) (sr : Int32) (ou : Nat → Int64) (x1 : Int32) (x2 : Int32) (x3 : Int32) (rs : Int32) (r' : Nat → Int32) (ou' : Nat → Int64) (hf : fL_follow w r ou x1 x2 x3 = some (rs, r', ou')) : vx_Met l yL_follow wsL_follow rmL_follow (va_Pc [.ref h, .int x1, .int x2, .int x3, .ref oa] (q_preW (dC, dI) vwCl (tyA cI cZ cL) RX0 q_tx sz (wY cI cL h a1 a2 a3 a4 a5 oa w r st rc na tp cn rh sr ou))) (va_Qi (fun r (_ : Unit) => (0 : Nat) = 0 ∧ r = rs) (fun _ => q_post (dC, dI) vwCl (tyA cI cZ cL) (va_A (wY cI cL h a1 a2 a3 a4 a5 oa w r st rc na tp cn rh sr ou) sz) (wY cI cL h a1 a2 a3 a4 a5 oa w r' st rc na tp cn rh sr ou')) (va_A (wY cI cL h a1 a2 a3 a4 a5 oa w r st rc na tp cn rh sr ou) sz)) (vx_X (fun (_ : Unit) => ¬ (0 : Nat) = 0) (fun E _ t => E = q_E 0 ∧ q_post (dC, dI) vwCl (tyA cI cZ cL) (va_A (wY cI cL h a1 a2 a3 a4 a5 oa w r st rc na tp cn rh sr ou) sz) (wY cI cL h a1 a2 a3 a4 a5 oa w r' st rc na tp cn rh sr ou') t) (va_A (wY cI cL h a1 a2 a3 a4 a5 oa w r st rc na tp cn rh sr ou) sz)) 1 6 (va_A (wY cI cL h a1 a2 a3 a4 a5 oa w r st rc na tp cn rh sr ou) sz) := by
  refine vx_ofWH (cc := cL_follow) (maxL := 6) (ret := (some .int)) (hh := [(0, 19, 22, 13), (0, 19, 26, 41), (0, 19, 30, 17)]) (by decide) rfl ?_
  intro p e s m args below meth c s₁ B hml hv
  obtain ⟨rfl, hsz, hP, hK, hD0, hZ0, hT, hN, hC⟩ := hv
  have hx := B.exec
  have hb := B.bytes
  have hr := B.returns
  have hts := atoms_spec (ws := wsL_follow) B.pre
  have hown : s.vm.findClass RL = some m.cls := findClass_of_methodNamed B.named
  have hlk := B.notSynchronized
  have htab := vx_table (x := yL_follow) B (hts _ List.mem_cons_self)
  subst hsz
  have hD := hD0.self (sz := s.heap.size)
  generalize hAe : va_A (wY cI cL h a1 a2 a3 a4 a5 oa w r st rc na tp cn rh sr ou) s.heap.size = A at hZ0 hD ⊢
  have hA : ∀ q : Nat, s.heap.size ≤ q → A q := fun q h => by rw [← hAe]; exact Or.inr h
  have hS : va_S A s.heap s.heap [] := va_S.rf
  have hl := lv_entry ([.ref h, .int x1, .int x2, .int x3, .ref oa]) (n := 6) (Nat.le_of_ble_eq_true rfl)
  rw [lg_entry_eq]
  generalize (lg_sl ([.ref h, .int x1, .int x2, .int x3, .ref oa]) ++ List.replicate (6 - (lg_sl ([.ref h, .int x1, .int x2, .int x3, .ref oa])).length) Slot.unset).toArray = ls at hl ⊢
  have hl : lv_has ls 6 [(0, .ref h), (1, .int x1), (2, .int x2), (3, .int x3), (4, .ref oa)] := hl
  unfold fL_follow at hf
  refine lv_aload hx hb dL_follow_0 (lv_at hl 4 rfl) ?_
  refine lv_iconst (v := (0 : Int32)) hx hb dL_follow_2 (by decide) ?_
  refine lv_aload_n hx hb dL_follow_3 rfl (lv_at hl 0 rfl) ?_
  refine lv_iload_n hx hb dL_follow_4 rfl (lv_at hl 1 rfl) ?_
  refine lv_iload_n hx hb dL_follow_5 rfl (lv_at hl 2 rfl) ?_
  refine lv_iload_n hx hb dL_follow_6 rfl (lv_at hl 3 rfl) ?_
  obtain ⟨⟨e1, v2, r_3⟩, hv, hf⟩ := bd hf
  dsimp only at hf
  by_cases he : e1 = 0
  · replace hf := ift he hf
    subst he
    refine q_ni (wr := [(oa, .inl (cL, 1, .inr (.inl ou)))]) (vx_runV (As := [.int x1, .int x2, .int x3]) (rest := [.int (0 : Int32), .ref oa]) ⟨hx, hb, hml, hown, hts⟩ (ctX0_follow l hlt dC dI cI cZ cL h a1 a2 a3 a4 a5 _ w r st rc na tp cn rh sr x1 x2 x3 0 v2 r_3 hv) (cwV 3 hts (gV mw_400 mw_401 mw_402 mw_38 mw_403) rfl rfl rfl (by decide +kernel) ⟨Nat.le_of_ble_eq_true rfl, Nat.le_of_ble_eq_true rfl⟩) (q_preXV [.int x1, .int x2, .int x3] hK hP hD hS hA hZ0 hT hN [0, 1, 2, 3, 4, 5] (by decide) rfl (ci := 0) rfl rfl) rfl rfl hl.1 rfl (lv_room (Nat.le_of_ble_eq_true rfl)) dL_follow_7 ⟨(q_le0 _).1, (q_le0 _).2⟩) hP hD hS hA [0, 1, 2, 3, 4, 5] [6] rfl rfl (by decide) (by decide) (fun H locs hP hD hS => ?_)
    have hP := hP.sub (ws' := (wY cI cL h a1 a2 a3 a4 a5 oa w r_3 st rc na tp cn rh sr ou)) [1, 2, 3, 4, 5, 6, 0] rfl
    have hD := hD.sub (ws' := (wY cI cL h a1 a2 a3 a4 a5 oa w r_3 st rc na tp cn rh sr ou)) [1, 2, 3, 4, 5, 6, 0] (by decide) rfl
    have hP : va_P (dC, dI) vwCl (wY cI cL h a1 a2 a3 a4 a5 oa w r_3 st rc na tp cn rh sr ou) _ := hP
    have hD : va_D A (wY cI cL h a1 a2 a3 a4 a5 oa w r_3 st rc na tp cn rh sr ou) := hD
    refine lv_if_eq (tgt := 17) hx hb dL_follow_10 (by decide) (fun h4 => ?_) (fun h4 => ?_)
    · have hf := ift h4 hf
      refine lv_lconst (v := 0) hx hb dL_follow_17 (by decide) ?_
      obtain ⟨ou_5, hv, hf⟩ := bd hf
      refine q_lst hx hb hK hP hD hS 6 2 rfl rfl hv dL_follow_18 (fun H locs hP hD hS => ?_)
      have hP : va_P (dC, dI) vwCl (wY cI cL h a1 a2 a3 a4 a5 oa w r_3 st rc na tp cn rh sr ou_5) _ := hP
      have hD : va_D A (wY cI cL h a1 a2 a3 a4 a5 oa w r_3 st rc na tp cn rh sr ou_5) := hD
      refine lv_goto (tgt := 34) hx hb dL_follow_19 (by decide) ?_
      refine lv_iconst (v := (0 : Int32)) hx hb dL_follow_34 (by decide) ?_
      have hg0 := Option.some.inj hf
      obtain ⟨hq1, hg1⟩ := Prod.mk.inj hg0
      subst hq1
      obtain ⟨hq2, hg2⟩ := Prod.mk.inj hg1
      subst hq2
      subst hg2
      refine vx_ret ?_
      refine W.widen (k := 1) (n := 6) (by decide) (by decide) ?_
      exact W.iret hx hb hr (fun t ht hW => ⟨⟨_, (), rfl, ⟨rfl, rfl⟩, by rw [ht]; exact hP, va_K.moved hW.alike hK, hD⟩, hS.F ht⟩) hS.2.2 dL_follow_35 hlk
    · have hf := ifn h4 hf
      refine lv_lconst (v := 1) hx hb dL_follow_13 (by decide) ?_
      refine lv_goto (tgt := 18) hx hb dL_follow_14 (by decide) ?_
      obtain ⟨ou_6, hv, hf⟩ := bd hf
      refine q_lst hx hb hK hP hD hS 6 2 rfl rfl hv dL_follow_18 (fun H locs hP hD hS => ?_)
      have hP : va_P (dC, dI) vwCl (wY cI cL h a1 a2 a3 a4 a5 oa w r_3 st rc na tp cn rh sr ou_6) _ := hP
      have hD : va_D A (wY cI cL h a1 a2 a3 a4 a5 oa w r_3 st rc na tp cn rh sr ou_6) := hD
      refine lv_goto (tgt := 34) hx hb dL_follow_19 (by decide) ?_
      refine lv_iconst (v := (0 : Int32)) hx hb dL_follow_34 (by decide) ?_
      have hg0 := Option.some.inj hf
      obtain ⟨hq1, hg1⟩ := Prod.mk.inj hg0
      subst hq1
      obtain ⟨hq2, hg2⟩ := Prod.mk.inj hg1
      subst hq2
      subst hg2
      refine vx_ret ?_
      refine W.widen (k := 1) (n := 6) (by decide) (by decide) ?_
      exact W.iret hx hb hr (fun t ht hW => ⟨⟨_, (), rfl, ⟨rfl, rfl⟩, by rw [ht]; exact hP, va_K.moved hW.alike hK, hD⟩, hS.F ht⟩) hS.2.2 dL_follow_35 hlk
  · replace hf := ifn he hf
    refine q_ti (wr := [(oa, .inl (cL, 1, .inr (.inl ou)))]) he (vx_runV (As := [.int x1, .int x2, .int x3]) (rest := [.int (0 : Int32), .ref oa]) ⟨hx, hb, hml, hown, hts⟩ (ctX0_follow l hlt dC dI cI cZ cL h a1 a2 a3 a4 a5 _ w r st rc na tp cn rh sr x1 x2 x3 e1 v2 r_3 hv) (cwV 3 hts (gV mw_400 mw_401 mw_402 mw_38 mw_403) rfl rfl rfl (by decide +kernel) ⟨Nat.le_of_ble_eq_true rfl, Nat.le_of_ble_eq_true rfl⟩) (q_preXV [.int x1, .int x2, .int x3] hK hP hD hS hA hZ0 hT hN [0, 1, 2, 3, 4, 5] (by decide) rfl (ci := 0) rfl rfl) rfl rfl hl.1 rfl (lv_room (Nat.le_of_ble_eq_true rfl)) dL_follow_7 ⟨q_w1 wsL_follow rmL_follow e1 rfl, q_w6 wsL_follow rmL_follow e1 rfl⟩) hP hD hS hA [0, 1, 2, 3, 4, 5] [6] rfl rfl (by decide) (by decide) (fun ce q9 H locs hP hD hS hc1 hc2 hc3 => ?_)
    have hP := hP.sub (ws' := (wY cI cL h a1 a2 a3 a4 a5 oa w r_3 st rc na tp cn rh sr ou)) [1, 2, 3, 4, 5, 6, 0] rfl
    have hD := hD.sub (ws' := (wY cI cL h a1 a2 a3 a4 a5 oa w r_3 st rc na tp cn rh sr ou)) [1, 2, 3, 4, 5, 6, 0] (by decide) rfl
    have hP : va_P (dC, dI) vwCl (wY cI cL h a1 a2 a3 a4 a5 oa w r_3 st rc na tp cn rh sr ou) _ := hP
    have hD : va_D A (wY cI cL h a1 a2 a3 a4 a5 oa w r_3 st rc na tp cn rh sr ou) := hD
    by_cases hj : e1 = 1
    · replace hf := ift hj hf
      subst hj
      refine vx_catch (own := RL) (E := q_E 1) (name := "java/lang/IndexOutOfBoundsException") hown ([] : List ExceptionTableEntry) ⟨0, 19, 22, 13⟩ ([⟨0, 19, 26, 41⟩, ⟨0, 19, 30, 17⟩] : List ExceptionTableEntry) (htab.trans rfl) (fun _ h9 => absurd h9 List.not_mem_nil) (by decide) (by decide) (hts _ (List.mem_cons_of_mem _ mw_128)) (va_Nw.use (w := Cond.castable "java/lang/IndexOutOfBoundsException" "java/lang/IndexOutOfBoundsException") rfl (hN.2 "java/lang/IndexOutOfBoundsException" (by decide +kernel))) hc1 hc2 hc3 ?_
      refine lv_astore hx hb dL_follow_22 hl (by decide) rfl (fun ls hl => ?_)
      have hl : lv_has ls 6 [(5, .ref q9), (0, .ref h), (1, .int x1), (2, .int x2), (3, .int x3), (4, .ref oa)] := hl
      refine lv_iconst (v := (1 : Int32)) hx hb dL_follow_24 (by decide) ?_
      have hg0 := Option.some.inj hf
      obtain ⟨hq1, hg1⟩ := Prod.mk.inj hg0
      subst hq1
      obtain ⟨hq2, hg2⟩ := Prod.mk.inj hg1
      subst hq2
      subst hg2
      refine vx_ret ?_
      refine W.widen (k := 1) (n := 6) (by decide) (by decide) ?_
      exact W.iret hx hb hr (fun t ht hW => ⟨⟨_, (), rfl, ⟨rfl, rfl⟩, by rw [ht]; exact hP, va_K.moved hW.alike hK, hD⟩, hS.F ht⟩) hS.2.2 dL_follow_25 hlk
    · replace hf := ifn hj hf
      by_cases hj : e1 = 5
      · replace hf := ift hj hf
        subst hj
        refine vx_catch (own := RL) (E := q_E 5) (name := "java/util/NoSuchElementException") hown ([⟨0, 19, 22, 13⟩] : List ExceptionTableEntry) ⟨0, 19, 26, 41⟩ ([⟨0, 19, 30, 17⟩] : List ExceptionTableEntry) (htab.trans rfl) (List.forall_mem_cons.mpr ⟨Or.inr ⟨by decide, "java/lang/IndexOutOfBoundsException", hts _ (List.mem_cons_of_mem _ mw_128), hC ("java/util/NoSuchElementException", "java/lang/IndexOutOfBoundsException") (by decide +kernel)⟩, fun _ h9 => absurd h9 List.not_mem_nil⟩) (by decide) (by decide) (hts _ (List.mem_cons_of_mem _ mw_360)) (va_Nw.use (w := Cond.castable "java/util/NoSuchElementException" "java/util/NoSuchElementException") rfl (hN.2 "java/util/NoSuchElementException" (by decide +kernel))) hc1 hc2 hc3 ?_
        refine lv_astore hx hb dL_follow_26 hl (by decide) rfl (fun ls hl => ?_)
        have hl : lv_has ls 6 [(5, .ref q9), (0, .ref h), (1, .int x1), (2, .int x2), (3, .int x3), (4, .ref oa)] := hl
        refine lv_iconst (v := (2 : Int32)) hx hb dL_follow_28 (by decide) ?_
        have hg0 := Option.some.inj hf
        obtain ⟨hq1, hg1⟩ := Prod.mk.inj hg0
        subst hq1
        obtain ⟨hq2, hg2⟩ := Prod.mk.inj hg1
        subst hq2
        subst hg2
        refine vx_ret ?_
        refine W.widen (k := 1) (n := 6) (by decide) (by decide) ?_
        exact W.iret hx hb hr (fun t ht hW => ⟨⟨_, (), rfl, ⟨rfl, rfl⟩, by rw [ht]; exact hP, va_K.moved hW.alike hK, hD⟩, hS.F ht⟩) hS.2.2 dL_follow_29 hlk
      · replace hf := ifn hj hf
        by_cases hj : e1 = 3
        · replace hf := ift hj hf
          subst hj
          refine vx_catch (own := RL) (E := q_E 3) (name := "java/lang/IllegalStateException") hown ([⟨0, 19, 22, 13⟩, ⟨0, 19, 26, 41⟩] : List ExceptionTableEntry) ⟨0, 19, 30, 17⟩ ([] : List ExceptionTableEntry) (htab.trans rfl) (List.forall_mem_cons.mpr ⟨Or.inr ⟨by decide, "java/lang/IndexOutOfBoundsException", hts _ (List.mem_cons_of_mem _ mw_128), hC ("java/lang/IllegalStateException", "java/lang/IndexOutOfBoundsException") (by decide +kernel)⟩, List.forall_mem_cons.mpr ⟨Or.inr ⟨by decide, "java/util/NoSuchElementException", hts _ (List.mem_cons_of_mem _ mw_360), hC ("java/lang/IllegalStateException", "java/util/NoSuchElementException") (by decide +kernel)⟩, fun _ h9 => absurd h9 List.not_mem_nil⟩⟩) (by decide) (by decide) (hts _ (List.mem_cons_of_mem _ mw_130)) (va_Nw.use (w := Cond.castable "java/lang/IllegalStateException" "java/lang/IllegalStateException") rfl (hN.2 "java/lang/IllegalStateException" (by decide +kernel))) hc1 hc2 hc3 ?_
          refine lv_astore hx hb dL_follow_30 hl (by decide) rfl (fun ls hl => ?_)
          have hl : lv_has ls 6 [(5, .ref q9), (0, .ref h), (1, .int x1), (2, .int x2), (3, .int x3), (4, .ref oa)] := hl
          refine lv_iconst (v := (3 : Int32)) hx hb dL_follow_32 (by decide) ?_
          have hg0 := Option.some.inj hf
          obtain ⟨hq1, hg1⟩ := Prod.mk.inj hg0
          subst hq1
          obtain ⟨hq2, hg2⟩ := Prod.mk.inj hg1
          subst hq2
          subst hg2
          refine vx_ret ?_
          refine W.widen (k := 1) (n := 6) (by decide) (by decide) ?_
          exact W.iret hx hb hr (fun t ht hW => ⟨⟨_, (), rfl, ⟨rfl, rfl⟩, by rw [ht]; exact hP, va_K.moved hW.alike hK, hD⟩, hS.F ht⟩) hS.2.2 dL_follow_33 hlk
        · replace hf := ifn hj hf
          cases hf
set_option maxHeartbeats 4000000 in
set_option maxRecDepth 100000 in
theorem ctL_kind (l : Launch) (hlt : l.stackTraces = false) (dC : Nat → ClassId) (dI : Nat → Nat → Nat) (cI cZ cL : ClassId) (h a1 a2 a3 a4 a5 oa : Nat) (sz : Nat) (w : Nat → Int32) (r : Nat → Int32) (st : Nat → Int32) (rc : Nat → Int32) (na : Nat → Int32) (tp : Int32) (cn : Int32) (rh : Int32) (sr : Int32) (ou : Nat → Int64) (x1 : Int32) (x2 : Int32) (rs : Int32) (ou' : Nat → Int64) (hf : fL_kind w r ou x1 x2 = some (rs, ou')) : vx_Met l yL_kind wsL_kind rmL_kind (va_Pc [.ref h, .int x1, .int x2, .ref oa] (q_preW (dC, dI) vwCl (tyA cI cZ cL) RX0 q_tx sz (wY cI cL h a1 a2 a3 a4 a5 oa w r st rc na tp cn rh sr ou))) (va_Qi (fun r (_ : Unit) => (0 : Nat) = 0 ∧ r = rs) (fun _ => q_post (dC, dI) vwCl (tyA cI cZ cL) (va_A (wY cI cL h a1 a2 a3 a4 a5 oa w r st rc na tp cn rh sr ou) sz) (wY cI cL h a1 a2 a3 a4 a5 oa w r st rc na tp cn rh sr ou')) (va_A (wY cI cL h a1 a2 a3 a4 a5 oa w r st rc na tp cn rh sr ou) sz)) (vx_X (fun (_ : Unit) => ¬ (0 : Nat) = 0) (fun E _ t => E = q_E 0 ∧ q_post (dC, dI) vwCl (tyA cI cZ cL) (va_A (wY cI cL h a1 a2 a3 a4 a5 oa w r st rc na tp cn rh sr ou) sz) (wY cI cL h a1 a2 a3 a4 a5 oa w r st rc na tp cn rh sr ou') t) (va_A (wY cI cL h a1 a2 a3 a4 a5 oa w r st rc na tp cn rh sr ou) sz)) 1 6 (va_A (wY cI cL h a1 a2 a3 a4 a5 oa w r st rc na tp cn rh sr ou) sz) := by
  refine vx_ofWH (cc := cL_kind) (maxL := 5) (ret := (some .int)) (hh := [(0, 10, 13, 13), (0, 10, 17, 41)]) (by decide) rfl ?_
  intro p e s m args below meth c s₁ B hml hv
  obtain ⟨rfl, hsz, hP, hK, hD0, hZ0, hT, hN, hC⟩ := hv
  have hx := B.exec
  have hb := B.bytes
  have hr := B.returns
  have hts := atoms_spec (ws := wsL_kind) B.pre
  have hown : s.vm.findClass RL = some m.cls := findClass_of_methodNamed B.named
  have hlk := B.notSynchronized
  have htab := vx_table (x := yL_kind) B (hts _ List.mem_cons_self)
  subst hsz
  have hD := hD0.self (sz := s.heap.size)
  generalize hAe : va_A (wY cI cL h a1 a2 a3 a4 a5 oa w r st rc na tp cn rh sr ou) s.heap.size = A at hZ0 hD ⊢
  have hA : ∀ q : Nat, s.heap.size ≤ q → A q := fun q h => by rw [← hAe]; exact Or.inr h
  have hS : va_S A s.heap s.heap [] := va_S.rf
  have hl := lv_entry ([.ref h, .int x1, .int x2, .ref oa]) (n := 5) (Nat.le_of_ble_eq_true rfl)
  rw [lg_entry_eq]
  generalize (lg_sl ([.ref h, .int x1, .int x2, .ref oa]) ++ List.replicate (5 - (lg_sl ([.ref h, .int x1, .int x2, .ref oa])).length) Slot.unset).toArray = ls at hl ⊢
  have hl : lv_has ls 5 [(0, .ref h), (1, .int x1), (2, .int x2), (3, .ref oa)] := hl
  unfold fL_kind at hf
  refine lv_aload_n hx hb dL_kind_0 rfl (lv_at hl 3 rfl) ?_
  refine lv_iconst (v := (0 : Int32)) hx hb dL_kind_1 (by decide) ?_
  refine lv_aload_n hx hb dL_kind_2 rfl (lv_at hl 0 rfl) ?_
  refine lv_iload_n hx hb dL_kind_3 rfl (lv_at hl 1 rfl) ?_
  refine lv_iload_n hx hb dL_kind_4 rfl (lv_at hl 2 rfl) ?_
  obtain ⟨⟨e1, v2⟩, hv, hf⟩ := bd hf
  dsimp only at hf
  by_cases he : e1 = 0
  · replace hf := ift he hf
    subst he
    refine q_ni (wr := [(oa, .inl (cL, 1, .inr (.inl ou)))]) (vx_runV (As := [.int x1, .int x2]) (rest := [.int (0 : Int32), .ref oa]) ⟨hx, hb, hml, hown, hts⟩ (ctX0_kind l hlt dC dI cI cZ cL h a1 a2 a3 a4 a5 _ w r st rc na tp cn rh sr x1 x2 0 v2 hv) (cwV 2 hts (gV mw_412 mw_413 mw_414 mw_38 mw_415) rfl rfl rfl (by decide +kernel) ⟨Nat.le_of_ble_eq_true rfl, Nat.le_of_ble_eq_true rfl⟩) (q_preXV [.int x1, .int x2] hK hP hD hS hA hZ0 hT hN [0, 1, 2, 3, 4, 5] (by decide) rfl (ci := 0) rfl rfl) rfl rfl hl.1 rfl (lv_room (Nat.le_of_ble_eq_true rfl)) dL_kind_5 ⟨(q_le0 _).1, (q_le0 _).2⟩) hP hD hS hA [0, 1, 2, 3, 4, 5] [6] rfl rfl (by decide) (by decide) (fun H locs hP hD hS => ?_)
    have hP := hP.sub (ws' := (wY cI cL h a1 a2 a3 a4 a5 oa w r st rc na tp cn rh sr ou)) [1, 2, 3, 4, 5, 6, 0] rfl
    have hD := hD.sub (ws' := (wY cI cL h a1 a2 a3 a4 a5 oa w r st rc na tp cn rh sr ou)) [1, 2, 3, 4, 5, 6, 0] (by decide) rfl
    have hP : va_P (dC, dI) vwCl (wY cI cL h a1 a2 a3 a4 a5 oa w r st rc na tp cn rh sr ou) _ := hP
    have hD : va_D A (wY cI cL h a1 a2 a3 a4 a5 oa w r st rc na tp cn rh sr ou) := hD
    refine lv_i2l hx hb dL_kind_8 rfl ?_
    obtain ⟨ou_3, hv, hf⟩ := bd hf
    refine q_lst hx hb hK hP hD hS 6 2 rfl rfl hv dL_kind_9 (fun H locs hP hD hS => ?_)
    have hP : va_P (dC, dI) vwCl (wY cI cL h a1 a2 a3 a4 a5 oa w r st rc na tp cn rh sr ou_3) _ := hP
    have hD : va_D A (wY cI cL h a1 a2 a3 a4 a5 oa w r st rc na tp cn rh sr ou_3) := hD
    refine lv_goto (tgt := 21) hx hb dL_kind_10 (by decide) ?_
    refine lv_iconst (v := (0 : Int32)) hx hb dL_kind_21 (by decide) ?_
    have hg0 := Option.some.inj hf
    obtain ⟨hq1, hg1⟩ := Prod.mk.inj hg0
    subst hq1
    subst hg1
    refine vx_ret ?_
    refine W.widen (k := 1) (n := 6) (by decide) (by decide) ?_
    exact W.iret hx hb hr (fun t ht hW => ⟨⟨_, (), rfl, ⟨rfl, rfl⟩, by rw [ht]; exact hP, va_K.moved hW.alike hK, hD⟩, hS.F ht⟩) hS.2.2 dL_kind_22 hlk
  · replace hf := ifn he hf
    refine q_ti (wr := [(oa, .inl (cL, 1, .inr (.inl ou)))]) he (vx_runV (As := [.int x1, .int x2]) (rest := [.int (0 : Int32), .ref oa]) ⟨hx, hb, hml, hown, hts⟩ (ctX0_kind l hlt dC dI cI cZ cL h a1 a2 a3 a4 a5 _ w r st rc na tp cn rh sr x1 x2 e1 v2 hv) (cwV 2 hts (gV mw_412 mw_413 mw_414 mw_38 mw_415) rfl rfl rfl (by decide +kernel) ⟨Nat.le_of_ble_eq_true rfl, Nat.le_of_ble_eq_true rfl⟩) (q_preXV [.int x1, .int x2] hK hP hD hS hA hZ0 hT hN [0, 1, 2, 3, 4, 5] (by decide) rfl (ci := 0) rfl rfl) rfl rfl hl.1 rfl (lv_room (Nat.le_of_ble_eq_true rfl)) dL_kind_5 ⟨q_w1 wsL_kind rmL_kind e1 rfl, q_w6 wsL_kind rmL_kind e1 rfl⟩) hP hD hS hA [0, 1, 2, 3, 4, 5] [6] rfl rfl (by decide) (by decide) (fun ce q9 H locs hP hD hS hc1 hc2 hc3 => ?_)
    have hP := hP.sub (ws' := (wY cI cL h a1 a2 a3 a4 a5 oa w r st rc na tp cn rh sr ou)) [1, 2, 3, 4, 5, 6, 0] rfl
    have hD := hD.sub (ws' := (wY cI cL h a1 a2 a3 a4 a5 oa w r st rc na tp cn rh sr ou)) [1, 2, 3, 4, 5, 6, 0] (by decide) rfl
    have hP : va_P (dC, dI) vwCl (wY cI cL h a1 a2 a3 a4 a5 oa w r st rc na tp cn rh sr ou) _ := hP
    have hD : va_D A (wY cI cL h a1 a2 a3 a4 a5 oa w r st rc na tp cn rh sr ou) := hD
    by_cases hj : e1 = 1
    · replace hf := ift hj hf
      subst hj
      refine vx_catch (own := RL) (E := q_E 1) (name := "java/lang/IndexOutOfBoundsException") hown ([] : List ExceptionTableEntry) ⟨0, 10, 13, 13⟩ ([⟨0, 10, 17, 41⟩] : List ExceptionTableEntry) (htab.trans rfl) (fun _ h9 => absurd h9 List.not_mem_nil) (by decide) (by decide) (hts _ (List.mem_cons_of_mem _ mw_128)) (va_Nw.use (w := Cond.castable "java/lang/IndexOutOfBoundsException" "java/lang/IndexOutOfBoundsException") rfl (hN.2 "java/lang/IndexOutOfBoundsException" (by decide +kernel))) hc1 hc2 hc3 ?_
      refine lv_astore hx hb dL_kind_13 hl (by decide) rfl (fun ls hl => ?_)
      have hl : lv_has ls 5 [(4, .ref q9), (0, .ref h), (1, .int x1), (2, .int x2), (3, .ref oa)] := hl
      refine lv_iconst (v := (1 : Int32)) hx hb dL_kind_15 (by decide) ?_
      have hg0 := Option.some.inj hf
      obtain ⟨hq1, hg1⟩ := Prod.mk.inj hg0
      subst hq1
      subst hg1
      refine vx_ret ?_
      refine W.widen (k := 1) (n := 6) (by decide) (by decide) ?_
      exact W.iret hx hb hr (fun t ht hW => ⟨⟨_, (), rfl, ⟨rfl, rfl⟩, by rw [ht]; exact hP, va_K.moved hW.alike hK, hD⟩, hS.F ht⟩) hS.2.2 dL_kind_16 hlk
    · replace hf := ifn hj hf
      by_cases hj : e1 = 5
      · replace hf := ift hj hf
        subst hj
        refine vx_catch (own := RL) (E := q_E 5) (name := "java/util/NoSuchElementException") hown ([⟨0, 10, 13, 13⟩] : List ExceptionTableEntry) ⟨0, 10, 17, 41⟩ ([] : List ExceptionTableEntry) (htab.trans rfl) (List.forall_mem_cons.mpr ⟨Or.inr ⟨by decide, "java/lang/IndexOutOfBoundsException", hts _ (List.mem_cons_of_mem _ mw_128), hC ("java/util/NoSuchElementException", "java/lang/IndexOutOfBoundsException") (by decide +kernel)⟩, fun _ h9 => absurd h9 List.not_mem_nil⟩) (by decide) (by decide) (hts _ (List.mem_cons_of_mem _ mw_360)) (va_Nw.use (w := Cond.castable "java/util/NoSuchElementException" "java/util/NoSuchElementException") rfl (hN.2 "java/util/NoSuchElementException" (by decide +kernel))) hc1 hc2 hc3 ?_
        refine lv_astore hx hb dL_kind_17 hl (by decide) rfl (fun ls hl => ?_)
        have hl : lv_has ls 5 [(4, .ref q9), (0, .ref h), (1, .int x1), (2, .int x2), (3, .ref oa)] := hl
        refine lv_iconst (v := (2 : Int32)) hx hb dL_kind_19 (by decide) ?_
        have hg0 := Option.some.inj hf
        obtain ⟨hq1, hg1⟩ := Prod.mk.inj hg0
        subst hq1
        subst hg1
        refine vx_ret ?_
        refine W.widen (k := 1) (n := 6) (by decide) (by decide) ?_
        exact W.iret hx hb hr (fun t ht hW => ⟨⟨_, (), rfl, ⟨rfl, rfl⟩, by rw [ht]; exact hP, va_K.moved hW.alike hK, hD⟩, hS.F ht⟩) hS.2.2 dL_kind_20 hlk
      · replace hf := ifn hj hf
        cases hf
set_option maxHeartbeats 4000000 in
set_option maxRecDepth 100000 in
theorem ctL_serial (l : Launch) (hlt : l.stackTraces = false) (dC : Nat → ClassId) (dI : Nat → Nat → Nat) (cI cZ cL : ClassId) (h a1 a2 a3 a4 a5 oa : Nat) (sz : Nat) (w : Nat → Int32) (r : Nat → Int32) (st : Nat → Int32) (rc : Nat → Int32) (na : Nat → Int32) (tp : Int32) (cn : Int32) (rh : Int32) (sr : Int32) (ou : Nat → Int64) (x1 : Int32) (rs : Int32) (ou' : Nat → Int64) (hf : fL_serial w r ou x1 = some (rs, ou')) : vx_Met l yL_serial wsL_serial rmL_serial (va_Pc [.ref h, .int x1, .ref oa] (q_preW (dC, dI) vwCl (tyA cI cZ cL) RX0 q_tx sz (wY cI cL h a1 a2 a3 a4 a5 oa w r st rc na tp cn rh sr ou))) (va_Qi (fun r (_ : Unit) => (0 : Nat) = 0 ∧ r = rs) (fun _ => q_post (dC, dI) vwCl (tyA cI cZ cL) (va_A (wY cI cL h a1 a2 a3 a4 a5 oa w r st rc na tp cn rh sr ou) sz) (wY cI cL h a1 a2 a3 a4 a5 oa w r st rc na tp cn rh sr ou')) (va_A (wY cI cL h a1 a2 a3 a4 a5 oa w r st rc na tp cn rh sr ou) sz)) (vx_X (fun (_ : Unit) => ¬ (0 : Nat) = 0) (fun E _ t => E = q_E 0 ∧ q_post (dC, dI) vwCl (tyA cI cZ cL) (va_A (wY cI cL h a1 a2 a3 a4 a5 oa w r st rc na tp cn rh sr ou) sz) (wY cI cL h a1 a2 a3 a4 a5 oa w r st rc na tp cn rh sr ou') t) (va_A (wY cI cL h a1 a2 a3 a4 a5 oa w r st rc na tp cn rh sr ou) sz)) 1 6 (va_A (wY cI cL h a1 a2 a3 a4 a5 oa w r st rc na tp cn rh sr ou) sz) := by
  refine vx_ofWH (cc := cL_serial) (maxL := 4) (ret := (some .int)) (hh := [(0, 9, 12, 13)]) (by decide) rfl ?_
  intro p e s m args below meth c s₁ B hml hv
  obtain ⟨rfl, hsz, hP, hK, hD0, hZ0, hT, hN, hC⟩ := hv
  have hx := B.exec
  have hb := B.bytes
  have hr := B.returns
  have hts := atoms_spec (ws := wsL_serial) B.pre
  have hown : s.vm.findClass RL = some m.cls := findClass_of_methodNamed B.named
  have hlk := B.notSynchronized
  have htab := vx_table (x := yL_serial) B (hts _ List.mem_cons_self)
  subst hsz
  have hD := hD0.self (sz := s.heap.size)
  generalize hAe : va_A (wY cI cL h a1 a2 a3 a4 a5 oa w r st rc na tp cn rh sr ou) s.heap.size = A at hZ0 hD ⊢
  have hA : ∀ q : Nat, s.heap.size ≤ q → A q := fun q h => by rw [← hAe]; exact Or.inr h
  have hS : va_S A s.heap s.heap [] := va_S.rf
  have hl := lv_entry ([.ref h, .int x1, .ref oa]) (n := 4) (Nat.le_of_ble_eq_true rfl)
  rw [lg_entry_eq]
  generalize (lg_sl ([.ref h, .int x1, .ref oa]) ++ List.replicate (4 - (lg_sl ([.ref h, .int x1, .ref oa])).length) Slot.unset).toArray = ls at hl ⊢
  have hl : lv_has ls 4 [(0, .ref h), (1, .int x1), (2, .ref oa)] := hl
  unfold fL_serial at hf
  refine lv_aload_n hx hb dL_serial_0 rfl (lv_at hl 2 rfl) ?_
  refine lv_iconst (v := (0 : Int32)) hx hb dL_serial_1 (by decide) ?_
  refine lv_aload_n hx hb dL_serial_2 rfl (lv_at hl 0 rfl) ?_
  refine lv_iload_n hx hb dL_serial_3 rfl (lv_at hl 1 rfl) ?_
  obtain ⟨⟨e1, v2⟩, hv, hf⟩ := bd hf
  dsimp only at hf
  by_cases he : e1 = 0
  · replace hf := ift he hf
    subst he
    refine q_ni (wr := [(oa, .inl (cL, 1, .inr (.inl ou)))]) (vx_runV (As := [.int x1]) (rest := [.int (0 : Int32), .ref oa]) ⟨hx, hb, hml, hown, hts⟩ (ctX0_serial l hlt dC dI cI cZ cL h a1 a2 a3 a4 a5 _ w r st rc na tp cn rh sr x1 0 v2 hv) (cwV 1 hts (gV mw_419 mw_420 mw_421 mw_38 mw_422) rfl rfl rfl (by decide +kernel) ⟨Nat.le_of_ble_eq_true rfl, Nat.le_of_ble_eq_true rfl⟩) (q_preXV [.int x1] hK hP hD hS hA hZ0 hT hN [0, 1, 2, 3, 4, 5] (by decide) rfl (ci := 0) rfl rfl) rfl rfl hl.1 rfl (lv_room (Nat.le_of_ble_eq_true rfl)) dL_serial_4 ⟨(q_le0 _).1, (q_le0 _).2⟩) hP hD hS hA [0, 1, 2, 3, 4, 5] [6] rfl rfl (by decide) (by decide) (fun H locs hP hD hS => ?_)
    have hP := hP.sub (ws' := (wY cI cL h a1 a2 a3 a4 a5 oa w r st rc na tp cn rh sr ou)) [1, 2, 3, 4, 5, 6, 0] rfl
    have hD := hD.sub (ws' := (wY cI cL h a1 a2 a3 a4 a5 oa w r st rc na tp cn rh sr ou)) [1, 2, 3, 4, 5, 6, 0] (by decide) rfl
    have hP : va_P (dC, dI) vwCl (wY cI cL h a1 a2 a3 a4 a5 oa w r st rc na tp cn rh sr ou) _ := hP
    have hD : va_D A (wY cI cL h a1 a2 a3 a4 a5 oa w r st rc na tp cn rh sr ou) := hD
    refine lv_i2l hx hb dL_serial_7 rfl ?_
    obtain ⟨ou_3, hv, hf⟩ := bd hf
    refine q_lst hx hb hK hP hD hS 6 2 rfl rfl hv dL_serial_8 (fun H locs hP hD hS => ?_)
    have hP : va_P (dC, dI) vwCl (wY cI cL h a1 a2 a3 a4 a5 oa w r st rc na tp cn rh sr ou_3) _ := hP
    have hD : va_D A (wY cI cL h a1 a2 a3 a4 a5 oa w r st rc na tp cn rh sr ou_3) := hD
    refine lv_goto (tgt := 15) hx hb dL_serial_9 (by decide) ?_
    refine lv_iconst (v := (0 : Int32)) hx hb dL_serial_15 (by decide) ?_
    have hg0 := Option.some.inj hf
    obtain ⟨hq1, hg1⟩ := Prod.mk.inj hg0
    subst hq1
    subst hg1
    refine vx_ret ?_
    refine W.widen (k := 1) (n := 6) (by decide) (by decide) ?_
    exact W.iret hx hb hr (fun t ht hW => ⟨⟨_, (), rfl, ⟨rfl, rfl⟩, by rw [ht]; exact hP, va_K.moved hW.alike hK, hD⟩, hS.F ht⟩) hS.2.2 dL_serial_16 hlk
  · replace hf := ifn he hf
    refine q_ti (wr := [(oa, .inl (cL, 1, .inr (.inl ou)))]) he (vx_runV (As := [.int x1]) (rest := [.int (0 : Int32), .ref oa]) ⟨hx, hb, hml, hown, hts⟩ (ctX0_serial l hlt dC dI cI cZ cL h a1 a2 a3 a4 a5 _ w r st rc na tp cn rh sr x1 e1 v2 hv) (cwV 1 hts (gV mw_419 mw_420 mw_421 mw_38 mw_422) rfl rfl rfl (by decide +kernel) ⟨Nat.le_of_ble_eq_true rfl, Nat.le_of_ble_eq_true rfl⟩) (q_preXV [.int x1] hK hP hD hS hA hZ0 hT hN [0, 1, 2, 3, 4, 5] (by decide) rfl (ci := 0) rfl rfl) rfl rfl hl.1 rfl (lv_room (Nat.le_of_ble_eq_true rfl)) dL_serial_4 ⟨q_w1 wsL_serial rmL_serial e1 rfl, q_w6 wsL_serial rmL_serial e1 rfl⟩) hP hD hS hA [0, 1, 2, 3, 4, 5] [6] rfl rfl (by decide) (by decide) (fun ce q9 H locs hP hD hS hc1 hc2 hc3 => ?_)
    have hP := hP.sub (ws' := (wY cI cL h a1 a2 a3 a4 a5 oa w r st rc na tp cn rh sr ou)) [1, 2, 3, 4, 5, 6, 0] rfl
    have hD := hD.sub (ws' := (wY cI cL h a1 a2 a3 a4 a5 oa w r st rc na tp cn rh sr ou)) [1, 2, 3, 4, 5, 6, 0] (by decide) rfl
    have hP : va_P (dC, dI) vwCl (wY cI cL h a1 a2 a3 a4 a5 oa w r st rc na tp cn rh sr ou) _ := hP
    have hD : va_D A (wY cI cL h a1 a2 a3 a4 a5 oa w r st rc na tp cn rh sr ou) := hD
    by_cases hj : e1 = 1
    · replace hf := ift hj hf
      subst hj
      refine vx_catch (own := RL) (E := q_E 1) (name := "java/lang/IndexOutOfBoundsException") hown ([] : List ExceptionTableEntry) ⟨0, 9, 12, 13⟩ ([] : List ExceptionTableEntry) (htab.trans rfl) (fun _ h9 => absurd h9 List.not_mem_nil) (by decide) (by decide) (hts _ (List.mem_cons_of_mem _ mw_128)) (va_Nw.use (w := Cond.castable "java/lang/IndexOutOfBoundsException" "java/lang/IndexOutOfBoundsException") rfl (hN.2 "java/lang/IndexOutOfBoundsException" (by decide +kernel))) hc1 hc2 hc3 ?_
      refine lv_astore_n hx hb dL_serial_12 rfl hl (by decide) rfl (fun ls hl => ?_)
      have hl : lv_has ls 4 [(3, .ref q9), (0, .ref h), (1, .int x1), (2, .ref oa)] := hl
      refine lv_iconst (v := (1 : Int32)) hx hb dL_serial_13 (by decide) ?_
      have hg0 := Option.some.inj hf
      obtain ⟨hq1, hg1⟩ := Prod.mk.inj hg0
      subst hq1
      subst hg1
      refine vx_ret ?_
      refine W.widen (k := 1) (n := 6) (by decide) (by decide) ?_
      exact W.iret hx hb hr (fun t ht hW => ⟨⟨_, (), rfl, ⟨rfl, rfl⟩, by rw [ht]; exact hP, va_K.moved hW.alike hK, hD⟩, hS.F ht⟩) hS.2.2 dL_serial_14 hlk
    · replace hf := ifn hj hf
      cases hf
set_option maxHeartbeats 4000000 in
set_option maxRecDepth 100000 in
theorem ctL_address (l : Launch) (hlt : l.stackTraces = false) (dC : Nat → ClassId) (dI : Nat → Nat → Nat) (cI cZ cL : ClassId) (h a1 a2 a3 a4 a5 oa : Nat) (sz : Nat) (w : Nat → Int32) (r : Nat → Int32) (st : Nat → Int32) (rc : Nat → Int32) (na : Nat → Int32) (tp : Int32) (cn : Int32) (rh : Int32) (sr : Int32) (ou : Nat → Int64) (x1 : Int32) (rs : Int32) (ou' : Nat → Int64) (hf : fL_address r ou x1 = some (rs, ou')) : vx_Met l yL_address wsL_address rmL_address (va_Pc [.ref h, .int x1, .ref oa] (q_preW (dC, dI) vwCl (tyA cI cZ cL) RX0 q_tx sz (wY cI cL h a1 a2 a3 a4 a5 oa w r st rc na tp cn rh sr ou))) (va_Qi (fun r (_ : Unit) => (0 : Nat) = 0 ∧ r = rs) (fun _ => q_post (dC, dI) vwCl (tyA cI cZ cL) (va_A (wY cI cL h a1 a2 a3 a4 a5 oa w r st rc na tp cn rh sr ou) sz) (wY cI cL h a1 a2 a3 a4 a5 oa w r st rc na tp cn rh sr ou')) (va_A (wY cI cL h a1 a2 a3 a4 a5 oa w r st rc na tp cn rh sr ou) sz)) (vx_X (fun (_ : Unit) => ¬ (0 : Nat) = 0) (fun E _ t => E = q_E 0 ∧ q_post (dC, dI) vwCl (tyA cI cZ cL) (va_A (wY cI cL h a1 a2 a3 a4 a5 oa w r st rc na tp cn rh sr ou) sz) (wY cI cL h a1 a2 a3 a4 a5 oa w r st rc na tp cn rh sr ou') t) (va_A (wY cI cL h a1 a2 a3 a4 a5 oa w r st rc na tp cn rh sr ou) sz)) 1 6 (va_A (wY cI cL h a1 a2 a3 a4 a5 oa w r st rc na tp cn rh sr ou) sz) := by
  refine vx_ofWH (cc := cL_address) (maxL := 4) (ret := (some .int)) (hh := [(0, 9, 12, 13)]) (by decide) rfl ?_
  intro p e s m args below meth c s₁ B hml hv
  obtain ⟨rfl, hsz, hP, hK, hD0, hZ0, hT, hN, hC⟩ := hv
  have hx := B.exec
  have hb := B.bytes
  have hr := B.returns
  have hts := atoms_spec (ws := wsL_address) B.pre
  have hown : s.vm.findClass RL = some m.cls := findClass_of_methodNamed B.named
  have hlk := B.notSynchronized
  have htab := vx_table (x := yL_address) B (hts _ List.mem_cons_self)
  subst hsz
  have hD := hD0.self (sz := s.heap.size)
  generalize hAe : va_A (wY cI cL h a1 a2 a3 a4 a5 oa w r st rc na tp cn rh sr ou) s.heap.size = A at hZ0 hD ⊢
  have hA : ∀ q : Nat, s.heap.size ≤ q → A q := fun q h => by rw [← hAe]; exact Or.inr h
  have hS : va_S A s.heap s.heap [] := va_S.rf
  have hl := lv_entry ([.ref h, .int x1, .ref oa]) (n := 4) (Nat.le_of_ble_eq_true rfl)
  rw [lg_entry_eq]
  generalize (lg_sl ([.ref h, .int x1, .ref oa]) ++ List.replicate (4 - (lg_sl ([.ref h, .int x1, .ref oa])).length) Slot.unset).toArray = ls at hl ⊢
  have hl : lv_has ls 4 [(0, .ref h), (1, .int x1), (2, .ref oa)] := hl
  unfold fL_address at hf
  refine lv_aload_n hx hb dL_address_0 rfl (lv_at hl 2 rfl) ?_
  refine lv_iconst (v := (0 : Int32)) hx hb dL_address_1 (by decide) ?_
  refine lv_aload_n hx hb dL_address_2 rfl (lv_at hl 0 rfl) ?_
  refine lv_iload_n hx hb dL_address_3 rfl (lv_at hl 1 rfl) ?_
  obtain ⟨⟨e1, v2⟩, hv, hf⟩ := bd hf
  dsimp only at hf
  by_cases he : e1 = 0
  · replace hf := ift he hf
    subst he
    refine q_ni (wr := [(oa, .inl (cL, 1, .inr (.inl ou)))]) (vx_runV (As := [.int x1]) (rest := [.int (0 : Int32), .ref oa]) ⟨hx, hb, hml, hown, hts⟩ (ctX0_address l hlt dC dI cI cZ cL h a1 a2 a3 a4 a5 _ w r st rc na tp cn rh sr x1 0 v2 hv) (cwV 1 hts (gV mw_426 mw_427 mw_428 mw_38 mw_429) rfl rfl rfl (by decide +kernel) ⟨Nat.le_of_ble_eq_true rfl, Nat.le_of_ble_eq_true rfl⟩) (q_preXV [.int x1] hK hP hD hS hA hZ0 hT hN [0, 1, 2, 3, 4, 5] (by decide) rfl (ci := 0) rfl rfl) rfl rfl hl.1 rfl (lv_room (Nat.le_of_ble_eq_true rfl)) dL_address_4 ⟨(q_le0 _).1, (q_le0 _).2⟩) hP hD hS hA [0, 1, 2, 3, 4, 5] [6] rfl rfl (by decide) (by decide) (fun H locs hP hD hS => ?_)
    have hP := hP.sub (ws' := (wY cI cL h a1 a2 a3 a4 a5 oa w r st rc na tp cn rh sr ou)) [1, 2, 3, 4, 5, 6, 0] rfl
    have hD := hD.sub (ws' := (wY cI cL h a1 a2 a3 a4 a5 oa w r st rc na tp cn rh sr ou)) [1, 2, 3, 4, 5, 6, 0] (by decide) rfl
    have hP : va_P (dC, dI) vwCl (wY cI cL h a1 a2 a3 a4 a5 oa w r st rc na tp cn rh sr ou) _ := hP
    have hD : va_D A (wY cI cL h a1 a2 a3 a4 a5 oa w r st rc na tp cn rh sr ou) := hD
    refine lv_i2l hx hb dL_address_7 rfl ?_
    obtain ⟨ou_3, hv, hf⟩ := bd hf
    refine q_lst hx hb hK hP hD hS 6 2 rfl rfl hv dL_address_8 (fun H locs hP hD hS => ?_)
    have hP : va_P (dC, dI) vwCl (wY cI cL h a1 a2 a3 a4 a5 oa w r st rc na tp cn rh sr ou_3) _ := hP
    have hD : va_D A (wY cI cL h a1 a2 a3 a4 a5 oa w r st rc na tp cn rh sr ou_3) := hD
    refine lv_goto (tgt := 15) hx hb dL_address_9 (by decide) ?_
    refine lv_iconst (v := (0 : Int32)) hx hb dL_address_15 (by decide) ?_
    have hg0 := Option.some.inj hf
    obtain ⟨hq1, hg1⟩ := Prod.mk.inj hg0
    subst hq1
    subst hg1
    refine vx_ret ?_
    refine W.widen (k := 1) (n := 6) (by decide) (by decide) ?_
    exact W.iret hx hb hr (fun t ht hW => ⟨⟨_, (), rfl, ⟨rfl, rfl⟩, by rw [ht]; exact hP, va_K.moved hW.alike hK, hD⟩, hS.F ht⟩) hS.2.2 dL_address_16 hlk
  · replace hf := ifn he hf
    refine q_ti (wr := [(oa, .inl (cL, 1, .inr (.inl ou)))]) he (vx_runV (As := [.int x1]) (rest := [.int (0 : Int32), .ref oa]) ⟨hx, hb, hml, hown, hts⟩ (ctX0_address l hlt dC dI cI cZ cL h a1 a2 a3 a4 a5 _ w r st rc na tp cn rh sr x1 e1 v2 hv) (cwV 1 hts (gV mw_426 mw_427 mw_428 mw_38 mw_429) rfl rfl rfl (by decide +kernel) ⟨Nat.le_of_ble_eq_true rfl, Nat.le_of_ble_eq_true rfl⟩) (q_preXV [.int x1] hK hP hD hS hA hZ0 hT hN [0, 1, 2, 3, 4, 5] (by decide) rfl (ci := 0) rfl rfl) rfl rfl hl.1 rfl (lv_room (Nat.le_of_ble_eq_true rfl)) dL_address_4 ⟨q_w1 wsL_address rmL_address e1 rfl, q_w6 wsL_address rmL_address e1 rfl⟩) hP hD hS hA [0, 1, 2, 3, 4, 5] [6] rfl rfl (by decide) (by decide) (fun ce q9 H locs hP hD hS hc1 hc2 hc3 => ?_)
    have hP := hP.sub (ws' := (wY cI cL h a1 a2 a3 a4 a5 oa w r st rc na tp cn rh sr ou)) [1, 2, 3, 4, 5, 6, 0] rfl
    have hD := hD.sub (ws' := (wY cI cL h a1 a2 a3 a4 a5 oa w r st rc na tp cn rh sr ou)) [1, 2, 3, 4, 5, 6, 0] (by decide) rfl
    have hP : va_P (dC, dI) vwCl (wY cI cL h a1 a2 a3 a4 a5 oa w r st rc na tp cn rh sr ou) _ := hP
    have hD : va_D A (wY cI cL h a1 a2 a3 a4 a5 oa w r st rc na tp cn rh sr ou) := hD
    by_cases hj : e1 = 1
    · replace hf := ift hj hf
      subst hj
      refine vx_catch (own := RL) (E := q_E 1) (name := "java/lang/IndexOutOfBoundsException") hown ([] : List ExceptionTableEntry) ⟨0, 9, 12, 13⟩ ([] : List ExceptionTableEntry) (htab.trans rfl) (fun _ h9 => absurd h9 List.not_mem_nil) (by decide) (by decide) (hts _ (List.mem_cons_of_mem _ mw_128)) (va_Nw.use (w := Cond.castable "java/lang/IndexOutOfBoundsException" "java/lang/IndexOutOfBoundsException") rfl (hN.2 "java/lang/IndexOutOfBoundsException" (by decide +kernel))) hc1 hc2 hc3 ?_
      refine lv_astore_n hx hb dL_address_12 rfl hl (by decide) rfl (fun ls hl => ?_)
      have hl : lv_has ls 4 [(3, .ref q9), (0, .ref h), (1, .int x1), (2, .ref oa)] := hl
      refine lv_iconst (v := (1 : Int32)) hx hb dL_address_13 (by decide) ?_
      have hg0 := Option.some.inj hf
      obtain ⟨hq1, hg1⟩ := Prod.mk.inj hg0
      subst hq1
      subst hg1
      refine vx_ret ?_
      refine W.widen (k := 1) (n := 6) (by decide) (by decide) ?_
      exact W.iret hx hb hr (fun t ht hW => ⟨⟨_, (), rfl, ⟨rfl, rfl⟩, by rw [ht]; exact hP, va_K.moved hW.alike hK, hD⟩, hS.F ht⟩) hS.2.2 dL_address_14 hlk
    · replace hf := ifn hj hf
      cases hf
set_option maxHeartbeats 4000000 in
set_option maxRecDepth 100000 in
theorem ctL_word (l : Launch) (hlt : l.stackTraces = false) (dC : Nat → ClassId) (dI : Nat → Nat → Nat) (cI cZ cL : ClassId) (h a1 a2 a3 a4 a5 oa : Nat) (sz : Nat) (w : Nat → Int32) (r : Nat → Int32) (st : Nat → Int32) (rc : Nat → Int32) (na : Nat → Int32) (tp : Int32) (cn : Int32) (rh : Int32) (sr : Int32) (ou : Nat → Int64) (x1 : Int32) (rs : Int32) (ou' : Nat → Int64) (hf : fL_word w ou x1 = some (rs, ou')) : vx_Met l yL_word wsL_word rmL_word (va_Pc [.ref h, .int x1, .ref oa] (q_preW (dC, dI) vwCl (tyA cI cZ cL) RX0 q_tx sz (wY cI cL h a1 a2 a3 a4 a5 oa w r st rc na tp cn rh sr ou))) (va_Qi (fun r (_ : Unit) => (0 : Nat) = 0 ∧ r = rs) (fun _ => q_post (dC, dI) vwCl (tyA cI cZ cL) (va_A (wY cI cL h a1 a2 a3 a4 a5 oa w r st rc na tp cn rh sr ou) sz) (wY cI cL h a1 a2 a3 a4 a5 oa w r st rc na tp cn rh sr ou')) (va_A (wY cI cL h a1 a2 a3 a4 a5 oa w r st rc na tp cn rh sr ou) sz)) (vx_X (fun (_ : Unit) => ¬ (0 : Nat) = 0) (fun E _ t => E = q_E 0 ∧ q_post (dC, dI) vwCl (tyA cI cZ cL) (va_A (wY cI cL h a1 a2 a3 a4 a5 oa w r st rc na tp cn rh sr ou) sz) (wY cI cL h a1 a2 a3 a4 a5 oa w r st rc na tp cn rh sr ou') t) (va_A (wY cI cL h a1 a2 a3 a4 a5 oa w r st rc na tp cn rh sr ou) sz)) 1 6 (va_A (wY cI cL h a1 a2 a3 a4 a5 oa w r st rc na tp cn rh sr ou) sz) := by
  refine vx_ofWH (cc := cL_word) (maxL := 4) (ret := (some .int)) (hh := [(0, 9, 12, 13)]) (by decide) rfl ?_
  intro p e s m args below meth c s₁ B hml hv
  obtain ⟨rfl, hsz, hP, hK, hD0, hZ0, hT, hN, hC⟩ := hv
  have hx := B.exec
  have hb := B.bytes
  have hr := B.returns
  have hts := atoms_spec (ws := wsL_word) B.pre
  have hown : s.vm.findClass RL = some m.cls := findClass_of_methodNamed B.named
  have hlk := B.notSynchronized
  have htab := vx_table (x := yL_word) B (hts _ List.mem_cons_self)
  subst hsz
  have hD := hD0.self (sz := s.heap.size)
  generalize hAe : va_A (wY cI cL h a1 a2 a3 a4 a5 oa w r st rc na tp cn rh sr ou) s.heap.size = A at hZ0 hD ⊢
  have hA : ∀ q : Nat, s.heap.size ≤ q → A q := fun q h => by rw [← hAe]; exact Or.inr h
  have hS : va_S A s.heap s.heap [] := va_S.rf
  have hl := lv_entry ([.ref h, .int x1, .ref oa]) (n := 4) (Nat.le_of_ble_eq_true rfl)
  rw [lg_entry_eq]
  generalize (lg_sl ([.ref h, .int x1, .ref oa]) ++ List.replicate (4 - (lg_sl ([.ref h, .int x1, .ref oa])).length) Slot.unset).toArray = ls at hl ⊢
  have hl : lv_has ls 4 [(0, .ref h), (1, .int x1), (2, .ref oa)] := hl
  unfold fL_word at hf
  refine lv_aload_n hx hb dL_word_0 rfl (lv_at hl 2 rfl) ?_
  refine lv_iconst (v := (0 : Int32)) hx hb dL_word_1 (by decide) ?_
  refine lv_aload_n hx hb dL_word_2 rfl (lv_at hl 0 rfl) ?_
  refine lv_iload_n hx hb dL_word_3 rfl (lv_at hl 1 rfl) ?_
  obtain ⟨⟨e1, v2⟩, hv, hf⟩ := bd hf
  dsimp only at hf
  by_cases he : e1 = 0
  · replace hf := ift he hf
    subst he
    refine q_ni (wr := [(oa, .inl (cL, 1, .inr (.inl ou)))]) (vx_runV (As := [.int x1]) (rest := [.int (0 : Int32), .ref oa]) ⟨hx, hb, hml, hown, hts⟩ (ctX0_word l hlt dC dI cI cZ cL h a1 a2 a3 a4 a5 _ w r st rc na tp cn rh sr x1 0 v2 hv) (cwV 1 hts (gV mw_433 mw_434 mw_435 mw_38 mw_436) rfl rfl rfl (by decide +kernel) ⟨Nat.le_of_ble_eq_true rfl, Nat.le_of_ble_eq_true rfl⟩) (q_preXV [.int x1] hK hP hD hS hA hZ0 hT hN [0, 1, 2, 3, 4, 5] (by decide) rfl (ci := 0) rfl rfl) rfl rfl hl.1 rfl (lv_room (Nat.le_of_ble_eq_true rfl)) dL_word_4 ⟨(q_le0 _).1, (q_le0 _).2⟩) hP hD hS hA [0, 1, 2, 3, 4, 5] [6] rfl rfl (by decide) (by decide) (fun H locs hP hD hS => ?_)
    have hP := hP.sub (ws' := (wY cI cL h a1 a2 a3 a4 a5 oa w r st rc na tp cn rh sr ou)) [1, 2, 3, 4, 5, 6, 0] rfl
    have hD := hD.sub (ws' := (wY cI cL h a1 a2 a3 a4 a5 oa w r st rc na tp cn rh sr ou)) [1, 2, 3, 4, 5, 6, 0] (by decide) rfl
    have hP : va_P (dC, dI) vwCl (wY cI cL h a1 a2 a3 a4 a5 oa w r st rc na tp cn rh sr ou) _ := hP
    have hD : va_D A (wY cI cL h a1 a2 a3 a4 a5 oa w r st rc na tp cn rh sr ou) := hD
    refine lv_i2l hx hb dL_word_7 rfl ?_
    obtain ⟨ou_3, hv, hf⟩ := bd hf
    refine q_lst hx hb hK hP hD hS 6 2 rfl rfl hv dL_word_8 (fun H locs hP hD hS => ?_)
    have hP : va_P (dC, dI) vwCl (wY cI cL h a1 a2 a3 a4 a5 oa w r st rc na tp cn rh sr ou_3) _ := hP
    have hD : va_D A (wY cI cL h a1 a2 a3 a4 a5 oa w r st rc na tp cn rh sr ou_3) := hD
    refine lv_goto (tgt := 15) hx hb dL_word_9 (by decide) ?_
    refine lv_iconst (v := (0 : Int32)) hx hb dL_word_15 (by decide) ?_
    have hg0 := Option.some.inj hf
    obtain ⟨hq1, hg1⟩ := Prod.mk.inj hg0
    subst hq1
    subst hg1
    refine vx_ret ?_
    refine W.widen (k := 1) (n := 6) (by decide) (by decide) ?_
    exact W.iret hx hb hr (fun t ht hW => ⟨⟨_, (), rfl, ⟨rfl, rfl⟩, by rw [ht]; exact hP, va_K.moved hW.alike hK, hD⟩, hS.F ht⟩) hS.2.2 dL_word_16 hlk
  · replace hf := ifn he hf
    refine q_ti (wr := [(oa, .inl (cL, 1, .inr (.inl ou)))]) he (vx_runV (As := [.int x1]) (rest := [.int (0 : Int32), .ref oa]) ⟨hx, hb, hml, hown, hts⟩ (ctX0_word l hlt dC dI cI cZ cL h a1 a2 a3 a4 a5 _ w r st rc na tp cn rh sr x1 e1 v2 hv) (cwV 1 hts (gV mw_433 mw_434 mw_435 mw_38 mw_436) rfl rfl rfl (by decide +kernel) ⟨Nat.le_of_ble_eq_true rfl, Nat.le_of_ble_eq_true rfl⟩) (q_preXV [.int x1] hK hP hD hS hA hZ0 hT hN [0, 1, 2, 3, 4, 5] (by decide) rfl (ci := 0) rfl rfl) rfl rfl hl.1 rfl (lv_room (Nat.le_of_ble_eq_true rfl)) dL_word_4 ⟨q_w1 wsL_word rmL_word e1 rfl, q_w6 wsL_word rmL_word e1 rfl⟩) hP hD hS hA [0, 1, 2, 3, 4, 5] [6] rfl rfl (by decide) (by decide) (fun ce q9 H locs hP hD hS hc1 hc2 hc3 => ?_)
    have hP := hP.sub (ws' := (wY cI cL h a1 a2 a3 a4 a5 oa w r st rc na tp cn rh sr ou)) [1, 2, 3, 4, 5, 6, 0] rfl
    have hD := hD.sub (ws' := (wY cI cL h a1 a2 a3 a4 a5 oa w r st rc na tp cn rh sr ou)) [1, 2, 3, 4, 5, 6, 0] (by decide) rfl
    have hP : va_P (dC, dI) vwCl (wY cI cL h a1 a2 a3 a4 a5 oa w r st rc na tp cn rh sr ou) _ := hP
    have hD : va_D A (wY cI cL h a1 a2 a3 a4 a5 oa w r st rc na tp cn rh sr ou) := hD
    by_cases hj : e1 = 1
    · replace hf := ift hj hf
      subst hj
      refine vx_catch (own := RL) (E := q_E 1) (name := "java/lang/IndexOutOfBoundsException") hown ([] : List ExceptionTableEntry) ⟨0, 9, 12, 13⟩ ([] : List ExceptionTableEntry) (htab.trans rfl) (fun _ h9 => absurd h9 List.not_mem_nil) (by decide) (by decide) (hts _ (List.mem_cons_of_mem _ mw_128)) (va_Nw.use (w := Cond.castable "java/lang/IndexOutOfBoundsException" "java/lang/IndexOutOfBoundsException") rfl (hN.2 "java/lang/IndexOutOfBoundsException" (by decide +kernel))) hc1 hc2 hc3 ?_
      refine lv_astore_n hx hb dL_word_12 rfl hl (by decide) rfl (fun ls hl => ?_)
      have hl : lv_has ls 4 [(3, .ref q9), (0, .ref h), (1, .int x1), (2, .ref oa)] := hl
      refine lv_iconst (v := (1 : Int32)) hx hb dL_word_13 (by decide) ?_
      have hg0 := Option.some.inj hf
      obtain ⟨hq1, hg1⟩ := Prod.mk.inj hg0
      subst hq1
      subst hg1
      refine vx_ret ?_
      refine W.widen (k := 1) (n := 6) (by decide) (by decide) ?_
      exact W.iret hx hb hr (fun t ht hW => ⟨⟨_, (), rfl, ⟨rfl, rfl⟩, by rw [ht]; exact hP, va_K.moved hW.alike hK, hD⟩, hS.F ht⟩) hS.2.2 dL_word_14 hlk
    · replace hf := ifn hj hf
      cases hf
