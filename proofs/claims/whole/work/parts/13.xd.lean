set_option maxHeartbeats 4000000 in
set_option maxRecDepth 100000 in
theorem wX0_moveTogether_L26 {p : Program} {l : Launch} {e : Env} {s : State} {m : MethodId} {args : Array Value} {below : List Frame} {meth : Method} {c : Code} {Q : State → Prop} {A : Nat → Prop} (dC : Nat → ClassId) (dI : Nat → Nat → Nat) (cI cZ cL : ClassId) (h a1 a2 a3 a4 a5 : Nat) (hx : p.tables.exec = Jvm.exec) (hb : c.code = cX0_moveTogether) (hml : c.maxLocals = 3) (hown : s.vm.findClass RX0 = some m.cls) (hts : ∀ w ∈ wsX0_moveTogether, w.before args s = true) (hK : va_K (dC, dI) vwCl (tyA cI cZ cL) s) (hA : ∀ q : Nat, s.heap.size ≤ q → A q) (x1_ : Int32) (r : Nat → Int32) (st : Nat → Int32) (rc : Nat → Int32) (na : Nat → Int32) (tp : Int32) (cn : Int32) (rh : Int32) (sr : Int32) (n : Nat) :
    ∀ (x2_ : Int32) (w : Nat → Int32) (x2_' : Int32) (w' : Nat → Int32), fX0_moveTogether_L26 rc na rh n x2_ w = some (x2_', w') → ∀ (H : Heap) (locs : List Loc) (ls : Array Slot), va_P (dC, dI) vwCl (wX cI h a1 a2 a3 a4 a5 w r st rc na tp cn rh sr) H → va_D A (wX cI h a1 a2 a3 a4 a5 w r st rc na tp cn rh sr) → va_S A s.heap H locs → lv_has ls 3 [(0, .ref h), (1, .int x1_), (2, .int x2_)] → (∀ (H : Heap) (locs : List Loc) (ls : Array Slot), va_P (dC, dI) vwCl (wX cI h a1 a2 a3 a4 a5 w' r st rc na tp cn rh sr) H → va_D A (wX cI h a1 a2 a3 a4 a5 w' r st rc na tp cn rh sr) → va_S A s.heap H locs → lv_has ls 3 [(0, .ref h), (1, .int x1_), (2, .int x2_')] → W p l e (headSpec wsX0_moveTogether rmX0_moveTogether).room s m args below meth c H locs 0 0 Q (F0 m 50 ls [])) → W p l e (headSpec wsX0_moveTogether rmX0_moveTogether).room s m args below meth c H locs 0 0 Q (F0 m 26 ls []) := by
  induction n with
  | zero => intro x2_ w x2_' w' hf; cases hf
  | succ n ih =>
    intro x2_ w x2_' w' hf H locs ls hP hD hS hl k0
    have hf := (fX0_moveTogether_L26_s rc na rh n x2_ w).symm.trans hf
    refine lv_iload_n hx hb dX0_moveTogether_26 rfl (lv_at hl 2 rfl) ?_
    refine lv_aload_n hx hb dX0_moveTogether_27 rfl (lv_at hl 0 rfl) ?_
    refine va_get (D := (dC, dI)) (ci := 0) (v := .int rh) (C := RX0) (T := TX0) (N := 9) hx hb hts (fun w hw => List.mem_cons_of_mem _ (inX0 w hw)) hown hK hP 0 rfl rfl 7 (by decide) (hts _ (List.mem_cons_of_mem _ mw_68)) (fun _ h9 => h9) rfl dX0_moveTogether_28 ?_
    refine lv_icmp_ge (tgt := 50) hx hb dX0_moveTogether_31 (by decide) (fun h7 => ?_) (fun h7 => ?_)
    · have hf := ift h7 hf
      cases hf
      exact k0 _ _ _ hP hD hS (lv_sub hl [0, 1, 2] rfl)
    · have hf := ifn h7 hf
      refine lv_aload_n hx hb dX0_moveTogether_34 rfl (lv_at hl 0 rfl) ?_
      refine lv_aload_n hx hb dX0_moveTogether_35 rfl (lv_at hl 0 rfl) ?_
      refine va_get (D := (dC, dI)) (ci := 0) (v := .ref a4) (C := RX0) (T := TX0) (N := 9) hx hb hts (fun w hw => List.mem_cons_of_mem _ (inX0 w hw)) hown hK hP 0 rfl rfl 3 (by decide) (hts _ (List.mem_cons_of_mem _ mw_64)) (fun _ h9 => h9) rfl dX0_moveTogether_36 ?_
      refine lv_iload_n hx hb dX0_moveTogether_39 rfl (lv_at hl 2 rfl) ?_
      obtain ⟨v8, hv, hf⟩ := bd hf
      refine q_ild hx hb hK hP 4 0 rfl rfl hv dX0_moveTogether_40 ?_
      obtain ⟨w_9, hv, hf⟩ := bd hf
      refine q_cv (wr := []) (va_runV (As := [.int v8]) (rest := []) ⟨hx, hb, hml, hown, hts⟩ (ctX0_redirectFields l dC dI cI cZ cL h a1 a2 a3 a4 a5 _ w r st rc na tp cn rh sr v8 w_9 hv) (cwV 1 hts (gV mw_315 mw_317 mw_17 mw_38 mw_318) rfl rfl rfl (by decide +kernel) ⟨Nat.le_of_ble_eq_true rfl, Nat.le_of_ble_eq_true rfl⟩) (q_preV [.int v8] hK hP hD [0, 1, 2, 3, 4, 5] (by decide) rfl (ci := 0) rfl rfl) rfl rfl hl.1 rfl (lv_room (Nat.le_of_ble_eq_true rfl)) dX0_moveTogether_41 ⟨Nat.le_of_ble_eq_true rfl, Nat.le_of_ble_eq_true rfl⟩) hP hD hS hA [0, 1, 2, 3, 4, 5] [] rfl rfl (by decide) (by decide) (fun H locs hP hD hS => ?_)
      have hP : va_P (dC, dI) vwCl (wX cI h a1 a2 a3 a4 a5 w_9 r st rc na tp cn rh sr) _ := hP
      have hD : va_D A (wX cI h a1 a2 a3 a4 a5 w_9 r st rc na tp cn rh sr) := hD
      refine lv_iinc (v := x2_ + (1 : Int32)) hx hb dX0_moveTogether_44 hl (k := 2) rfl (by rfl) (by decide) rfl (fun ls hl => ?_)
      have hl : lv_has ls 3 [(2, .int (x2_ + (1 : Int32))), (0, .ref h), (1, .int x1_)] := hl
      refine lv_goto (tgt := 26) hx hb dX0_moveTogether_47 (by decide) ?_
      exact ih _ _ _ _ hf _ _ _ hP hD hS (lv_sub hl [1, 2, 0] rfl) k0
set_option maxHeartbeats 4000000 in
set_option maxRecDepth 100000 in
theorem ctX0_moveTogether (l : Launch) (dC : Nat → ClassId) (dI : Nat → Nat → Nat) (cI cZ cL : ClassId) (h a1 a2 a3 a4 a5 : Nat) (sz : Nat) (w : Nat → Int32) (r : Nat → Int32) (st : Nat → Int32) (rc : Nat → Int32) (na : Nat → Int32) (tp : Int32) (cn : Int32) (rh : Int32) (sr : Int32) (x1 : Int32) (w' : Nat → Int32) (r' : Nat → Int32) (st' : Nat → Int32) (rc' : Nat → Int32) (na' : Nat → Int32) (tp' : Int32) (cn' : Int32) (rh' : Int32) (hf : fX0_moveTogether w r st rc na tp cn rh x1 = some (w', r', st', rc', na', tp', cn', rh')) : Met l yX0_moveTogether wsX0_moveTogether rmX0_moveTogether (va_Pc [.ref h, .int x1] (q_pre (dC, dI) vwCl (tyA cI cZ cL) sz (wX cI h a1 a2 a3 a4 a5 w r st rc na tp cn rh sr))) (va_Qv (fun (_ : Unit) => True) (fun _ => q_post (dC, dI) vwCl (tyA cI cZ cL) (va_A (wX cI h a1 a2 a3 a4 a5 w r st rc na tp cn rh sr) sz) (wX cI h a1 a2 a3 a4 a5 w' r' st' rc' na' tp' cn' rh' sr)) (va_A (wX cI h a1 a2 a3 a4 a5 w r st rc na tp cn rh sr) sz)) 0 0 (va_A (wX cI h a1 a2 a3 a4 a5 w r st rc na tp cn rh sr) sz) := by
  refine Met.ofW (cc := cX0_moveTogether) (maxL := 3) (ret := (none)) (by decide) rfl ?_
  intro p e s m args below meth c s₁ B hml hv
  obtain ⟨rfl, hsz, hP, hK, hD0⟩ := hv
  have hx := B.exec
  have hb := B.bytes
  have hr := B.returns
  have hts := atoms_spec (ws := wsX0_moveTogether) B.pre
  have hown : s.vm.findClass RX0 = some m.cls := findClass_of_methodNamed B.named
  subst hsz
  have hD := hD0.self (sz := s.heap.size)
  generalize hAe : va_A (wX cI h a1 a2 a3 a4 a5 w r st rc na tp cn rh sr) s.heap.size = A at hD ⊢
  have hA : ∀ q : Nat, s.heap.size ≤ q → A q := fun q h => by rw [← hAe]; exact Or.inr h
  have hS : va_S A s.heap s.heap [] := va_S.rf
  have hl := lv_entry ([.ref h, .int x1]) (n := 3) (Nat.le_of_ble_eq_true rfl)
  rw [lg_entry_eq]
  generalize (lg_sl ([.ref h, .int x1]) ++ List.replicate (3 - (lg_sl ([.ref h, .int x1])).length) Slot.unset).toArray = ls at hl ⊢
  have hl : lv_has ls 3 [(0, .ref h), (1, .int x1)] := hl
  unfold fX0_moveTogether at hf
  refine lv_aload_n hx hb dX0_moveTogether_0 rfl (lv_at hl 0 rfl) ?_
  obtain ⟨⟨rc_1, na_2, rh_3⟩, hv, hf⟩ := bd hf
  dsimp only at hf
  refine q_cv (wr := []) (va_runV (As := []) (rest := []) ⟨hx, hb, hml, hown, hts⟩ (ctX0_findAlive l dC dI cI cZ cL h a1 a2 a3 a4 a5 _ w r st rc na tp cn rh sr rc_1 na_2 rh_3 hv) (cwV 0 hts (gV mw_102 mw_104 mw_0 mw_38 mw_105) rfl rfl rfl (by decide +kernel) ⟨Nat.le_of_ble_eq_true rfl, Nat.le_of_ble_eq_true rfl⟩) (q_preV [] hK hP hD [0, 1, 2, 3, 4, 5] (by decide) rfl (ci := 0) rfl rfl) rfl rfl hl.1 rfl (lv_room (Nat.le_of_ble_eq_true rfl)) dX0_moveTogether_1 ⟨Nat.le_of_ble_eq_true rfl, Nat.le_of_ble_eq_true rfl⟩) hP hD hS hA [0, 1, 2, 3, 4, 5] [] rfl rfl (by decide) (by decide) (fun H locs hP hD hS => ?_)
  have hP : va_P (dC, dI) vwCl (wX cI h a1 a2 a3 a4 a5 w r st rc_1 na_2 tp cn rh_3 sr) _ := hP
  have hD : va_D A (wX cI h a1 a2 a3 a4 a5 w r st rc_1 na_2 tp cn rh_3 sr) := hD
  refine lv_iload_n hx hb dX0_moveTogether_4 rfl (lv_at hl 1 rfl) ?_
  refine lv_iconst (v := (1 : Int32)) hx hb dX0_moveTogether_5 (by decide) ?_
  refine lv_icmp_ne (tgt := 16) hx hb dX0_moveTogether_6 (by decide) (fun h4 => ?_) (fun h4 => ?_)
  · have hf := ifn h4 hf
    refine lv_aload_n hx hb dX0_moveTogether_16 rfl (lv_at hl 0 rfl) ?_
    obtain ⟨na_5, hv, hf⟩ := bd hf
    refine q_cv (wr := []) (va_runV (As := []) (rest := []) ⟨hx, hb, hml, hown, hts⟩ (ctX0_planSlide l dC dI cI cZ cL h a1 a2 a3 a4 a5 _ w r st rc_1 na_2 tp cn rh_3 sr na_5 hv) (cwV 0 hts (gV mw_299 mw_301 mw_13 mw_38 mw_302) rfl rfl rfl (by decide +kernel) ⟨Nat.le_of_ble_eq_true rfl, Nat.le_of_ble_eq_true rfl⟩) (q_preV [] hK hP hD [0, 1, 2, 3, 4, 5] (by decide) rfl (ci := 0) rfl rfl) rfl rfl hl.1 rfl (lv_room (Nat.le_of_ble_eq_true rfl)) dX0_moveTogether_17 ⟨Nat.le_of_ble_eq_true rfl, Nat.le_of_ble_eq_true rfl⟩) hP hD hS hA [0, 1, 2, 3, 4, 5] [] rfl rfl (by decide) (by decide) (fun H locs hP hD hS => ?_)
    have hP : va_P (dC, dI) vwCl (wX cI h a1 a2 a3 a4 a5 w r st rc_1 na_5 tp cn rh_3 sr) _ := hP
    have hD : va_D A (wX cI h a1 a2 a3 a4 a5 w r st rc_1 na_5 tp cn rh_3 sr) := hD
    refine lv_aload_n hx hb dX0_moveTogether_20 rfl (lv_at hl 0 rfl) ?_
    obtain ⟨r_6, hv, hf⟩ := bd hf
    refine q_cv (wr := []) (va_runV (As := []) (rest := []) ⟨hx, hb, hml, hown, hts⟩ (ctX0_redirectRoots l dC dI cI cZ cL h a1 a2 a3 a4 a5 _ w r st rc_1 na_5 tp cn rh_3 sr r_6 hv) (cwV 0 hts (gV mw_307 mw_309 mw_15 mw_38 mw_310) rfl rfl rfl (by decide +kernel) ⟨Nat.le_of_ble_eq_true rfl, Nat.le_of_ble_eq_true rfl⟩) (q_preV [] hK hP hD [0, 1, 2, 3, 4, 5] (by decide) rfl (ci := 0) rfl rfl) rfl rfl hl.1 rfl (lv_room (Nat.le_of_ble_eq_true rfl)) dX0_moveTogether_21 ⟨Nat.le_of_ble_eq_true rfl, Nat.le_of_ble_eq_true rfl⟩) hP hD hS hA [0, 1, 2, 3, 4, 5] [] rfl rfl (by decide) (by decide) (fun H locs hP hD hS => ?_)
    have hP : va_P (dC, dI) vwCl (wX cI h a1 a2 a3 a4 a5 w r_6 st rc_1 na_5 tp cn rh_3 sr) _ := hP
    have hD : va_D A (wX cI h a1 a2 a3 a4 a5 w r_6 st rc_1 na_5 tp cn rh_3 sr) := hD
    refine lv_iconst (v := (0 : Int32)) hx hb dX0_moveTogether_24 (by decide) ?_
    refine lv_istore_n hx hb dX0_moveTogether_25 rfl hl (by decide) rfl (fun ls hl => ?_)
    have hl : lv_has ls 3 [(2, .int (0 : Int32)), (0, .ref h), (1, .int x1)] := hl
    obtain ⟨⟨x_10, w_11⟩, hv, hf⟩ := bd hf
    dsimp only at hf
    refine wX0_moveTogether_L26 dC dI cI cZ cL h a1 a2 a3 a4 a5 hx hb hml hown hts hK hA x1 r_6 st rc_1 na_5 tp cn rh_3 sr FU (0 : Int32) w x_10 w_11 hv _ _ _ hP hD hS (lv_sub hl [1, 2, 0] rfl) (fun H locs ls hP hD hS hl => ?_)
    refine lv_aload_n hx hb dX0_moveTogether_50 rfl (lv_at hl 0 rfl) ?_
    obtain ⟨w_12, hv, hf⟩ := bd hf
    refine q_cv (wr := []) (va_runV (As := []) (rest := []) ⟨hx, hb, hml, hown, hts⟩ (ctX0_moveObjects l dC dI cI cZ cL h a1 a2 a3 a4 a5 _ w_11 r_6 st rc_1 na_5 tp cn rh_3 sr w_12 hv) (cwV 0 hts (gV mw_319 mw_321 mw_18 mw_38 mw_322) rfl rfl rfl (by decide +kernel) ⟨Nat.le_of_ble_eq_true rfl, Nat.le_of_ble_eq_true rfl⟩) (q_preV [] hK hP hD [0, 1, 2, 3, 4, 5] (by decide) rfl (ci := 0) rfl rfl) rfl rfl hl.1 rfl (lv_room (Nat.le_of_ble_eq_true rfl)) dX0_moveTogether_51 ⟨Nat.le_of_ble_eq_true rfl, Nat.le_of_ble_eq_true rfl⟩) hP hD hS hA [0, 1, 2, 3, 4, 5] [] rfl rfl (by decide) (by decide) (fun H locs hP hD hS => ?_)
    have hP : va_P (dC, dI) vwCl (wX cI h a1 a2 a3 a4 a5 w_12 r_6 st rc_1 na_5 tp cn rh_3 sr) _ := hP
    have hD : va_D A (wX cI h a1 a2 a3 a4 a5 w_12 r_6 st rc_1 na_5 tp cn rh_3 sr) := hD
    refine lv_aload_n hx hb dX0_moveTogether_54 rfl (lv_at hl 0 rfl) ?_
    obtain ⟨⟨w_13, st_14, tp_15, cn_16⟩, hv, hf⟩ := bd hf
    dsimp only at hf
    refine q_cv (wr := []) (va_runV (As := []) (rest := []) ⟨hx, hb, hml, hown, hts⟩ (ctX0_listObjects l dC dI cI cZ cL h a1 a2 a3 a4 a5 _ w_12 r_6 st rc_1 na_5 tp cn rh_3 sr w_13 st_14 tp_15 cn_16 hv) (cwV 0 hts (gV mw_326 mw_328 mw_19 mw_38 mw_329) rfl rfl rfl (by decide +kernel) ⟨Nat.le_of_ble_eq_true rfl, Nat.le_of_ble_eq_true rfl⟩) (q_preV [] hK hP hD [0, 1, 2, 3, 4, 5] (by decide) rfl (ci := 0) rfl rfl) rfl rfl hl.1 rfl (lv_room (Nat.le_of_ble_eq_true rfl)) dX0_moveTogether_55 ⟨Nat.le_of_ble_eq_true rfl, Nat.le_of_ble_eq_true rfl⟩) hP hD hS hA [0, 1, 2, 3, 4, 5] [] rfl rfl (by decide) (by decide) (fun H locs hP hD hS => ?_)
    have hP : va_P (dC, dI) vwCl (wX cI h a1 a2 a3 a4 a5 w_13 r_6 st_14 rc_1 na_5 tp_15 cn_16 rh_3 sr) _ := hP
    have hD : va_D A (wX cI h a1 a2 a3 a4 a5 w_13 r_6 st_14 rc_1 na_5 tp_15 cn_16 rh_3 sr) := hD
    have hg0 := Option.some.inj hf
    obtain ⟨hq1, hg1⟩ := Prod.mk.inj hg0
    subst hq1
    obtain ⟨hq2, hg2⟩ := Prod.mk.inj hg1
    subst hq2
    obtain ⟨hq3, hg3⟩ := Prod.mk.inj hg2
    subst hq3
    obtain ⟨hq4, hg4⟩ := Prod.mk.inj hg3
    subst hq4
    obtain ⟨hq5, hg5⟩ := Prod.mk.inj hg4
    subst hq5
    obtain ⟨hq6, hg6⟩ := Prod.mk.inj hg5
    subst hq6
    obtain ⟨hq7, hg7⟩ := Prod.mk.inj hg6
    subst hq7
    subst hg7
    exact W.vret hx hb hr (fun t ht hW => ⟨⟨(), rfl, trivial, by rw [ht]; exact hP, va_K.moved hW.alike hK, hD⟩, hS.F ht⟩) hS.2.2 dX0_moveTogether_58
  · have hf := ift h4 hf
    refine lv_aload_n hx hb dX0_moveTogether_9 rfl (lv_at hl 0 rfl) ?_
    obtain ⟨na_17, hv, hf⟩ := bd hf
    refine q_cv (wr := []) (va_runV (As := []) (rest := []) ⟨hx, hb, hml, hown, hts⟩ (ctX0_planTwoFingers l dC dI cI cZ cL h a1 a2 a3 a4 a5 _ w r st rc_1 na_2 tp cn rh_3 sr na_17 hv) (cwV 0 hts (gV mw_295 mw_297 mw_12 mw_38 mw_298) rfl rfl rfl (by decide +kernel) ⟨Nat.le_of_ble_eq_true rfl, Nat.le_of_ble_eq_true rfl⟩) (q_preV [] hK hP hD [0, 1, 2, 3, 4, 5] (by decide) rfl (ci := 0) rfl rfl) rfl rfl hl.1 rfl (lv_room (Nat.le_of_ble_eq_true rfl)) dX0_moveTogether_10 ⟨Nat.le_of_ble_eq_true rfl, Nat.le_of_ble_eq_true rfl⟩) hP hD hS hA [0, 1, 2, 3, 4, 5] [] rfl rfl (by decide) (by decide) (fun H locs hP hD hS => ?_)
    have hP : va_P (dC, dI) vwCl (wX cI h a1 a2 a3 a4 a5 w r st rc_1 na_17 tp cn rh_3 sr) _ := hP
    have hD : va_D A (wX cI h a1 a2 a3 a4 a5 w r st rc_1 na_17 tp cn rh_3 sr) := hD
    refine lv_goto (tgt := 20) hx hb dX0_moveTogether_13 (by decide) ?_
    refine lv_aload_n hx hb dX0_moveTogether_20 rfl (lv_at hl 0 rfl) ?_
    obtain ⟨r_18, hv, hf⟩ := bd hf
    refine q_cv (wr := []) (va_runV (As := []) (rest := []) ⟨hx, hb, hml, hown, hts⟩ (ctX0_redirectRoots l dC dI cI cZ cL h a1 a2 a3 a4 a5 _ w r st rc_1 na_17 tp cn rh_3 sr r_18 hv) (cwV 0 hts (gV mw_307 mw_309 mw_15 mw_38 mw_310) rfl rfl rfl (by decide +kernel) ⟨Nat.le_of_ble_eq_true rfl, Nat.le_of_ble_eq_true rfl⟩) (q_preV [] hK hP hD [0, 1, 2, 3, 4, 5] (by decide) rfl (ci := 0) rfl rfl) rfl rfl hl.1 rfl (lv_room (Nat.le_of_ble_eq_true rfl)) dX0_moveTogether_21 ⟨Nat.le_of_ble_eq_true rfl, Nat.le_of_ble_eq_true rfl⟩) hP hD hS hA [0, 1, 2, 3, 4, 5] [] rfl rfl (by decide) (by decide) (fun H locs hP hD hS => ?_)
    have hP : va_P (dC, dI) vwCl (wX cI h a1 a2 a3 a4 a5 w r_18 st rc_1 na_17 tp cn rh_3 sr) _ := hP
    have hD : va_D A (wX cI h a1 a2 a3 a4 a5 w r_18 st rc_1 na_17 tp cn rh_3 sr) := hD
    refine lv_iconst (v := (0 : Int32)) hx hb dX0_moveTogether_24 (by decide) ?_
    refine lv_istore_n hx hb dX0_moveTogether_25 rfl hl (by decide) rfl (fun ls hl => ?_)
    have hl : lv_has ls 3 [(2, .int (0 : Int32)), (0, .ref h), (1, .int x1)] := hl
    obtain ⟨⟨x_19, w_20⟩, hv, hf⟩ := bd hf
    dsimp only at hf
    refine wX0_moveTogether_L26 dC dI cI cZ cL h a1 a2 a3 a4 a5 hx hb hml hown hts hK hA x1 r_18 st rc_1 na_17 tp cn rh_3 sr FU (0 : Int32) w x_19 w_20 hv _ _ _ hP hD hS (lv_sub hl [1, 2, 0] rfl) (fun H locs ls hP hD hS hl => ?_)
    refine lv_aload_n hx hb dX0_moveTogether_50 rfl (lv_at hl 0 rfl) ?_
    obtain ⟨w_21, hv, hf⟩ := bd hf
    refine q_cv (wr := []) (va_runV (As := []) (rest := []) ⟨hx, hb, hml, hown, hts⟩ (ctX0_moveObjects l dC dI cI cZ cL h a1 a2 a3 a4 a5 _ w_20 r_18 st rc_1 na_17 tp cn rh_3 sr w_21 hv) (cwV 0 hts (gV mw_319 mw_321 mw_18 mw_38 mw_322) rfl rfl rfl (by decide +kernel) ⟨Nat.le_of_ble_eq_true rfl, Nat.le_of_ble_eq_true rfl⟩) (q_preV [] hK hP hD [0, 1, 2, 3, 4, 5] (by decide) rfl (ci := 0) rfl rfl) rfl rfl hl.1 rfl (lv_room (Nat.le_of_ble_eq_true rfl)) dX0_moveTogether_51 ⟨Nat.le_of_ble_eq_true rfl, Nat.le_of_ble_eq_true rfl⟩) hP hD hS hA [0, 1, 2, 3, 4, 5] [] rfl rfl (by decide) (by decide) (fun H locs hP hD hS => ?_)
    have hP : va_P (dC, dI) vwCl (wX cI h a1 a2 a3 a4 a5 w_21 r_18 st rc_1 na_17 tp cn rh_3 sr) _ := hP
    have hD : va_D A (wX cI h a1 a2 a3 a4 a5 w_21 r_18 st rc_1 na_17 tp cn rh_3 sr) := hD
    refine lv_aload_n hx hb dX0_moveTogether_54 rfl (lv_at hl 0 rfl) ?_
    obtain ⟨⟨w_22, st_23, tp_24, cn_25⟩, hv, hf⟩ := bd hf
    dsimp only at hf
    refine q_cv (wr := []) (va_runV (As := []) (rest := []) ⟨hx, hb, hml, hown, hts⟩ (ctX0_listObjects l dC dI cI cZ cL h a1 a2 a3 a4 a5 _ w_21 r_18 st rc_1 na_17 tp cn rh_3 sr w_22 st_23 tp_24 cn_25 hv) (cwV 0 hts (gV mw_326 mw_328 mw_19 mw_38 mw_329) rfl rfl rfl (by decide +kernel) ⟨Nat.le_of_ble_eq_true rfl, Nat.le_of_ble_eq_true rfl⟩) (q_preV [] hK hP hD [0, 1, 2, 3, 4, 5] (by decide) rfl (ci := 0) rfl rfl) rfl rfl hl.1 rfl (lv_room (Nat.le_of_ble_eq_true rfl)) dX0_moveTogether_55 ⟨Nat.le_of_ble_eq_true rfl, Nat.le_of_ble_eq_true rfl⟩) hP hD hS hA [0, 1, 2, 3, 4, 5] [] rfl rfl (by decide) (by decide) (fun H locs hP hD hS => ?_)
    have hP : va_P (dC, dI) vwCl (wX cI h a1 a2 a3 a4 a5 w_22 r_18 st_23 rc_1 na_17 tp_24 cn_25 rh_3 sr) _ := hP
    have hD : va_D A (wX cI h a1 a2 a3 a4 a5 w_22 r_18 st_23 rc_1 na_17 tp_24 cn_25 rh_3 sr) := hD
    have hg0 := Option.some.inj hf
    obtain ⟨hq1, hg1⟩ := Prod.mk.inj hg0
    subst hq1
    obtain ⟨hq2, hg2⟩ := Prod.mk.inj hg1
    subst hq2
    obtain ⟨hq3, hg3⟩ := Prod.mk.inj hg2
    subst hq3
    obtain ⟨hq4, hg4⟩ := Prod.mk.inj hg3
    subst hq4
    obtain ⟨hq5, hg5⟩ := Prod.mk.inj hg4
    subst hq5
    obtain ⟨hq6, hg6⟩ := Prod.mk.inj hg5
    subst hq6
    obtain ⟨hq7, hg7⟩ := Prod.mk.inj hg6
    subst hq7
    subst hg7
    exact W.vret hx hb hr (fun t ht hW => ⟨⟨(), rfl, trivial, by rw [ht]; exact hP, va_K.moved hW.alike hK, hD⟩, hS.F ht⟩) hS.2.2 dX0_moveTogether_58
set_option maxHeartbeats 4000000 in
set_option maxRecDepth 100000 in
theorem ctX0_requireRoom (l : Launch) (hlt : l.stackTraces = false) (dC : Nat → ClassId) (dI : Nat → Nat → Nat) (cI cZ cL : ClassId) (h a1 a2 a3 a4 a5 : Nat) (sz : Nat) (w : Nat → Int32) (r : Nat → Int32) (st : Nat → Int32) (rc : Nat → Int32) (na : Nat → Int32) (tp : Int32) (cn : Int32) (rh : Int32) (sr : Int32) (x1 : Int32) (ef : Nat) (hf : fX0_requireRoom tp x1 = some ef) : vx_Met l yX0_requireRoom wsX0_requireRoom (rmX0_requireRoom ef) (va_Pc [.ref h, .int x1] (q_preX (dC, dI) vwCl (tyA cI cZ cL) RX0 q_tx sz (wX cI h a1 a2 a3 a4 a5 w r st rc na tp cn rh sr))) (va_Qv (fun (_ : Unit) => ef = 0) (fun _ => q_post (dC, dI) vwCl (tyA cI cZ cL) (va_A (wX cI h a1 a2 a3 a4 a5 w r st rc na tp cn rh sr) sz) (wX cI h a1 a2 a3 a4 a5 w r st rc na tp cn rh sr)) (va_A (wX cI h a1 a2 a3 a4 a5 w r st rc na tp cn rh sr) sz)) (vx_X (fun (_ : Unit) => ¬ ef = 0) (fun E _ t => E = q_E ef ∧ q_post (dC, dI) vwCl (tyA cI cZ cL) (va_A (wX cI h a1 a2 a3 a4 a5 w r st rc na tp cn rh sr) sz) (wX cI h a1 a2 a3 a4 a5 w r st rc na tp cn rh sr) t) (va_A (wX cI h a1 a2 a3 a4 a5 w r st rc na tp cn rh sr) sz)) (q_mc ef) (q_ms ef) (va_A (wX cI h a1 a2 a3 a4 a5 w r st rc na tp cn rh sr) sz) := by
  refine vx_ofW (cc := cX0_requireRoom) (maxL := 2) (ret := (none)) (by decide) rfl ?_
  intro p e s m args below meth c s₁ B hml hno hv
  obtain ⟨rfl, hsz, hP, hK, hD0, hZ0, hT, hN⟩ := hv
  have hx := B.exec
  have hb := B.bytes
  have hr := B.returns
  have hts := atoms_spec (ws := wsX0_requireRoom) B.pre
  have hown : s.vm.findClass RX0 = some m.cls := findClass_of_methodNamed B.named
  have hlk := B.notSynchronized
  subst hsz
  have hD := hD0.self (sz := s.heap.size)
  generalize hAe : va_A (wX cI h a1 a2 a3 a4 a5 w r st rc na tp cn rh sr) s.heap.size = A at hZ0 hD ⊢
  have hA : ∀ q : Nat, s.heap.size ≤ q → A q := fun q h => by rw [← hAe]; exact Or.inr h
  have hS : va_S A s.heap s.heap [] := va_S.rf
  have hl := lv_entry ([.ref h, .int x1]) (n := 2) (Nat.le_of_ble_eq_true rfl)
  rw [lg_entry_eq]
  generalize (lg_sl ([.ref h, .int x1]) ++ List.replicate (2 - (lg_sl ([.ref h, .int x1])).length) Slot.unset).toArray = ls at hl ⊢
  have hl : lv_has ls 2 [(0, .ref h), (1, .int x1)] := hl
  unfold fX0_requireRoom at hf
  refine lv_aload_n hx hb dX0_requireRoom_0 rfl (lv_at hl 0 rfl) ?_
  refine lv_iload_n hx hb dX0_requireRoom_1 rfl (lv_at hl 1 rfl) ?_
  obtain ⟨v1, hv, hf⟩ := bd hf
  refine q_ci (wr := []) (va_runV (As := [.int x1]) (rest := []) ⟨hx, hb, hml, hown, hts⟩ (ctX0_hasRoom l dC dI cI cZ cL h a1 a2 a3 a4 a5 _ w r st rc na tp cn rh sr x1 v1 hv) (cwV 1 hts (gV mw_231 mw_233 mw_7 mw_38 mw_234) rfl rfl rfl (by decide +kernel) ⟨Nat.le_of_ble_eq_true rfl, Nat.le_of_ble_eq_true rfl⟩) (q_preV [.int x1] hK hP hD [0, 1, 2, 3, 4, 5] (by decide) rfl (ci := 0) rfl rfl) rfl rfl hl.1 rfl (lv_room (Nat.le_of_ble_eq_true rfl)) dX0_requireRoom_2 ⟨Nat.le_of_ble_eq_true rfl, Nat.le_of_ble_eq_true rfl⟩) hP hD hS hA [0, 1, 2, 3, 4, 5] [] rfl rfl (by decide) (by decide) (fun H locs hP hD hS => ?_)
  have hP : va_P (dC, dI) vwCl (wX cI h a1 a2 a3 a4 a5 w r st rc na tp cn rh sr) _ := hP
  have hD : va_D A (wX cI h a1 a2 a3 a4 a5 w r st rc na tp cn rh sr) := hD
  refine lv_if_ne (tgt := 18) hx hb dX0_requireRoom_5 (by decide) (fun h2 => ?_) (fun h2 => ?_)
  · have hf := ifn h2 hf
    have hg0 := Option.some.inj hf
    subst hg0
    refine vx_ret ?_
    refine W.widen (k := q_mc 0) (n := q_ms 0) (Nat.zero_le _) (Nat.zero_le _) ?_
    exact W.vret hx hb hr (fun t ht hW => ⟨⟨(), rfl, rfl, by rw [ht]; exact hP, va_K.moved hW.alike hK, hD⟩, hS.F ht⟩) hS.2.2 dX0_requireRoom_18 hlk
  · have hf := ift h2 hf
    have hg0 := Option.some.inj hf
    subst hg0
    exact q_throw (ef := 3) (text := "the object doesn't fit") (names := ["java/lang/RuntimeException", "java/lang/Exception"]) hx hb hlt hown (by decide +kernel) (by decide +kernel) (hts _ (List.mem_cons_of_mem _ mw_235)) (hts _ (List.mem_cons_of_mem _ mw_46)) hT (by decide +kernel) (fun w hw => hts w (List.mem_cons_of_mem _ hw)) at_3 hN (by decide +kernel) (by decide +kernel) (by decide +kernel) hZ0 hS (hl.1.trans hml.symm) dX0_requireRoom_8 dX0_requireRoom_11 dX0_requireRoom_12 dX0_requireRoom_14 dX0_requireRoom_17 hno (Nat.le_of_ble_eq_true rfl) (Nat.le_of_ble_eq_true rfl) (Nat.le_of_ble_eq_true rfl) (Nat.le_of_ble_eq_true rfl) hlk rfl (by decide) hK hP hD (Nat.le_of_ble_eq_true rfl) (Nat.le_of_ble_eq_true rfl)
set_option maxHeartbeats 4000000 in
set_option maxRecDepth 100000 in
theorem ctX0_requireSizesFor (l : Launch) (hlt : l.stackTraces = false) (dC : Nat → ClassId) (dI : Nat → Nat → Nat) (cI cZ cL : ClassId) (h a1 a2 a3 a4 a5 : Nat) (sz : Nat) (w : Nat → Int32) (r : Nat → Int32) (st : Nat → Int32) (rc : Nat → Int32) (na : Nat → Int32) (tp : Int32) (cn : Int32) (rh : Int32) (sr : Int32) (x1 : Int32) (ef : Nat) (hf : fX0_requireSizesFor w st cn x1 = some ef) : vx_Met l yX0_requireSizesFor wsX0_requireSizesFor (rmX0_requireSizesFor ef) (va_Pc [.ref h, .int x1] (q_preX (dC, dI) vwCl (tyA cI cZ cL) RX0 q_tx sz (wX cI h a1 a2 a3 a4 a5 w r st rc na tp cn rh sr))) (va_Qv (fun (_ : Unit) => ef = 0) (fun _ => q_post (dC, dI) vwCl (tyA cI cZ cL) (va_A (wX cI h a1 a2 a3 a4 a5 w r st rc na tp cn rh sr) sz) (wX cI h a1 a2 a3 a4 a5 w r st rc na tp cn rh sr)) (va_A (wX cI h a1 a2 a3 a4 a5 w r st rc na tp cn rh sr) sz)) (vx_X (fun (_ : Unit) => ¬ ef = 0) (fun E _ t => E = q_E ef ∧ q_post (dC, dI) vwCl (tyA cI cZ cL) (va_A (wX cI h a1 a2 a3 a4 a5 w r st rc na tp cn rh sr) sz) (wX cI h a1 a2 a3 a4 a5 w r st rc na tp cn rh sr) t) (va_A (wX cI h a1 a2 a3 a4 a5 w r st rc na tp cn rh sr) sz)) (q_mc ef) (q_ms ef) (va_A (wX cI h a1 a2 a3 a4 a5 w r st rc na tp cn rh sr) sz) := by
  refine vx_ofW (cc := cX0_requireSizesFor) (maxL := 2) (ret := (none)) (by decide) rfl ?_
  intro p e s m args below meth c s₁ B hml hno hv
  obtain ⟨rfl, hsz, hP, hK, hD0, hZ0, hT, hN⟩ := hv
  have hx := B.exec
  have hb := B.bytes
  have hr := B.returns
  have hts := atoms_spec (ws := wsX0_requireSizesFor) B.pre
  have hown : s.vm.findClass RX0 = some m.cls := findClass_of_methodNamed B.named
  have hlk := B.notSynchronized
  subst hsz
  have hD := hD0.self (sz := s.heap.size)
  generalize hAe : va_A (wX cI h a1 a2 a3 a4 a5 w r st rc na tp cn rh sr) s.heap.size = A at hZ0 hD ⊢
  have hA : ∀ q : Nat, s.heap.size ≤ q → A q := fun q h => by rw [← hAe]; exact Or.inr h
  have hS : va_S A s.heap s.heap [] := va_S.rf
  have hl := lv_entry ([.ref h, .int x1]) (n := 2) (Nat.le_of_ble_eq_true rfl)
  rw [lg_entry_eq]
  generalize (lg_sl ([.ref h, .int x1]) ++ List.replicate (2 - (lg_sl ([.ref h, .int x1])).length) Slot.unset).toArray = ls at hl ⊢
  have hl : lv_has ls 2 [(0, .ref h), (1, .int x1)] := hl
  unfold fX0_requireSizesFor at hf
  refine lv_iload_n hx hb dX0_requireSizesFor_0 rfl (lv_at hl 1 rfl) ?_
  refine lv_iconst (v := (1 : Int32)) hx hb dX0_requireSizesFor_1 (by decide) ?_
  refine lv_icmp_ne (tgt := 22) hx hb dX0_requireSizesFor_2 (by decide) (fun h1 => ?_) (fun h1 => ?_)
  · have hf := ifn h1 hf
    have hg0 := Option.some.inj hf
    subst hg0
    refine vx_ret ?_
    refine W.widen (k := q_mc 0) (n := q_ms 0) (Nat.zero_le _) (Nat.zero_le _) ?_
    exact W.vret hx hb hr (fun t ht hW => ⟨⟨(), rfl, rfl, by rw [ht]; exact hP, va_K.moved hW.alike hK, hD⟩, hS.F ht⟩) hS.2.2 dX0_requireSizesFor_22 hlk
  · have hf := ift h1 hf
    refine lv_aload_n hx hb dX0_requireSizesFor_5 rfl (lv_at hl 0 rfl) ?_
    obtain ⟨v2, hv, hf⟩ := bd hf
    refine q_ci (wr := []) (va_runV (As := []) (rest := []) ⟨hx, hb, hml, hown, hts⟩ (ctX0_isOneSize l dC dI cI cZ cL h a1 a2 a3 a4 a5 _ w r st rc na tp cn rh sr v2 hv) (cwV 0 hts (gV mw_271 mw_273 mw_10 mw_38 mw_274) rfl rfl rfl (by decide +kernel) ⟨Nat.le_of_ble_eq_true rfl, Nat.le_of_ble_eq_true rfl⟩) (q_preV [] hK hP hD [0, 1, 2, 3, 4, 5] (by decide) rfl (ci := 0) rfl rfl) rfl rfl hl.1 rfl (lv_room (Nat.le_of_ble_eq_true rfl)) dX0_requireSizesFor_6 ⟨Nat.le_of_ble_eq_true rfl, Nat.le_of_ble_eq_true rfl⟩) hP hD hS hA [0, 1, 2, 3, 4, 5] [] rfl rfl (by decide) (by decide) (fun H locs hP hD hS => ?_)
    have hP : va_P (dC, dI) vwCl (wX cI h a1 a2 a3 a4 a5 w r st rc na tp cn rh sr) _ := hP
    have hD : va_D A (wX cI h a1 a2 a3 a4 a5 w r st rc na tp cn rh sr) := hD
    refine lv_if_ne (tgt := 22) hx hb dX0_requireSizesFor_9 (by decide) (fun h3 => ?_) (fun h3 => ?_)
    · have hf := ifn h3 hf
      have hg0 := Option.some.inj hf
      subst hg0
      refine vx_ret ?_
      refine W.widen (k := q_mc 0) (n := q_ms 0) (Nat.zero_le _) (Nat.zero_le _) ?_
      exact W.vret hx hb hr (fun t ht hW => ⟨⟨(), rfl, rfl, by rw [ht]; exact hP, va_K.moved hW.alike hK, hD⟩, hS.F ht⟩) hS.2.2 dX0_requireSizesFor_22 hlk
    · have hf := ift h3 hf
      have hg0 := Option.some.inj hf
      subst hg0
      exact q_throw (ef := 4) (text := "way 1 is for objects of one size") (names := ["java/lang/RuntimeException", "java/lang/Exception"]) hx hb hlt hown (by decide +kernel) (by decide +kernel) (hts _ (List.mem_cons_of_mem _ mw_275)) (hts _ (List.mem_cons_of_mem _ mw_47)) hT (by decide +kernel) (fun w hw => hts w (List.mem_cons_of_mem _ hw)) at_4 hN (by decide +kernel) (by decide +kernel) (by decide +kernel) hZ0 hS (hl.1.trans hml.symm) dX0_requireSizesFor_12 dX0_requireSizesFor_15 dX0_requireSizesFor_16 dX0_requireSizesFor_18 dX0_requireSizesFor_21 hno (Nat.le_of_ble_eq_true rfl) (Nat.le_of_ble_eq_true rfl) (Nat.le_of_ble_eq_true rfl) (Nat.le_of_ble_eq_true rfl) hlk rfl (by decide) hK hP hD (Nat.le_of_ble_eq_true rfl) (Nat.le_of_ble_eq_true rfl)
set_option maxHeartbeats 4000000 in
set_option maxRecDepth 100000 in
theorem ctX0_requireObjectWithField (l : Launch) (hlt : l.stackTraces = false) (dC : Nat → ClassId) (dI : Nat → Nat → Nat) (cI cZ cL : ClassId) (h a1 a2 a3 a4 a5 : Nat) (sz : Nat) (w : Nat → Int32) (r : Nat → Int32) (st : Nat → Int32) (rc : Nat → Int32) (na : Nat → Int32) (tp : Int32) (cn : Int32) (rh : Int32) (sr : Int32) (x1 : Int32) (x2 : Int32) (ef : Nat) (hf : fX0_requireObjectWithField w r x1 x2 = some ef) : vx_Met l yX0_requireObjectWithField wsX0_requireObjectWithField (rmX0_requireObjectWithField ef) (va_Pc [.ref h, .int x1, .int x2] (q_preX (dC, dI) vwCl (tyA cI cZ cL) RX0 q_tx sz (wX cI h a1 a2 a3 a4 a5 w r st rc na tp cn rh sr))) (va_Qv (fun (_ : Unit) => ef = 0) (fun _ => q_post (dC, dI) vwCl (tyA cI cZ cL) (va_A (wX cI h a1 a2 a3 a4 a5 w r st rc na tp cn rh sr) sz) (wX cI h a1 a2 a3 a4 a5 w r st rc na tp cn rh sr)) (va_A (wX cI h a1 a2 a3 a4 a5 w r st rc na tp cn rh sr) sz)) (vx_X (fun (_ : Unit) => ¬ ef = 0) (fun E _ t => E = q_E ef ∧ q_post (dC, dI) vwCl (tyA cI cZ cL) (va_A (wX cI h a1 a2 a3 a4 a5 w r st rc na tp cn rh sr) sz) (wX cI h a1 a2 a3 a4 a5 w r st rc na tp cn rh sr) t) (va_A (wX cI h a1 a2 a3 a4 a5 w r st rc na tp cn rh sr) sz)) (q_mc ef) (q_ms ef) (va_A (wX cI h a1 a2 a3 a4 a5 w r st rc na tp cn rh sr) sz) := by
  refine vx_ofW (cc := cX0_requireObjectWithField) (maxL := 3) (ret := (none)) (by decide) rfl ?_
  intro p e s m args below meth c s₁ B hml hno hv
  obtain ⟨rfl, hsz, hP, hK, hD0, hZ0, hT, hN⟩ := hv
  have hx := B.exec
  have hb := B.bytes
  have hr := B.returns
  have hts := atoms_spec (ws := wsX0_requireObjectWithField) B.pre
  have hown : s.vm.findClass RX0 = some m.cls := findClass_of_methodNamed B.named
  have hlk := B.notSynchronized
  subst hsz
  have hD := hD0.self (sz := s.heap.size)
  generalize hAe : va_A (wX cI h a1 a2 a3 a4 a5 w r st rc na tp cn rh sr) s.heap.size = A at hZ0 hD ⊢
  have hA : ∀ q : Nat, s.heap.size ≤ q → A q := fun q h => by rw [← hAe]; exact Or.inr h
  have hS : va_S A s.heap s.heap [] := va_S.rf
  have hl := lv_entry ([.ref h, .int x1, .int x2]) (n := 3) (Nat.le_of_ble_eq_true rfl)
  rw [lg_entry_eq]
  generalize (lg_sl ([.ref h, .int x1, .int x2]) ++ List.replicate (3 - (lg_sl ([.ref h, .int x1, .int x2])).length) Slot.unset).toArray = ls at hl ⊢
  have hl : lv_has ls 3 [(0, .ref h), (1, .int x1), (2, .int x2)] := hl
  unfold fX0_requireObjectWithField at hf
  refine lv_aload_n hx hb dX0_requireObjectWithField_0 rfl (lv_at hl 0 rfl) ?_
  refine va_get (D := (dC, dI)) (ci := 0) (v := .ref a2) (C := RX0) (T := TX0) (N := 9) hx hb hts (fun w hw => List.mem_cons_of_mem _ (inX0 w hw)) hown hK hP 0 rfl rfl 1 (by decide) (hts _ (List.mem_cons_of_mem _ mw_62)) (fun _ h9 => h9) rfl dX0_requireObjectWithField_1 ?_
  refine lv_iload_n hx hb dX0_requireObjectWithField_4 rfl (lv_at hl 1 rfl) ?_
  obtain ⟨v1, hv, hf⟩ := bd hf
  refine q_ild hx hb hK hP 2 0 rfl rfl hv dX0_requireObjectWithField_5 ?_
  refine lv_iconst (v := (-1 : Int32)) hx hb dX0_requireObjectWithField_6 (by decide) ?_
  refine lv_icmp_ne (tgt := 20) hx hb dX0_requireObjectWithField_7 (by decide) (fun h2 => ?_) (fun h2 => ?_)
  · have hf := ifn h2 hf
    refine lv_iload_n hx hb dX0_requireObjectWithField_20 rfl (lv_at hl 2 rfl) ?_
    refine lv_if_lt (tgt := 38) hx hb dX0_requireObjectWithField_21 (by decide) (fun h3 => ?_) (fun h3 => ?_)
    · have hf := ift h3 hf
      have hg0 := Option.some.inj hf
      subst hg0
      exact q_throw (ef := 1) (text := "no such field") (names := ["java/lang/RuntimeException", "java/lang/Exception"]) hx hb hlt hown (by decide +kernel) (by decide +kernel) (hts _ (List.mem_cons_of_mem _ mw_138)) (hts _ (List.mem_cons_of_mem _ mw_44)) hT (by decide +kernel) (fun w hw => hts w (List.mem_cons_of_mem _ hw)) at_1 hN (by decide +kernel) (by decide +kernel) (by decide +kernel) hZ0 hS (hl.1.trans hml.symm) dX0_requireObjectWithField_38 dX0_requireObjectWithField_41 dX0_requireObjectWithField_42 dX0_requireObjectWithField_44 dX0_requireObjectWithField_47 hno (Nat.le_of_ble_eq_true rfl) (Nat.le_of_ble_eq_true rfl) (Nat.le_of_ble_eq_true rfl) (Nat.le_of_ble_eq_true rfl) hlk rfl (by decide) hK hP hD (Nat.le_of_ble_eq_true rfl) (Nat.le_of_ble_eq_true rfl)
    · have hf := ifn h3 hf
      refine lv_iload_n hx hb dX0_requireObjectWithField_24 rfl (lv_at hl 2 rfl) ?_
      refine lv_aload_n hx hb dX0_requireObjectWithField_25 rfl (lv_at hl 0 rfl) ?_
      refine lv_aload_n hx hb dX0_requireObjectWithField_26 rfl (lv_at hl 0 rfl) ?_
      refine va_get (D := (dC, dI)) (ci := 0) (v := .ref a2) (C := RX0) (T := TX0) (N := 9) hx hb hts (fun w hw => List.mem_cons_of_mem _ (inX0 w hw)) hown hK hP 0 rfl rfl 1 (by decide) (hts _ (List.mem_cons_of_mem _ mw_62)) (fun _ h9 => h9) rfl dX0_requireObjectWithField_27 ?_
      refine lv_iload_n hx hb dX0_requireObjectWithField_30 rfl (lv_at hl 1 rfl) ?_
      obtain ⟨v4, hv, hf⟩ := bd hf
      refine q_ild hx hb hK hP 2 0 rfl rfl hv dX0_requireObjectWithField_31 ?_
      obtain ⟨v5, hv, hf⟩ := bd hf
      refine q_ci (wr := []) (va_runV (As := [.int v4]) (rest := [.int x2]) ⟨hx, hb, hml, hown, hts⟩ (ctX0_fieldCount l dC dI cI cZ cL h a1 a2 a3 a4 a5 _ w r st rc na tp cn rh sr v4 v5 hv) (cwV 1 hts (gV mw_114 mw_116 mw_3 mw_38 mw_117) rfl rfl rfl (by decide +kernel) ⟨Nat.le_of_ble_eq_true rfl, Nat.le_of_ble_eq_true rfl⟩) (q_preV [.int v4] hK hP hD [0, 1, 2, 3, 4, 5] (by decide) rfl (ci := 0) rfl rfl) rfl rfl hl.1 rfl (lv_room (Nat.le_of_ble_eq_true rfl)) dX0_requireObjectWithField_32 ⟨Nat.le_of_ble_eq_true rfl, Nat.le_of_ble_eq_true rfl⟩) hP hD hS hA [0, 1, 2, 3, 4, 5] [] rfl rfl (by decide) (by decide) (fun H locs hP hD hS => ?_)
      have hP : va_P (dC, dI) vwCl (wX cI h a1 a2 a3 a4 a5 w r st rc na tp cn rh sr) _ := hP
      have hD : va_D A (wX cI h a1 a2 a3 a4 a5 w r st rc na tp cn rh sr) := hD
      refine lv_icmp_lt (tgt := 48) hx hb dX0_requireObjectWithField_35 (by decide) (fun h6 => ?_) (fun h6 => ?_)
      · have hf := ift h6 hf
        have hg0 := Option.some.inj hf
        subst hg0
        refine vx_ret ?_
        refine W.widen (k := q_mc 0) (n := q_ms 0) (Nat.zero_le _) (Nat.zero_le _) ?_
        exact W.vret hx hb hr (fun t ht hW => ⟨⟨(), rfl, rfl, by rw [ht]; exact hP, va_K.moved hW.alike hK, hD⟩, hS.F ht⟩) hS.2.2 dX0_requireObjectWithField_48 hlk
      · have hf := ifn h6 hf
        have hg0 := Option.some.inj hf
        subst hg0
        exact q_throw (ef := 1) (text := "no such field") (names := ["java/lang/RuntimeException", "java/lang/Exception"]) hx hb hlt hown (by decide +kernel) (by decide +kernel) (hts _ (List.mem_cons_of_mem _ mw_138)) (hts _ (List.mem_cons_of_mem _ mw_44)) hT (by decide +kernel) (fun w hw => hts w (List.mem_cons_of_mem _ hw)) at_1 hN (by decide +kernel) (by decide +kernel) (by decide +kernel) hZ0 hS (hl.1.trans hml.symm) dX0_requireObjectWithField_38 dX0_requireObjectWithField_41 dX0_requireObjectWithField_42 dX0_requireObjectWithField_44 dX0_requireObjectWithField_47 hno (Nat.le_of_ble_eq_true rfl) (Nat.le_of_ble_eq_true rfl) (Nat.le_of_ble_eq_true rfl) (Nat.le_of_ble_eq_true rfl) hlk rfl (by decide) hK hP hD (Nat.le_of_ble_eq_true rfl) (Nat.le_of_ble_eq_true rfl)
  · have hf := ift h2 hf
    have hg0 := Option.some.inj hf
    subst hg0
    exact q_throwN (ef := 5) (text := "the root has nothing") (Y := "java/lang/RuntimeException") (names := ["java/lang/Exception"]) hx hb hlt d5rx_0 d5rx_1 d5rx_2 d5rx_5 hown (by decide +kernel) (by decide +kernel) (by decide +kernel) (hts _ (List.mem_cons_of_mem _ mw_369)) (hts _ (List.mem_cons_of_mem _ mw_49)) hT (by decide +kernel) (fun w hw => hts w (List.mem_cons_of_mem _ hw)) at_5 hN (by decide +kernel) (by decide +kernel) (by decide +kernel) hZ0 hS (hl.1.trans hml.symm) dX0_requireObjectWithField_10 dX0_requireObjectWithField_13 dX0_requireObjectWithField_14 dX0_requireObjectWithField_16 dX0_requireObjectWithField_19 hno (Nat.le_of_ble_eq_true rfl) (Nat.le_of_ble_eq_true rfl) (Nat.le_of_ble_eq_true rfl) (Nat.le_of_ble_eq_true rfl) hlk rfl (by decide) hK hP hD (Nat.le_of_ble_eq_true rfl) (Nat.le_of_ble_eq_true rfl)
set_option maxHeartbeats 4000000 in
set_option maxRecDepth 100000 in
theorem ctX0_requireReference (l : Launch) (hlt : l.stackTraces = false) (dC : Nat → ClassId) (dI : Nat → Nat → Nat) (cI cZ cL : ClassId) (h a1 a2 a3 a4 a5 : Nat) (sz : Nat) (w : Nat → Int32) (r : Nat → Int32) (st : Nat → Int32) (rc : Nat → Int32) (na : Nat → Int32) (tp : Int32) (cn : Int32) (rh : Int32) (sr : Int32) (x1 : Int32) (x2 : Int32) (ef : Nat) (hf : fX0_requireReference w x1 x2 = some ef) : vx_Met l yX0_requireReference wsX0_requireReference (rmX0_requireReference ef) (va_Pc [.ref h, .int x1, .int x2] (q_preX (dC, dI) vwCl (tyA cI cZ cL) RX0 q_tx sz (wX cI h a1 a2 a3 a4 a5 w r st rc na tp cn rh sr))) (va_Qv (fun (_ : Unit) => ef = 0) (fun _ => q_post (dC, dI) vwCl (tyA cI cZ cL) (va_A (wX cI h a1 a2 a3 a4 a5 w r st rc na tp cn rh sr) sz) (wX cI h a1 a2 a3 a4 a5 w r st rc na tp cn rh sr)) (va_A (wX cI h a1 a2 a3 a4 a5 w r st rc na tp cn rh sr) sz)) (vx_X (fun (_ : Unit) => ¬ ef = 0) (fun E _ t => E = q_E ef ∧ q_post (dC, dI) vwCl (tyA cI cZ cL) (va_A (wX cI h a1 a2 a3 a4 a5 w r st rc na tp cn rh sr) sz) (wX cI h a1 a2 a3 a4 a5 w r st rc na tp cn rh sr) t) (va_A (wX cI h a1 a2 a3 a4 a5 w r st rc na tp cn rh sr) sz)) (q_mc ef) (q_ms ef) (va_A (wX cI h a1 a2 a3 a4 a5 w r st rc na tp cn rh sr) sz) := by
  refine vx_ofW (cc := cX0_requireReference) (maxL := 3) (ret := (none)) (by decide) rfl ?_
  intro p e s m args below meth c s₁ B hml hno hv
  obtain ⟨rfl, hsz, hP, hK, hD0, hZ0, hT, hN⟩ := hv
  have hx := B.exec
  have hb := B.bytes
  have hr := B.returns
  have hts := atoms_spec (ws := wsX0_requireReference) B.pre
  have hown : s.vm.findClass RX0 = some m.cls := findClass_of_methodNamed B.named
  have hlk := B.notSynchronized
  subst hsz
  have hD := hD0.self (sz := s.heap.size)
  generalize hAe : va_A (wX cI h a1 a2 a3 a4 a5 w r st rc na tp cn rh sr) s.heap.size = A at hZ0 hD ⊢
  have hA : ∀ q : Nat, s.heap.size ≤ q → A q := fun q h => by rw [← hAe]; exact Or.inr h
  have hS : va_S A s.heap s.heap [] := va_S.rf
  have hl := lv_entry ([.ref h, .int x1, .int x2]) (n := 3) (Nat.le_of_ble_eq_true rfl)
  rw [lg_entry_eq]
  generalize (lg_sl ([.ref h, .int x1, .int x2]) ++ List.replicate (3 - (lg_sl ([.ref h, .int x1, .int x2])).length) Slot.unset).toArray = ls at hl ⊢
  have hl : lv_has ls 3 [(0, .ref h), (1, .int x1), (2, .int x2)] := hl
  unfold fX0_requireReference at hf
  refine lv_aload_n hx hb dX0_requireReference_0 rfl (lv_at hl 0 rfl) ?_
  refine lv_iload_n hx hb dX0_requireReference_1 rfl (lv_at hl 1 rfl) ?_
  refine lv_iload_n hx hb dX0_requireReference_2 rfl (lv_at hl 2 rfl) ?_
  obtain ⟨v1, hv, hf⟩ := bd hf
  refine q_ci (wr := []) (va_runV (As := [.int x1, .int x2]) (rest := []) ⟨hx, hb, hml, hown, hts⟩ (ctX0_fieldKind l dC dI cI cZ cL h a1 a2 a3 a4 a5 _ w r st rc na tp cn rh sr x1 x2 v1 hv) (cwV 2 hts (gV mw_118 mw_120 mw_4 mw_38 mw_121) rfl rfl rfl (by decide +kernel) ⟨Nat.le_of_ble_eq_true rfl, Nat.le_of_ble_eq_true rfl⟩) (q_preV [.int x1, .int x2] hK hP hD [0, 1, 2, 3, 4, 5] (by decide) rfl (ci := 0) rfl rfl) rfl rfl hl.1 rfl (lv_room (Nat.le_of_ble_eq_true rfl)) dX0_requireReference_3 ⟨Nat.le_of_ble_eq_true rfl, Nat.le_of_ble_eq_true rfl⟩) hP hD hS hA [0, 1, 2, 3, 4, 5] [] rfl rfl (by decide) (by decide) (fun H locs hP hD hS => ?_)
  have hP : va_P (dC, dI) vwCl (wX cI h a1 a2 a3 a4 a5 w r st rc na tp cn rh sr) _ := hP
  have hD : va_D A (wX cI h a1 a2 a3 a4 a5 w r st rc na tp cn rh sr) := hD
  refine lv_if_ne (tgt := 19) hx hb dX0_requireReference_6 (by decide) (fun h2 => ?_) (fun h2 => ?_)
  · have hf := ifn h2 hf
    have hg0 := Option.some.inj hf
    subst hg0
    refine vx_ret ?_
    refine W.widen (k := q_mc 0) (n := q_ms 0) (Nat.zero_le _) (Nat.zero_le _) ?_
    exact W.vret hx hb hr (fun t ht hW => ⟨⟨(), rfl, rfl, by rw [ht]; exact hP, va_K.moved hW.alike hK, hD⟩, hS.F ht⟩) hS.2.2 dX0_requireReference_19 hlk
  · have hf := ift h2 hf
    have hg0 := Option.some.inj hf
    subst hg0
    exact q_throw (ef := 3) (text := "the field has a number") (names := ["java/lang/RuntimeException", "java/lang/Exception"]) hx hb hlt hown (by decide +kernel) (by decide +kernel) (hts _ (List.mem_cons_of_mem _ mw_235)) (hts _ (List.mem_cons_of_mem _ mw_46)) hT (by decide +kernel) (fun w hw => hts w (List.mem_cons_of_mem _ hw)) at_3 hN (by decide +kernel) (by decide +kernel) (by decide +kernel) hZ0 hS (hl.1.trans hml.symm) dX0_requireReference_9 dX0_requireReference_12 dX0_requireReference_13 dX0_requireReference_15 dX0_requireReference_18 hno (Nat.le_of_ble_eq_true rfl) (Nat.le_of_ble_eq_true rfl) (Nat.le_of_ble_eq_true rfl) (Nat.le_of_ble_eq_true rfl) hlk rfl (by decide) hK hP hD (Nat.le_of_ble_eq_true rfl) (Nat.le_of_ble_eq_true rfl)
