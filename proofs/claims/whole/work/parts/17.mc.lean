set_option maxHeartbeats 4000000 in
set_option maxRecDepth 100000 in
theorem ctX1_compact (l : Launch) (dC : Nat → ClassId) (dI : Nat → Nat → Nat) (cI cZ cL : ClassId) (hm b1 b2 b3 b4 b5 b6 b7 b8 b9 : Nat) (sz : Nat) (th : Int32) (mk : Int32) (us : Nat → Int32) (fi : Nat → Int32) (se : Nat → Int32) (ki : Nat → Int32) (va : Nat → Int32) (li : Nat → Int32) (ct : Int32) (od : Nat → Int32) (ne : Nat → Int32) (ro : Nat → Int32) (x1 : Int32) (rs : Int32) (th' : Int32) (us' : Nat → Int32) (va' : Nat → Int32) (li' : Nat → Int32) (ct' : Int32) (od' : Nat → Int32) (ne' : Nat → Int32) (hf : fX1_compact th us fi ki va li ct od ne ro x1 = some (rs, th', us', va', li', ct', od', ne')) : Met l yX1_compact wsX1_compact rmX1_compact (va_Pc [.ref hm, .int x1] (q_pre (dC, dI) vwCl (tyA cI cZ cL) sz (wM cI cZ hm b1 b2 b3 b4 b5 b6 b7 b8 b9 th mk us fi se ki va li ct od ne ro))) (va_Qi (fun r (_ : Unit) => r = rs) (fun _ => q_post (dC, dI) vwCl (tyA cI cZ cL) (va_A (wM cI cZ hm b1 b2 b3 b4 b5 b6 b7 b8 b9 th mk us fi se ki va li ct od ne ro) sz) (wM cI cZ hm b1 b2 b3 b4 b5 b6 b7 b8 b9 th' mk us' fi se ki va' li' ct' od' ne' ro)) (va_A (wM cI cZ hm b1 b2 b3 b4 b5 b6 b7 b8 b9 th mk us fi se ki va li ct od ne ro) sz)) 0 0 (va_A (wM cI cZ hm b1 b2 b3 b4 b5 b6 b7 b8 b9 th mk us fi se ki va li ct od ne ro) sz) := by
  refine Met.ofW (cc := cX1_compact) (maxL := 3) (ret := (some .int)) (by decide) rfl ?_
  intro p e s m args below meth c s₁ B hml hv
  obtain ⟨rfl, hsz, hP, hK, hD0⟩ := hv
  have hx := B.exec
  have hb := B.bytes
  have hr := B.returns
  have hts := atoms_spec (ws := wsX1_compact) B.pre
  have hown : s.vm.findClass RX1 = some m.cls := findClass_of_methodNamed B.named
  subst hsz
  have hD := hD0.self (sz := s.heap.size)
  generalize hAe : va_A (wM cI cZ hm b1 b2 b3 b4 b5 b6 b7 b8 b9 th mk us fi se ki va li ct od ne ro) s.heap.size = A at hD ⊢
  have hA : ∀ q : Nat, s.heap.size ≤ q → A q := fun q h => by rw [← hAe]; exact Or.inr h
  have hS : va_S A s.heap s.heap [] := va_S.rf
  have hl := lv_entry ([.ref hm, .int x1]) (n := 3) (Nat.le_of_ble_eq_true rfl)
  rw [lg_entry_eq]
  generalize (lg_sl ([.ref hm, .int x1]) ++ List.replicate (3 - (lg_sl ([.ref hm, .int x1])).length) Slot.unset).toArray = ls at hl ⊢
  have hl : lv_has ls 3 [(0, .ref hm), (1, .int x1)] := hl
  unfold fX1_compact at hf
  refine lv_aload_n hx hb dX1_compact_0 rfl (lv_at hl 0 rfl) ?_
  refine lv_iload_n hx hb dX1_compact_1 rfl (lv_at hl 1 rfl) ?_
  refine lv_if_lt (tgt := 10) hx hb dX1_compact_2 (by decide) (fun h1 => ?_) (fun h1 => ?_)
  · have hf := ift h1 hf
    refine lv_iconst (v := (1 : Int32)) hx hb dX1_compact_10 (by decide) ?_
    refine lv_goto (tgt := 31) hx hb dX1_compact_11 (by decide) ?_
    refine va_put (D := (dC, dI)) (ci := 1) (v := .int (1 : Int32)) (ty := .int) (C := RX1) (T := TX1) (N := 12) hx hb hts (fun w hw => List.mem_cons_of_mem _ (inX1 w hw)) tyX1 tyX1_ok nmX1 hown hK hP hD hS 0 rfl rfl 0 (by decide) (hts _ (List.mem_cons_of_mem _ mw_444)) (fun _ h9 => h9) rfl (by decide +kernel) rfl rfl (Nat.le_of_ble_eq_true rfl) dX1_compact_31 (fun H locs hP hD hS => ?_)
    have hP : va_P (dC, dI) vwCl (wM cI cZ hm b1 b2 b3 b4 b5 b6 b7 b8 b9 (1 : Int32) mk us fi se ki va li ct od ne ro) _ := hP
    have hD : va_D A (wM cI cZ hm b1 b2 b3 b4 b5 b6 b7 b8 b9 (1 : Int32) mk us fi se ki va li ct od ne ro) := hD
    refine lv_aload_n hx hb dX1_compact_34 rfl (lv_at hl 0 rfl) ?_
    refine va_get (D := (dC, dI)) (ci := 1) (v := .int (1 : Int32)) (C := RX1) (T := TX1) (N := 12) hx hb hts (fun w hw => List.mem_cons_of_mem _ (inX1 w hw)) hown hK hP 0 rfl rfl 0 (by decide) (hts _ (List.mem_cons_of_mem _ mw_444)) (fun _ h9 => h9) rfl dX1_compact_35 ?_
    refine lv_if_le (tgt := 43) hx hb dX1_compact_38 (by decide) (fun h9 => absurd h9 (by decide)) (fun _ => ?_)
    refine lv_iconst (v := (0 : Int32)) hx hb dX1_compact_41 (by decide) ?_
    have hg0 := Option.some.inj hf
    obtain ⟨hq1, hg1⟩ := Prod.mk.inj hg0
    subst hq1
    obtain ⟨hq2, hg2⟩ := Prod.mk.inj hg1
    subst hq2
    obtain ⟨hq3, hg3⟩ := Prod.mk.inj hg2
    subst hq3
    obtain ⟨hq4, hg4⟩ := Prod.mk.inj hg3
    subst hq4
    obtain ⟨hq5, hg5⟩ := Prod.mk.inj hg4
    subst hq5
    obtain ⟨hq6, hg6⟩ := Prod.mk.inj hg5
    subst hq6
    obtain ⟨hq7, hg7⟩ := Prod.mk.inj hg6
    subst hq7
    subst hg7
    exact W.iret hx hb hr (fun t ht hW => ⟨⟨_, (), rfl, rfl, by rw [ht]; exact hP, va_K.moved hW.alike hK, hD⟩, hS.F ht⟩) hS.2.2 dX1_compact_42
  · have hf := ifn h1 hf
    refine lv_iload_n hx hb dX1_compact_5 rfl (lv_at hl 1 rfl) ?_
    refine lv_iconst (v := (2 : Int32)) hx hb dX1_compact_6 (by decide) ?_
    refine lv_icmp_le (tgt := 14) hx hb dX1_compact_7 (by decide) (fun h2 => ?_) (fun h2 => ?_)
    · have hf := ift h2 hf
      refine lv_iload_n hx hb dX1_compact_14 rfl (lv_at hl 1 rfl) ?_
      refine lv_iconst (v := (1 : Int32)) hx hb dX1_compact_15 (by decide) ?_
      refine lv_icmp_ne (tgt := 30) hx hb dX1_compact_16 (by decide) (fun h3 => ?_) (fun h3 => ?_)
      · have hf := ifn h3 hf
        refine lv_iconst (v := (0 : Int32)) hx hb dX1_compact_30 (by decide) ?_
        refine va_put (D := (dC, dI)) (ci := 1) (v := .int (0 : Int32)) (ty := .int) (C := RX1) (T := TX1) (N := 12) hx hb hts (fun w hw => List.mem_cons_of_mem _ (inX1 w hw)) tyX1 tyX1_ok nmX1 hown hK hP hD hS 0 rfl rfl 0 (by decide) (hts _ (List.mem_cons_of_mem _ mw_444)) (fun _ h9 => h9) rfl (by decide +kernel) rfl rfl (Nat.le_of_ble_eq_true rfl) dX1_compact_31 (fun H locs hP hD hS => ?_)
        have hP : va_P (dC, dI) vwCl (wM cI cZ hm b1 b2 b3 b4 b5 b6 b7 b8 b9 (0 : Int32) mk us fi se ki va li ct od ne ro) _ := hP
        have hD : va_D A (wM cI cZ hm b1 b2 b3 b4 b5 b6 b7 b8 b9 (0 : Int32) mk us fi se ki va li ct od ne ro) := hD
        refine lv_aload_n hx hb dX1_compact_34 rfl (lv_at hl 0 rfl) ?_
        refine va_get (D := (dC, dI)) (ci := 1) (v := .int (0 : Int32)) (C := RX1) (T := TX1) (N := 12) hx hb hts (fun w hw => List.mem_cons_of_mem _ (inX1 w hw)) hown hK hP 0 rfl rfl 0 (by decide) (hts _ (List.mem_cons_of_mem _ mw_444)) (fun _ h9 => h9) rfl dX1_compact_35 ?_
        refine lv_if_le (tgt := 43) hx hb dX1_compact_38 (by decide) (fun _ => ?_) (fun h9 => absurd h9 (by decide))
        refine lv_aload_n hx hb dX1_compact_43 rfl (lv_at hl 0 rfl) ?_
        obtain ⟨v4, hv, hf⟩ := bd hf
        refine q_ci (wr := []) (va_runV (As := []) (rest := []) ⟨hx, hb, hml, hown, hts⟩ (ctX1_topNow l dC dI cI cZ cL hm b1 b2 b3 b4 b5 b6 b7 b8 b9 _ (0 : Int32) mk us fi se ki va li ct od ne ro v4 hv) (cwV 0 hts (gV mw_494 mw_496 mw_24 mw_40 mw_497) rfl rfl rfl (by decide +kernel) ⟨Nat.le_of_ble_eq_true rfl, Nat.le_of_ble_eq_true rfl⟩) (q_preV [] hK hP hD [0, 1, 2, 3, 4, 5, 6, 7, 8, 9] (by decide) rfl (ci := 1) rfl rfl) rfl rfl hl.1 rfl (lv_room (Nat.le_of_ble_eq_true rfl)) dX1_compact_44 ⟨Nat.le_of_ble_eq_true rfl, Nat.le_of_ble_eq_true rfl⟩) hP hD hS hA [0, 1, 2, 3, 4, 5, 6, 7, 8, 9] [] rfl rfl (by decide) (by decide) (fun H locs hP hD hS => ?_)
        have hP : va_P (dC, dI) vwCl (wM cI cZ hm b1 b2 b3 b4 b5 b6 b7 b8 b9 (0 : Int32) mk us fi se ki va li ct od ne ro) _ := hP
        have hD : va_D A (wM cI cZ hm b1 b2 b3 b4 b5 b6 b7 b8 b9 (0 : Int32) mk us fi se ki va li ct od ne ro) := hD
        refine lv_istore_n hx hb dX1_compact_47 rfl hl (by decide) rfl (fun ls hl => ?_)
        have hl : lv_has ls 3 [(2, .int v4), (0, .ref hm), (1, .int x1)] := hl
        refine lv_aload_n hx hb dX1_compact_48 rfl (lv_at hl 1 rfl) ?_
        refine lv_iload_n hx hb dX1_compact_49 rfl (lv_at hl 2 rfl) ?_
        obtain ⟨⟨us_5, va_6, li_7, ct_8, od_9, ne_10⟩, hv, hf⟩ := bd hf
        dsimp only at hf
        refine q_cv (wr := []) (va_runV (As := [.int x1]) (rest := []) ⟨hx, hb, hml, hown, hts⟩ (ctX1_press l dC dI cI cZ cL hm b1 b2 b3 b4 b5 b6 b7 b8 b9 _ (0 : Int32) mk us fi se ki va li ct od ne ro x1 us_5 va_6 li_7 ct_8 od_9 ne_10 hv) (cwV 1 hts (gV mw_498 mw_500 mw_25 mw_40 mw_501) rfl rfl rfl (by decide +kernel) ⟨Nat.le_of_ble_eq_true rfl, Nat.le_of_ble_eq_true rfl⟩) (q_preV [.int x1] hK hP hD [0, 1, 2, 3, 4, 5, 6, 7, 8, 9] (by decide) rfl (ci := 1) rfl rfl) rfl rfl hl.1 rfl (lv_room (Nat.le_of_ble_eq_true rfl)) dX1_compact_50 ⟨Nat.le_of_ble_eq_true rfl, Nat.le_of_ble_eq_true rfl⟩) hP hD hS hA [0, 1, 2, 3, 4, 5, 6, 7, 8, 9] [] rfl rfl (by decide) (by decide) (fun H locs hP hD hS => ?_)
        have hP : va_P (dC, dI) vwCl (wM cI cZ hm b1 b2 b3 b4 b5 b6 b7 b8 b9 (0 : Int32) mk us_5 fi se ki va_6 li_7 ct_8 od_9 ne_10 ro) _ := hP
        have hD : va_D A (wM cI cZ hm b1 b2 b3 b4 b5 b6 b7 b8 b9 (0 : Int32) mk us_5 fi se ki va_6 li_7 ct_8 od_9 ne_10 ro) := hD
        refine lv_iload_n hx hb dX1_compact_53 rfl (lv_at hl 0 rfl) ?_
        refine lv_aload_n hx hb dX1_compact_54 rfl (lv_at hl 1 rfl) ?_
        obtain ⟨v11, hv, hf⟩ := bd hf
        refine q_ci (wr := []) (va_runV (As := []) (rest := [.int v4]) ⟨hx, hb, hml, hown, hts⟩ (ctX1_topNow l dC dI cI cZ cL hm b1 b2 b3 b4 b5 b6 b7 b8 b9 _ (0 : Int32) mk us_5 fi se ki va_6 li_7 ct_8 od_9 ne_10 ro v11 hv) (cwV 0 hts (gV mw_494 mw_496 mw_24 mw_40 mw_497) rfl rfl rfl (by decide +kernel) ⟨Nat.le_of_ble_eq_true rfl, Nat.le_of_ble_eq_true rfl⟩) (q_preV [] hK hP hD [0, 1, 2, 3, 4, 5, 6, 7, 8, 9] (by decide) rfl (ci := 1) rfl rfl) rfl rfl hl.1 rfl (lv_room (Nat.le_of_ble_eq_true rfl)) dX1_compact_55 ⟨Nat.le_of_ble_eq_true rfl, Nat.le_of_ble_eq_true rfl⟩) hP hD hS hA [0, 1, 2, 3, 4, 5, 6, 7, 8, 9] [] rfl rfl (by decide) (by decide) (fun H locs hP hD hS => ?_)
        have hP : va_P (dC, dI) vwCl (wM cI cZ hm b1 b2 b3 b4 b5 b6 b7 b8 b9 (0 : Int32) mk us_5 fi se ki va_6 li_7 ct_8 od_9 ne_10 ro) _ := hP
        have hD : va_D A (wM cI cZ hm b1 b2 b3 b4 b5 b6 b7 b8 b9 (0 : Int32) mk us_5 fi se ki va_6 li_7 ct_8 od_9 ne_10 ro) := hD
        refine lv_isub hx hb dX1_compact_58 ?_
        have hg0 := Option.some.inj hf
        obtain ⟨hq1, hg1⟩ := Prod.mk.inj hg0
        subst hq1
        obtain ⟨hq2, hg2⟩ := Prod.mk.inj hg1
        subst hq2
        obtain ⟨hq3, hg3⟩ := Prod.mk.inj hg2
        subst hq3
        obtain ⟨hq4, hg4⟩ := Prod.mk.inj hg3
        subst hq4
        obtain ⟨hq5, hg5⟩ := Prod.mk.inj hg4
        subst hq5
        obtain ⟨hq6, hg6⟩ := Prod.mk.inj hg5
        subst hq6
        obtain ⟨hq7, hg7⟩ := Prod.mk.inj hg6
        subst hq7
        subst hg7
        exact W.iret hx hb hr (fun t ht hW => ⟨⟨_, (), rfl, rfl, by rw [ht]; exact hP, va_K.moved hW.alike hK, hD⟩, hS.F ht⟩) hS.2.2 dX1_compact_59
      · have hf := ift h3 hf
        refine lv_aload_n hx hb dX1_compact_19 rfl (lv_at hl 0 rfl) ?_
        obtain ⟨v12, hv, hf⟩ := bd hf
        refine q_ci (wr := []) (va_runV (As := []) (rest := [.ref hm]) ⟨hx, hb, hml, hown, hts⟩ (ctX1_oneSize l dC dI cI cZ cL hm b1 b2 b3 b4 b5 b6 b7 b8 b9 _ th mk us fi se ki va li ct od ne ro v12 hv) (cwV 0 hts (gV mw_490 mw_492 mw_23 mw_40 mw_493) rfl rfl rfl (by decide +kernel) ⟨Nat.le_of_ble_eq_true rfl, Nat.le_of_ble_eq_true rfl⟩) (q_preV [] hK hP hD [0, 1, 2, 3, 4, 5, 6, 7, 8, 9] (by decide) rfl (ci := 1) rfl rfl) rfl rfl hl.1 rfl (lv_room (Nat.le_of_ble_eq_true rfl)) dX1_compact_20 ⟨Nat.le_of_ble_eq_true rfl, Nat.le_of_ble_eq_true rfl⟩) hP hD hS hA [0, 1, 2, 3, 4, 5, 6, 7, 8, 9] [] rfl rfl (by decide) (by decide) (fun H locs hP hD hS => ?_)
        have hP : va_P (dC, dI) vwCl (wM cI cZ hm b1 b2 b3 b4 b5 b6 b7 b8 b9 th mk us fi se ki va li ct od ne ro) _ := hP
        have hD : va_D A (wM cI cZ hm b1 b2 b3 b4 b5 b6 b7 b8 b9 th mk us fi se ki va li ct od ne ro) := hD
        refine lv_if_ne (tgt := 30) hx hb dX1_compact_23 (by decide) (fun h13 => ?_) (fun h13 => ?_)
        · have hf := ifn h13 hf
          refine lv_iconst (v := (0 : Int32)) hx hb dX1_compact_30 (by decide) ?_
          refine va_put (D := (dC, dI)) (ci := 1) (v := .int (0 : Int32)) (ty := .int) (C := RX1) (T := TX1) (N := 12) hx hb hts (fun w hw => List.mem_cons_of_mem _ (inX1 w hw)) tyX1 tyX1_ok nmX1 hown hK hP hD hS 0 rfl rfl 0 (by decide) (hts _ (List.mem_cons_of_mem _ mw_444)) (fun _ h9 => h9) rfl (by decide +kernel) rfl rfl (Nat.le_of_ble_eq_true rfl) dX1_compact_31 (fun H locs hP hD hS => ?_)
          have hP : va_P (dC, dI) vwCl (wM cI cZ hm b1 b2 b3 b4 b5 b6 b7 b8 b9 (0 : Int32) mk us fi se ki va li ct od ne ro) _ := hP
          have hD : va_D A (wM cI cZ hm b1 b2 b3 b4 b5 b6 b7 b8 b9 (0 : Int32) mk us fi se ki va li ct od ne ro) := hD
          refine lv_aload_n hx hb dX1_compact_34 rfl (lv_at hl 0 rfl) ?_
          refine va_get (D := (dC, dI)) (ci := 1) (v := .int (0 : Int32)) (C := RX1) (T := TX1) (N := 12) hx hb hts (fun w hw => List.mem_cons_of_mem _ (inX1 w hw)) hown hK hP 0 rfl rfl 0 (by decide) (hts _ (List.mem_cons_of_mem _ mw_444)) (fun _ h9 => h9) rfl dX1_compact_35 ?_
          refine lv_if_le (tgt := 43) hx hb dX1_compact_38 (by decide) (fun _ => ?_) (fun h9 => absurd h9 (by decide))
          refine lv_aload_n hx hb dX1_compact_43 rfl (lv_at hl 0 rfl) ?_
          obtain ⟨v14, hv, hf⟩ := bd hf
          refine q_ci (wr := []) (va_runV (As := []) (rest := []) ⟨hx, hb, hml, hown, hts⟩ (ctX1_topNow l dC dI cI cZ cL hm b1 b2 b3 b4 b5 b6 b7 b8 b9 _ (0 : Int32) mk us fi se ki va li ct od ne ro v14 hv) (cwV 0 hts (gV mw_494 mw_496 mw_24 mw_40 mw_497) rfl rfl rfl (by decide +kernel) ⟨Nat.le_of_ble_eq_true rfl, Nat.le_of_ble_eq_true rfl⟩) (q_preV [] hK hP hD [0, 1, 2, 3, 4, 5, 6, 7, 8, 9] (by decide) rfl (ci := 1) rfl rfl) rfl rfl hl.1 rfl (lv_room (Nat.le_of_ble_eq_true rfl)) dX1_compact_44 ⟨Nat.le_of_ble_eq_true rfl, Nat.le_of_ble_eq_true rfl⟩) hP hD hS hA [0, 1, 2, 3, 4, 5, 6, 7, 8, 9] [] rfl rfl (by decide) (by decide) (fun H locs hP hD hS => ?_)
          have hP : va_P (dC, dI) vwCl (wM cI cZ hm b1 b2 b3 b4 b5 b6 b7 b8 b9 (0 : Int32) mk us fi se ki va li ct od ne ro) _ := hP
          have hD : va_D A (wM cI cZ hm b1 b2 b3 b4 b5 b6 b7 b8 b9 (0 : Int32) mk us fi se ki va li ct od ne ro) := hD
          refine lv_istore_n hx hb dX1_compact_47 rfl hl (by decide) rfl (fun ls hl => ?_)
          have hl : lv_has ls 3 [(2, .int v14), (0, .ref hm), (1, .int x1)] := hl
          refine lv_aload_n hx hb dX1_compact_48 rfl (lv_at hl 1 rfl) ?_
          refine lv_iload_n hx hb dX1_compact_49 rfl (lv_at hl 2 rfl) ?_
          obtain ⟨⟨us_15, va_16, li_17, ct_18, od_19, ne_20⟩, hv, hf⟩ := bd hf
          dsimp only at hf
          refine q_cv (wr := []) (va_runV (As := [.int x1]) (rest := []) ⟨hx, hb, hml, hown, hts⟩ (ctX1_press l dC dI cI cZ cL hm b1 b2 b3 b4 b5 b6 b7 b8 b9 _ (0 : Int32) mk us fi se ki va li ct od ne ro x1 us_15 va_16 li_17 ct_18 od_19 ne_20 hv) (cwV 1 hts (gV mw_498 mw_500 mw_25 mw_40 mw_501) rfl rfl rfl (by decide +kernel) ⟨Nat.le_of_ble_eq_true rfl, Nat.le_of_ble_eq_true rfl⟩) (q_preV [.int x1] hK hP hD [0, 1, 2, 3, 4, 5, 6, 7, 8, 9] (by decide) rfl (ci := 1) rfl rfl) rfl rfl hl.1 rfl (lv_room (Nat.le_of_ble_eq_true rfl)) dX1_compact_50 ⟨Nat.le_of_ble_eq_true rfl, Nat.le_of_ble_eq_true rfl⟩) hP hD hS hA [0, 1, 2, 3, 4, 5, 6, 7, 8, 9] [] rfl rfl (by decide) (by decide) (fun H locs hP hD hS => ?_)
          have hP : va_P (dC, dI) vwCl (wM cI cZ hm b1 b2 b3 b4 b5 b6 b7 b8 b9 (0 : Int32) mk us_15 fi se ki va_16 li_17 ct_18 od_19 ne_20 ro) _ := hP
          have hD : va_D A (wM cI cZ hm b1 b2 b3 b4 b5 b6 b7 b8 b9 (0 : Int32) mk us_15 fi se ki va_16 li_17 ct_18 od_19 ne_20 ro) := hD
          refine lv_iload_n hx hb dX1_compact_53 rfl (lv_at hl 0 rfl) ?_
          refine lv_aload_n hx hb dX1_compact_54 rfl (lv_at hl 1 rfl) ?_
          obtain ⟨v21, hv, hf⟩ := bd hf
          refine q_ci (wr := []) (va_runV (As := []) (rest := [.int v14]) ⟨hx, hb, hml, hown, hts⟩ (ctX1_topNow l dC dI cI cZ cL hm b1 b2 b3 b4 b5 b6 b7 b8 b9 _ (0 : Int32) mk us_15 fi se ki va_16 li_17 ct_18 od_19 ne_20 ro v21 hv) (cwV 0 hts (gV mw_494 mw_496 mw_24 mw_40 mw_497) rfl rfl rfl (by decide +kernel) ⟨Nat.le_of_ble_eq_true rfl, Nat.le_of_ble_eq_true rfl⟩) (q_preV [] hK hP hD [0, 1, 2, 3, 4, 5, 6, 7, 8, 9] (by decide) rfl (ci := 1) rfl rfl) rfl rfl hl.1 rfl (lv_room (Nat.le_of_ble_eq_true rfl)) dX1_compact_55 ⟨Nat.le_of_ble_eq_true rfl, Nat.le_of_ble_eq_true rfl⟩) hP hD hS hA [0, 1, 2, 3, 4, 5, 6, 7, 8, 9] [] rfl rfl (by decide) (by decide) (fun H locs hP hD hS => ?_)
          have hP : va_P (dC, dI) vwCl (wM cI cZ hm b1 b2 b3 b4 b5 b6 b7 b8 b9 (0 : Int32) mk us_15 fi se ki va_16 li_17 ct_18 od_19 ne_20 ro) _ := hP
          have hD : va_D A (wM cI cZ hm b1 b2 b3 b4 b5 b6 b7 b8 b9 (0 : Int32) mk us_15 fi se ki va_16 li_17 ct_18 od_19 ne_20 ro) := hD
          refine lv_isub hx hb dX1_compact_58 ?_
          have hg0 := Option.some.inj hf
          obtain ⟨hq1, hg1⟩ := Prod.mk.inj hg0
          subst hq1
          obtain ⟨hq2, hg2⟩ := Prod.mk.inj hg1
          subst hq2
          obtain ⟨hq3, hg3⟩ := Prod.mk.inj hg2
          subst hq3
          obtain ⟨hq4, hg4⟩ := Prod.mk.inj hg3
          subst hq4
          obtain ⟨hq5, hg5⟩ := Prod.mk.inj hg4
          subst hq5
          obtain ⟨hq6, hg6⟩ := Prod.mk.inj hg5
          subst hq6
          obtain ⟨hq7, hg7⟩ := Prod.mk.inj hg6
          subst hq7
          subst hg7
          exact W.iret hx hb hr (fun t ht hW => ⟨⟨_, (), rfl, rfl, by rw [ht]; exact hP, va_K.moved hW.alike hK, hD⟩, hS.F ht⟩) hS.2.2 dX1_compact_59
        · have hf := ift h13 hf
          refine lv_iconst (v := (2 : Int32)) hx hb dX1_compact_26 (by decide) ?_
          refine lv_goto (tgt := 31) hx hb dX1_compact_27 (by decide) ?_
          refine va_put (D := (dC, dI)) (ci := 1) (v := .int (2 : Int32)) (ty := .int) (C := RX1) (T := TX1) (N := 12) hx hb hts (fun w hw => List.mem_cons_of_mem _ (inX1 w hw)) tyX1 tyX1_ok nmX1 hown hK hP hD hS 0 rfl rfl 0 (by decide) (hts _ (List.mem_cons_of_mem _ mw_444)) (fun _ h9 => h9) rfl (by decide +kernel) rfl rfl (Nat.le_of_ble_eq_true rfl) dX1_compact_31 (fun H locs hP hD hS => ?_)
          have hP : va_P (dC, dI) vwCl (wM cI cZ hm b1 b2 b3 b4 b5 b6 b7 b8 b9 (2 : Int32) mk us fi se ki va li ct od ne ro) _ := hP
          have hD : va_D A (wM cI cZ hm b1 b2 b3 b4 b5 b6 b7 b8 b9 (2 : Int32) mk us fi se ki va li ct od ne ro) := hD
          refine lv_aload_n hx hb dX1_compact_34 rfl (lv_at hl 0 rfl) ?_
          refine va_get (D := (dC, dI)) (ci := 1) (v := .int (2 : Int32)) (C := RX1) (T := TX1) (N := 12) hx hb hts (fun w hw => List.mem_cons_of_mem _ (inX1 w hw)) hown hK hP 0 rfl rfl 0 (by decide) (hts _ (List.mem_cons_of_mem _ mw_444)) (fun _ h9 => h9) rfl dX1_compact_35 ?_
          refine lv_if_le (tgt := 43) hx hb dX1_compact_38 (by decide) (fun h9 => absurd h9 (by decide)) (fun _ => ?_)
          refine lv_iconst (v := (0 : Int32)) hx hb dX1_compact_41 (by decide) ?_
          have hg0 := Option.some.inj hf
          obtain ⟨hq1, hg1⟩ := Prod.mk.inj hg0
          subst hq1
          obtain ⟨hq2, hg2⟩ := Prod.mk.inj hg1
          subst hq2
          obtain ⟨hq3, hg3⟩ := Prod.mk.inj hg2
          subst hq3
          obtain ⟨hq4, hg4⟩ := Prod.mk.inj hg3
          subst hq4
          obtain ⟨hq5, hg5⟩ := Prod.mk.inj hg4
          subst hq5
          obtain ⟨hq6, hg6⟩ := Prod.mk.inj hg5
          subst hq6
          obtain ⟨hq7, hg7⟩ := Prod.mk.inj hg6
          subst hq7
          subst hg7
          exact W.iret hx hb hr (fun t ht hW => ⟨⟨_, (), rfl, rfl, by rw [ht]; exact hP, va_K.moved hW.alike hK, hD⟩, hS.F ht⟩) hS.2.2 dX1_compact_42
    · have hf := ifn h2 hf
      refine lv_iconst (v := (1 : Int32)) hx hb dX1_compact_10 (by decide) ?_
      refine lv_goto (tgt := 31) hx hb dX1_compact_11 (by decide) ?_
      refine va_put (D := (dC, dI)) (ci := 1) (v := .int (1 : Int32)) (ty := .int) (C := RX1) (T := TX1) (N := 12) hx hb hts (fun w hw => List.mem_cons_of_mem _ (inX1 w hw)) tyX1 tyX1_ok nmX1 hown hK hP hD hS 0 rfl rfl 0 (by decide) (hts _ (List.mem_cons_of_mem _ mw_444)) (fun _ h9 => h9) rfl (by decide +kernel) rfl rfl (Nat.le_of_ble_eq_true rfl) dX1_compact_31 (fun H locs hP hD hS => ?_)
      have hP : va_P (dC, dI) vwCl (wM cI cZ hm b1 b2 b3 b4 b5 b6 b7 b8 b9 (1 : Int32) mk us fi se ki va li ct od ne ro) _ := hP
      have hD : va_D A (wM cI cZ hm b1 b2 b3 b4 b5 b6 b7 b8 b9 (1 : Int32) mk us fi se ki va li ct od ne ro) := hD
      refine lv_aload_n hx hb dX1_compact_34 rfl (lv_at hl 0 rfl) ?_
      refine va_get (D := (dC, dI)) (ci := 1) (v := .int (1 : Int32)) (C := RX1) (T := TX1) (N := 12) hx hb hts (fun w hw => List.mem_cons_of_mem _ (inX1 w hw)) hown hK hP 0 rfl rfl 0 (by decide) (hts _ (List.mem_cons_of_mem _ mw_444)) (fun _ h9 => h9) rfl dX1_compact_35 ?_
      refine lv_if_le (tgt := 43) hx hb dX1_compact_38 (by decide) (fun h9 => absurd h9 (by decide)) (fun _ => ?_)
      refine lv_iconst (v := (0 : Int32)) hx hb dX1_compact_41 (by decide) ?_
      have hg0 := Option.some.inj hf
      obtain ⟨hq1, hg1⟩ := Prod.mk.inj hg0
      subst hq1
      obtain ⟨hq2, hg2⟩ := Prod.mk.inj hg1
      subst hq2
      obtain ⟨hq3, hg3⟩ := Prod.mk.inj hg2
      subst hq3
      obtain ⟨hq4, hg4⟩ := Prod.mk.inj hg3
      subst hq4
      obtain ⟨hq5, hg5⟩ := Prod.mk.inj hg4
      subst hq5
      obtain ⟨hq6, hg6⟩ := Prod.mk.inj hg5
      subst hq6
      obtain ⟨hq7, hg7⟩ := Prod.mk.inj hg6
      subst hq7
      subst hg7
      exact W.iret hx hb hr (fun t ht hW => ⟨⟨_, (), rfl, rfl, by rw [ht]; exact hP, va_K.moved hW.alike hK, hD⟩, hS.F ht⟩) hS.2.2 dX1_compact_42
set_option maxHeartbeats 4000000 in
set_option maxRecDepth 100000 in
theorem ctX1_allocate (l : Launch) (dC : Nat → ClassId) (dI : Nat → Nat → Nat) (cI cZ cL : ClassId) (hm b1 b2 b3 b4 b5 b6 b7 b8 b9 : Nat) (sz : Nat) (th : Int32) (mk : Int32) (us : Nat → Int32) (fi : Nat → Int32) (se : Nat → Int32) (ki : Nat → Int32) (va : Nat → Int32) (li : Nat → Int32) (ct : Int32) (od : Nat → Int32) (ne : Nat → Int32) (ro : Nat → Int32) (x1 : Int32) (x2 : Int32) (rs : Int32) (th' : Int32) (mk' : Int32) (us' : Nat → Int32) (fi' : Nat → Int32) (se' : Nat → Int32) (ki' : Nat → Int32) (va' : Nat → Int32) (ct' : Int32) (od' : Nat → Int32) (ro' : Nat → Int32) (hf : fX1_allocate th mk us fi se ki va ct od ro x1 x2 = some (rs, th', mk', us', fi', se', ki', va', ct', od', ro')) : Met l yX1_allocate wsX1_allocate rmX1_allocate (va_Pc [.ref hm, .int x1, .int x2] (q_pre (dC, dI) vwCl (tyA cI cZ cL) sz (wM cI cZ hm b1 b2 b3 b4 b5 b6 b7 b8 b9 th mk us fi se ki va li ct od ne ro))) (va_Qi (fun r (_ : Unit) => r = rs) (fun _ => q_post (dC, dI) vwCl (tyA cI cZ cL) (va_A (wM cI cZ hm b1 b2 b3 b4 b5 b6 b7 b8 b9 th mk us fi se ki va li ct od ne ro) sz) (wM cI cZ hm b1 b2 b3 b4 b5 b6 b7 b8 b9 th' mk' us' fi' se' ki' va' li ct' od' ne ro')) (va_A (wM cI cZ hm b1 b2 b3 b4 b5 b6 b7 b8 b9 th mk us fi se ki va li ct od ne ro) sz)) 0 0 (va_A (wM cI cZ hm b1 b2 b3 b4 b5 b6 b7 b8 b9 th mk us fi se ki va li ct od ne ro) sz) := by
  refine Met.ofW (cc := cX1_allocate) (maxL := 3) (ret := (some .int)) (by decide) rfl ?_
  intro p e s m args below meth c s₁ B hml hv
  obtain ⟨rfl, hsz, hP, hK, hD0⟩ := hv
  have hx := B.exec
  have hb := B.bytes
  have hr := B.returns
  have hts := atoms_spec (ws := wsX1_allocate) B.pre
  have hown : s.vm.findClass RX1 = some m.cls := findClass_of_methodNamed B.named
  subst hsz
  have hD := hD0.self (sz := s.heap.size)
  generalize hAe : va_A (wM cI cZ hm b1 b2 b3 b4 b5 b6 b7 b8 b9 th mk us fi se ki va li ct od ne ro) s.heap.size = A at hD ⊢
  have hA : ∀ q : Nat, s.heap.size ≤ q → A q := fun q h => by rw [← hAe]; exact Or.inr h
  have hS : va_S A s.heap s.heap [] := va_S.rf
  have hl := lv_entry ([.ref hm, .int x1, .int x2]) (n := 3) (Nat.le_of_ble_eq_true rfl)
  rw [lg_entry_eq]
  generalize (lg_sl ([.ref hm, .int x1, .int x2]) ++ List.replicate (3 - (lg_sl ([.ref hm, .int x1, .int x2])).length) Slot.unset).toArray = ls at hl ⊢
  have hl : lv_has ls 3 [(0, .ref hm), (1, .int x1), (2, .int x2)] := hl
  unfold fX1_allocate at hf
  refine lv_aload_n hx hb dX1_allocate_0 rfl (lv_at hl 0 rfl) ?_
  refine lv_iload_n hx hb dX1_allocate_1 rfl (lv_at hl 1 rfl) ?_
  obtain ⟨v1, hv, hf⟩ := bd hf
  refine q_ci (wr := (wM cI cZ hm b1 b2 b3 b4 b5 b6 b7 b8 b9 th mk us fi se ki va li ct od ne ro)) (va_runS (As := [.int x1]) (rest := [.ref hm]) ⟨hx, hb, hml, hown, hts⟩ (ctX1_isRoot l dC dI cI cZ cL _ x1 v1 hv) (va_cwS 1 hts (gS mw_526 mw_527 mw_40 mw_528) rfl rfl rfl (by decide +kernel) ⟨Nat.le_of_ble_eq_true rfl, Nat.le_of_ble_eq_true rfl⟩) (q_preS [.int x1] hK hP hD [] (by decide) rfl) rfl rfl hl.1 rfl (lv_room (Nat.le_of_ble_eq_true rfl)) dX1_allocate_2 ⟨Nat.le_of_ble_eq_true rfl, Nat.le_of_ble_eq_true rfl⟩) hP hD hS hA [] [0, 1, 2, 3, 4, 5, 6, 7, 8, 9] rfl rfl (by decide) (by decide) (fun H locs hP hD hS => ?_)
  have hP : va_P (dC, dI) vwCl (wM cI cZ hm b1 b2 b3 b4 b5 b6 b7 b8 b9 th mk us fi se ki va li ct od ne ro) _ := hP
  have hD : va_D A (wM cI cZ hm b1 b2 b3 b4 b5 b6 b7 b8 b9 th mk us fi se ki va li ct od ne ro) := hD
  refine lv_if_ne (tgt := 12) hx hb dX1_allocate_5 (by decide) (fun h2 => ?_) (fun h2 => ?_)
  · have hf := ifn h2 hf
    refine lv_iload_n hx hb dX1_allocate_12 rfl (lv_at hl 2 rfl) ?_
    obtain ⟨v3, hv, hf⟩ := bd hf
    refine q_ci (wr := (wM cI cZ hm b1 b2 b3 b4 b5 b6 b7 b8 b9 th mk us fi se ki va li ct od ne ro)) (va_runS (As := [.int x2]) (rest := [.ref hm]) ⟨hx, hb, hml, hown, hts⟩ (ctX1_isFields l dC dI cI cZ cL _ x2 v3 hv) (va_cwS 1 hts (gS mw_529 mw_530 mw_40 mw_531) rfl rfl rfl (by decide +kernel) ⟨Nat.le_of_ble_eq_true rfl, Nat.le_of_ble_eq_true rfl⟩) (q_preS [.int x2] hK hP hD [] (by decide) rfl) rfl rfl hl.1 rfl (lv_room (Nat.le_of_ble_eq_true rfl)) dX1_allocate_13 ⟨Nat.le_of_ble_eq_true rfl, Nat.le_of_ble_eq_true rfl⟩) hP hD hS hA [] [0, 1, 2, 3, 4, 5, 6, 7, 8, 9] rfl rfl (by decide) (by decide) (fun H locs hP hD hS => ?_)
    have hP : va_P (dC, dI) vwCl (wM cI cZ hm b1 b2 b3 b4 b5 b6 b7 b8 b9 th mk us fi se ki va li ct od ne ro) _ := hP
    have hD : va_D A (wM cI cZ hm b1 b2 b3 b4 b5 b6 b7 b8 b9 th mk us fi se ki va li ct od ne ro) := hD
    refine lv_if_ne (tgt := 23) hx hb dX1_allocate_16 (by decide) (fun h4 => ?_) (fun h4 => ?_)
    · have hf := ifn h4 hf
      refine lv_aload_n hx hb dX1_allocate_23 rfl (lv_at hl 0 rfl) ?_
      refine lv_iload_n hx hb dX1_allocate_24 rfl (lv_at hl 2 rfl) ?_
      obtain ⟨v5, hv, hf⟩ := bd hf
      refine q_ci (wr := []) (va_runV (As := [.int x2]) (rest := [.ref hm]) ⟨hx, hb, hml, hown, hts⟩ (ctX1_fits l dC dI cI cZ cL hm b1 b2 b3 b4 b5 b6 b7 b8 b9 _ th mk us fi se ki va li ct od ne ro x2 v5 hv) (cwV 1 hts (gV mw_532 mw_534 mw_31 mw_40 mw_535) rfl rfl rfl (by decide +kernel) ⟨Nat.le_of_ble_eq_true rfl, Nat.le_of_ble_eq_true rfl⟩) (q_preV [.int x2] hK hP hD [0, 1, 2, 3, 4, 5, 6, 7, 8, 9] (by decide) rfl (ci := 1) rfl rfl) rfl rfl hl.1 rfl (lv_room (Nat.le_of_ble_eq_true rfl)) dX1_allocate_25 ⟨Nat.le_of_ble_eq_true rfl, Nat.le_of_ble_eq_true rfl⟩) hP hD hS hA [0, 1, 2, 3, 4, 5, 6, 7, 8, 9] [] rfl rfl (by decide) (by decide) (fun H locs hP hD hS => ?_)
      have hP : va_P (dC, dI) vwCl (wM cI cZ hm b1 b2 b3 b4 b5 b6 b7 b8 b9 th mk us fi se ki va li ct od ne ro) _ := hP
      have hD : va_D A (wM cI cZ hm b1 b2 b3 b4 b5 b6 b7 b8 b9 th mk us fi se ki va li ct od ne ro) := hD
      refine lv_if_eq (tgt := 35) hx hb dX1_allocate_28 (by decide) (fun h6 => ?_) (fun h6 => ?_)
      · have hf := ift h6 hf
        refine lv_iconst (v := (3 : Int32)) hx hb dX1_allocate_35 (by decide) ?_
        refine va_put (D := (dC, dI)) (ci := 1) (v := .int (3 : Int32)) (ty := .int) (C := RX1) (T := TX1) (N := 12) hx hb hts (fun w hw => List.mem_cons_of_mem _ (inX1 w hw)) tyX1 tyX1_ok nmX1 hown hK hP hD hS 0 rfl rfl 0 (by decide) (hts _ (List.mem_cons_of_mem _ mw_444)) (fun _ h9 => h9) rfl (by decide +kernel) rfl rfl (Nat.le_of_ble_eq_true rfl) dX1_allocate_36 (fun H locs hP hD hS => ?_)
        have hP : va_P (dC, dI) vwCl (wM cI cZ hm b1 b2 b3 b4 b5 b6 b7 b8 b9 (3 : Int32) mk us fi se ki va li ct od ne ro) _ := hP
        have hD : va_D A (wM cI cZ hm b1 b2 b3 b4 b5 b6 b7 b8 b9 (3 : Int32) mk us fi se ki va li ct od ne ro) := hD
        refine lv_aload_n hx hb dX1_allocate_39 rfl (lv_at hl 0 rfl) ?_
        refine va_get (D := (dC, dI)) (ci := 1) (v := .int (3 : Int32)) (C := RX1) (T := TX1) (N := 12) hx hb hts (fun w hw => List.mem_cons_of_mem _ (inX1 w hw)) hown hK hP 0 rfl rfl 0 (by decide) (hts _ (List.mem_cons_of_mem _ mw_444)) (fun _ h9 => h9) rfl dX1_allocate_40 ?_
        refine lv_if_le (tgt := 50) hx hb dX1_allocate_43 (by decide) (fun h9 => absurd h9 (by decide)) (fun _ => ?_)
        refine lv_iconst (v := (0 : Int32)) hx hb dX1_allocate_46 (by decide) ?_
        refine lv_goto (tgt := 56) hx hb dX1_allocate_47 (by decide) ?_
        have hg0 := Option.some.inj hf
        obtain ⟨hq1, hg1⟩ := Prod.mk.inj hg0
        subst hq1
        obtain ⟨hq2, hg2⟩ := Prod.mk.inj hg1
        subst hq2
        obtain ⟨hq3, hg3⟩ := Prod.mk.inj hg2
        subst hq3
        obtain ⟨hq4, hg4⟩ := Prod.mk.inj hg3
        subst hq4
        obtain ⟨hq5, hg5⟩ := Prod.mk.inj hg4
        subst hq5
        obtain ⟨hq6, hg6⟩ := Prod.mk.inj hg5
        subst hq6
        obtain ⟨hq7, hg7⟩ := Prod.mk.inj hg6
        subst hq7
        obtain ⟨hq8, hg8⟩ := Prod.mk.inj hg7
        subst hq8
        obtain ⟨hq9, hg9⟩ := Prod.mk.inj hg8
        subst hq9
        obtain ⟨hq10, hg10⟩ := Prod.mk.inj hg9
        subst hq10
        subst hg10
        exact W.iret hx hb hr (fun t ht hW => ⟨⟨_, (), rfl, rfl, by rw [ht]; exact hP, va_K.moved hW.alike hK, hD⟩, hS.F ht⟩) hS.2.2 dX1_allocate_56
      · have hf := ifn h6 hf
        refine lv_iconst (v := (0 : Int32)) hx hb dX1_allocate_31 (by decide) ?_
        refine lv_goto (tgt := 36) hx hb dX1_allocate_32 (by decide) ?_
        refine va_put (D := (dC, dI)) (ci := 1) (v := .int (0 : Int32)) (ty := .int) (C := RX1) (T := TX1) (N := 12) hx hb hts (fun w hw => List.mem_cons_of_mem _ (inX1 w hw)) tyX1 tyX1_ok nmX1 hown hK hP hD hS 0 rfl rfl 0 (by decide) (hts _ (List.mem_cons_of_mem _ mw_444)) (fun _ h9 => h9) rfl (by decide +kernel) rfl rfl (Nat.le_of_ble_eq_true rfl) dX1_allocate_36 (fun H locs hP hD hS => ?_)
        have hP : va_P (dC, dI) vwCl (wM cI cZ hm b1 b2 b3 b4 b5 b6 b7 b8 b9 (0 : Int32) mk us fi se ki va li ct od ne ro) _ := hP
        have hD : va_D A (wM cI cZ hm b1 b2 b3 b4 b5 b6 b7 b8 b9 (0 : Int32) mk us fi se ki va li ct od ne ro) := hD
        refine lv_aload_n hx hb dX1_allocate_39 rfl (lv_at hl 0 rfl) ?_
        refine va_get (D := (dC, dI)) (ci := 1) (v := .int (0 : Int32)) (C := RX1) (T := TX1) (N := 12) hx hb hts (fun w hw => List.mem_cons_of_mem _ (inX1 w hw)) hown hK hP 0 rfl rfl 0 (by decide) (hts _ (List.mem_cons_of_mem _ mw_444)) (fun _ h9 => h9) rfl dX1_allocate_40 ?_
        refine lv_if_le (tgt := 50) hx hb dX1_allocate_43 (by decide) (fun _ => ?_) (fun h9 => absurd h9 (by decide))
        refine lv_aload_n hx hb dX1_allocate_50 rfl (lv_at hl 0 rfl) ?_
        refine lv_iload_n hx hb dX1_allocate_51 rfl (lv_at hl 1 rfl) ?_
        refine lv_iload_n hx hb dX1_allocate_52 rfl (lv_at hl 2 rfl) ?_
        obtain ⟨⟨v7, mk_8, us_9, fi_10, se_11, ki_12, va_13, ct_14, od_15, ro_16⟩, hv, hf⟩ := bd hf
        dsimp only at hf
        refine q_ci (wr := []) (va_runV (As := [.int x1, .int x2]) (rest := []) ⟨hx, hb, hml, hown, hts⟩ (ctX1_make l dC dI cI cZ cL hm b1 b2 b3 b4 b5 b6 b7 b8 b9 _ (0 : Int32) mk us fi se ki va li ct od ne ro x1 x2 v7 mk_8 us_9 fi_10 se_11 ki_12 va_13 ct_14 od_15 ro_16 hv) (cwV 2 hts (gV mw_536 mw_538 mw_32 mw_40 mw_539) rfl rfl rfl (by decide +kernel) ⟨Nat.le_of_ble_eq_true rfl, Nat.le_of_ble_eq_true rfl⟩) (q_preV [.int x1, .int x2] hK hP hD [0, 1, 2, 3, 4, 5, 6, 7, 8, 9] (by decide) rfl (ci := 1) rfl rfl) rfl rfl hl.1 rfl (lv_room (Nat.le_of_ble_eq_true rfl)) dX1_allocate_53 ⟨Nat.le_of_ble_eq_true rfl, Nat.le_of_ble_eq_true rfl⟩) hP hD hS hA [0, 1, 2, 3, 4, 5, 6, 7, 8, 9] [] rfl rfl (by decide) (by decide) (fun H locs hP hD hS => ?_)
        have hP : va_P (dC, dI) vwCl (wM cI cZ hm b1 b2 b3 b4 b5 b6 b7 b8 b9 (0 : Int32) mk_8 us_9 fi_10 se_11 ki_12 va_13 li ct_14 od_15 ne ro_16) _ := hP
        have hD : va_D A (wM cI cZ hm b1 b2 b3 b4 b5 b6 b7 b8 b9 (0 : Int32) mk_8 us_9 fi_10 se_11 ki_12 va_13 li ct_14 od_15 ne ro_16) := hD
        have hg0 := Option.some.inj hf
        obtain ⟨hq1, hg1⟩ := Prod.mk.inj hg0
        subst hq1
        obtain ⟨hq2, hg2⟩ := Prod.mk.inj hg1
        subst hq2
        obtain ⟨hq3, hg3⟩ := Prod.mk.inj hg2
        subst hq3
        obtain ⟨hq4, hg4⟩ := Prod.mk.inj hg3
        subst hq4
        obtain ⟨hq5, hg5⟩ := Prod.mk.inj hg4
        subst hq5
        obtain ⟨hq6, hg6⟩ := Prod.mk.inj hg5
        subst hq6
        obtain ⟨hq7, hg7⟩ := Prod.mk.inj hg6
        subst hq7
        obtain ⟨hq8, hg8⟩ := Prod.mk.inj hg7
        subst hq8
        obtain ⟨hq9, hg9⟩ := Prod.mk.inj hg8
        subst hq9
        obtain ⟨hq10, hg10⟩ := Prod.mk.inj hg9
        subst hq10
        subst hg10
        exact W.iret hx hb hr (fun t ht hW => ⟨⟨_, (), rfl, rfl, by rw [ht]; exact hP, va_K.moved hW.alike hK, hD⟩, hS.F ht⟩) hS.2.2 dX1_allocate_56
    · have hf := ift h4 hf
      refine lv_iconst (v := (2 : Int32)) hx hb dX1_allocate_19 (by decide) ?_
      refine lv_goto (tgt := 36) hx hb dX1_allocate_20 (by decide) ?_
      refine va_put (D := (dC, dI)) (ci := 1) (v := .int (2 : Int32)) (ty := .int) (C := RX1) (T := TX1) (N := 12) hx hb hts (fun w hw => List.mem_cons_of_mem _ (inX1 w hw)) tyX1 tyX1_ok nmX1 hown hK hP hD hS 0 rfl rfl 0 (by decide) (hts _ (List.mem_cons_of_mem _ mw_444)) (fun _ h9 => h9) rfl (by decide +kernel) rfl rfl (Nat.le_of_ble_eq_true rfl) dX1_allocate_36 (fun H locs hP hD hS => ?_)
      have hP : va_P (dC, dI) vwCl (wM cI cZ hm b1 b2 b3 b4 b5 b6 b7 b8 b9 (2 : Int32) mk us fi se ki va li ct od ne ro) _ := hP
      have hD : va_D A (wM cI cZ hm b1 b2 b3 b4 b5 b6 b7 b8 b9 (2 : Int32) mk us fi se ki va li ct od ne ro) := hD
      refine lv_aload_n hx hb dX1_allocate_39 rfl (lv_at hl 0 rfl) ?_
      refine va_get (D := (dC, dI)) (ci := 1) (v := .int (2 : Int32)) (C := RX1) (T := TX1) (N := 12) hx hb hts (fun w hw => List.mem_cons_of_mem _ (inX1 w hw)) hown hK hP 0 rfl rfl 0 (by decide) (hts _ (List.mem_cons_of_mem _ mw_444)) (fun _ h9 => h9) rfl dX1_allocate_40 ?_
      refine lv_if_le (tgt := 50) hx hb dX1_allocate_43 (by decide) (fun h9 => absurd h9 (by decide)) (fun _ => ?_)
      refine lv_iconst (v := (0 : Int32)) hx hb dX1_allocate_46 (by decide) ?_
      refine lv_goto (tgt := 56) hx hb dX1_allocate_47 (by decide) ?_
      have hg0 := Option.some.inj hf
      obtain ⟨hq1, hg1⟩ := Prod.mk.inj hg0
      subst hq1
      obtain ⟨hq2, hg2⟩ := Prod.mk.inj hg1
      subst hq2
      obtain ⟨hq3, hg3⟩ := Prod.mk.inj hg2
      subst hq3
      obtain ⟨hq4, hg4⟩ := Prod.mk.inj hg3
      subst hq4
      obtain ⟨hq5, hg5⟩ := Prod.mk.inj hg4
      subst hq5
      obtain ⟨hq6, hg6⟩ := Prod.mk.inj hg5
      subst hq6
      obtain ⟨hq7, hg7⟩ := Prod.mk.inj hg6
      subst hq7
      obtain ⟨hq8, hg8⟩ := Prod.mk.inj hg7
      subst hq8
      obtain ⟨hq9, hg9⟩ := Prod.mk.inj hg8
      subst hq9
      obtain ⟨hq10, hg10⟩ := Prod.mk.inj hg9
      subst hq10
      subst hg10
      exact W.iret hx hb hr (fun t ht hW => ⟨⟨_, (), rfl, rfl, by rw [ht]; exact hP, va_K.moved hW.alike hK, hD⟩, hS.F ht⟩) hS.2.2 dX1_allocate_56
  · have hf := ift h2 hf
    refine lv_iconst (v := (1 : Int32)) hx hb dX1_allocate_8 (by decide) ?_
    refine lv_goto (tgt := 36) hx hb dX1_allocate_9 (by decide) ?_
    refine va_put (D := (dC, dI)) (ci := 1) (v := .int (1 : Int32)) (ty := .int) (C := RX1) (T := TX1) (N := 12) hx hb hts (fun w hw => List.mem_cons_of_mem _ (inX1 w hw)) tyX1 tyX1_ok nmX1 hown hK hP hD hS 0 rfl rfl 0 (by decide) (hts _ (List.mem_cons_of_mem _ mw_444)) (fun _ h9 => h9) rfl (by decide +kernel) rfl rfl (Nat.le_of_ble_eq_true rfl) dX1_allocate_36 (fun H locs hP hD hS => ?_)
    have hP : va_P (dC, dI) vwCl (wM cI cZ hm b1 b2 b3 b4 b5 b6 b7 b8 b9 (1 : Int32) mk us fi se ki va li ct od ne ro) _ := hP
    have hD : va_D A (wM cI cZ hm b1 b2 b3 b4 b5 b6 b7 b8 b9 (1 : Int32) mk us fi se ki va li ct od ne ro) := hD
    refine lv_aload_n hx hb dX1_allocate_39 rfl (lv_at hl 0 rfl) ?_
    refine va_get (D := (dC, dI)) (ci := 1) (v := .int (1 : Int32)) (C := RX1) (T := TX1) (N := 12) hx hb hts (fun w hw => List.mem_cons_of_mem _ (inX1 w hw)) hown hK hP 0 rfl rfl 0 (by decide) (hts _ (List.mem_cons_of_mem _ mw_444)) (fun _ h9 => h9) rfl dX1_allocate_40 ?_
    refine lv_if_le (tgt := 50) hx hb dX1_allocate_43 (by decide) (fun h9 => absurd h9 (by decide)) (fun _ => ?_)
    refine lv_iconst (v := (0 : Int32)) hx hb dX1_allocate_46 (by decide) ?_
    refine lv_goto (tgt := 56) hx hb dX1_allocate_47 (by decide) ?_
    have hg0 := Option.some.inj hf
    obtain ⟨hq1, hg1⟩ := Prod.mk.inj hg0
    subst hq1
    obtain ⟨hq2, hg2⟩ := Prod.mk.inj hg1
    subst hq2
    obtain ⟨hq3, hg3⟩ := Prod.mk.inj hg2
    subst hq3
    obtain ⟨hq4, hg4⟩ := Prod.mk.inj hg3
    subst hq4
    obtain ⟨hq5, hg5⟩ := Prod.mk.inj hg4
    subst hq5
    obtain ⟨hq6, hg6⟩ := Prod.mk.inj hg5
    subst hq6
    obtain ⟨hq7, hg7⟩ := Prod.mk.inj hg6
    subst hq7
    obtain ⟨hq8, hg8⟩ := Prod.mk.inj hg7
    subst hq8
    obtain ⟨hq9, hg9⟩ := Prod.mk.inj hg8
    subst hq9
    obtain ⟨hq10, hg10⟩ := Prod.mk.inj hg9
    subst hq10
    subst hg10
    exact W.iret hx hb hr (fun t ht hW => ⟨⟨_, (), rfl, rfl, by rw [ht]; exact hP, va_K.moved hW.alike hK, hD⟩, hS.F ht⟩) hS.2.2 dX1_allocate_56
set_option maxHeartbeats 4000000 in
set_option maxRecDepth 100000 in
theorem ctX1_claim (l : Launch) (dC : Nat → ClassId) (dI : Nat → Nat → Nat) (cI cZ cL : ClassId) (hm b1 b2 b3 b4 b5 b6 b7 b8 b9 : Nat) (sz : Nat) (th : Int32) (mk : Int32) (us : Nat → Int32) (fi : Nat → Int32) (se : Nat → Int32) (ki : Nat → Int32) (va : Nat → Int32) (li : Nat → Int32) (ct : Int32) (od : Nat → Int32) (ne : Nat → Int32) (ro : Nat → Int32) (x1 : Int32) (x2 : Int32) (x3 : Int32) (rs : Int32) (th' : Int32) (mk' : Int32) (us' : Nat → Int32) (fi' : Nat → Int32) (se' : Nat → Int32) (ki' : Nat → Int32) (va' : Nat → Int32) (li' : Nat → Int32) (ct' : Int32) (od' : Nat → Int32) (ne' : Nat → Int32) (ro' : Nat → Int32) (hf : fX1_claim th mk us fi se ki va li ct od ne ro x1 x2 x3 = some (rs, th', mk', us', fi', se', ki', va', li', ct', od', ne', ro')) : Met l yX1_claim wsX1_claim rmX1_claim (va_Pc [.ref hm, .int x1, .int x2, .int x3] (q_pre (dC, dI) vwCl (tyA cI cZ cL) sz (wM cI cZ hm b1 b2 b3 b4 b5 b6 b7 b8 b9 th mk us fi se ki va li ct od ne ro))) (va_Qi (fun r (_ : Unit) => r = rs) (fun _ => q_post (dC, dI) vwCl (tyA cI cZ cL) (va_A (wM cI cZ hm b1 b2 b3 b4 b5 b6 b7 b8 b9 th mk us fi se ki va li ct od ne ro) sz) (wM cI cZ hm b1 b2 b3 b4 b5 b6 b7 b8 b9 th' mk' us' fi' se' ki' va' li' ct' od' ne' ro')) (va_A (wM cI cZ hm b1 b2 b3 b4 b5 b6 b7 b8 b9 th mk us fi se ki va li ct od ne ro) sz)) 0 0 (va_A (wM cI cZ hm b1 b2 b3 b4 b5 b6 b7 b8 b9 th mk us fi se ki va li ct od ne ro) sz) := by
  refine Met.ofW (cc := cX1_claim) (maxL := 4) (ret := (some .int)) (by decide) rfl ?_
  intro p e s m args below meth c s₁ B hml hv
  obtain ⟨rfl, hsz, hP, hK, hD0⟩ := hv
  have hx := B.exec
  have hb := B.bytes
  have hr := B.returns
  have hts := atoms_spec (ws := wsX1_claim) B.pre
  have hown : s.vm.findClass RX1 = some m.cls := findClass_of_methodNamed B.named
  subst hsz
  have hD := hD0.self (sz := s.heap.size)
  generalize hAe : va_A (wM cI cZ hm b1 b2 b3 b4 b5 b6 b7 b8 b9 th mk us fi se ki va li ct od ne ro) s.heap.size = A at hD ⊢
  have hA : ∀ q : Nat, s.heap.size ≤ q → A q := fun q h => by rw [← hAe]; exact Or.inr h
  have hS : va_S A s.heap s.heap [] := va_S.rf
  have hl := lv_entry ([.ref hm, .int x1, .int x2, .int x3]) (n := 4) (Nat.le_of_ble_eq_true rfl)
  rw [lg_entry_eq]
  generalize (lg_sl ([.ref hm, .int x1, .int x2, .int x3]) ++ List.replicate (4 - (lg_sl ([.ref hm, .int x1, .int x2, .int x3])).length) Slot.unset).toArray = ls at hl ⊢
  have hl : lv_has ls 4 [(0, .ref hm), (1, .int x1), (2, .int x2), (3, .int x3)] := hl
  unfold fX1_claim at hf
  refine lv_aload_n hx hb dX1_claim_0 rfl (lv_at hl 0 rfl) ?_
  refine lv_iload_n hx hb dX1_claim_1 rfl (lv_at hl 1 rfl) ?_
  obtain ⟨v1, hv, hf⟩ := bd hf
  refine q_ci (wr := (wM cI cZ hm b1 b2 b3 b4 b5 b6 b7 b8 b9 th mk us fi se ki va li ct od ne ro)) (va_runS (As := [.int x1]) (rest := [.ref hm]) ⟨hx, hb, hml, hown, hts⟩ (ctX1_isRoot l dC dI cI cZ cL _ x1 v1 hv) (va_cwS 1 hts (gS mw_526 mw_527 mw_40 mw_528) rfl rfl rfl (by decide +kernel) ⟨Nat.le_of_ble_eq_true rfl, Nat.le_of_ble_eq_true rfl⟩) (q_preS [.int x1] hK hP hD [] (by decide) rfl) rfl rfl hl.1 rfl (lv_room (Nat.le_of_ble_eq_true rfl)) dX1_claim_2 ⟨Nat.le_of_ble_eq_true rfl, Nat.le_of_ble_eq_true rfl⟩) hP hD hS hA [] [0, 1, 2, 3, 4, 5, 6, 7, 8, 9] rfl rfl (by decide) (by decide) (fun H locs hP hD hS => ?_)
  have hP : va_P (dC, dI) vwCl (wM cI cZ hm b1 b2 b3 b4 b5 b6 b7 b8 b9 th mk us fi se ki va li ct od ne ro) _ := hP
  have hD : va_D A (wM cI cZ hm b1 b2 b3 b4 b5 b6 b7 b8 b9 th mk us fi se ki va li ct od ne ro) := hD
  refine lv_if_ne (tgt := 12) hx hb dX1_claim_5 (by decide) (fun h2 => ?_) (fun h2 => ?_)
  · have hf := ifn h2 hf
    refine lv_iload_n hx hb dX1_claim_12 rfl (lv_at hl 2 rfl) ?_
    obtain ⟨v3, hv, hf⟩ := bd hf
    refine q_ci (wr := (wM cI cZ hm b1 b2 b3 b4 b5 b6 b7 b8 b9 th mk us fi se ki va li ct od ne ro)) (va_runS (As := [.int x2]) (rest := [.ref hm]) ⟨hx, hb, hml, hown, hts⟩ (ctX1_isFields l dC dI cI cZ cL _ x2 v3 hv) (va_cwS 1 hts (gS mw_529 mw_530 mw_40 mw_531) rfl rfl rfl (by decide +kernel) ⟨Nat.le_of_ble_eq_true rfl, Nat.le_of_ble_eq_true rfl⟩) (q_preS [.int x2] hK hP hD [] (by decide) rfl) rfl rfl hl.1 rfl (lv_room (Nat.le_of_ble_eq_true rfl)) dX1_claim_13 ⟨Nat.le_of_ble_eq_true rfl, Nat.le_of_ble_eq_true rfl⟩) hP hD hS hA [] [0, 1, 2, 3, 4, 5, 6, 7, 8, 9] rfl rfl (by decide) (by decide) (fun H locs hP hD hS => ?_)
    have hP : va_P (dC, dI) vwCl (wM cI cZ hm b1 b2 b3 b4 b5 b6 b7 b8 b9 th mk us fi se ki va li ct od ne ro) _ := hP
    have hD : va_D A (wM cI cZ hm b1 b2 b3 b4 b5 b6 b7 b8 b9 th mk us fi se ki va li ct od ne ro) := hD
    refine lv_if_eq (tgt := 28) hx hb dX1_claim_16 (by decide) (fun h4 => ?_) (fun h4 => ?_)
    · have hf := ift h4 hf
      refine lv_iconst (v := (2 : Int32)) hx hb dX1_claim_28 (by decide) ?_
      refine lv_goto (tgt := 33) hx hb dX1_claim_29 (by decide) ?_
      refine va_put (D := (dC, dI)) (ci := 1) (v := .int (2 : Int32)) (ty := .int) (C := RX1) (T := TX1) (N := 12) hx hb hts (fun w hw => List.mem_cons_of_mem _ (inX1 w hw)) tyX1 tyX1_ok nmX1 hown hK hP hD hS 0 rfl rfl 0 (by decide) (hts _ (List.mem_cons_of_mem _ mw_444)) (fun _ h9 => h9) rfl (by decide +kernel) rfl rfl (Nat.le_of_ble_eq_true rfl) dX1_claim_33 (fun H locs hP hD hS => ?_)
      have hP : va_P (dC, dI) vwCl (wM cI cZ hm b1 b2 b3 b4 b5 b6 b7 b8 b9 (2 : Int32) mk us fi se ki va li ct od ne ro) _ := hP
      have hD : va_D A (wM cI cZ hm b1 b2 b3 b4 b5 b6 b7 b8 b9 (2 : Int32) mk us fi se ki va li ct od ne ro) := hD
      refine lv_aload_n hx hb dX1_claim_36 rfl (lv_at hl 0 rfl) ?_
      refine va_get (D := (dC, dI)) (ci := 1) (v := .int (2 : Int32)) (C := RX1) (T := TX1) (N := 12) hx hb hts (fun w hw => List.mem_cons_of_mem _ (inX1 w hw)) hown hK hP 0 rfl rfl 0 (by decide) (hts _ (List.mem_cons_of_mem _ mw_444)) (fun _ h9 => h9) rfl dX1_claim_37 ?_
      refine lv_if_ne (tgt := 101) hx hb dX1_claim_40 (by decide) (fun _ => ?_) (fun h9 => absurd h9 (by decide))
      refine lv_aload_n hx hb dX1_claim_101 rfl (lv_at hl 0 rfl) ?_
      refine va_get (D := (dC, dI)) (ci := 1) (v := .int (2 : Int32)) (C := RX1) (T := TX1) (N := 12) hx hb hts (fun w hw => List.mem_cons_of_mem _ (inX1 w hw)) hown hK hP 0 rfl rfl 0 (by decide) (hts _ (List.mem_cons_of_mem _ mw_444)) (fun _ h9 => h9) rfl dX1_claim_102 ?_
      refine lv_if_le (tgt := 112) hx hb dX1_claim_105 (by decide) (fun h9 => absurd h9 (by decide)) (fun _ => ?_)
      refine lv_iconst (v := (0 : Int32)) hx hb dX1_claim_108 (by decide) ?_
      refine lv_goto (tgt := 118) hx hb dX1_claim_109 (by decide) ?_
      have hg0 := Option.some.inj hf
      obtain ⟨hq1, hg1⟩ := Prod.mk.inj hg0
      subst hq1
      obtain ⟨hq2, hg2⟩ := Prod.mk.inj hg1
      subst hq2
      obtain ⟨hq3, hg3⟩ := Prod.mk.inj hg2
      subst hq3
      obtain ⟨hq4, hg4⟩ := Prod.mk.inj hg3
      subst hq4
      obtain ⟨hq5, hg5⟩ := Prod.mk.inj hg4
      subst hq5
      obtain ⟨hq6, hg6⟩ := Prod.mk.inj hg5
      subst hq6
      obtain ⟨hq7, hg7⟩ := Prod.mk.inj hg6
      subst hq7
      obtain ⟨hq8, hg8⟩ := Prod.mk.inj hg7
      subst hq8
      obtain ⟨hq9, hg9⟩ := Prod.mk.inj hg8
      subst hq9
      obtain ⟨hq10, hg10⟩ := Prod.mk.inj hg9
      subst hq10
      obtain ⟨hq11, hg11⟩ := Prod.mk.inj hg10
      subst hq11
      obtain ⟨hq12, hg12⟩ := Prod.mk.inj hg11
      subst hq12
      subst hg12
      exact W.iret hx hb hr (fun t ht hW => ⟨⟨_, (), rfl, rfl, by rw [ht]; exact hP, va_K.moved hW.alike hK, hD⟩, hS.F ht⟩) hS.2.2 dX1_claim_118
    · have hf := ifn h4 hf
      refine lv_iload_n hx hb dX1_claim_19 rfl (lv_at hl 3 rfl) ?_
      refine lv_if_lt (tgt := 28) hx hb dX1_claim_20 (by decide) (fun h5 => ?_) (fun h5 => ?_)
      · have hf := ift h5 hf
        refine lv_iconst (v := (2 : Int32)) hx hb dX1_claim_28 (by decide) ?_
        refine lv_goto (tgt := 33) hx hb dX1_claim_29 (by decide) ?_
        refine va_put (D := (dC, dI)) (ci := 1) (v := .int (2 : Int32)) (ty := .int) (C := RX1) (T := TX1) (N := 12) hx hb hts (fun w hw => List.mem_cons_of_mem _ (inX1 w hw)) tyX1 tyX1_ok nmX1 hown hK hP hD hS 0 rfl rfl 0 (by decide) (hts _ (List.mem_cons_of_mem _ mw_444)) (fun _ h9 => h9) rfl (by decide +kernel) rfl rfl (Nat.le_of_ble_eq_true rfl) dX1_claim_33 (fun H locs hP hD hS => ?_)
        have hP : va_P (dC, dI) vwCl (wM cI cZ hm b1 b2 b3 b4 b5 b6 b7 b8 b9 (2 : Int32) mk us fi se ki va li ct od ne ro) _ := hP
        have hD : va_D A (wM cI cZ hm b1 b2 b3 b4 b5 b6 b7 b8 b9 (2 : Int32) mk us fi se ki va li ct od ne ro) := hD
        refine lv_aload_n hx hb dX1_claim_36 rfl (lv_at hl 0 rfl) ?_
        refine va_get (D := (dC, dI)) (ci := 1) (v := .int (2 : Int32)) (C := RX1) (T := TX1) (N := 12) hx hb hts (fun w hw => List.mem_cons_of_mem _ (inX1 w hw)) hown hK hP 0 rfl rfl 0 (by decide) (hts _ (List.mem_cons_of_mem _ mw_444)) (fun _ h9 => h9) rfl dX1_claim_37 ?_
        refine lv_if_ne (tgt := 101) hx hb dX1_claim_40 (by decide) (fun _ => ?_) (fun h9 => absurd h9 (by decide))
        refine lv_aload_n hx hb dX1_claim_101 rfl (lv_at hl 0 rfl) ?_
        refine va_get (D := (dC, dI)) (ci := 1) (v := .int (2 : Int32)) (C := RX1) (T := TX1) (N := 12) hx hb hts (fun w hw => List.mem_cons_of_mem _ (inX1 w hw)) hown hK hP 0 rfl rfl 0 (by decide) (hts _ (List.mem_cons_of_mem _ mw_444)) (fun _ h9 => h9) rfl dX1_claim_102 ?_
        refine lv_if_le (tgt := 112) hx hb dX1_claim_105 (by decide) (fun h9 => absurd h9 (by decide)) (fun _ => ?_)
        refine lv_iconst (v := (0 : Int32)) hx hb dX1_claim_108 (by decide) ?_
        refine lv_goto (tgt := 118) hx hb dX1_claim_109 (by decide) ?_
        have hg0 := Option.some.inj hf
        obtain ⟨hq1, hg1⟩ := Prod.mk.inj hg0
        subst hq1
        obtain ⟨hq2, hg2⟩ := Prod.mk.inj hg1
        subst hq2
        obtain ⟨hq3, hg3⟩ := Prod.mk.inj hg2
        subst hq3
        obtain ⟨hq4, hg4⟩ := Prod.mk.inj hg3
        subst hq4
        obtain ⟨hq5, hg5⟩ := Prod.mk.inj hg4
        subst hq5
        obtain ⟨hq6, hg6⟩ := Prod.mk.inj hg5
        subst hq6
        obtain ⟨hq7, hg7⟩ := Prod.mk.inj hg6
        subst hq7
        obtain ⟨hq8, hg8⟩ := Prod.mk.inj hg7
        subst hq8
        obtain ⟨hq9, hg9⟩ := Prod.mk.inj hg8
        subst hq9
        obtain ⟨hq10, hg10⟩ := Prod.mk.inj hg9
        subst hq10
        obtain ⟨hq11, hg11⟩ := Prod.mk.inj hg10
        subst hq11
        obtain ⟨hq12, hg12⟩ := Prod.mk.inj hg11
        subst hq12
        subst hg12
        exact W.iret hx hb hr (fun t ht hW => ⟨⟨_, (), rfl, rfl, by rw [ht]; exact hP, va_K.moved hW.alike hK, hD⟩, hS.F ht⟩) hS.2.2 dX1_claim_118
      · have hf := ifn h5 hf
        refine lv_iload_n hx hb dX1_claim_23 rfl (lv_at hl 3 rfl) ?_
        refine lv_iconst (v := (2 : Int32)) hx hb dX1_claim_24 (by decide) ?_
        refine lv_icmp_le (tgt := 32) hx hb dX1_claim_25 (by decide) (fun h6 => ?_) (fun h6 => ?_)
        · have hf := ift h6 hf
          refine lv_iconst (v := (0 : Int32)) hx hb dX1_claim_32 (by decide) ?_
          refine va_put (D := (dC, dI)) (ci := 1) (v := .int (0 : Int32)) (ty := .int) (C := RX1) (T := TX1) (N := 12) hx hb hts (fun w hw => List.mem_cons_of_mem _ (inX1 w hw)) tyX1 tyX1_ok nmX1 hown hK hP hD hS 0 rfl rfl 0 (by decide) (hts _ (List.mem_cons_of_mem _ mw_444)) (fun _ h9 => h9) rfl (by decide +kernel) rfl rfl (Nat.le_of_ble_eq_true rfl) dX1_claim_33 (fun H locs hP hD hS => ?_)
          have hP : va_P (dC, dI) vwCl (wM cI cZ hm b1 b2 b3 b4 b5 b6 b7 b8 b9 (0 : Int32) mk us fi se ki va li ct od ne ro) _ := hP
          have hD : va_D A (wM cI cZ hm b1 b2 b3 b4 b5 b6 b7 b8 b9 (0 : Int32) mk us fi se ki va li ct od ne ro) := hD
          refine lv_aload_n hx hb dX1_claim_36 rfl (lv_at hl 0 rfl) ?_
          refine va_get (D := (dC, dI)) (ci := 1) (v := .int (0 : Int32)) (C := RX1) (T := TX1) (N := 12) hx hb hts (fun w hw => List.mem_cons_of_mem _ (inX1 w hw)) hown hK hP 0 rfl rfl 0 (by decide) (hts _ (List.mem_cons_of_mem _ mw_444)) (fun _ h9 => h9) rfl dX1_claim_37 ?_
          refine lv_if_ne (tgt := 101) hx hb dX1_claim_40 (by decide) (fun h9 => absurd h9 (by decide)) (fun _ => ?_)
          refine lv_aload_n hx hb dX1_claim_43 rfl (lv_at hl 0 rfl) ?_
          refine lv_iload_n hx hb dX1_claim_44 rfl (lv_at hl 2 rfl) ?_
          obtain ⟨v7, hv, hf⟩ := bd hf
          refine q_ci (wr := []) (va_runV (As := [.int x2]) (rest := []) ⟨hx, hb, hml, hown, hts⟩ (ctX1_fits l dC dI cI cZ cL hm b1 b2 b3 b4 b5 b6 b7 b8 b9 _ (0 : Int32) mk us fi se ki va li ct od ne ro x2 v7 hv) (cwV 1 hts (gV mw_532 mw_534 mw_31 mw_40 mw_535) rfl rfl rfl (by decide +kernel) ⟨Nat.le_of_ble_eq_true rfl, Nat.le_of_ble_eq_true rfl⟩) (q_preV [.int x2] hK hP hD [0, 1, 2, 3, 4, 5, 6, 7, 8, 9] (by decide) rfl (ci := 1) rfl rfl) rfl rfl hl.1 rfl (lv_room (Nat.le_of_ble_eq_true rfl)) dX1_claim_45 ⟨Nat.le_of_ble_eq_true rfl, Nat.le_of_ble_eq_true rfl⟩) hP hD hS hA [0, 1, 2, 3, 4, 5, 6, 7, 8, 9] [] rfl rfl (by decide) (by decide) (fun H locs hP hD hS => ?_)
          have hP : va_P (dC, dI) vwCl (wM cI cZ hm b1 b2 b3 b4 b5 b6 b7 b8 b9 (0 : Int32) mk us fi se ki va li ct od ne ro) _ := hP
          have hD : va_D A (wM cI cZ hm b1 b2 b3 b4 b5 b6 b7 b8 b9 (0 : Int32) mk us fi se ki va li ct od ne ro) := hD
          refine lv_if_ne (tgt := 101) hx hb dX1_claim_48 (by decide) (fun h8 => ?_) (fun h8 => ?_)
          · have hf := ifn h8 hf
            refine lv_aload_n hx hb dX1_claim_101 rfl (lv_at hl 0 rfl) ?_
            refine va_get (D := (dC, dI)) (ci := 1) (v := .int (0 : Int32)) (C := RX1) (T := TX1) (N := 12) hx hb hts (fun w hw => List.mem_cons_of_mem _ (inX1 w hw)) hown hK hP 0 rfl rfl 0 (by decide) (hts _ (List.mem_cons_of_mem _ mw_444)) (fun _ h9 => h9) rfl dX1_claim_102 ?_
            refine lv_if_le (tgt := 112) hx hb dX1_claim_105 (by decide) (fun _ => ?_) (fun h9 => absurd h9 (by decide))
            refine lv_aload_n hx hb dX1_claim_112 rfl (lv_at hl 0 rfl) ?_
            refine lv_iload_n hx hb dX1_claim_113 rfl (lv_at hl 1 rfl) ?_
            refine lv_iload_n hx hb dX1_claim_114 rfl (lv_at hl 2 rfl) ?_
            obtain ⟨⟨v9, mk_10, us_11, fi_12, se_13, ki_14, va_15, ct_16, od_17, ro_18⟩, hv, hf⟩ := bd hf
            dsimp only at hf
            refine q_ci (wr := []) (va_runV (As := [.int x1, .int x2]) (rest := []) ⟨hx, hb, hml, hown, hts⟩ (ctX1_make l dC dI cI cZ cL hm b1 b2 b3 b4 b5 b6 b7 b8 b9 _ (0 : Int32) mk us fi se ki va li ct od ne ro x1 x2 v9 mk_10 us_11 fi_12 se_13 ki_14 va_15 ct_16 od_17 ro_18 hv) (cwV 2 hts (gV mw_536 mw_538 mw_32 mw_40 mw_539) rfl rfl rfl (by decide +kernel) ⟨Nat.le_of_ble_eq_true rfl, Nat.le_of_ble_eq_true rfl⟩) (q_preV [.int x1, .int x2] hK hP hD [0, 1, 2, 3, 4, 5, 6, 7, 8, 9] (by decide) rfl (ci := 1) rfl rfl) rfl rfl hl.1 rfl (lv_room (Nat.le_of_ble_eq_true rfl)) dX1_claim_115 ⟨Nat.le_of_ble_eq_true rfl, Nat.le_of_ble_eq_true rfl⟩) hP hD hS hA [0, 1, 2, 3, 4, 5, 6, 7, 8, 9] [] rfl rfl (by decide) (by decide) (fun H locs hP hD hS => ?_)
            have hP : va_P (dC, dI) vwCl (wM cI cZ hm b1 b2 b3 b4 b5 b6 b7 b8 b9 (0 : Int32) mk_10 us_11 fi_12 se_13 ki_14 va_15 li ct_16 od_17 ne ro_18) _ := hP
            have hD : va_D A (wM cI cZ hm b1 b2 b3 b4 b5 b6 b7 b8 b9 (0 : Int32) mk_10 us_11 fi_12 se_13 ki_14 va_15 li ct_16 od_17 ne ro_18) := hD
            have hg0 := Option.some.inj hf
            obtain ⟨hq1, hg1⟩ := Prod.mk.inj hg0
            subst hq1
            obtain ⟨hq2, hg2⟩ := Prod.mk.inj hg1
            subst hq2
            obtain ⟨hq3, hg3⟩ := Prod.mk.inj hg2
            subst hq3
            obtain ⟨hq4, hg4⟩ := Prod.mk.inj hg3
            subst hq4
            obtain ⟨hq5, hg5⟩ := Prod.mk.inj hg4
            subst hq5
            obtain ⟨hq6, hg6⟩ := Prod.mk.inj hg5
            subst hq6
            obtain ⟨hq7, hg7⟩ := Prod.mk.inj hg6
            subst hq7
            obtain ⟨hq8, hg8⟩ := Prod.mk.inj hg7
            subst hq8
            obtain ⟨hq9, hg9⟩ := Prod.mk.inj hg8
            subst hq9
            obtain ⟨hq10, hg10⟩ := Prod.mk.inj hg9
            subst hq10
            obtain ⟨hq11, hg11⟩ := Prod.mk.inj hg10
            subst hq11
            obtain ⟨hq12, hg12⟩ := Prod.mk.inj hg11
            subst hq12
            subst hg12
            exact W.iret hx hb hr (fun t ht hW => ⟨⟨_, (), rfl, rfl, by rw [ht]; exact hP, va_K.moved hW.alike hK, hD⟩, hS.F ht⟩) hS.2.2 dX1_claim_118
          · have hf := ift h8 hf
            refine lv_aload_n hx hb dX1_claim_51 rfl (lv_at hl 0 rfl) ?_
            refine lv_iload_n hx hb dX1_claim_52 rfl (lv_at hl 3 rfl) ?_
            refine lv_iconst (v := (1 : Int32)) hx hb dX1_claim_53 (by decide) ?_
            refine lv_icmp_ne (tgt := 68) hx hb dX1_claim_54 (by decide) (fun h19 => ?_) (fun h19 => ?_)
            · have hf := ifn h19 hf
              refine lv_iconst (v := (0 : Int32)) hx hb dX1_claim_68 (by decide) ?_
              refine va_put (D := (dC, dI)) (ci := 1) (v := .int (0 : Int32)) (ty := .int) (C := RX1) (T := TX1) (N := 12) hx hb hts (fun w hw => List.mem_cons_of_mem _ (inX1 w hw)) tyX1 tyX1_ok nmX1 hown hK hP hD hS 0 rfl rfl 0 (by decide) (hts _ (List.mem_cons_of_mem _ mw_444)) (fun _ h9 => h9) rfl (by decide +kernel) rfl rfl (Nat.le_of_ble_eq_true rfl) dX1_claim_69 (fun H locs hP hD hS => ?_)
              have hP : va_P (dC, dI) vwCl (wM cI cZ hm b1 b2 b3 b4 b5 b6 b7 b8 b9 (0 : Int32) mk us fi se ki va li ct od ne ro) _ := hP
              have hD : va_D A (wM cI cZ hm b1 b2 b3 b4 b5 b6 b7 b8 b9 (0 : Int32) mk us fi se ki va li ct od ne ro) := hD
              refine lv_aload_n hx hb dX1_claim_72 rfl (lv_at hl 0 rfl) ?_
              refine va_get (D := (dC, dI)) (ci := 1) (v := .int (0 : Int32)) (C := RX1) (T := TX1) (N := 12) hx hb hts (fun w hw => List.mem_cons_of_mem _ (inX1 w hw)) hown hK hP 0 rfl rfl 0 (by decide) (hts _ (List.mem_cons_of_mem _ mw_444)) (fun _ h9 => h9) rfl dX1_claim_73 ?_
              refine lv_if_ne (tgt := 101) hx hb dX1_claim_76 (by decide) (fun h9 => absurd h9 (by decide)) (fun _ => ?_)
              refine lv_aload_n hx hb dX1_claim_79 rfl (lv_at hl 0 rfl) ?_
              refine lv_iload_n hx hb dX1_claim_80 rfl (lv_at hl 3 rfl) ?_
              obtain ⟨⟨us_20, va_21, li_22, ct_23, od_24, ne_25⟩, hv, hf⟩ := bd hf
              dsimp only at hf
              refine q_cv (wr := []) (va_runV (As := [.int x3]) (rest := []) ⟨hx, hb, hml, hown, hts⟩ (ctX1_press l dC dI cI cZ cL hm b1 b2 b3 b4 b5 b6 b7 b8 b9 _ (0 : Int32) mk us fi se ki va li ct od ne ro x3 us_20 va_21 li_22 ct_23 od_24 ne_25 hv) (cwV 1 hts (gV mw_498 mw_500 mw_25 mw_40 mw_501) rfl rfl rfl (by decide +kernel) ⟨Nat.le_of_ble_eq_true rfl, Nat.le_of_ble_eq_true rfl⟩) (q_preV [.int x3] hK hP hD [0, 1, 2, 3, 4, 5, 6, 7, 8, 9] (by decide) rfl (ci := 1) rfl rfl) rfl rfl hl.1 rfl (lv_room (Nat.le_of_ble_eq_true rfl)) dX1_claim_81 ⟨Nat.le_of_ble_eq_true rfl, Nat.le_of_ble_eq_true rfl⟩) hP hD hS hA [0, 1, 2, 3, 4, 5, 6, 7, 8, 9] [] rfl rfl (by decide) (by decide) (fun H locs hP hD hS => ?_)
              have hP : va_P (dC, dI) vwCl (wM cI cZ hm b1 b2 b3 b4 b5 b6 b7 b8 b9 (0 : Int32) mk us_20 fi se ki va_21 li_22 ct_23 od_24 ne_25 ro) _ := hP
              have hD : va_D A (wM cI cZ hm b1 b2 b3 b4 b5 b6 b7 b8 b9 (0 : Int32) mk us_20 fi se ki va_21 li_22 ct_23 od_24 ne_25 ro) := hD
              refine lv_aload_n hx hb dX1_claim_84 rfl (lv_at hl 0 rfl) ?_
              refine lv_aload_n hx hb dX1_claim_85 rfl (lv_at hl 0 rfl) ?_
              refine lv_iload_n hx hb dX1_claim_86 rfl (lv_at hl 2 rfl) ?_
              obtain ⟨v26, hv, hf⟩ := bd hf
              refine q_ci (wr := []) (va_runV (As := [.int x2]) (rest := [.ref hm]) ⟨hx, hb, hml, hown, hts⟩ (ctX1_fits l dC dI cI cZ cL hm b1 b2 b3 b4 b5 b6 b7 b8 b9 _ (0 : Int32) mk us_20 fi se ki va_21 li_22 ct_23 od_24 ne_25 ro x2 v26 hv) (cwV 1 hts (gV mw_532 mw_534 mw_31 mw_40 mw_535) rfl rfl rfl (by decide +kernel) ⟨Nat.le_of_ble_eq_true rfl, Nat.le_of_ble_eq_true rfl⟩) (q_preV [.int x2] hK hP hD [0, 1, 2, 3, 4, 5, 6, 7, 8, 9] (by decide) rfl (ci := 1) rfl rfl) rfl rfl hl.1 rfl (lv_room (Nat.le_of_ble_eq_true rfl)) dX1_claim_87 ⟨Nat.le_of_ble_eq_true rfl, Nat.le_of_ble_eq_true rfl⟩) hP hD hS hA [0, 1, 2, 3, 4, 5, 6, 7, 8, 9] [] rfl rfl (by decide) (by decide) (fun H locs hP hD hS => ?_)
              have hP : va_P (dC, dI) vwCl (wM cI cZ hm b1 b2 b3 b4 b5 b6 b7 b8 b9 (0 : Int32) mk us_20 fi se ki va_21 li_22 ct_23 od_24 ne_25 ro) _ := hP
              have hD : va_D A (wM cI cZ hm b1 b2 b3 b4 b5 b6 b7 b8 b9 (0 : Int32) mk us_20 fi se ki va_21 li_22 ct_23 od_24 ne_25 ro) := hD
              refine lv_if_eq (tgt := 97) hx hb dX1_claim_90 (by decide) (fun h27 => ?_) (fun h27 => ?_)
              · have hf := ift h27 hf
                refine lv_iconst (v := (4 : Int32)) hx hb dX1_claim_97 (by decide) ?_
                refine va_put (D := (dC, dI)) (ci := 1) (v := .int (4 : Int32)) (ty := .int) (C := RX1) (T := TX1) (N := 12) hx hb hts (fun w hw => List.mem_cons_of_mem _ (inX1 w hw)) tyX1 tyX1_ok nmX1 hown hK hP hD hS 0 rfl rfl 0 (by decide) (hts _ (List.mem_cons_of_mem _ mw_444)) (fun _ h9 => h9) rfl (by decide +kernel) rfl rfl (Nat.le_of_ble_eq_true rfl) dX1_claim_98 (fun H locs hP hD hS => ?_)
                have hP : va_P (dC, dI) vwCl (wM cI cZ hm b1 b2 b3 b4 b5 b6 b7 b8 b9 (4 : Int32) mk us_20 fi se ki va_21 li_22 ct_23 od_24 ne_25 ro) _ := hP
                have hD : va_D A (wM cI cZ hm b1 b2 b3 b4 b5 b6 b7 b8 b9 (4 : Int32) mk us_20 fi se ki va_21 li_22 ct_23 od_24 ne_25 ro) := hD
                refine lv_aload_n hx hb dX1_claim_101 rfl (lv_at hl 0 rfl) ?_
                refine va_get (D := (dC, dI)) (ci := 1) (v := .int (4 : Int32)) (C := RX1) (T := TX1) (N := 12) hx hb hts (fun w hw => List.mem_cons_of_mem _ (inX1 w hw)) hown hK hP 0 rfl rfl 0 (by decide) (hts _ (List.mem_cons_of_mem _ mw_444)) (fun _ h9 => h9) rfl dX1_claim_102 ?_
                refine lv_if_le (tgt := 112) hx hb dX1_claim_105 (by decide) (fun h9 => absurd h9 (by decide)) (fun _ => ?_)
                refine lv_iconst (v := (0 : Int32)) hx hb dX1_claim_108 (by decide) ?_
                refine lv_goto (tgt := 118) hx hb dX1_claim_109 (by decide) ?_
                have hg0 := Option.some.inj hf
                obtain ⟨hq1, hg1⟩ := Prod.mk.inj hg0
                subst hq1
                obtain ⟨hq2, hg2⟩ := Prod.mk.inj hg1
                subst hq2
                obtain ⟨hq3, hg3⟩ := Prod.mk.inj hg2
                subst hq3
                obtain ⟨hq4, hg4⟩ := Prod.mk.inj hg3
                subst hq4
                obtain ⟨hq5, hg5⟩ := Prod.mk.inj hg4
                subst hq5
                obtain ⟨hq6, hg6⟩ := Prod.mk.inj hg5
                subst hq6
                obtain ⟨hq7, hg7⟩ := Prod.mk.inj hg6
                subst hq7
                obtain ⟨hq8, hg8⟩ := Prod.mk.inj hg7
                subst hq8
                obtain ⟨hq9, hg9⟩ := Prod.mk.inj hg8
                subst hq9
                obtain ⟨hq10, hg10⟩ := Prod.mk.inj hg9
                subst hq10
                obtain ⟨hq11, hg11⟩ := Prod.mk.inj hg10
                subst hq11
                obtain ⟨hq12, hg12⟩ := Prod.mk.inj hg11
                subst hq12
                subst hg12
                exact W.iret hx hb hr (fun t ht hW => ⟨⟨_, (), rfl, rfl, by rw [ht]; exact hP, va_K.moved hW.alike hK, hD⟩, hS.F ht⟩) hS.2.2 dX1_claim_118
              · have hf := ifn h27 hf
                refine lv_iconst (v := (0 : Int32)) hx hb dX1_claim_93 (by decide) ?_
                refine lv_goto (tgt := 98) hx hb dX1_claim_94 (by decide) ?_
                refine va_put (D := (dC, dI)) (ci := 1) (v := .int (0 : Int32)) (ty := .int) (C := RX1) (T := TX1) (N := 12) hx hb hts (fun w hw => List.mem_cons_of_mem _ (inX1 w hw)) tyX1 tyX1_ok nmX1 hown hK hP hD hS 0 rfl rfl 0 (by decide) (hts _ (List.mem_cons_of_mem _ mw_444)) (fun _ h9 => h9) rfl (by decide +kernel) rfl rfl (Nat.le_of_ble_eq_true rfl) dX1_claim_98 (fun H locs hP hD hS => ?_)
                have hP : va_P (dC, dI) vwCl (wM cI cZ hm b1 b2 b3 b4 b5 b6 b7 b8 b9 (0 : Int32) mk us_20 fi se ki va_21 li_22 ct_23 od_24 ne_25 ro) _ := hP
                have hD : va_D A (wM cI cZ hm b1 b2 b3 b4 b5 b6 b7 b8 b9 (0 : Int32) mk us_20 fi se ki va_21 li_22 ct_23 od_24 ne_25 ro) := hD
                refine lv_aload_n hx hb dX1_claim_101 rfl (lv_at hl 0 rfl) ?_
                refine va_get (D := (dC, dI)) (ci := 1) (v := .int (0 : Int32)) (C := RX1) (T := TX1) (N := 12) hx hb hts (fun w hw => List.mem_cons_of_mem _ (inX1 w hw)) hown hK hP 0 rfl rfl 0 (by decide) (hts _ (List.mem_cons_of_mem _ mw_444)) (fun _ h9 => h9) rfl dX1_claim_102 ?_
                refine lv_if_le (tgt := 112) hx hb dX1_claim_105 (by decide) (fun _ => ?_) (fun h9 => absurd h9 (by decide))
                refine lv_aload_n hx hb dX1_claim_112 rfl (lv_at hl 0 rfl) ?_
                refine lv_iload_n hx hb dX1_claim_113 rfl (lv_at hl 1 rfl) ?_
                refine lv_iload_n hx hb dX1_claim_114 rfl (lv_at hl 2 rfl) ?_
                obtain ⟨⟨v28, mk_29, us_30, fi_31, se_32, ki_33, va_34, ct_35, od_36, ro_37⟩, hv, hf⟩ := bd hf
                dsimp only at hf
                refine q_ci (wr := []) (va_runV (As := [.int x1, .int x2]) (rest := []) ⟨hx, hb, hml, hown, hts⟩ (ctX1_make l dC dI cI cZ cL hm b1 b2 b3 b4 b5 b6 b7 b8 b9 _ (0 : Int32) mk us_20 fi se ki va_21 li_22 ct_23 od_24 ne_25 ro x1 x2 v28 mk_29 us_30 fi_31 se_32 ki_33 va_34 ct_35 od_36 ro_37 hv) (cwV 2 hts (gV mw_536 mw_538 mw_32 mw_40 mw_539) rfl rfl rfl (by decide +kernel) ⟨Nat.le_of_ble_eq_true rfl, Nat.le_of_ble_eq_true rfl⟩) (q_preV [.int x1, .int x2] hK hP hD [0, 1, 2, 3, 4, 5, 6, 7, 8, 9] (by decide) rfl (ci := 1) rfl rfl) rfl rfl hl.1 rfl (lv_room (Nat.le_of_ble_eq_true rfl)) dX1_claim_115 ⟨Nat.le_of_ble_eq_true rfl, Nat.le_of_ble_eq_true rfl⟩) hP hD hS hA [0, 1, 2, 3, 4, 5, 6, 7, 8, 9] [] rfl rfl (by decide) (by decide) (fun H locs hP hD hS => ?_)
                have hP : va_P (dC, dI) vwCl (wM cI cZ hm b1 b2 b3 b4 b5 b6 b7 b8 b9 (0 : Int32) mk_29 us_30 fi_31 se_32 ki_33 va_34 li_22 ct_35 od_36 ne_25 ro_37) _ := hP
                have hD : va_D A (wM cI cZ hm b1 b2 b3 b4 b5 b6 b7 b8 b9 (0 : Int32) mk_29 us_30 fi_31 se_32 ki_33 va_34 li_22 ct_35 od_36 ne_25 ro_37) := hD
                have hg0 := Option.some.inj hf
                obtain ⟨hq1, hg1⟩ := Prod.mk.inj hg0
                subst hq1
                obtain ⟨hq2, hg2⟩ := Prod.mk.inj hg1
                subst hq2
                obtain ⟨hq3, hg3⟩ := Prod.mk.inj hg2
                subst hq3
                obtain ⟨hq4, hg4⟩ := Prod.mk.inj hg3
                subst hq4
                obtain ⟨hq5, hg5⟩ := Prod.mk.inj hg4
                subst hq5
                obtain ⟨hq6, hg6⟩ := Prod.mk.inj hg5
                subst hq6
                obtain ⟨hq7, hg7⟩ := Prod.mk.inj hg6
                subst hq7
                obtain ⟨hq8, hg8⟩ := Prod.mk.inj hg7
                subst hq8
                obtain ⟨hq9, hg9⟩ := Prod.mk.inj hg8
                subst hq9
                obtain ⟨hq10, hg10⟩ := Prod.mk.inj hg9
                subst hq10
                obtain ⟨hq11, hg11⟩ := Prod.mk.inj hg10
                subst hq11
                obtain ⟨hq12, hg12⟩ := Prod.mk.inj hg11
                subst hq12
                subst hg12
                exact W.iret hx hb hr (fun t ht hW => ⟨⟨_, (), rfl, rfl, by rw [ht]; exact hP, va_K.moved hW.alike hK, hD⟩, hS.F ht⟩) hS.2.2 dX1_claim_118
            · have hf := ift h19 hf
              refine lv_aload_n hx hb dX1_claim_57 rfl (lv_at hl 0 rfl) ?_
              obtain ⟨v38, hv, hf⟩ := bd hf
              refine q_ci (wr := []) (va_runV (As := []) (rest := [.ref hm]) ⟨hx, hb, hml, hown, hts⟩ (ctX1_oneSize l dC dI cI cZ cL hm b1 b2 b3 b4 b5 b6 b7 b8 b9 _ (0 : Int32) mk us fi se ki va li ct od ne ro v38 hv) (cwV 0 hts (gV mw_490 mw_492 mw_23 mw_40 mw_493) rfl rfl rfl (by decide +kernel) ⟨Nat.le_of_ble_eq_true rfl, Nat.le_of_ble_eq_true rfl⟩) (q_preV [] hK hP hD [0, 1, 2, 3, 4, 5, 6, 7, 8, 9] (by decide) rfl (ci := 1) rfl rfl) rfl rfl hl.1 rfl (lv_room (Nat.le_of_ble_eq_true rfl)) dX1_claim_58 ⟨Nat.le_of_ble_eq_true rfl, Nat.le_of_ble_eq_true rfl⟩) hP hD hS hA [0, 1, 2, 3, 4, 5, 6, 7, 8, 9] [] rfl rfl (by decide) (by decide) (fun H locs hP hD hS => ?_)
              have hP : va_P (dC, dI) vwCl (wM cI cZ hm b1 b2 b3 b4 b5 b6 b7 b8 b9 (0 : Int32) mk us fi se ki va li ct od ne ro) _ := hP
              have hD : va_D A (wM cI cZ hm b1 b2 b3 b4 b5 b6 b7 b8 b9 (0 : Int32) mk us fi se ki va li ct od ne ro) := hD
              refine lv_if_ne (tgt := 68) hx hb dX1_claim_61 (by decide) (fun h39 => ?_) (fun h39 => ?_)
              · have hf := ifn h39 hf
                refine lv_iconst (v := (0 : Int32)) hx hb dX1_claim_68 (by decide) ?_
                refine va_put (D := (dC, dI)) (ci := 1) (v := .int (0 : Int32)) (ty := .int) (C := RX1) (T := TX1) (N := 12) hx hb hts (fun w hw => List.mem_cons_of_mem _ (inX1 w hw)) tyX1 tyX1_ok nmX1 hown hK hP hD hS 0 rfl rfl 0 (by decide) (hts _ (List.mem_cons_of_mem _ mw_444)) (fun _ h9 => h9) rfl (by decide +kernel) rfl rfl (Nat.le_of_ble_eq_true rfl) dX1_claim_69 (fun H locs hP hD hS => ?_)
                have hP : va_P (dC, dI) vwCl (wM cI cZ hm b1 b2 b3 b4 b5 b6 b7 b8 b9 (0 : Int32) mk us fi se ki va li ct od ne ro) _ := hP
                have hD : va_D A (wM cI cZ hm b1 b2 b3 b4 b5 b6 b7 b8 b9 (0 : Int32) mk us fi se ki va li ct od ne ro) := hD
                refine lv_aload_n hx hb dX1_claim_72 rfl (lv_at hl 0 rfl) ?_
                refine va_get (D := (dC, dI)) (ci := 1) (v := .int (0 : Int32)) (C := RX1) (T := TX1) (N := 12) hx hb hts (fun w hw => List.mem_cons_of_mem _ (inX1 w hw)) hown hK hP 0 rfl rfl 0 (by decide) (hts _ (List.mem_cons_of_mem _ mw_444)) (fun _ h9 => h9) rfl dX1_claim_73 ?_
                refine lv_if_ne (tgt := 101) hx hb dX1_claim_76 (by decide) (fun h9 => absurd h9 (by decide)) (fun _ => ?_)
                refine lv_aload_n hx hb dX1_claim_79 rfl (lv_at hl 0 rfl) ?_
                refine lv_iload_n hx hb dX1_claim_80 rfl (lv_at hl 3 rfl) ?_
                obtain ⟨⟨us_40, va_41, li_42, ct_43, od_44, ne_45⟩, hv, hf⟩ := bd hf
                dsimp only at hf
                refine q_cv (wr := []) (va_runV (As := [.int x3]) (rest := []) ⟨hx, hb, hml, hown, hts⟩ (ctX1_press l dC dI cI cZ cL hm b1 b2 b3 b4 b5 b6 b7 b8 b9 _ (0 : Int32) mk us fi se ki va li ct od ne ro x3 us_40 va_41 li_42 ct_43 od_44 ne_45 hv) (cwV 1 hts (gV mw_498 mw_500 mw_25 mw_40 mw_501) rfl rfl rfl (by decide +kernel) ⟨Nat.le_of_ble_eq_true rfl, Nat.le_of_ble_eq_true rfl⟩) (q_preV [.int x3] hK hP hD [0, 1, 2, 3, 4, 5, 6, 7, 8, 9] (by decide) rfl (ci := 1) rfl rfl) rfl rfl hl.1 rfl (lv_room (Nat.le_of_ble_eq_true rfl)) dX1_claim_81 ⟨Nat.le_of_ble_eq_true rfl, Nat.le_of_ble_eq_true rfl⟩) hP hD hS hA [0, 1, 2, 3, 4, 5, 6, 7, 8, 9] [] rfl rfl (by decide) (by decide) (fun H locs hP hD hS => ?_)
                have hP : va_P (dC, dI) vwCl (wM cI cZ hm b1 b2 b3 b4 b5 b6 b7 b8 b9 (0 : Int32) mk us_40 fi se ki va_41 li_42 ct_43 od_44 ne_45 ro) _ := hP
                have hD : va_D A (wM cI cZ hm b1 b2 b3 b4 b5 b6 b7 b8 b9 (0 : Int32) mk us_40 fi se ki va_41 li_42 ct_43 od_44 ne_45 ro) := hD
                refine lv_aload_n hx hb dX1_claim_84 rfl (lv_at hl 0 rfl) ?_
                refine lv_aload_n hx hb dX1_claim_85 rfl (lv_at hl 0 rfl) ?_
                refine lv_iload_n hx hb dX1_claim_86 rfl (lv_at hl 2 rfl) ?_
                obtain ⟨v46, hv, hf⟩ := bd hf
                refine q_ci (wr := []) (va_runV (As := [.int x2]) (rest := [.ref hm]) ⟨hx, hb, hml, hown, hts⟩ (ctX1_fits l dC dI cI cZ cL hm b1 b2 b3 b4 b5 b6 b7 b8 b9 _ (0 : Int32) mk us_40 fi se ki va_41 li_42 ct_43 od_44 ne_45 ro x2 v46 hv) (cwV 1 hts (gV mw_532 mw_534 mw_31 mw_40 mw_535) rfl rfl rfl (by decide +kernel) ⟨Nat.le_of_ble_eq_true rfl, Nat.le_of_ble_eq_true rfl⟩) (q_preV [.int x2] hK hP hD [0, 1, 2, 3, 4, 5, 6, 7, 8, 9] (by decide) rfl (ci := 1) rfl rfl) rfl rfl hl.1 rfl (lv_room (Nat.le_of_ble_eq_true rfl)) dX1_claim_87 ⟨Nat.le_of_ble_eq_true rfl, Nat.le_of_ble_eq_true rfl⟩) hP hD hS hA [0, 1, 2, 3, 4, 5, 6, 7, 8, 9] [] rfl rfl (by decide) (by decide) (fun H locs hP hD hS => ?_)
                have hP : va_P (dC, dI) vwCl (wM cI cZ hm b1 b2 b3 b4 b5 b6 b7 b8 b9 (0 : Int32) mk us_40 fi se ki va_41 li_42 ct_43 od_44 ne_45 ro) _ := hP
                have hD : va_D A (wM cI cZ hm b1 b2 b3 b4 b5 b6 b7 b8 b9 (0 : Int32) mk us_40 fi se ki va_41 li_42 ct_43 od_44 ne_45 ro) := hD
                refine lv_if_eq (tgt := 97) hx hb dX1_claim_90 (by decide) (fun h47 => ?_) (fun h47 => ?_)
                · have hf := ift h47 hf
                  refine lv_iconst (v := (4 : Int32)) hx hb dX1_claim_97 (by decide) ?_
                  refine va_put (D := (dC, dI)) (ci := 1) (v := .int (4 : Int32)) (ty := .int) (C := RX1) (T := TX1) (N := 12) hx hb hts (fun w hw => List.mem_cons_of_mem _ (inX1 w hw)) tyX1 tyX1_ok nmX1 hown hK hP hD hS 0 rfl rfl 0 (by decide) (hts _ (List.mem_cons_of_mem _ mw_444)) (fun _ h9 => h9) rfl (by decide +kernel) rfl rfl (Nat.le_of_ble_eq_true rfl) dX1_claim_98 (fun H locs hP hD hS => ?_)
                  have hP : va_P (dC, dI) vwCl (wM cI cZ hm b1 b2 b3 b4 b5 b6 b7 b8 b9 (4 : Int32) mk us_40 fi se ki va_41 li_42 ct_43 od_44 ne_45 ro) _ := hP
                  have hD : va_D A (wM cI cZ hm b1 b2 b3 b4 b5 b6 b7 b8 b9 (4 : Int32) mk us_40 fi se ki va_41 li_42 ct_43 od_44 ne_45 ro) := hD
                  refine lv_aload_n hx hb dX1_claim_101 rfl (lv_at hl 0 rfl) ?_
                  refine va_get (D := (dC, dI)) (ci := 1) (v := .int (4 : Int32)) (C := RX1) (T := TX1) (N := 12) hx hb hts (fun w hw => List.mem_cons_of_mem _ (inX1 w hw)) hown hK hP 0 rfl rfl 0 (by decide) (hts _ (List.mem_cons_of_mem _ mw_444)) (fun _ h9 => h9) rfl dX1_claim_102 ?_
                  refine lv_if_le (tgt := 112) hx hb dX1_claim_105 (by decide) (fun h9 => absurd h9 (by decide)) (fun _ => ?_)
                  refine lv_iconst (v := (0 : Int32)) hx hb dX1_claim_108 (by decide) ?_
                  refine lv_goto (tgt := 118) hx hb dX1_claim_109 (by decide) ?_
                  have hg0 := Option.some.inj hf
                  obtain ⟨hq1, hg1⟩ := Prod.mk.inj hg0
                  subst hq1
                  obtain ⟨hq2, hg2⟩ := Prod.mk.inj hg1
                  subst hq2
                  obtain ⟨hq3, hg3⟩ := Prod.mk.inj hg2
                  subst hq3
                  obtain ⟨hq4, hg4⟩ := Prod.mk.inj hg3
                  subst hq4
                  obtain ⟨hq5, hg5⟩ := Prod.mk.inj hg4
                  subst hq5
                  obtain ⟨hq6, hg6⟩ := Prod.mk.inj hg5
                  subst hq6
                  obtain ⟨hq7, hg7⟩ := Prod.mk.inj hg6
                  subst hq7
                  obtain ⟨hq8, hg8⟩ := Prod.mk.inj hg7
                  subst hq8
                  obtain ⟨hq9, hg9⟩ := Prod.mk.inj hg8
                  subst hq9
                  obtain ⟨hq10, hg10⟩ := Prod.mk.inj hg9
                  subst hq10
                  obtain ⟨hq11, hg11⟩ := Prod.mk.inj hg10
                  subst hq11
                  obtain ⟨hq12, hg12⟩ := Prod.mk.inj hg11
                  subst hq12
                  subst hg12
                  exact W.iret hx hb hr (fun t ht hW => ⟨⟨_, (), rfl, rfl, by rw [ht]; exact hP, va_K.moved hW.alike hK, hD⟩, hS.F ht⟩) hS.2.2 dX1_claim_118
                · have hf := ifn h47 hf
                  refine lv_iconst (v := (0 : Int32)) hx hb dX1_claim_93 (by decide) ?_
                  refine lv_goto (tgt := 98) hx hb dX1_claim_94 (by decide) ?_
                  refine va_put (D := (dC, dI)) (ci := 1) (v := .int (0 : Int32)) (ty := .int) (C := RX1) (T := TX1) (N := 12) hx hb hts (fun w hw => List.mem_cons_of_mem _ (inX1 w hw)) tyX1 tyX1_ok nmX1 hown hK hP hD hS 0 rfl rfl 0 (by decide) (hts _ (List.mem_cons_of_mem _ mw_444)) (fun _ h9 => h9) rfl (by decide +kernel) rfl rfl (Nat.le_of_ble_eq_true rfl) dX1_claim_98 (fun H locs hP hD hS => ?_)
                  have hP : va_P (dC, dI) vwCl (wM cI cZ hm b1 b2 b3 b4 b5 b6 b7 b8 b9 (0 : Int32) mk us_40 fi se ki va_41 li_42 ct_43 od_44 ne_45 ro) _ := hP
                  have hD : va_D A (wM cI cZ hm b1 b2 b3 b4 b5 b6 b7 b8 b9 (0 : Int32) mk us_40 fi se ki va_41 li_42 ct_43 od_44 ne_45 ro) := hD
                  refine lv_aload_n hx hb dX1_claim_101 rfl (lv_at hl 0 rfl) ?_
                  refine va_get (D := (dC, dI)) (ci := 1) (v := .int (0 : Int32)) (C := RX1) (T := TX1) (N := 12) hx hb hts (fun w hw => List.mem_cons_of_mem _ (inX1 w hw)) hown hK hP 0 rfl rfl 0 (by decide) (hts _ (List.mem_cons_of_mem _ mw_444)) (fun _ h9 => h9) rfl dX1_claim_102 ?_
                  refine lv_if_le (tgt := 112) hx hb dX1_claim_105 (by decide) (fun _ => ?_) (fun h9 => absurd h9 (by decide))
                  refine lv_aload_n hx hb dX1_claim_112 rfl (lv_at hl 0 rfl) ?_
                  refine lv_iload_n hx hb dX1_claim_113 rfl (lv_at hl 1 rfl) ?_
                  refine lv_iload_n hx hb dX1_claim_114 rfl (lv_at hl 2 rfl) ?_
                  obtain ⟨⟨v48, mk_49, us_50, fi_51, se_52, ki_53, va_54, ct_55, od_56, ro_57⟩, hv, hf⟩ := bd hf
                  dsimp only at hf
                  refine q_ci (wr := []) (va_runV (As := [.int x1, .int x2]) (rest := []) ⟨hx, hb, hml, hown, hts⟩ (ctX1_make l dC dI cI cZ cL hm b1 b2 b3 b4 b5 b6 b7 b8 b9 _ (0 : Int32) mk us_40 fi se ki va_41 li_42 ct_43 od_44 ne_45 ro x1 x2 v48 mk_49 us_50 fi_51 se_52 ki_53 va_54 ct_55 od_56 ro_57 hv) (cwV 2 hts (gV mw_536 mw_538 mw_32 mw_40 mw_539) rfl rfl rfl (by decide +kernel) ⟨Nat.le_of_ble_eq_true rfl, Nat.le_of_ble_eq_true rfl⟩) (q_preV [.int x1, .int x2] hK hP hD [0, 1, 2, 3, 4, 5, 6, 7, 8, 9] (by decide) rfl (ci := 1) rfl rfl) rfl rfl hl.1 rfl (lv_room (Nat.le_of_ble_eq_true rfl)) dX1_claim_115 ⟨Nat.le_of_ble_eq_true rfl, Nat.le_of_ble_eq_true rfl⟩) hP hD hS hA [0, 1, 2, 3, 4, 5, 6, 7, 8, 9] [] rfl rfl (by decide) (by decide) (fun H locs hP hD hS => ?_)
                  have hP : va_P (dC, dI) vwCl (wM cI cZ hm b1 b2 b3 b4 b5 b6 b7 b8 b9 (0 : Int32) mk_49 us_50 fi_51 se_52 ki_53 va_54 li_42 ct_55 od_56 ne_45 ro_57) _ := hP
                  have hD : va_D A (wM cI cZ hm b1 b2 b3 b4 b5 b6 b7 b8 b9 (0 : Int32) mk_49 us_50 fi_51 se_52 ki_53 va_54 li_42 ct_55 od_56 ne_45 ro_57) := hD
                  have hg0 := Option.some.inj hf
                  obtain ⟨hq1, hg1⟩ := Prod.mk.inj hg0
                  subst hq1
                  obtain ⟨hq2, hg2⟩ := Prod.mk.inj hg1
                  subst hq2
                  obtain ⟨hq3, hg3⟩ := Prod.mk.inj hg2
                  subst hq3
                  obtain ⟨hq4, hg4⟩ := Prod.mk.inj hg3
                  subst hq4
                  obtain ⟨hq5, hg5⟩ := Prod.mk.inj hg4
                  subst hq5
                  obtain ⟨hq6, hg6⟩ := Prod.mk.inj hg5
                  subst hq6
                  obtain ⟨hq7, hg7⟩ := Prod.mk.inj hg6
                  subst hq7
                  obtain ⟨hq8, hg8⟩ := Prod.mk.inj hg7
                  subst hq8
                  obtain ⟨hq9, hg9⟩ := Prod.mk.inj hg8
                  subst hq9
                  obtain ⟨hq10, hg10⟩ := Prod.mk.inj hg9
                  subst hq10
                  obtain ⟨hq11, hg11⟩ := Prod.mk.inj hg10
                  subst hq11
                  obtain ⟨hq12, hg12⟩ := Prod.mk.inj hg11
                  subst hq12
                  subst hg12
                  exact W.iret hx hb hr (fun t ht hW => ⟨⟨_, (), rfl, rfl, by rw [ht]; exact hP, va_K.moved hW.alike hK, hD⟩, hS.F ht⟩) hS.2.2 dX1_claim_118
              · have hf := ift h39 hf
                refine lv_iconst (v := (3 : Int32)) hx hb dX1_claim_64 (by decide) ?_
                refine lv_goto (tgt := 69) hx hb dX1_claim_65 (by decide) ?_
                refine va_put (D := (dC, dI)) (ci := 1) (v := .int (3 : Int32)) (ty := .int) (C := RX1) (T := TX1) (N := 12) hx hb hts (fun w hw => List.mem_cons_of_mem _ (inX1 w hw)) tyX1 tyX1_ok nmX1 hown hK hP hD hS 0 rfl rfl 0 (by decide) (hts _ (List.mem_cons_of_mem _ mw_444)) (fun _ h9 => h9) rfl (by decide +kernel) rfl rfl (Nat.le_of_ble_eq_true rfl) dX1_claim_69 (fun H locs hP hD hS => ?_)
                have hP : va_P (dC, dI) vwCl (wM cI cZ hm b1 b2 b3 b4 b5 b6 b7 b8 b9 (3 : Int32) mk us fi se ki va li ct od ne ro) _ := hP
                have hD : va_D A (wM cI cZ hm b1 b2 b3 b4 b5 b6 b7 b8 b9 (3 : Int32) mk us fi se ki va li ct od ne ro) := hD
                refine lv_aload_n hx hb dX1_claim_72 rfl (lv_at hl 0 rfl) ?_
                refine va_get (D := (dC, dI)) (ci := 1) (v := .int (3 : Int32)) (C := RX1) (T := TX1) (N := 12) hx hb hts (fun w hw => List.mem_cons_of_mem _ (inX1 w hw)) hown hK hP 0 rfl rfl 0 (by decide) (hts _ (List.mem_cons_of_mem _ mw_444)) (fun _ h9 => h9) rfl dX1_claim_73 ?_
                refine lv_if_ne (tgt := 101) hx hb dX1_claim_76 (by decide) (fun _ => ?_) (fun h9 => absurd h9 (by decide))
                refine lv_aload_n hx hb dX1_claim_101 rfl (lv_at hl 0 rfl) ?_
                refine va_get (D := (dC, dI)) (ci := 1) (v := .int (3 : Int32)) (C := RX1) (T := TX1) (N := 12) hx hb hts (fun w hw => List.mem_cons_of_mem _ (inX1 w hw)) hown hK hP 0 rfl rfl 0 (by decide) (hts _ (List.mem_cons_of_mem _ mw_444)) (fun _ h9 => h9) rfl dX1_claim_102 ?_
                refine lv_if_le (tgt := 112) hx hb dX1_claim_105 (by decide) (fun h9 => absurd h9 (by decide)) (fun _ => ?_)
                refine lv_iconst (v := (0 : Int32)) hx hb dX1_claim_108 (by decide) ?_
                refine lv_goto (tgt := 118) hx hb dX1_claim_109 (by decide) ?_
                have hg0 := Option.some.inj hf
                obtain ⟨hq1, hg1⟩ := Prod.mk.inj hg0
                subst hq1
                obtain ⟨hq2, hg2⟩ := Prod.mk.inj hg1
                subst hq2
                obtain ⟨hq3, hg3⟩ := Prod.mk.inj hg2
                subst hq3
                obtain ⟨hq4, hg4⟩ := Prod.mk.inj hg3
                subst hq4
                obtain ⟨hq5, hg5⟩ := Prod.mk.inj hg4
                subst hq5
                obtain ⟨hq6, hg6⟩ := Prod.mk.inj hg5
                subst hq6
                obtain ⟨hq7, hg7⟩ := Prod.mk.inj hg6
                subst hq7
                obtain ⟨hq8, hg8⟩ := Prod.mk.inj hg7
                subst hq8
                obtain ⟨hq9, hg9⟩ := Prod.mk.inj hg8
                subst hq9
                obtain ⟨hq10, hg10⟩ := Prod.mk.inj hg9
                subst hq10
                obtain ⟨hq11, hg11⟩ := Prod.mk.inj hg10
                subst hq11
                obtain ⟨hq12, hg12⟩ := Prod.mk.inj hg11
                subst hq12
                subst hg12
                exact W.iret hx hb hr (fun t ht hW => ⟨⟨_, (), rfl, rfl, by rw [ht]; exact hP, va_K.moved hW.alike hK, hD⟩, hS.F ht⟩) hS.2.2 dX1_claim_118
        · have hf := ifn h6 hf
          refine lv_iconst (v := (2 : Int32)) hx hb dX1_claim_28 (by decide) ?_
          refine lv_goto (tgt := 33) hx hb dX1_claim_29 (by decide) ?_
          refine va_put (D := (dC, dI)) (ci := 1) (v := .int (2 : Int32)) (ty := .int) (C := RX1) (T := TX1) (N := 12) hx hb hts (fun w hw => List.mem_cons_of_mem _ (inX1 w hw)) tyX1 tyX1_ok nmX1 hown hK hP hD hS 0 rfl rfl 0 (by decide) (hts _ (List.mem_cons_of_mem _ mw_444)) (fun _ h9 => h9) rfl (by decide +kernel) rfl rfl (Nat.le_of_ble_eq_true rfl) dX1_claim_33 (fun H locs hP hD hS => ?_)
          have hP : va_P (dC, dI) vwCl (wM cI cZ hm b1 b2 b3 b4 b5 b6 b7 b8 b9 (2 : Int32) mk us fi se ki va li ct od ne ro) _ := hP
          have hD : va_D A (wM cI cZ hm b1 b2 b3 b4 b5 b6 b7 b8 b9 (2 : Int32) mk us fi se ki va li ct od ne ro) := hD
          refine lv_aload_n hx hb dX1_claim_36 rfl (lv_at hl 0 rfl) ?_
          refine va_get (D := (dC, dI)) (ci := 1) (v := .int (2 : Int32)) (C := RX1) (T := TX1) (N := 12) hx hb hts (fun w hw => List.mem_cons_of_mem _ (inX1 w hw)) hown hK hP 0 rfl rfl 0 (by decide) (hts _ (List.mem_cons_of_mem _ mw_444)) (fun _ h9 => h9) rfl dX1_claim_37 ?_
          refine lv_if_ne (tgt := 101) hx hb dX1_claim_40 (by decide) (fun _ => ?_) (fun h9 => absurd h9 (by decide))
          refine lv_aload_n hx hb dX1_claim_101 rfl (lv_at hl 0 rfl) ?_
          refine va_get (D := (dC, dI)) (ci := 1) (v := .int (2 : Int32)) (C := RX1) (T := TX1) (N := 12) hx hb hts (fun w hw => List.mem_cons_of_mem _ (inX1 w hw)) hown hK hP 0 rfl rfl 0 (by decide) (hts _ (List.mem_cons_of_mem _ mw_444)) (fun _ h9 => h9) rfl dX1_claim_102 ?_
          refine lv_if_le (tgt := 112) hx hb dX1_claim_105 (by decide) (fun h9 => absurd h9 (by decide)) (fun _ => ?_)
          refine lv_iconst (v := (0 : Int32)) hx hb dX1_claim_108 (by decide) ?_
          refine lv_goto (tgt := 118) hx hb dX1_claim_109 (by decide) ?_
          have hg0 := Option.some.inj hf
          obtain ⟨hq1, hg1⟩ := Prod.mk.inj hg0
          subst hq1
          obtain ⟨hq2, hg2⟩ := Prod.mk.inj hg1
          subst hq2
          obtain ⟨hq3, hg3⟩ := Prod.mk.inj hg2
          subst hq3
          obtain ⟨hq4, hg4⟩ := Prod.mk.inj hg3
          subst hq4
          obtain ⟨hq5, hg5⟩ := Prod.mk.inj hg4
          subst hq5
          obtain ⟨hq6, hg6⟩ := Prod.mk.inj hg5
          subst hq6
          obtain ⟨hq7, hg7⟩ := Prod.mk.inj hg6
          subst hq7
          obtain ⟨hq8, hg8⟩ := Prod.mk.inj hg7
          subst hq8
          obtain ⟨hq9, hg9⟩ := Prod.mk.inj hg8
          subst hq9
          obtain ⟨hq10, hg10⟩ := Prod.mk.inj hg9
          subst hq10
          obtain ⟨hq11, hg11⟩ := Prod.mk.inj hg10
          subst hq11
          obtain ⟨hq12, hg12⟩ := Prod.mk.inj hg11
          subst hq12
          subst hg12
          exact W.iret hx hb hr (fun t ht hW => ⟨⟨_, (), rfl, rfl, by rw [ht]; exact hP, va_K.moved hW.alike hK, hD⟩, hS.F ht⟩) hS.2.2 dX1_claim_118
  · have hf := ift h2 hf
    refine lv_iconst (v := (1 : Int32)) hx hb dX1_claim_8 (by decide) ?_
    refine lv_goto (tgt := 33) hx hb dX1_claim_9 (by decide) ?_
    refine va_put (D := (dC, dI)) (ci := 1) (v := .int (1 : Int32)) (ty := .int) (C := RX1) (T := TX1) (N := 12) hx hb hts (fun w hw => List.mem_cons_of_mem _ (inX1 w hw)) tyX1 tyX1_ok nmX1 hown hK hP hD hS 0 rfl rfl 0 (by decide) (hts _ (List.mem_cons_of_mem _ mw_444)) (fun _ h9 => h9) rfl (by decide +kernel) rfl rfl (Nat.le_of_ble_eq_true rfl) dX1_claim_33 (fun H locs hP hD hS => ?_)
    have hP : va_P (dC, dI) vwCl (wM cI cZ hm b1 b2 b3 b4 b5 b6 b7 b8 b9 (1 : Int32) mk us fi se ki va li ct od ne ro) _ := hP
    have hD : va_D A (wM cI cZ hm b1 b2 b3 b4 b5 b6 b7 b8 b9 (1 : Int32) mk us fi se ki va li ct od ne ro) := hD
    refine lv_aload_n hx hb dX1_claim_36 rfl (lv_at hl 0 rfl) ?_
    refine va_get (D := (dC, dI)) (ci := 1) (v := .int (1 : Int32)) (C := RX1) (T := TX1) (N := 12) hx hb hts (fun w hw => List.mem_cons_of_mem _ (inX1 w hw)) hown hK hP 0 rfl rfl 0 (by decide) (hts _ (List.mem_cons_of_mem _ mw_444)) (fun _ h9 => h9) rfl dX1_claim_37 ?_
    refine lv_if_ne (tgt := 101) hx hb dX1_claim_40 (by decide) (fun _ => ?_) (fun h9 => absurd h9 (by decide))
    refine lv_aload_n hx hb dX1_claim_101 rfl (lv_at hl 0 rfl) ?_
    refine va_get (D := (dC, dI)) (ci := 1) (v := .int (1 : Int32)) (C := RX1) (T := TX1) (N := 12) hx hb hts (fun w hw => List.mem_cons_of_mem _ (inX1 w hw)) hown hK hP 0 rfl rfl 0 (by decide) (hts _ (List.mem_cons_of_mem _ mw_444)) (fun _ h9 => h9) rfl dX1_claim_102 ?_
    refine lv_if_le (tgt := 112) hx hb dX1_claim_105 (by decide) (fun h9 => absurd h9 (by decide)) (fun _ => ?_)
    refine lv_iconst (v := (0 : Int32)) hx hb dX1_claim_108 (by decide) ?_
    refine lv_goto (tgt := 118) hx hb dX1_claim_109 (by decide) ?_
    have hg0 := Option.some.inj hf
    obtain ⟨hq1, hg1⟩ := Prod.mk.inj hg0
    subst hq1
    obtain ⟨hq2, hg2⟩ := Prod.mk.inj hg1
    subst hq2
    obtain ⟨hq3, hg3⟩ := Prod.mk.inj hg2
    subst hq3
    obtain ⟨hq4, hg4⟩ := Prod.mk.inj hg3
    subst hq4
    obtain ⟨hq5, hg5⟩ := Prod.mk.inj hg4
    subst hq5
    obtain ⟨hq6, hg6⟩ := Prod.mk.inj hg5
    subst hq6
    obtain ⟨hq7, hg7⟩ := Prod.mk.inj hg6
    subst hq7
    obtain ⟨hq8, hg8⟩ := Prod.mk.inj hg7
    subst hq8
    obtain ⟨hq9, hg9⟩ := Prod.mk.inj hg8
    subst hq9
    obtain ⟨hq10, hg10⟩ := Prod.mk.inj hg9
    subst hq10
    obtain ⟨hq11, hg11⟩ := Prod.mk.inj hg10
    subst hq11
    obtain ⟨hq12, hg12⟩ := Prod.mk.inj hg11
    subst hq12
    subst hg12
    exact W.iret hx hb hr (fun t ht hW => ⟨⟨_, (), rfl, rfl, by rw [ht]; exact hP, va_K.moved hW.alike hK, hD⟩, hS.F ht⟩) hS.2.2 dX1_claim_118
set_option maxHeartbeats 4000000 in
set_option maxRecDepth 100000 in
theorem ctX1_copy (l : Launch) (dC : Nat → ClassId) (dI : Nat → Nat → Nat) (cI cZ cL : ClassId) (hm b1 b2 b3 b4 b5 b6 b7 b8 b9 : Nat) (sz : Nat) (th : Int32) (mk : Int32) (us : Nat → Int32) (fi : Nat → Int32) (se : Nat → Int32) (ki : Nat → Int32) (va : Nat → Int32) (li : Nat → Int32) (ct : Int32) (od : Nat → Int32) (ne : Nat → Int32) (ro : Nat → Int32) (x1 : Int32) (x2 : Int32) (th' : Int32) (ro' : Nat → Int32) (hf : fX1_copy th ro x1 x2 = some (th', ro')) : Met l yX1_copy wsX1_copy rmX1_copy (va_Pc [.ref hm, .int x1, .int x2] (q_pre (dC, dI) vwCl (tyA cI cZ cL) sz (wM cI cZ hm b1 b2 b3 b4 b5 b6 b7 b8 b9 th mk us fi se ki va li ct od ne ro))) (va_Qv (fun (_ : Unit) => True) (fun _ => q_post (dC, dI) vwCl (tyA cI cZ cL) (va_A (wM cI cZ hm b1 b2 b3 b4 b5 b6 b7 b8 b9 th mk us fi se ki va li ct od ne ro) sz) (wM cI cZ hm b1 b2 b3 b4 b5 b6 b7 b8 b9 th' mk us fi se ki va li ct od ne ro')) (va_A (wM cI cZ hm b1 b2 b3 b4 b5 b6 b7 b8 b9 th mk us fi se ki va li ct od ne ro) sz)) 0 0 (va_A (wM cI cZ hm b1 b2 b3 b4 b5 b6 b7 b8 b9 th mk us fi se ki va li ct od ne ro) sz) := by
  refine Met.ofW (cc := cX1_copy) (maxL := 3) (ret := (none)) (by decide) rfl ?_
  intro p e s m args below meth c s₁ B hml hv
  obtain ⟨rfl, hsz, hP, hK, hD0⟩ := hv
  have hx := B.exec
  have hb := B.bytes
  have hr := B.returns
  have hts := atoms_spec (ws := wsX1_copy) B.pre
  have hown : s.vm.findClass RX1 = some m.cls := findClass_of_methodNamed B.named
  subst hsz
  have hD := hD0.self (sz := s.heap.size)
  generalize hAe : va_A (wM cI cZ hm b1 b2 b3 b4 b5 b6 b7 b8 b9 th mk us fi se ki va li ct od ne ro) s.heap.size = A at hD ⊢
  have hA : ∀ q : Nat, s.heap.size ≤ q → A q := fun q h => by rw [← hAe]; exact Or.inr h
  have hS : va_S A s.heap s.heap [] := va_S.rf
  have hl := lv_entry ([.ref hm, .int x1, .int x2]) (n := 3) (Nat.le_of_ble_eq_true rfl)
  rw [lg_entry_eq]
  generalize (lg_sl ([.ref hm, .int x1, .int x2]) ++ List.replicate (3 - (lg_sl ([.ref hm, .int x1, .int x2])).length) Slot.unset).toArray = ls at hl ⊢
  have hl : lv_has ls 3 [(0, .ref hm), (1, .int x1), (2, .int x2)] := hl
  unfold fX1_copy at hf
  refine lv_aload_n hx hb dX1_copy_0 rfl (lv_at hl 0 rfl) ?_
  refine lv_iload_n hx hb dX1_copy_1 rfl (lv_at hl 1 rfl) ?_
  obtain ⟨v1, hv, hf⟩ := bd hf
  refine q_ci (wr := (wM cI cZ hm b1 b2 b3 b4 b5 b6 b7 b8 b9 th mk us fi se ki va li ct od ne ro)) (va_runS (As := [.int x1]) (rest := [.ref hm]) ⟨hx, hb, hml, hown, hts⟩ (ctX1_isRoot l dC dI cI cZ cL _ x1 v1 hv) (va_cwS 1 hts (gS mw_526 mw_527 mw_40 mw_528) rfl rfl rfl (by decide +kernel) ⟨Nat.le_of_ble_eq_true rfl, Nat.le_of_ble_eq_true rfl⟩) (q_preS [.int x1] hK hP hD [] (by decide) rfl) rfl rfl hl.1 rfl (lv_room (Nat.le_of_ble_eq_true rfl)) dX1_copy_2 ⟨Nat.le_of_ble_eq_true rfl, Nat.le_of_ble_eq_true rfl⟩) hP hD hS hA [] [0, 1, 2, 3, 4, 5, 6, 7, 8, 9] rfl rfl (by decide) (by decide) (fun H locs hP hD hS => ?_)
  have hP : va_P (dC, dI) vwCl (wM cI cZ hm b1 b2 b3 b4 b5 b6 b7 b8 b9 th mk us fi se ki va li ct od ne ro) _ := hP
  have hD : va_D A (wM cI cZ hm b1 b2 b3 b4 b5 b6 b7 b8 b9 th mk us fi se ki va li ct od ne ro) := hD
  refine lv_if_eq (tgt := 19) hx hb dX1_copy_5 (by decide) (fun h2 => ?_) (fun h2 => ?_)
  · have hf := ift h2 hf
    refine lv_iconst (v := (1 : Int32)) hx hb dX1_copy_19 (by decide) ?_
    refine va_put (D := (dC, dI)) (ci := 1) (v := .int (1 : Int32)) (ty := .int) (C := RX1) (T := TX1) (N := 12) hx hb hts (fun w hw => List.mem_cons_of_mem _ (inX1 w hw)) tyX1 tyX1_ok nmX1 hown hK hP hD hS 0 rfl rfl 0 (by decide) (hts _ (List.mem_cons_of_mem _ mw_444)) (fun _ h9 => h9) rfl (by decide +kernel) rfl rfl (Nat.le_of_ble_eq_true rfl) dX1_copy_20 (fun H locs hP hD hS => ?_)
    have hP : va_P (dC, dI) vwCl (wM cI cZ hm b1 b2 b3 b4 b5 b6 b7 b8 b9 (1 : Int32) mk us fi se ki va li ct od ne ro) _ := hP
    have hD : va_D A (wM cI cZ hm b1 b2 b3 b4 b5 b6 b7 b8 b9 (1 : Int32) mk us fi se ki va li ct od ne ro) := hD
    refine lv_aload_n hx hb dX1_copy_23 rfl (lv_at hl 0 rfl) ?_
    refine va_get (D := (dC, dI)) (ci := 1) (v := .int (1 : Int32)) (C := RX1) (T := TX1) (N := 12) hx hb hts (fun w hw => List.mem_cons_of_mem _ (inX1 w hw)) hown hK hP 0 rfl rfl 0 (by decide) (hts _ (List.mem_cons_of_mem _ mw_444)) (fun _ h9 => h9) rfl dX1_copy_24 ?_
    refine lv_if_ne (tgt := 42) hx hb dX1_copy_27 (by decide) (fun _ => ?_) (fun h9 => absurd h9 (by decide))
    have hg0 := Option.some.inj hf
    obtain ⟨hq1, hg1⟩ := Prod.mk.inj hg0
    subst hq1
    subst hg1
    exact W.vret hx hb hr (fun t ht hW => ⟨⟨(), rfl, trivial, by rw [ht]; exact hP, va_K.moved hW.alike hK, hD⟩, hS.F ht⟩) hS.2.2 dX1_copy_42
  · have hf := ifn h2 hf
    refine lv_iload_n hx hb dX1_copy_8 rfl (lv_at hl 2 rfl) ?_
    obtain ⟨v3, hv, hf⟩ := bd hf
    refine q_ci (wr := (wM cI cZ hm b1 b2 b3 b4 b5 b6 b7 b8 b9 th mk us fi se ki va li ct od ne ro)) (va_runS (As := [.int x2]) (rest := [.ref hm]) ⟨hx, hb, hml, hown, hts⟩ (ctX1_isRoot l dC dI cI cZ cL _ x2 v3 hv) (va_cwS 1 hts (gS mw_526 mw_527 mw_40 mw_528) rfl rfl rfl (by decide +kernel) ⟨Nat.le_of_ble_eq_true rfl, Nat.le_of_ble_eq_true rfl⟩) (q_preS [.int x2] hK hP hD [] (by decide) rfl) rfl rfl hl.1 rfl (lv_room (Nat.le_of_ble_eq_true rfl)) dX1_copy_9 ⟨Nat.le_of_ble_eq_true rfl, Nat.le_of_ble_eq_true rfl⟩) hP hD hS hA [] [0, 1, 2, 3, 4, 5, 6, 7, 8, 9] rfl rfl (by decide) (by decide) (fun H locs hP hD hS => ?_)
    have hP : va_P (dC, dI) vwCl (wM cI cZ hm b1 b2 b3 b4 b5 b6 b7 b8 b9 th mk us fi se ki va li ct od ne ro) _ := hP
    have hD : va_D A (wM cI cZ hm b1 b2 b3 b4 b5 b6 b7 b8 b9 th mk us fi se ki va li ct od ne ro) := hD
    refine lv_if_eq (tgt := 19) hx hb dX1_copy_12 (by decide) (fun h4 => ?_) (fun h4 => ?_)
    · have hf := ift h4 hf
      refine lv_iconst (v := (1 : Int32)) hx hb dX1_copy_19 (by decide) ?_
      refine va_put (D := (dC, dI)) (ci := 1) (v := .int (1 : Int32)) (ty := .int) (C := RX1) (T := TX1) (N := 12) hx hb hts (fun w hw => List.mem_cons_of_mem _ (inX1 w hw)) tyX1 tyX1_ok nmX1 hown hK hP hD hS 0 rfl rfl 0 (by decide) (hts _ (List.mem_cons_of_mem _ mw_444)) (fun _ h9 => h9) rfl (by decide +kernel) rfl rfl (Nat.le_of_ble_eq_true rfl) dX1_copy_20 (fun H locs hP hD hS => ?_)
      have hP : va_P (dC, dI) vwCl (wM cI cZ hm b1 b2 b3 b4 b5 b6 b7 b8 b9 (1 : Int32) mk us fi se ki va li ct od ne ro) _ := hP
      have hD : va_D A (wM cI cZ hm b1 b2 b3 b4 b5 b6 b7 b8 b9 (1 : Int32) mk us fi se ki va li ct od ne ro) := hD
      refine lv_aload_n hx hb dX1_copy_23 rfl (lv_at hl 0 rfl) ?_
      refine va_get (D := (dC, dI)) (ci := 1) (v := .int (1 : Int32)) (C := RX1) (T := TX1) (N := 12) hx hb hts (fun w hw => List.mem_cons_of_mem _ (inX1 w hw)) hown hK hP 0 rfl rfl 0 (by decide) (hts _ (List.mem_cons_of_mem _ mw_444)) (fun _ h9 => h9) rfl dX1_copy_24 ?_
      refine lv_if_ne (tgt := 42) hx hb dX1_copy_27 (by decide) (fun _ => ?_) (fun h9 => absurd h9 (by decide))
      have hg0 := Option.some.inj hf
      obtain ⟨hq1, hg1⟩ := Prod.mk.inj hg0
      subst hq1
      subst hg1
      exact W.vret hx hb hr (fun t ht hW => ⟨⟨(), rfl, trivial, by rw [ht]; exact hP, va_K.moved hW.alike hK, hD⟩, hS.F ht⟩) hS.2.2 dX1_copy_42
    · have hf := ifn h4 hf
      refine lv_iconst (v := (0 : Int32)) hx hb dX1_copy_15 (by decide) ?_
      refine lv_goto (tgt := 20) hx hb dX1_copy_16 (by decide) ?_
      refine va_put (D := (dC, dI)) (ci := 1) (v := .int (0 : Int32)) (ty := .int) (C := RX1) (T := TX1) (N := 12) hx hb hts (fun w hw => List.mem_cons_of_mem _ (inX1 w hw)) tyX1 tyX1_ok nmX1 hown hK hP hD hS 0 rfl rfl 0 (by decide) (hts _ (List.mem_cons_of_mem _ mw_444)) (fun _ h9 => h9) rfl (by decide +kernel) rfl rfl (Nat.le_of_ble_eq_true rfl) dX1_copy_20 (fun H locs hP hD hS => ?_)
      have hP : va_P (dC, dI) vwCl (wM cI cZ hm b1 b2 b3 b4 b5 b6 b7 b8 b9 (0 : Int32) mk us fi se ki va li ct od ne ro) _ := hP
      have hD : va_D A (wM cI cZ hm b1 b2 b3 b4 b5 b6 b7 b8 b9 (0 : Int32) mk us fi se ki va li ct od ne ro) := hD
      refine lv_aload_n hx hb dX1_copy_23 rfl (lv_at hl 0 rfl) ?_
      refine va_get (D := (dC, dI)) (ci := 1) (v := .int (0 : Int32)) (C := RX1) (T := TX1) (N := 12) hx hb hts (fun w hw => List.mem_cons_of_mem _ (inX1 w hw)) hown hK hP 0 rfl rfl 0 (by decide) (hts _ (List.mem_cons_of_mem _ mw_444)) (fun _ h9 => h9) rfl dX1_copy_24 ?_
      refine lv_if_ne (tgt := 42) hx hb dX1_copy_27 (by decide) (fun h9 => absurd h9 (by decide)) (fun _ => ?_)
      refine lv_aload_n hx hb dX1_copy_30 rfl (lv_at hl 0 rfl) ?_
      refine va_get (D := (dC, dI)) (ci := 1) (v := .ref b9) (C := RX1) (T := TX1) (N := 12) hx hb hts (fun w hw => List.mem_cons_of_mem _ (inX1 w hw)) hown hK hP 0 rfl rfl 11 (by decide) (hts _ (List.mem_cons_of_mem _ mw_455)) (fun _ h9 => h9) rfl dX1_copy_31 ?_
      refine lv_iload_n hx hb dX1_copy_34 rfl (lv_at hl 1 rfl) ?_
      refine lv_aload_n hx hb dX1_copy_35 rfl (lv_at hl 0 rfl) ?_
      refine va_get (D := (dC, dI)) (ci := 1) (v := .ref b9) (C := RX1) (T := TX1) (N := 12) hx hb hts (fun w hw => List.mem_cons_of_mem _ (inX1 w hw)) hown hK hP 0 rfl rfl 11 (by decide) (hts _ (List.mem_cons_of_mem _ mw_455)) (fun _ h9 => h9) rfl dX1_copy_36 ?_
      refine lv_iload_n hx hb dX1_copy_39 rfl (lv_at hl 2 rfl) ?_
      obtain ⟨v5, hv, hf⟩ := bd hf
      refine q_ild hx hb hK hP 9 0 rfl rfl hv dX1_copy_40 ?_
      obtain ⟨ro_6, hv, hf⟩ := bd hf
      refine q_ist hx hb hK hP hD hS 9 0 rfl rfl hv dX1_copy_41 (fun H locs hP hD hS => ?_)
      have hP : va_P (dC, dI) vwCl (wM cI cZ hm b1 b2 b3 b4 b5 b6 b7 b8 b9 (0 : Int32) mk us fi se ki va li ct od ne ro_6) _ := hP
      have hD : va_D A (wM cI cZ hm b1 b2 b3 b4 b5 b6 b7 b8 b9 (0 : Int32) mk us fi se ki va li ct od ne ro_6) := hD
      have hg0 := Option.some.inj hf
      obtain ⟨hq1, hg1⟩ := Prod.mk.inj hg0
      subst hq1
      subst hg1
      exact W.vret hx hb hr (fun t ht hW => ⟨⟨(), rfl, trivial, by rw [ht]; exact hP, va_K.moved hW.alike hK, hD⟩, hS.F ht⟩) hS.2.2 dX1_copy_42
set_option maxHeartbeats 4000000 in
set_option maxRecDepth 100000 in
theorem ctX1_clear (l : Launch) (dC : Nat → ClassId) (dI : Nat → Nat → Nat) (cI cZ cL : ClassId) (hm b1 b2 b3 b4 b5 b6 b7 b8 b9 : Nat) (sz : Nat) (th : Int32) (mk : Int32) (us : Nat → Int32) (fi : Nat → Int32) (se : Nat → Int32) (ki : Nat → Int32) (va : Nat → Int32) (li : Nat → Int32) (ct : Int32) (od : Nat → Int32) (ne : Nat → Int32) (ro : Nat → Int32) (x1 : Int32) (th' : Int32) (ro' : Nat → Int32) (hf : fX1_clear th ro x1 = some (th', ro')) : Met l yX1_clear wsX1_clear rmX1_clear (va_Pc [.ref hm, .int x1] (q_pre (dC, dI) vwCl (tyA cI cZ cL) sz (wM cI cZ hm b1 b2 b3 b4 b5 b6 b7 b8 b9 th mk us fi se ki va li ct od ne ro))) (va_Qv (fun (_ : Unit) => True) (fun _ => q_post (dC, dI) vwCl (tyA cI cZ cL) (va_A (wM cI cZ hm b1 b2 b3 b4 b5 b6 b7 b8 b9 th mk us fi se ki va li ct od ne ro) sz) (wM cI cZ hm b1 b2 b3 b4 b5 b6 b7 b8 b9 th' mk us fi se ki va li ct od ne ro')) (va_A (wM cI cZ hm b1 b2 b3 b4 b5 b6 b7 b8 b9 th mk us fi se ki va li ct od ne ro) sz)) 0 0 (va_A (wM cI cZ hm b1 b2 b3 b4 b5 b6 b7 b8 b9 th mk us fi se ki va li ct od ne ro) sz) := by
  refine Met.ofW (cc := cX1_clear) (maxL := 2) (ret := (none)) (by decide) rfl ?_
  intro p e s m args below meth c s₁ B hml hv
  obtain ⟨rfl, hsz, hP, hK, hD0⟩ := hv
  have hx := B.exec
  have hb := B.bytes
  have hr := B.returns
  have hts := atoms_spec (ws := wsX1_clear) B.pre
  have hown : s.vm.findClass RX1 = some m.cls := findClass_of_methodNamed B.named
  subst hsz
  have hD := hD0.self (sz := s.heap.size)
  generalize hAe : va_A (wM cI cZ hm b1 b2 b3 b4 b5 b6 b7 b8 b9 th mk us fi se ki va li ct od ne ro) s.heap.size = A at hD ⊢
  have hA : ∀ q : Nat, s.heap.size ≤ q → A q := fun q h => by rw [← hAe]; exact Or.inr h
  have hS : va_S A s.heap s.heap [] := va_S.rf
  have hl := lv_entry ([.ref hm, .int x1]) (n := 2) (Nat.le_of_ble_eq_true rfl)
  rw [lg_entry_eq]
  generalize (lg_sl ([.ref hm, .int x1]) ++ List.replicate (2 - (lg_sl ([.ref hm, .int x1])).length) Slot.unset).toArray = ls at hl ⊢
  have hl : lv_has ls 2 [(0, .ref hm), (1, .int x1)] := hl
  unfold fX1_clear at hf
  refine lv_aload_n hx hb dX1_clear_0 rfl (lv_at hl 0 rfl) ?_
  refine lv_iload_n hx hb dX1_clear_1 rfl (lv_at hl 1 rfl) ?_
  obtain ⟨v1, hv, hf⟩ := bd hf
  refine q_ci (wr := (wM cI cZ hm b1 b2 b3 b4 b5 b6 b7 b8 b9 th mk us fi se ki va li ct od ne ro)) (va_runS (As := [.int x1]) (rest := [.ref hm]) ⟨hx, hb, hml, hown, hts⟩ (ctX1_isRoot l dC dI cI cZ cL _ x1 v1 hv) (va_cwS 1 hts (gS mw_526 mw_527 mw_40 mw_528) rfl rfl rfl (by decide +kernel) ⟨Nat.le_of_ble_eq_true rfl, Nat.le_of_ble_eq_true rfl⟩) (q_preS [.int x1] hK hP hD [] (by decide) rfl) rfl rfl hl.1 rfl (lv_room (Nat.le_of_ble_eq_true rfl)) dX1_clear_2 ⟨Nat.le_of_ble_eq_true rfl, Nat.le_of_ble_eq_true rfl⟩) hP hD hS hA [] [0, 1, 2, 3, 4, 5, 6, 7, 8, 9] rfl rfl (by decide) (by decide) (fun H locs hP hD hS => ?_)
  have hP : va_P (dC, dI) vwCl (wM cI cZ hm b1 b2 b3 b4 b5 b6 b7 b8 b9 th mk us fi se ki va li ct od ne ro) _ := hP
  have hD : va_D A (wM cI cZ hm b1 b2 b3 b4 b5 b6 b7 b8 b9 th mk us fi se ki va li ct od ne ro) := hD
  refine lv_if_eq (tgt := 12) hx hb dX1_clear_5 (by decide) (fun h2 => ?_) (fun h2 => ?_)
  · have hf := ift h2 hf
    refine lv_iconst (v := (1 : Int32)) hx hb dX1_clear_12 (by decide) ?_
    refine va_put (D := (dC, dI)) (ci := 1) (v := .int (1 : Int32)) (ty := .int) (C := RX1) (T := TX1) (N := 12) hx hb hts (fun w hw => List.mem_cons_of_mem _ (inX1 w hw)) tyX1 tyX1_ok nmX1 hown hK hP hD hS 0 rfl rfl 0 (by decide) (hts _ (List.mem_cons_of_mem _ mw_444)) (fun _ h9 => h9) rfl (by decide +kernel) rfl rfl (Nat.le_of_ble_eq_true rfl) dX1_clear_13 (fun H locs hP hD hS => ?_)
    have hP : va_P (dC, dI) vwCl (wM cI cZ hm b1 b2 b3 b4 b5 b6 b7 b8 b9 (1 : Int32) mk us fi se ki va li ct od ne ro) _ := hP
    have hD : va_D A (wM cI cZ hm b1 b2 b3 b4 b5 b6 b7 b8 b9 (1 : Int32) mk us fi se ki va li ct od ne ro) := hD
    refine lv_aload_n hx hb dX1_clear_16 rfl (lv_at hl 0 rfl) ?_
    refine va_get (D := (dC, dI)) (ci := 1) (v := .int (1 : Int32)) (C := RX1) (T := TX1) (N := 12) hx hb hts (fun w hw => List.mem_cons_of_mem _ (inX1 w hw)) hown hK hP 0 rfl rfl 0 (by decide) (hts _ (List.mem_cons_of_mem _ mw_444)) (fun _ h9 => h9) rfl dX1_clear_17 ?_
    refine lv_if_ne (tgt := 30) hx hb dX1_clear_20 (by decide) (fun _ => ?_) (fun h9 => absurd h9 (by decide))
    have hg0 := Option.some.inj hf
    obtain ⟨hq1, hg1⟩ := Prod.mk.inj hg0
    subst hq1
    subst hg1
    exact W.vret hx hb hr (fun t ht hW => ⟨⟨(), rfl, trivial, by rw [ht]; exact hP, va_K.moved hW.alike hK, hD⟩, hS.F ht⟩) hS.2.2 dX1_clear_30
  · have hf := ifn h2 hf
    refine lv_iconst (v := (0 : Int32)) hx hb dX1_clear_8 (by decide) ?_
    refine lv_goto (tgt := 13) hx hb dX1_clear_9 (by decide) ?_
    refine va_put (D := (dC, dI)) (ci := 1) (v := .int (0 : Int32)) (ty := .int) (C := RX1) (T := TX1) (N := 12) hx hb hts (fun w hw => List.mem_cons_of_mem _ (inX1 w hw)) tyX1 tyX1_ok nmX1 hown hK hP hD hS 0 rfl rfl 0 (by decide) (hts _ (List.mem_cons_of_mem _ mw_444)) (fun _ h9 => h9) rfl (by decide +kernel) rfl rfl (Nat.le_of_ble_eq_true rfl) dX1_clear_13 (fun H locs hP hD hS => ?_)
    have hP : va_P (dC, dI) vwCl (wM cI cZ hm b1 b2 b3 b4 b5 b6 b7 b8 b9 (0 : Int32) mk us fi se ki va li ct od ne ro) _ := hP
    have hD : va_D A (wM cI cZ hm b1 b2 b3 b4 b5 b6 b7 b8 b9 (0 : Int32) mk us fi se ki va li ct od ne ro) := hD
    refine lv_aload_n hx hb dX1_clear_16 rfl (lv_at hl 0 rfl) ?_
    refine va_get (D := (dC, dI)) (ci := 1) (v := .int (0 : Int32)) (C := RX1) (T := TX1) (N := 12) hx hb hts (fun w hw => List.mem_cons_of_mem _ (inX1 w hw)) hown hK hP 0 rfl rfl 0 (by decide) (hts _ (List.mem_cons_of_mem _ mw_444)) (fun _ h9 => h9) rfl dX1_clear_17 ?_
    refine lv_if_ne (tgt := 30) hx hb dX1_clear_20 (by decide) (fun h9 => absurd h9 (by decide)) (fun _ => ?_)
    refine lv_aload_n hx hb dX1_clear_23 rfl (lv_at hl 0 rfl) ?_
    refine va_get (D := (dC, dI)) (ci := 1) (v := .ref b9) (C := RX1) (T := TX1) (N := 12) hx hb hts (fun w hw => List.mem_cons_of_mem _ (inX1 w hw)) hown hK hP 0 rfl rfl 11 (by decide) (hts _ (List.mem_cons_of_mem _ mw_455)) (fun _ h9 => h9) rfl dX1_clear_24 ?_
    refine lv_iload_n hx hb dX1_clear_27 rfl (lv_at hl 1 rfl) ?_
    refine lv_iconst (v := (-1 : Int32)) hx hb dX1_clear_28 (by decide) ?_
    obtain ⟨ro_3, hv, hf⟩ := bd hf
    refine q_ist hx hb hK hP hD hS 9 0 rfl rfl hv dX1_clear_29 (fun H locs hP hD hS => ?_)
    have hP : va_P (dC, dI) vwCl (wM cI cZ hm b1 b2 b3 b4 b5 b6 b7 b8 b9 (0 : Int32) mk us fi se ki va li ct od ne ro_3) _ := hP
    have hD : va_D A (wM cI cZ hm b1 b2 b3 b4 b5 b6 b7 b8 b9 (0 : Int32) mk us fi se ki va li ct od ne ro_3) := hD
    have hg0 := Option.some.inj hf
    obtain ⟨hq1, hg1⟩ := Prod.mk.inj hg0
    subst hq1
    subst hg1
    exact W.vret hx hb hr (fun t ht hW => ⟨⟨(), rfl, trivial, by rw [ht]; exact hP, va_K.moved hW.alike hK, hD⟩, hS.F ht⟩) hS.2.2 dX1_clear_30
set_option maxHeartbeats 4000000 in
set_option maxRecDepth 100000 in
theorem ctX1_bar (l : Launch) (dC : Nat → ClassId) (dI : Nat → Nat → Nat) (cI cZ cL : ClassId) (hm b1 b2 b3 b4 b5 b6 b7 b8 b9 : Nat) (sz : Nat) (th : Int32) (mk : Int32) (us : Nat → Int32) (fi : Nat → Int32) (se : Nat → Int32) (ki : Nat → Int32) (va : Nat → Int32) (li : Nat → Int32) (ct : Int32) (od : Nat → Int32) (ne : Nat → Int32) (ro : Nat → Int32) (x1 : Int32) (x2 : Int32) (rs : Int32) (hf : fX1_bar fi ro x1 x2 = some rs) : Met l yX1_bar wsX1_bar rmX1_bar (va_Pc [.ref hm, .int x1, .int x2] (q_pre (dC, dI) vwCl (tyA cI cZ cL) sz (wM cI cZ hm b1 b2 b3 b4 b5 b6 b7 b8 b9 th mk us fi se ki va li ct od ne ro))) (va_Qi (fun r (_ : Unit) => r = rs) (fun _ => q_post (dC, dI) vwCl (tyA cI cZ cL) (va_A (wM cI cZ hm b1 b2 b3 b4 b5 b6 b7 b8 b9 th mk us fi se ki va li ct od ne ro) sz) (wM cI cZ hm b1 b2 b3 b4 b5 b6 b7 b8 b9 th mk us fi se ki va li ct od ne ro)) (va_A (wM cI cZ hm b1 b2 b3 b4 b5 b6 b7 b8 b9 th mk us fi se ki va li ct od ne ro) sz)) 0 0 (va_A (wM cI cZ hm b1 b2 b3 b4 b5 b6 b7 b8 b9 th mk us fi se ki va li ct od ne ro) sz) := by
  refine Met.ofW (cc := cX1_bar) (maxL := 3) (ret := (some .int)) (by decide) rfl ?_
  intro p e s m args below meth c s₁ B hml hv
  obtain ⟨rfl, hsz, hP, hK, hD0⟩ := hv
  have hx := B.exec
  have hb := B.bytes
  have hr := B.returns
  have hts := atoms_spec (ws := wsX1_bar) B.pre
  have hown : s.vm.findClass RX1 = some m.cls := findClass_of_methodNamed B.named
  subst hsz
  have hD := hD0.self (sz := s.heap.size)
  generalize hAe : va_A (wM cI cZ hm b1 b2 b3 b4 b5 b6 b7 b8 b9 th mk us fi se ki va li ct od ne ro) s.heap.size = A at hD ⊢
  have hA : ∀ q : Nat, s.heap.size ≤ q → A q := fun q h => by rw [← hAe]; exact Or.inr h
  have hS : va_S A s.heap s.heap [] := va_S.rf
  have hl := lv_entry ([.ref hm, .int x1, .int x2]) (n := 3) (Nat.le_of_ble_eq_true rfl)
  rw [lg_entry_eq]
  generalize (lg_sl ([.ref hm, .int x1, .int x2]) ++ List.replicate (3 - (lg_sl ([.ref hm, .int x1, .int x2])).length) Slot.unset).toArray = ls at hl ⊢
  have hl : lv_has ls 3 [(0, .ref hm), (1, .int x1), (2, .int x2)] := hl
  unfold fX1_bar at hf
  refine lv_iload_n hx hb dX1_bar_0 rfl (lv_at hl 1 rfl) ?_
  obtain ⟨v1, hv, hf⟩ := bd hf
  refine q_ci (wr := (wM cI cZ hm b1 b2 b3 b4 b5 b6 b7 b8 b9 th mk us fi se ki va li ct od ne ro)) (va_runS (As := [.int x1]) (rest := []) ⟨hx, hb, hml, hown, hts⟩ (ctX1_isRoot l dC dI cI cZ cL _ x1 v1 hv) (va_cwS 1 hts (gS mw_526 mw_527 mw_40 mw_528) rfl rfl rfl (by decide +kernel) ⟨Nat.le_of_ble_eq_true rfl, Nat.le_of_ble_eq_true rfl⟩) (q_preS [.int x1] hK hP hD [] (by decide) rfl) rfl rfl hl.1 rfl (lv_room (Nat.le_of_ble_eq_true rfl)) dX1_bar_1 ⟨Nat.le_of_ble_eq_true rfl, Nat.le_of_ble_eq_true rfl⟩) hP hD hS hA [] [0, 1, 2, 3, 4, 5, 6, 7, 8, 9] rfl rfl (by decide) (by decide) (fun H locs hP hD hS => ?_)
  have hP : va_P (dC, dI) vwCl (wM cI cZ hm b1 b2 b3 b4 b5 b6 b7 b8 b9 th mk us fi se ki va li ct od ne ro) _ := hP
  have hD : va_D A (wM cI cZ hm b1 b2 b3 b4 b5 b6 b7 b8 b9 th mk us fi se ki va li ct od ne ro) := hD
  refine lv_if_ne (tgt := 11) hx hb dX1_bar_4 (by decide) (fun h2 => ?_) (fun h2 => ?_)
  · have hf := ifn h2 hf
    refine lv_aload_n hx hb dX1_bar_11 rfl (lv_at hl 0 rfl) ?_
    refine va_get (D := (dC, dI)) (ci := 1) (v := .ref b9) (C := RX1) (T := TX1) (N := 12) hx hb hts (fun w hw => List.mem_cons_of_mem _ (inX1 w hw)) hown hK hP 0 rfl rfl 11 (by decide) (hts _ (List.mem_cons_of_mem _ mw_455)) (fun _ h9 => h9) rfl dX1_bar_12 ?_
    refine lv_iload_n hx hb dX1_bar_15 rfl (lv_at hl 1 rfl) ?_
    obtain ⟨v3, hv, hf⟩ := bd hf
    refine q_ild hx hb hK hP 9 0 rfl rfl hv dX1_bar_16 ?_
    refine lv_if_ge (tgt := 24) hx hb dX1_bar_17 (by decide) (fun h4 => ?_) (fun h4 => ?_)
    · have hf := ift h4 hf
      refine lv_iload_n hx hb dX1_bar_24 rfl (lv_at hl 2 rfl) ?_
      refine lv_if_lt (tgt := 43) hx hb dX1_bar_25 (by decide) (fun h5 => ?_) (fun h5 => ?_)
      · have hf := ift h5 hf
        refine lv_iconst (v := (1 : Int32)) hx hb dX1_bar_43 (by decide) ?_
        refine lv_goto (tgt := 48) hx hb dX1_bar_44 (by decide) ?_
        have hg0 := Option.some.inj hf
        subst hg0
        exact W.iret hx hb hr (fun t ht hW => ⟨⟨_, (), rfl, rfl, by rw [ht]; exact hP, va_K.moved hW.alike hK, hD⟩, hS.F ht⟩) hS.2.2 dX1_bar_48
      · have hf := ifn h5 hf
        refine lv_iload_n hx hb dX1_bar_28 rfl (lv_at hl 2 rfl) ?_
        refine lv_aload_n hx hb dX1_bar_29 rfl (lv_at hl 0 rfl) ?_
        refine va_get (D := (dC, dI)) (ci := 1) (v := .ref b2) (C := RX1) (T := TX1) (N := 12) hx hb hts (fun w hw => List.mem_cons_of_mem _ (inX1 w hw)) hown hK hP 0 rfl rfl 3 (by decide) (hts _ (List.mem_cons_of_mem _ mw_447)) (fun _ h9 => h9) rfl dX1_bar_30 ?_
        refine lv_aload_n hx hb dX1_bar_33 rfl (lv_at hl 0 rfl) ?_
        refine va_get (D := (dC, dI)) (ci := 1) (v := .ref b9) (C := RX1) (T := TX1) (N := 12) hx hb hts (fun w hw => List.mem_cons_of_mem _ (inX1 w hw)) hown hK hP 0 rfl rfl 11 (by decide) (hts _ (List.mem_cons_of_mem _ mw_455)) (fun _ h9 => h9) rfl dX1_bar_34 ?_
        refine lv_iload_n hx hb dX1_bar_37 rfl (lv_at hl 1 rfl) ?_
        obtain ⟨v6, hv, hf⟩ := bd hf
        refine q_ild hx hb hK hP 9 0 rfl rfl hv dX1_bar_38 ?_
        obtain ⟨v7, hv, hf⟩ := bd hf
        refine q_ild hx hb hK hP 2 0 rfl rfl hv dX1_bar_39 ?_
        refine lv_icmp_lt (tgt := 47) hx hb dX1_bar_40 (by decide) (fun h8 => ?_) (fun h8 => ?_)
        · have hf := ift h8 hf
          refine lv_iconst (v := (0 : Int32)) hx hb dX1_bar_47 (by decide) ?_
          have hg0 := Option.some.inj hf
          subst hg0
          exact W.iret hx hb hr (fun t ht hW => ⟨⟨_, (), rfl, rfl, by rw [ht]; exact hP, va_K.moved hW.alike hK, hD⟩, hS.F ht⟩) hS.2.2 dX1_bar_48
        · have hf := ifn h8 hf
          refine lv_iconst (v := (1 : Int32)) hx hb dX1_bar_43 (by decide) ?_
          refine lv_goto (tgt := 48) hx hb dX1_bar_44 (by decide) ?_
          have hg0 := Option.some.inj hf
          subst hg0
          exact W.iret hx hb hr (fun t ht hW => ⟨⟨_, (), rfl, rfl, by rw [ht]; exact hP, va_K.moved hW.alike hK, hD⟩, hS.F ht⟩) hS.2.2 dX1_bar_48
    · have hf := ifn h4 hf
      refine lv_iconst (v := (2 : Int32)) hx hb dX1_bar_20 (by decide) ?_
      refine lv_goto (tgt := 48) hx hb dX1_bar_21 (by decide) ?_
      have hg0 := Option.some.inj hf
      subst hg0
      exact W.iret hx hb hr (fun t ht hW => ⟨⟨_, (), rfl, rfl, by rw [ht]; exact hP, va_K.moved hW.alike hK, hD⟩, hS.F ht⟩) hS.2.2 dX1_bar_48
  · have hf := ift h2 hf
    refine lv_iconst (v := (1 : Int32)) hx hb dX1_bar_7 (by decide) ?_
    refine lv_goto (tgt := 48) hx hb dX1_bar_8 (by decide) ?_
    have hg0 := Option.some.inj hf
    subst hg0
    exact W.iret hx hb hr (fun t ht hW => ⟨⟨_, (), rfl, rfl, by rw [ht]; exact hP, va_K.moved hW.alike hK, hD⟩, hS.F ht⟩) hS.2.2 dX1_bar_48
set_option maxHeartbeats 4000000 in
set_option maxRecDepth 100000 in
theorem ctX1_set (l : Launch) (dC : Nat → ClassId) (dI : Nat → Nat → Nat) (cI cZ cL : ClassId) (hm b1 b2 b3 b4 b5 b6 b7 b8 b9 : Nat) (sz : Nat) (th : Int32) (mk : Int32) (us : Nat → Int32) (fi : Nat → Int32) (se : Nat → Int32) (ki : Nat → Int32) (va : Nat → Int32) (li : Nat → Int32) (ct : Int32) (od : Nat → Int32) (ne : Nat → Int32) (ro : Nat → Int32) (x1 : Int32) (x2 : Int32) (x3 : Int32) (x4 : Int32) (ki' : Nat → Int32) (va' : Nat → Int32) (hf : fX1_set ki va ro x1 x2 x3 x4 = some (ki', va')) : Met l yX1_set wsX1_set rmX1_set (va_Pc [.ref hm, .int x1, .int x2, .int x3, .int x4] (q_pre (dC, dI) vwCl (tyA cI cZ cL) sz (wM cI cZ hm b1 b2 b3 b4 b5 b6 b7 b8 b9 th mk us fi se ki va li ct od ne ro))) (va_Qv (fun (_ : Unit) => True) (fun _ => q_post (dC, dI) vwCl (tyA cI cZ cL) (va_A (wM cI cZ hm b1 b2 b3 b4 b5 b6 b7 b8 b9 th mk us fi se ki va li ct od ne ro) sz) (wM cI cZ hm b1 b2 b3 b4 b5 b6 b7 b8 b9 th mk us fi se ki' va' li ct od ne ro)) (va_A (wM cI cZ hm b1 b2 b3 b4 b5 b6 b7 b8 b9 th mk us fi se ki va li ct od ne ro) sz)) 0 0 (va_A (wM cI cZ hm b1 b2 b3 b4 b5 b6 b7 b8 b9 th mk us fi se ki va li ct od ne ro) sz) := by
  refine Met.ofW (cc := cX1_set) (maxL := 5) (ret := (none)) (by decide) rfl ?_
  intro p e s m args below meth c s₁ B hml hv
  obtain ⟨rfl, hsz, hP, hK, hD0⟩ := hv
  have hx := B.exec
  have hb := B.bytes
  have hr := B.returns
  have hts := atoms_spec (ws := wsX1_set) B.pre
  have hown : s.vm.findClass RX1 = some m.cls := findClass_of_methodNamed B.named
  subst hsz
  have hD := hD0.self (sz := s.heap.size)
  generalize hAe : va_A (wM cI cZ hm b1 b2 b3 b4 b5 b6 b7 b8 b9 th mk us fi se ki va li ct od ne ro) s.heap.size = A at hD ⊢
  have hA : ∀ q : Nat, s.heap.size ≤ q → A q := fun q h => by rw [← hAe]; exact Or.inr h
  have hS : va_S A s.heap s.heap [] := va_S.rf
  have hl := lv_entry ([.ref hm, .int x1, .int x2, .int x3, .int x4]) (n := 5) (Nat.le_of_ble_eq_true rfl)
  rw [lg_entry_eq]
  generalize (lg_sl ([.ref hm, .int x1, .int x2, .int x3, .int x4]) ++ List.replicate (5 - (lg_sl ([.ref hm, .int x1, .int x2, .int x3, .int x4])).length) Slot.unset).toArray = ls at hl ⊢
  have hl : lv_has ls 5 [(0, .ref hm), (1, .int x1), (2, .int x2), (3, .int x3), (4, .int x4)] := hl
  unfold fX1_set at hf
  refine lv_aload_n hx hb dX1_set_0 rfl (lv_at hl 0 rfl) ?_
  refine va_get (D := (dC, dI)) (ci := 1) (v := .ref b4) (C := RX1) (T := TX1) (N := 12) hx hb hts (fun w hw => List.mem_cons_of_mem _ (inX1 w hw)) hown hK hP 0 rfl rfl 5 (by decide) (hts _ (List.mem_cons_of_mem _ mw_449)) (fun _ h9 => h9) rfl dX1_set_1 ?_
  refine lv_bipush (v := (6 : Int32)) hx hb dX1_set_4 (by decide) ?_
  refine lv_aload_n hx hb dX1_set_6 rfl (lv_at hl 0 rfl) ?_
  refine va_get (D := (dC, dI)) (ci := 1) (v := .ref b9) (C := RX1) (T := TX1) (N := 12) hx hb hts (fun w hw => List.mem_cons_of_mem _ (inX1 w hw)) hown hK hP 0 rfl rfl 11 (by decide) (hts _ (List.mem_cons_of_mem _ mw_455)) (fun _ h9 => h9) rfl dX1_set_7 ?_
  refine lv_iload_n hx hb dX1_set_10 rfl (lv_at hl 1 rfl) ?_
  obtain ⟨v1, hv, hf⟩ := bd hf
  refine q_ild hx hb hK hP 9 0 rfl rfl hv dX1_set_11 ?_
  refine lv_imul hx hb dX1_set_12 ?_
  refine lv_iload_n hx hb dX1_set_13 rfl (lv_at hl 2 rfl) ?_
  refine lv_iadd hx hb dX1_set_14 ?_
  refine lv_iload_n hx hb dX1_set_15 rfl (lv_at hl 3 rfl) ?_
  obtain ⟨ki_2, hv, hf⟩ := bd hf
  refine q_ist hx hb hK hP hD hS 4 0 rfl rfl hv dX1_set_16 (fun H locs hP hD hS => ?_)
  have hP : va_P (dC, dI) vwCl (wM cI cZ hm b1 b2 b3 b4 b5 b6 b7 b8 b9 th mk us fi se ki_2 va li ct od ne ro) _ := hP
  have hD : va_D A (wM cI cZ hm b1 b2 b3 b4 b5 b6 b7 b8 b9 th mk us fi se ki_2 va li ct od ne ro) := hD
  refine lv_aload_n hx hb dX1_set_17 rfl (lv_at hl 0 rfl) ?_
  refine va_get (D := (dC, dI)) (ci := 1) (v := .ref b5) (C := RX1) (T := TX1) (N := 12) hx hb hts (fun w hw => List.mem_cons_of_mem _ (inX1 w hw)) hown hK hP 0 rfl rfl 6 (by decide) (hts _ (List.mem_cons_of_mem _ mw_450)) (fun _ h9 => h9) rfl dX1_set_18 ?_
  refine lv_bipush (v := (6 : Int32)) hx hb dX1_set_21 (by decide) ?_
  refine lv_aload_n hx hb dX1_set_23 rfl (lv_at hl 0 rfl) ?_
  refine va_get (D := (dC, dI)) (ci := 1) (v := .ref b9) (C := RX1) (T := TX1) (N := 12) hx hb hts (fun w hw => List.mem_cons_of_mem _ (inX1 w hw)) hown hK hP 0 rfl rfl 11 (by decide) (hts _ (List.mem_cons_of_mem _ mw_455)) (fun _ h9 => h9) rfl dX1_set_24 ?_
  refine lv_iload_n hx hb dX1_set_27 rfl (lv_at hl 1 rfl) ?_
  obtain ⟨v3, hv, hf⟩ := bd hf
  refine q_ild hx hb hK hP 9 0 rfl rfl hv dX1_set_28 ?_
  refine lv_imul hx hb dX1_set_29 ?_
  refine lv_iload_n hx hb dX1_set_30 rfl (lv_at hl 2 rfl) ?_
  refine lv_iadd hx hb dX1_set_31 ?_
  refine lv_iload hx hb dX1_set_32 (lv_at hl 4 rfl) ?_
  obtain ⟨va_4, hv, hf⟩ := bd hf
  refine q_ist hx hb hK hP hD hS 5 0 rfl rfl hv dX1_set_34 (fun H locs hP hD hS => ?_)
  have hP : va_P (dC, dI) vwCl (wM cI cZ hm b1 b2 b3 b4 b5 b6 b7 b8 b9 th mk us fi se ki_2 va_4 li ct od ne ro) _ := hP
  have hD : va_D A (wM cI cZ hm b1 b2 b3 b4 b5 b6 b7 b8 b9 th mk us fi se ki_2 va_4 li ct od ne ro) := hD
  have hg0 := Option.some.inj hf
  obtain ⟨hq1, hg1⟩ := Prod.mk.inj hg0
  subst hq1
  subst hg1
  exact W.vret hx hb hr (fun t ht hW => ⟨⟨(), rfl, trivial, by rw [ht]; exact hP, va_K.moved hW.alike hK, hD⟩, hS.F ht⟩) hS.2.2 dX1_set_35
set_option maxHeartbeats 4000000 in
set_option maxRecDepth 100000 in
theorem ctX1_put (l : Launch) (dC : Nat → ClassId) (dI : Nat → Nat → Nat) (cI cZ cL : ClassId) (hm b1 b2 b3 b4 b5 b6 b7 b8 b9 : Nat) (sz : Nat) (th : Int32) (mk : Int32) (us : Nat → Int32) (fi : Nat → Int32) (se : Nat → Int32) (ki : Nat → Int32) (va : Nat → Int32) (li : Nat → Int32) (ct : Int32) (od : Nat → Int32) (ne : Nat → Int32) (ro : Nat → Int32) (x1 : Int32) (x2 : Int32) (x3 : Int32) (th' : Int32) (ki' : Nat → Int32) (va' : Nat → Int32) (hf : fX1_put th fi ki va ro x1 x2 x3 = some (th', ki', va')) : Met l yX1_put wsX1_put rmX1_put (va_Pc [.ref hm, .int x1, .int x2, .int x3] (q_pre (dC, dI) vwCl (tyA cI cZ cL) sz (wM cI cZ hm b1 b2 b3 b4 b5 b6 b7 b8 b9 th mk us fi se ki va li ct od ne ro))) (va_Qv (fun (_ : Unit) => True) (fun _ => q_post (dC, dI) vwCl (tyA cI cZ cL) (va_A (wM cI cZ hm b1 b2 b3 b4 b5 b6 b7 b8 b9 th mk us fi se ki va li ct od ne ro) sz) (wM cI cZ hm b1 b2 b3 b4 b5 b6 b7 b8 b9 th' mk us fi se ki' va' li ct od ne ro)) (va_A (wM cI cZ hm b1 b2 b3 b4 b5 b6 b7 b8 b9 th mk us fi se ki va li ct od ne ro) sz)) 0 0 (va_A (wM cI cZ hm b1 b2 b3 b4 b5 b6 b7 b8 b9 th mk us fi se ki va li ct od ne ro) sz) := by
  refine Met.ofW (cc := cX1_put) (maxL := 4) (ret := (none)) (by decide) rfl ?_
  intro p e s m args below meth c s₁ B hml hv
  obtain ⟨rfl, hsz, hP, hK, hD0⟩ := hv
  have hx := B.exec
  have hb := B.bytes
  have hr := B.returns
  have hts := atoms_spec (ws := wsX1_put) B.pre
  have hown : s.vm.findClass RX1 = some m.cls := findClass_of_methodNamed B.named
  subst hsz
  have hD := hD0.self (sz := s.heap.size)
  generalize hAe : va_A (wM cI cZ hm b1 b2 b3 b4 b5 b6 b7 b8 b9 th mk us fi se ki va li ct od ne ro) s.heap.size = A at hD ⊢
  have hA : ∀ q : Nat, s.heap.size ≤ q → A q := fun q h => by rw [← hAe]; exact Or.inr h
  have hS : va_S A s.heap s.heap [] := va_S.rf
  have hl := lv_entry ([.ref hm, .int x1, .int x2, .int x3]) (n := 4) (Nat.le_of_ble_eq_true rfl)
  rw [lg_entry_eq]
  generalize (lg_sl ([.ref hm, .int x1, .int x2, .int x3]) ++ List.replicate (4 - (lg_sl ([.ref hm, .int x1, .int x2, .int x3])).length) Slot.unset).toArray = ls at hl ⊢
  have hl : lv_has ls 4 [(0, .ref hm), (1, .int x1), (2, .int x2), (3, .int x3)] := hl
  unfold fX1_put at hf
  refine lv_aload_n hx hb dX1_put_0 rfl (lv_at hl 0 rfl) ?_
  refine lv_aload_n hx hb dX1_put_1 rfl (lv_at hl 0 rfl) ?_
  refine lv_iload_n hx hb dX1_put_2 rfl (lv_at hl 1 rfl) ?_
  refine lv_iload_n hx hb dX1_put_3 rfl (lv_at hl 2 rfl) ?_
  obtain ⟨v1, hv, hf⟩ := bd hf
  refine q_ci (wr := []) (va_runV (As := [.int x1, .int x2]) (rest := [.ref hm]) ⟨hx, hb, hml, hown, hts⟩ (ctX1_bar l dC dI cI cZ cL hm b1 b2 b3 b4 b5 b6 b7 b8 b9 _ th mk us fi se ki va li ct od ne ro x1 x2 v1 hv) (cwV 2 hts (gV mw_556 mw_558 mw_33 mw_40 mw_559) rfl rfl rfl (by decide +kernel) ⟨Nat.le_of_ble_eq_true rfl, Nat.le_of_ble_eq_true rfl⟩) (q_preV [.int x1, .int x2] hK hP hD [0, 1, 2, 3, 4, 5, 6, 7, 8, 9] (by decide) rfl (ci := 1) rfl rfl) rfl rfl hl.1 rfl (lv_room (Nat.le_of_ble_eq_true rfl)) dX1_put_4 ⟨Nat.le_of_ble_eq_true rfl, Nat.le_of_ble_eq_true rfl⟩) hP hD hS hA [0, 1, 2, 3, 4, 5, 6, 7, 8, 9] [] rfl rfl (by decide) (by decide) (fun H locs hP hD hS => ?_)
  have hP : va_P (dC, dI) vwCl (wM cI cZ hm b1 b2 b3 b4 b5 b6 b7 b8 b9 th mk us fi se ki va li ct od ne ro) _ := hP
  have hD : va_D A (wM cI cZ hm b1 b2 b3 b4 b5 b6 b7 b8 b9 th mk us fi se ki va li ct od ne ro) := hD
  refine va_put (D := (dC, dI)) (ci := 1) (v := .int v1) (ty := .int) (C := RX1) (T := TX1) (N := 12) hx hb hts (fun w hw => List.mem_cons_of_mem _ (inX1 w hw)) tyX1 tyX1_ok nmX1 hown hK hP hD hS 0 rfl rfl 0 (by decide) (hts _ (List.mem_cons_of_mem _ mw_444)) (fun _ h9 => h9) rfl (by decide +kernel) rfl rfl (Nat.le_of_ble_eq_true rfl) dX1_put_7 (fun H locs hP hD hS => ?_)
  have hP : va_P (dC, dI) vwCl (wM cI cZ hm b1 b2 b3 b4 b5 b6 b7 b8 b9 v1 mk us fi se ki va li ct od ne ro) _ := hP
  have hD : va_D A (wM cI cZ hm b1 b2 b3 b4 b5 b6 b7 b8 b9 v1 mk us fi se ki va li ct od ne ro) := hD
  refine lv_aload_n hx hb dX1_put_10 rfl (lv_at hl 0 rfl) ?_
  refine va_get (D := (dC, dI)) (ci := 1) (v := .int v1) (C := RX1) (T := TX1) (N := 12) hx hb hts (fun w hw => List.mem_cons_of_mem _ (inX1 w hw)) hown hK hP 0 rfl rfl 0 (by decide) (hts _ (List.mem_cons_of_mem _ mw_444)) (fun _ h9 => h9) rfl dX1_put_11 ?_
  refine lv_if_ne (tgt := 25) hx hb dX1_put_14 (by decide) (fun h2 => ?_) (fun h2 => ?_)
  · have hf := ifn h2 hf
    have hg0 := Option.some.inj hf
    obtain ⟨hq1, hg1⟩ := Prod.mk.inj hg0
    subst hq1
    obtain ⟨hq2, hg2⟩ := Prod.mk.inj hg1
    subst hq2
    subst hg2
    exact W.vret hx hb hr (fun t ht hW => ⟨⟨(), rfl, trivial, by rw [ht]; exact hP, va_K.moved hW.alike hK, hD⟩, hS.F ht⟩) hS.2.2 dX1_put_25
  · have hf := ift h2 hf
    refine lv_aload_n hx hb dX1_put_17 rfl (lv_at hl 0 rfl) ?_
    refine lv_iload_n hx hb dX1_put_18 rfl (lv_at hl 1 rfl) ?_
    refine lv_iload_n hx hb dX1_put_19 rfl (lv_at hl 2 rfl) ?_
    refine lv_iconst (v := (0 : Int32)) hx hb dX1_put_20 (by decide) ?_
    refine lv_iload_n hx hb dX1_put_21 rfl (lv_at hl 3 rfl) ?_
    obtain ⟨⟨ki_3, va_4⟩, hv, hf⟩ := bd hf
    dsimp only at hf
    refine q_cv (wr := []) (va_runV (As := [.int x1, .int x2, .int (0 : Int32), .int x3]) (rest := []) ⟨hx, hb, hml, hown, hts⟩ (ctX1_set l dC dI cI cZ cL hm b1 b2 b3 b4 b5 b6 b7 b8 b9 _ v1 mk us fi se ki va li ct od ne ro x1 x2 (0 : Int32) x3 ki_3 va_4 hv) (cwV 4 hts (gV mw_560 mw_562 mw_34 mw_40 mw_563) rfl rfl rfl (by decide +kernel) ⟨Nat.le_of_ble_eq_true rfl, Nat.le_of_ble_eq_true rfl⟩) (q_preV [.int x1, .int x2, .int (0 : Int32), .int x3] hK hP hD [0, 1, 2, 3, 4, 5, 6, 7, 8, 9] (by decide) rfl (ci := 1) rfl rfl) rfl rfl hl.1 rfl (lv_room (Nat.le_of_ble_eq_true rfl)) dX1_put_22 ⟨Nat.le_of_ble_eq_true rfl, Nat.le_of_ble_eq_true rfl⟩) hP hD hS hA [0, 1, 2, 3, 4, 5, 6, 7, 8, 9] [] rfl rfl (by decide) (by decide) (fun H locs hP hD hS => ?_)
    have hP : va_P (dC, dI) vwCl (wM cI cZ hm b1 b2 b3 b4 b5 b6 b7 b8 b9 v1 mk us fi se ki_3 va_4 li ct od ne ro) _ := hP
    have hD : va_D A (wM cI cZ hm b1 b2 b3 b4 b5 b6 b7 b8 b9 v1 mk us fi se ki_3 va_4 li ct od ne ro) := hD
    have hg0 := Option.some.inj hf
    obtain ⟨hq1, hg1⟩ := Prod.mk.inj hg0
    subst hq1
    obtain ⟨hq2, hg2⟩ := Prod.mk.inj hg1
    subst hq2
    subst hg2
    exact W.vret hx hb hr (fun t ht hW => ⟨⟨(), rfl, trivial, by rw [ht]; exact hP, va_K.moved hW.alike hK, hD⟩, hS.F ht⟩) hS.2.2 dX1_put_25
set_option maxHeartbeats 4000000 in
set_option maxRecDepth 100000 in
theorem ctX1_refer (l : Launch) (dC : Nat → ClassId) (dI : Nat → Nat → Nat) (cI cZ cL : ClassId) (hm b1 b2 b3 b4 b5 b6 b7 b8 b9 : Nat) (sz : Nat) (th : Int32) (mk : Int32) (us : Nat → Int32) (fi : Nat → Int32) (se : Nat → Int32) (ki : Nat → Int32) (va : Nat → Int32) (li : Nat → Int32) (ct : Int32) (od : Nat → Int32) (ne : Nat → Int32) (ro : Nat → Int32) (x1 : Int32) (x2 : Int32) (x3 : Int32) (x4 : Int32) (th' : Int32) (ki' : Nat → Int32) (va' : Nat → Int32) (hf : fX1_refer th fi ki va ro x1 x2 x3 x4 = some (th', ki', va')) : Met l yX1_refer wsX1_refer rmX1_refer (va_Pc [.ref hm, .int x1, .int x2, .int x3, .int x4] (q_pre (dC, dI) vwCl (tyA cI cZ cL) sz (wM cI cZ hm b1 b2 b3 b4 b5 b6 b7 b8 b9 th mk us fi se ki va li ct od ne ro))) (va_Qv (fun (_ : Unit) => True) (fun _ => q_post (dC, dI) vwCl (tyA cI cZ cL) (va_A (wM cI cZ hm b1 b2 b3 b4 b5 b6 b7 b8 b9 th mk us fi se ki va li ct od ne ro) sz) (wM cI cZ hm b1 b2 b3 b4 b5 b6 b7 b8 b9 th' mk us fi se ki' va' li ct od ne ro)) (va_A (wM cI cZ hm b1 b2 b3 b4 b5 b6 b7 b8 b9 th mk us fi se ki va li ct od ne ro) sz)) 0 0 (va_A (wM cI cZ hm b1 b2 b3 b4 b5 b6 b7 b8 b9 th mk us fi se ki va li ct od ne ro) sz) := by
  refine Met.ofW (cc := cX1_refer) (maxL := 5) (ret := (none)) (by decide) rfl ?_
  intro p e s m args below meth c s₁ B hml hv
  obtain ⟨rfl, hsz, hP, hK, hD0⟩ := hv
  have hx := B.exec
  have hb := B.bytes
  have hr := B.returns
  have hts := atoms_spec (ws := wsX1_refer) B.pre
  have hown : s.vm.findClass RX1 = some m.cls := findClass_of_methodNamed B.named
  subst hsz
  have hD := hD0.self (sz := s.heap.size)
  generalize hAe : va_A (wM cI cZ hm b1 b2 b3 b4 b5 b6 b7 b8 b9 th mk us fi se ki va li ct od ne ro) s.heap.size = A at hD ⊢
  have hA : ∀ q : Nat, s.heap.size ≤ q → A q := fun q h => by rw [← hAe]; exact Or.inr h
  have hS : va_S A s.heap s.heap [] := va_S.rf
  have hl := lv_entry ([.ref hm, .int x1, .int x2, .int x3, .int x4]) (n := 5) (Nat.le_of_ble_eq_true rfl)
  rw [lg_entry_eq]
  generalize (lg_sl ([.ref hm, .int x1, .int x2, .int x3, .int x4]) ++ List.replicate (5 - (lg_sl ([.ref hm, .int x1, .int x2, .int x3, .int x4])).length) Slot.unset).toArray = ls at hl ⊢
  have hl : lv_has ls 5 [(0, .ref hm), (1, .int x1), (2, .int x2), (3, .int x3), (4, .int x4)] := hl
  unfold fX1_refer at hf
  refine lv_aload_n hx hb dX1_refer_0 rfl (lv_at hl 0 rfl) ?_
  refine lv_iload_n hx hb dX1_refer_1 rfl (lv_at hl 3 rfl) ?_
  obtain ⟨v1, hv, hf⟩ := bd hf
  refine q_ci (wr := (wM cI cZ hm b1 b2 b3 b4 b5 b6 b7 b8 b9 th mk us fi se ki va li ct od ne ro)) (va_runS (As := [.int x3]) (rest := [.ref hm]) ⟨hx, hb, hml, hown, hts⟩ (ctX1_isRoot l dC dI cI cZ cL _ x3 v1 hv) (va_cwS 1 hts (gS mw_526 mw_527 mw_40 mw_528) rfl rfl rfl (by decide +kernel) ⟨Nat.le_of_ble_eq_true rfl, Nat.le_of_ble_eq_true rfl⟩) (q_preS [.int x3] hK hP hD [] (by decide) rfl) rfl rfl hl.1 rfl (lv_room (Nat.le_of_ble_eq_true rfl)) dX1_refer_2 ⟨Nat.le_of_ble_eq_true rfl, Nat.le_of_ble_eq_true rfl⟩) hP hD hS hA [] [0, 1, 2, 3, 4, 5, 6, 7, 8, 9] rfl rfl (by decide) (by decide) (fun H locs hP hD hS => ?_)
  have hP : va_P (dC, dI) vwCl (wM cI cZ hm b1 b2 b3 b4 b5 b6 b7 b8 b9 th mk us fi se ki va li ct od ne ro) _ := hP
  have hD : va_D A (wM cI cZ hm b1 b2 b3 b4 b5 b6 b7 b8 b9 th mk us fi se ki va li ct od ne ro) := hD
  refine lv_if_eq (tgt := 17) hx hb dX1_refer_5 (by decide) (fun h2 => ?_) (fun h2 => ?_)
  · have hf := ift h2 hf
    refine lv_iconst (v := (1 : Int32)) hx hb dX1_refer_17 (by decide) ?_
    refine va_put (D := (dC, dI)) (ci := 1) (v := .int (1 : Int32)) (ty := .int) (C := RX1) (T := TX1) (N := 12) hx hb hts (fun w hw => List.mem_cons_of_mem _ (inX1 w hw)) tyX1 tyX1_ok nmX1 hown hK hP hD hS 0 rfl rfl 0 (by decide) (hts _ (List.mem_cons_of_mem _ mw_444)) (fun _ h9 => h9) rfl (by decide +kernel) rfl rfl (Nat.le_of_ble_eq_true rfl) dX1_refer_18 (fun H locs hP hD hS => ?_)
    have hP : va_P (dC, dI) vwCl (wM cI cZ hm b1 b2 b3 b4 b5 b6 b7 b8 b9 (1 : Int32) mk us fi se ki va li ct od ne ro) _ := hP
    have hD : va_D A (wM cI cZ hm b1 b2 b3 b4 b5 b6 b7 b8 b9 (1 : Int32) mk us fi se ki va li ct od ne ro) := hD
    refine lv_aload_n hx hb dX1_refer_21 rfl (lv_at hl 0 rfl) ?_
    refine va_get (D := (dC, dI)) (ci := 1) (v := .int (1 : Int32)) (C := RX1) (T := TX1) (N := 12) hx hb hts (fun w hw => List.mem_cons_of_mem _ (inX1 w hw)) hown hK hP 0 rfl rfl 0 (by decide) (hts _ (List.mem_cons_of_mem _ mw_444)) (fun _ h9 => h9) rfl dX1_refer_22 ?_
    refine lv_if_ne (tgt := 50) hx hb dX1_refer_25 (by decide) (fun _ => ?_) (fun h9 => absurd h9 (by decide))
    have hg0 := Option.some.inj hf
    obtain ⟨hq1, hg1⟩ := Prod.mk.inj hg0
    subst hq1
    obtain ⟨hq2, hg2⟩ := Prod.mk.inj hg1
    subst hq2
    subst hg2
    exact W.vret hx hb hr (fun t ht hW => ⟨⟨(), rfl, trivial, by rw [ht]; exact hP, va_K.moved hW.alike hK, hD⟩, hS.F ht⟩) hS.2.2 dX1_refer_50
  · have hf := ifn h2 hf
    refine lv_aload_n hx hb dX1_refer_8 rfl (lv_at hl 0 rfl) ?_
    refine lv_iload_n hx hb dX1_refer_9 rfl (lv_at hl 1 rfl) ?_
    refine lv_iload_n hx hb dX1_refer_10 rfl (lv_at hl 2 rfl) ?_
    obtain ⟨v3, hv, hf⟩ := bd hf
    refine q_ci (wr := []) (va_runV (As := [.int x1, .int x2]) (rest := [.ref hm]) ⟨hx, hb, hml, hown, hts⟩ (ctX1_bar l dC dI cI cZ cL hm b1 b2 b3 b4 b5 b6 b7 b8 b9 _ th mk us fi se ki va li ct od ne ro x1 x2 v3 hv) (cwV 2 hts (gV mw_556 mw_558 mw_33 mw_40 mw_559) rfl rfl rfl (by decide +kernel) ⟨Nat.le_of_ble_eq_true rfl, Nat.le_of_ble_eq_true rfl⟩) (q_preV [.int x1, .int x2] hK hP hD [0, 1, 2, 3, 4, 5, 6, 7, 8, 9] (by decide) rfl (ci := 1) rfl rfl) rfl rfl hl.1 rfl (lv_room (Nat.le_of_ble_eq_true rfl)) dX1_refer_11 ⟨Nat.le_of_ble_eq_true rfl, Nat.le_of_ble_eq_true rfl⟩) hP hD hS hA [0, 1, 2, 3, 4, 5, 6, 7, 8, 9] [] rfl rfl (by decide) (by decide) (fun H locs hP hD hS => ?_)
    have hP : va_P (dC, dI) vwCl (wM cI cZ hm b1 b2 b3 b4 b5 b6 b7 b8 b9 th mk us fi se ki va li ct od ne ro) _ := hP
    have hD : va_D A (wM cI cZ hm b1 b2 b3 b4 b5 b6 b7 b8 b9 th mk us fi se ki va li ct od ne ro) := hD
    refine lv_goto (tgt := 18) hx hb dX1_refer_14 (by decide) ?_
    refine va_put (D := (dC, dI)) (ci := 1) (v := .int v3) (ty := .int) (C := RX1) (T := TX1) (N := 12) hx hb hts (fun w hw => List.mem_cons_of_mem _ (inX1 w hw)) tyX1 tyX1_ok nmX1 hown hK hP hD hS 0 rfl rfl 0 (by decide) (hts _ (List.mem_cons_of_mem _ mw_444)) (fun _ h9 => h9) rfl (by decide +kernel) rfl rfl (Nat.le_of_ble_eq_true rfl) dX1_refer_18 (fun H locs hP hD hS => ?_)
    have hP : va_P (dC, dI) vwCl (wM cI cZ hm b1 b2 b3 b4 b5 b6 b7 b8 b9 v3 mk us fi se ki va li ct od ne ro) _ := hP
    have hD : va_D A (wM cI cZ hm b1 b2 b3 b4 b5 b6 b7 b8 b9 v3 mk us fi se ki va li ct od ne ro) := hD
    refine lv_aload_n hx hb dX1_refer_21 rfl (lv_at hl 0 rfl) ?_
    refine va_get (D := (dC, dI)) (ci := 1) (v := .int v3) (C := RX1) (T := TX1) (N := 12) hx hb hts (fun w hw => List.mem_cons_of_mem _ (inX1 w hw)) hown hK hP 0 rfl rfl 0 (by decide) (hts _ (List.mem_cons_of_mem _ mw_444)) (fun _ h9 => h9) rfl dX1_refer_22 ?_
    refine lv_if_ne (tgt := 50) hx hb dX1_refer_25 (by decide) (fun h4 => ?_) (fun h4 => ?_)
    · have hf := ifn h4 hf
      have hg0 := Option.some.inj hf
      obtain ⟨hq1, hg1⟩ := Prod.mk.inj hg0
      subst hq1
      obtain ⟨hq2, hg2⟩ := Prod.mk.inj hg1
      subst hq2
      subst hg2
      exact W.vret hx hb hr (fun t ht hW => ⟨⟨(), rfl, trivial, by rw [ht]; exact hP, va_K.moved hW.alike hK, hD⟩, hS.F ht⟩) hS.2.2 dX1_refer_50
    · have hf := ift h4 hf
      refine lv_aload_n hx hb dX1_refer_28 rfl (lv_at hl 0 rfl) ?_
      refine lv_iload_n hx hb dX1_refer_29 rfl (lv_at hl 1 rfl) ?_
      refine lv_iload_n hx hb dX1_refer_30 rfl (lv_at hl 2 rfl) ?_
      refine lv_iload hx hb dX1_refer_31 (lv_at hl 4 rfl) ?_
      refine lv_if_eq (tgt := 40) hx hb dX1_refer_33 (by decide) (fun h5 => ?_) (fun h5 => ?_)
      · have hf := ift h5 hf
        refine lv_iconst (v := (1 : Int32)) hx hb dX1_refer_40 (by decide) ?_
        refine lv_aload_n hx hb dX1_refer_41 rfl (lv_at hl 0 rfl) ?_
        refine va_get (D := (dC, dI)) (ci := 1) (v := .ref b9) (C := RX1) (T := TX1) (N := 12) hx hb hts (fun w hw => List.mem_cons_of_mem _ (inX1 w hw)) hown hK hP 0 rfl rfl 11 (by decide) (hts _ (List.mem_cons_of_mem _ mw_455)) (fun _ h9 => h9) rfl dX1_refer_42 ?_
        refine lv_iload_n hx hb dX1_refer_45 rfl (lv_at hl 3 rfl) ?_
        obtain ⟨v6, hv, hf⟩ := bd hf
        refine q_ild hx hb hK hP 9 0 rfl rfl hv dX1_refer_46 ?_
        obtain ⟨⟨ki_7, va_8⟩, hv, hf⟩ := bd hf
        dsimp only at hf
        refine q_cv (wr := []) (va_runV (As := [.int x1, .int x2, .int (1 : Int32), .int v6]) (rest := []) ⟨hx, hb, hml, hown, hts⟩ (ctX1_set l dC dI cI cZ cL hm b1 b2 b3 b4 b5 b6 b7 b8 b9 _ v3 mk us fi se ki va li ct od ne ro x1 x2 (1 : Int32) v6 ki_7 va_8 hv) (cwV 4 hts (gV mw_560 mw_562 mw_34 mw_40 mw_563) rfl rfl rfl (by decide +kernel) ⟨Nat.le_of_ble_eq_true rfl, Nat.le_of_ble_eq_true rfl⟩) (q_preV [.int x1, .int x2, .int (1 : Int32), .int v6] hK hP hD [0, 1, 2, 3, 4, 5, 6, 7, 8, 9] (by decide) rfl (ci := 1) rfl rfl) rfl rfl hl.1 rfl (lv_room (Nat.le_of_ble_eq_true rfl)) dX1_refer_47 ⟨Nat.le_of_ble_eq_true rfl, Nat.le_of_ble_eq_true rfl⟩) hP hD hS hA [0, 1, 2, 3, 4, 5, 6, 7, 8, 9] [] rfl rfl (by decide) (by decide) (fun H locs hP hD hS => ?_)
        have hP : va_P (dC, dI) vwCl (wM cI cZ hm b1 b2 b3 b4 b5 b6 b7 b8 b9 v3 mk us fi se ki_7 va_8 li ct od ne ro) _ := hP
        have hD : va_D A (wM cI cZ hm b1 b2 b3 b4 b5 b6 b7 b8 b9 v3 mk us fi se ki_7 va_8 li ct od ne ro) := hD
        have hg0 := Option.some.inj hf
        obtain ⟨hq1, hg1⟩ := Prod.mk.inj hg0
        subst hq1
        obtain ⟨hq2, hg2⟩ := Prod.mk.inj hg1
        subst hq2
        subst hg2
        exact W.vret hx hb hr (fun t ht hW => ⟨⟨(), rfl, trivial, by rw [ht]; exact hP, va_K.moved hW.alike hK, hD⟩, hS.F ht⟩) hS.2.2 dX1_refer_50
      · have hf := ifn h5 hf
        refine lv_iconst (v := (2 : Int32)) hx hb dX1_refer_36 (by decide) ?_
        refine lv_goto (tgt := 41) hx hb dX1_refer_37 (by decide) ?_
        refine lv_aload_n hx hb dX1_refer_41 rfl (lv_at hl 0 rfl) ?_
        refine va_get (D := (dC, dI)) (ci := 1) (v := .ref b9) (C := RX1) (T := TX1) (N := 12) hx hb hts (fun w hw => List.mem_cons_of_mem _ (inX1 w hw)) hown hK hP 0 rfl rfl 11 (by decide) (hts _ (List.mem_cons_of_mem _ mw_455)) (fun _ h9 => h9) rfl dX1_refer_42 ?_
        refine lv_iload_n hx hb dX1_refer_45 rfl (lv_at hl 3 rfl) ?_
        obtain ⟨v9, hv, hf⟩ := bd hf
        refine q_ild hx hb hK hP 9 0 rfl rfl hv dX1_refer_46 ?_
        obtain ⟨⟨ki_10, va_11⟩, hv, hf⟩ := bd hf
        dsimp only at hf
        refine q_cv (wr := []) (va_runV (As := [.int x1, .int x2, .int (2 : Int32), .int v9]) (rest := []) ⟨hx, hb, hml, hown, hts⟩ (ctX1_set l dC dI cI cZ cL hm b1 b2 b3 b4 b5 b6 b7 b8 b9 _ v3 mk us fi se ki va li ct od ne ro x1 x2 (2 : Int32) v9 ki_10 va_11 hv) (cwV 4 hts (gV mw_560 mw_562 mw_34 mw_40 mw_563) rfl rfl rfl (by decide +kernel) ⟨Nat.le_of_ble_eq_true rfl, Nat.le_of_ble_eq_true rfl⟩) (q_preV [.int x1, .int x2, .int (2 : Int32), .int v9] hK hP hD [0, 1, 2, 3, 4, 5, 6, 7, 8, 9] (by decide) rfl (ci := 1) rfl rfl) rfl rfl hl.1 rfl (lv_room (Nat.le_of_ble_eq_true rfl)) dX1_refer_47 ⟨Nat.le_of_ble_eq_true rfl, Nat.le_of_ble_eq_true rfl⟩) hP hD hS hA [0, 1, 2, 3, 4, 5, 6, 7, 8, 9] [] rfl rfl (by decide) (by decide) (fun H locs hP hD hS => ?_)
        have hP : va_P (dC, dI) vwCl (wM cI cZ hm b1 b2 b3 b4 b5 b6 b7 b8 b9 v3 mk us fi se ki_10 va_11 li ct od ne ro) _ := hP
        have hD : va_D A (wM cI cZ hm b1 b2 b3 b4 b5 b6 b7 b8 b9 v3 mk us fi se ki_10 va_11 li ct od ne ro) := hD
        have hg0 := Option.some.inj hf
        obtain ⟨hq1, hg1⟩ := Prod.mk.inj hg0
        subst hq1
        obtain ⟨hq2, hg2⟩ := Prod.mk.inj hg1
        subst hq2
        subst hg2
        exact W.vret hx hb hr (fun t ht hW => ⟨⟨(), rfl, trivial, by rw [ht]; exact hP, va_K.moved hW.alike hK, hD⟩, hS.F ht⟩) hS.2.2 dX1_refer_50
set_option maxHeartbeats 4000000 in
set_option maxRecDepth 100000 in
theorem ctX1_follow (l : Launch) (dC : Nat → ClassId) (dI : Nat → Nat → Nat) (cI cZ cL : ClassId) (hm b1 b2 b3 b4 b5 b6 b7 b8 b9 : Nat) (sz : Nat) (th : Int32) (mk : Int32) (us : Nat → Int32) (fi : Nat → Int32) (se : Nat → Int32) (ki : Nat → Int32) (va : Nat → Int32) (li : Nat → Int32) (ct : Int32) (od : Nat → Int32) (ne : Nat → Int32) (ro : Nat → Int32) (x1 : Int32) (x2 : Int32) (x3 : Int32) (rs : Int32) (th' : Int32) (ro' : Nat → Int32) (hf : fX1_follow th fi ki va ro x1 x2 x3 = some (rs, th', ro')) : Met l yX1_follow wsX1_follow rmX1_follow (va_Pc [.ref hm, .int x1, .int x2, .int x3] (q_pre (dC, dI) vwCl (tyA cI cZ cL) sz (wM cI cZ hm b1 b2 b3 b4 b5 b6 b7 b8 b9 th mk us fi se ki va li ct od ne ro))) (va_Qi (fun r (_ : Unit) => r = rs) (fun _ => q_post (dC, dI) vwCl (tyA cI cZ cL) (va_A (wM cI cZ hm b1 b2 b3 b4 b5 b6 b7 b8 b9 th mk us fi se ki va li ct od ne ro) sz) (wM cI cZ hm b1 b2 b3 b4 b5 b6 b7 b8 b9 th' mk us fi se ki va li ct od ne ro')) (va_A (wM cI cZ hm b1 b2 b3 b4 b5 b6 b7 b8 b9 th mk us fi se ki va li ct od ne ro) sz)) 0 0 (va_A (wM cI cZ hm b1 b2 b3 b4 b5 b6 b7 b8 b9 th mk us fi se ki va li ct od ne ro) sz) := by
  refine Met.ofW (cc := cX1_follow) (maxL := 4) (ret := (some .boolean)) (by decide) rfl ?_
  intro p e s m args below meth c s₁ B hml hv
  obtain ⟨rfl, hsz, hP, hK, hD0⟩ := hv
  have hx := B.exec
  have hb := B.bytes
  have hr := B.returns
  have hts := atoms_spec (ws := wsX1_follow) B.pre
  have hown : s.vm.findClass RX1 = some m.cls := findClass_of_methodNamed B.named
  subst hsz
  have hD := hD0.self (sz := s.heap.size)
  generalize hAe : va_A (wM cI cZ hm b1 b2 b3 b4 b5 b6 b7 b8 b9 th mk us fi se ki va li ct od ne ro) s.heap.size = A at hD ⊢
  have hA : ∀ q : Nat, s.heap.size ≤ q → A q := fun q h => by rw [← hAe]; exact Or.inr h
  have hS : va_S A s.heap s.heap [] := va_S.rf
  have hl := lv_entry ([.ref hm, .int x1, .int x2, .int x3]) (n := 4) (Nat.le_of_ble_eq_true rfl)
  rw [lg_entry_eq]
  generalize (lg_sl ([.ref hm, .int x1, .int x2, .int x3]) ++ List.replicate (4 - (lg_sl ([.ref hm, .int x1, .int x2, .int x3])).length) Slot.unset).toArray = ls at hl ⊢
  have hl : lv_has ls 4 [(0, .ref hm), (1, .int x1), (2, .int x2), (3, .int x3)] := hl
  unfold fX1_follow at hf
  refine lv_aload_n hx hb dX1_follow_0 rfl (lv_at hl 0 rfl) ?_
  refine lv_iload_n hx hb dX1_follow_1 rfl (lv_at hl 3 rfl) ?_
  obtain ⟨v1, hv, hf⟩ := bd hf
  refine q_ci (wr := (wM cI cZ hm b1 b2 b3 b4 b5 b6 b7 b8 b9 th mk us fi se ki va li ct od ne ro)) (va_runS (As := [.int x3]) (rest := [.ref hm]) ⟨hx, hb, hml, hown, hts⟩ (ctX1_isRoot l dC dI cI cZ cL _ x3 v1 hv) (va_cwS 1 hts (gS mw_526 mw_527 mw_40 mw_528) rfl rfl rfl (by decide +kernel) ⟨Nat.le_of_ble_eq_true rfl, Nat.le_of_ble_eq_true rfl⟩) (q_preS [.int x3] hK hP hD [] (by decide) rfl) rfl rfl hl.1 rfl (lv_room (Nat.le_of_ble_eq_true rfl)) dX1_follow_2 ⟨Nat.le_of_ble_eq_true rfl, Nat.le_of_ble_eq_true rfl⟩) hP hD hS hA [] [0, 1, 2, 3, 4, 5, 6, 7, 8, 9] rfl rfl (by decide) (by decide) (fun H locs hP hD hS => ?_)
  have hP : va_P (dC, dI) vwCl (wM cI cZ hm b1 b2 b3 b4 b5 b6 b7 b8 b9 th mk us fi se ki va li ct od ne ro) _ := hP
  have hD : va_D A (wM cI cZ hm b1 b2 b3 b4 b5 b6 b7 b8 b9 th mk us fi se ki va li ct od ne ro) := hD
  refine lv_if_eq (tgt := 17) hx hb dX1_follow_5 (by decide) (fun h2 => ?_) (fun h2 => ?_)
  · have hf := ift h2 hf
    refine lv_iconst (v := (1 : Int32)) hx hb dX1_follow_17 (by decide) ?_
    refine va_put (D := (dC, dI)) (ci := 1) (v := .int (1 : Int32)) (ty := .int) (C := RX1) (T := TX1) (N := 12) hx hb hts (fun w hw => List.mem_cons_of_mem _ (inX1 w hw)) tyX1 tyX1_ok nmX1 hown hK hP hD hS 0 rfl rfl 0 (by decide) (hts _ (List.mem_cons_of_mem _ mw_444)) (fun _ h9 => h9) rfl (by decide +kernel) rfl rfl (Nat.le_of_ble_eq_true rfl) dX1_follow_18 (fun H locs hP hD hS => ?_)
    have hP : va_P (dC, dI) vwCl (wM cI cZ hm b1 b2 b3 b4 b5 b6 b7 b8 b9 (1 : Int32) mk us fi se ki va li ct od ne ro) _ := hP
    have hD : va_D A (wM cI cZ hm b1 b2 b3 b4 b5 b6 b7 b8 b9 (1 : Int32) mk us fi se ki va li ct od ne ro) := hD
    refine lv_aload_n hx hb dX1_follow_21 rfl (lv_at hl 0 rfl) ?_
    refine va_get (D := (dC, dI)) (ci := 1) (v := .int (1 : Int32)) (C := RX1) (T := TX1) (N := 12) hx hb hts (fun w hw => List.mem_cons_of_mem _ (inX1 w hw)) hown hK hP 0 rfl rfl 0 (by decide) (hts _ (List.mem_cons_of_mem _ mw_444)) (fun _ h9 => h9) rfl dX1_follow_22 ?_
    refine lv_if_ne (tgt := 52) hx hb dX1_follow_25 (by decide) (fun _ => ?_) (fun h9 => absurd h9 (by decide))
    refine lv_aload_n hx hb dX1_follow_52 rfl (lv_at hl 0 rfl) ?_
    refine va_get (D := (dC, dI)) (ci := 1) (v := .int (1 : Int32)) (C := RX1) (T := TX1) (N := 12) hx hb hts (fun w hw => List.mem_cons_of_mem _ (inX1 w hw)) hown hK hP 0 rfl rfl 0 (by decide) (hts _ (List.mem_cons_of_mem _ mw_444)) (fun _ h9 => h9) rfl dX1_follow_53 ?_
    refine lv_if_le (tgt := 61) hx hb dX1_follow_56 (by decide) (fun h9 => absurd h9 (by decide)) (fun _ => ?_)
    refine lv_iconst (v := (0 : Int32)) hx hb dX1_follow_59 (by decide) ?_
    have hg0 := Option.some.inj hf
    obtain ⟨hq1, hg1⟩ := Prod.mk.inj hg0
    subst hq1
    obtain ⟨hq2, hg2⟩ := Prod.mk.inj hg1
    subst hq2
    subst hg2
    exact W.zret hx hb hr rfl (fun t ht hW => ⟨⟨_, (), rfl, rfl, by rw [ht]; exact hP, va_K.moved hW.alike hK, hD⟩, hS.F ht⟩) hS.2.2 dX1_follow_60
  · have hf := ifn h2 hf
    refine lv_aload_n hx hb dX1_follow_8 rfl (lv_at hl 0 rfl) ?_
    refine lv_iload_n hx hb dX1_follow_9 rfl (lv_at hl 1 rfl) ?_
    refine lv_iload_n hx hb dX1_follow_10 rfl (lv_at hl 2 rfl) ?_
    obtain ⟨v3, hv, hf⟩ := bd hf
    refine q_ci (wr := []) (va_runV (As := [.int x1, .int x2]) (rest := [.ref hm]) ⟨hx, hb, hml, hown, hts⟩ (ctX1_bar l dC dI cI cZ cL hm b1 b2 b3 b4 b5 b6 b7 b8 b9 _ th mk us fi se ki va li ct od ne ro x1 x2 v3 hv) (cwV 2 hts (gV mw_556 mw_558 mw_33 mw_40 mw_559) rfl rfl rfl (by decide +kernel) ⟨Nat.le_of_ble_eq_true rfl, Nat.le_of_ble_eq_true rfl⟩) (q_preV [.int x1, .int x2] hK hP hD [0, 1, 2, 3, 4, 5, 6, 7, 8, 9] (by decide) rfl (ci := 1) rfl rfl) rfl rfl hl.1 rfl (lv_room (Nat.le_of_ble_eq_true rfl)) dX1_follow_11 ⟨Nat.le_of_ble_eq_true rfl, Nat.le_of_ble_eq_true rfl⟩) hP hD hS hA [0, 1, 2, 3, 4, 5, 6, 7, 8, 9] [] rfl rfl (by decide) (by decide) (fun H locs hP hD hS => ?_)
    have hP : va_P (dC, dI) vwCl (wM cI cZ hm b1 b2 b3 b4 b5 b6 b7 b8 b9 th mk us fi se ki va li ct od ne ro) _ := hP
    have hD : va_D A (wM cI cZ hm b1 b2 b3 b4 b5 b6 b7 b8 b9 th mk us fi se ki va li ct od ne ro) := hD
    refine lv_goto (tgt := 18) hx hb dX1_follow_14 (by decide) ?_
    refine va_put (D := (dC, dI)) (ci := 1) (v := .int v3) (ty := .int) (C := RX1) (T := TX1) (N := 12) hx hb hts (fun w hw => List.mem_cons_of_mem _ (inX1 w hw)) tyX1 tyX1_ok nmX1 hown hK hP hD hS 0 rfl rfl 0 (by decide) (hts _ (List.mem_cons_of_mem _ mw_444)) (fun _ h9 => h9) rfl (by decide +kernel) rfl rfl (Nat.le_of_ble_eq_true rfl) dX1_follow_18 (fun H locs hP hD hS => ?_)
    have hP : va_P (dC, dI) vwCl (wM cI cZ hm b1 b2 b3 b4 b5 b6 b7 b8 b9 v3 mk us fi se ki va li ct od ne ro) _ := hP
    have hD : va_D A (wM cI cZ hm b1 b2 b3 b4 b5 b6 b7 b8 b9 v3 mk us fi se ki va li ct od ne ro) := hD
    refine lv_aload_n hx hb dX1_follow_21 rfl (lv_at hl 0 rfl) ?_
    refine va_get (D := (dC, dI)) (ci := 1) (v := .int v3) (C := RX1) (T := TX1) (N := 12) hx hb hts (fun w hw => List.mem_cons_of_mem _ (inX1 w hw)) hown hK hP 0 rfl rfl 0 (by decide) (hts _ (List.mem_cons_of_mem _ mw_444)) (fun _ h9 => h9) rfl dX1_follow_22 ?_
    refine lv_if_ne (tgt := 52) hx hb dX1_follow_25 (by decide) (fun h4 => ?_) (fun h4 => ?_)
    · have hf := ifn h4 hf
      refine lv_aload_n hx hb dX1_follow_52 rfl (lv_at hl 0 rfl) ?_
      refine va_get (D := (dC, dI)) (ci := 1) (v := .int v3) (C := RX1) (T := TX1) (N := 12) hx hb hts (fun w hw => List.mem_cons_of_mem _ (inX1 w hw)) hown hK hP 0 rfl rfl 0 (by decide) (hts _ (List.mem_cons_of_mem _ mw_444)) (fun _ h9 => h9) rfl dX1_follow_53 ?_
      refine lv_if_le (tgt := 61) hx hb dX1_follow_56 (by decide) (fun h5 => ?_) (fun h5 => ?_)
      · have hf := ift h5 hf
        refine lv_aload_n hx hb dX1_follow_61 rfl (lv_at hl 0 rfl) ?_
        refine va_get (D := (dC, dI)) (ci := 1) (v := .ref b9) (C := RX1) (T := TX1) (N := 12) hx hb hts (fun w hw => List.mem_cons_of_mem _ (inX1 w hw)) hown hK hP 0 rfl rfl 11 (by decide) (hts _ (List.mem_cons_of_mem _ mw_455)) (fun _ h9 => h9) rfl dX1_follow_62 ?_
        refine lv_iload_n hx hb dX1_follow_65 rfl (lv_at hl 3 rfl) ?_
        refine lv_aload_n hx hb dX1_follow_66 rfl (lv_at hl 0 rfl) ?_
        refine va_get (D := (dC, dI)) (ci := 1) (v := .ref b5) (C := RX1) (T := TX1) (N := 12) hx hb hts (fun w hw => List.mem_cons_of_mem _ (inX1 w hw)) hown hK hP 0 rfl rfl 6 (by decide) (hts _ (List.mem_cons_of_mem _ mw_450)) (fun _ h9 => h9) rfl dX1_follow_67 ?_
        refine lv_bipush (v := (6 : Int32)) hx hb dX1_follow_70 (by decide) ?_
        refine lv_aload_n hx hb dX1_follow_72 rfl (lv_at hl 0 rfl) ?_
        refine va_get (D := (dC, dI)) (ci := 1) (v := .ref b9) (C := RX1) (T := TX1) (N := 12) hx hb hts (fun w hw => List.mem_cons_of_mem _ (inX1 w hw)) hown hK hP 0 rfl rfl 11 (by decide) (hts _ (List.mem_cons_of_mem _ mw_455)) (fun _ h9 => h9) rfl dX1_follow_73 ?_
        refine lv_iload_n hx hb dX1_follow_76 rfl (lv_at hl 1 rfl) ?_
        obtain ⟨v6, hv, hf⟩ := bd hf
        refine q_ild hx hb hK hP 9 0 rfl rfl hv dX1_follow_77 ?_
        refine lv_imul hx hb dX1_follow_78 ?_
        refine lv_iload_n hx hb dX1_follow_79 rfl (lv_at hl 2 rfl) ?_
        refine lv_iadd hx hb dX1_follow_80 ?_
        obtain ⟨v7, hv, hf⟩ := bd hf
        refine q_ild hx hb hK hP 5 0 rfl rfl hv dX1_follow_81 ?_
        obtain ⟨ro_8, hv, hf⟩ := bd hf
        refine q_ist hx hb hK hP hD hS 9 0 rfl rfl hv dX1_follow_82 (fun H locs hP hD hS => ?_)
        have hP : va_P (dC, dI) vwCl (wM cI cZ hm b1 b2 b3 b4 b5 b6 b7 b8 b9 v3 mk us fi se ki va li ct od ne ro_8) _ := hP
        have hD : va_D A (wM cI cZ hm b1 b2 b3 b4 b5 b6 b7 b8 b9 v3 mk us fi se ki va li ct od ne ro_8) := hD
        refine lv_aload_n hx hb dX1_follow_83 rfl (lv_at hl 0 rfl) ?_
        refine va_get (D := (dC, dI)) (ci := 1) (v := .ref b9) (C := RX1) (T := TX1) (N := 12) hx hb hts (fun w hw => List.mem_cons_of_mem _ (inX1 w hw)) hown hK hP 0 rfl rfl 11 (by decide) (hts _ (List.mem_cons_of_mem _ mw_455)) (fun _ h9 => h9) rfl dX1_follow_84 ?_
        refine lv_iload_n hx hb dX1_follow_87 rfl (lv_at hl 3 rfl) ?_
        obtain ⟨v9, hv, hf⟩ := bd hf
        refine q_ild hx hb hK hP 9 0 rfl rfl hv dX1_follow_88 ?_
        refine lv_if_lt (tgt := 96) hx hb dX1_follow_89 (by decide) (fun h10 => ?_) (fun h10 => ?_)
        · have hf := ift h10 hf
          refine lv_iconst (v := (0 : Int32)) hx hb dX1_follow_96 (by decide) ?_
          have hg0 := Option.some.inj hf
          obtain ⟨hq1, hg1⟩ := Prod.mk.inj hg0
          subst hq1
          obtain ⟨hq2, hg2⟩ := Prod.mk.inj hg1
          subst hq2
          subst hg2
          exact W.zret hx hb hr rfl (fun t ht hW => ⟨⟨_, (), rfl, rfl, by rw [ht]; exact hP, va_K.moved hW.alike hK, hD⟩, hS.F ht⟩) hS.2.2 dX1_follow_97
        · have hf := ifn h10 hf
          refine lv_iconst (v := (1 : Int32)) hx hb dX1_follow_92 (by decide) ?_
          refine lv_goto (tgt := 97) hx hb dX1_follow_93 (by decide) ?_
          have hg0 := Option.some.inj hf
          obtain ⟨hq1, hg1⟩ := Prod.mk.inj hg0
          subst hq1
          obtain ⟨hq2, hg2⟩ := Prod.mk.inj hg1
          subst hq2
          subst hg2
          exact W.zret hx hb hr rfl (fun t ht hW => ⟨⟨_, (), rfl, rfl, by rw [ht]; exact hP, va_K.moved hW.alike hK, hD⟩, hS.F ht⟩) hS.2.2 dX1_follow_97
      · have hf := ifn h5 hf
        refine lv_iconst (v := (0 : Int32)) hx hb dX1_follow_59 (by decide) ?_
        have hg0 := Option.some.inj hf
        obtain ⟨hq1, hg1⟩ := Prod.mk.inj hg0
        subst hq1
        obtain ⟨hq2, hg2⟩ := Prod.mk.inj hg1
        subst hq2
        subst hg2
        exact W.zret hx hb hr rfl (fun t ht hW => ⟨⟨_, (), rfl, rfl, by rw [ht]; exact hP, va_K.moved hW.alike hK, hD⟩, hS.F ht⟩) hS.2.2 dX1_follow_60
    · have hf := ift h4 hf
      refine lv_aload_n hx hb dX1_follow_28 rfl (lv_at hl 0 rfl) ?_
      refine va_get (D := (dC, dI)) (ci := 1) (v := .ref b4) (C := RX1) (T := TX1) (N := 12) hx hb hts (fun w hw => List.mem_cons_of_mem _ (inX1 w hw)) hown hK hP 0 rfl rfl 5 (by decide) (hts _ (List.mem_cons_of_mem _ mw_449)) (fun _ h9 => h9) rfl dX1_follow_29 ?_
      refine lv_bipush (v := (6 : Int32)) hx hb dX1_follow_32 (by decide) ?_
      refine lv_aload_n hx hb dX1_follow_34 rfl (lv_at hl 0 rfl) ?_
      refine va_get (D := (dC, dI)) (ci := 1) (v := .ref b9) (C := RX1) (T := TX1) (N := 12) hx hb hts (fun w hw => List.mem_cons_of_mem _ (inX1 w hw)) hown hK hP 0 rfl rfl 11 (by decide) (hts _ (List.mem_cons_of_mem _ mw_455)) (fun _ h9 => h9) rfl dX1_follow_35 ?_
      refine lv_iload_n hx hb dX1_follow_38 rfl (lv_at hl 1 rfl) ?_
      obtain ⟨v11, hv, hf⟩ := bd hf
      refine q_ild hx hb hK hP 9 0 rfl rfl hv dX1_follow_39 ?_
      refine lv_imul hx hb dX1_follow_40 ?_
      refine lv_iload_n hx hb dX1_follow_41 rfl (lv_at hl 2 rfl) ?_
      refine lv_iadd hx hb dX1_follow_42 ?_
      obtain ⟨v12, hv, hf⟩ := bd hf
      refine q_ild hx hb hK hP 4 0 rfl rfl hv dX1_follow_43 ?_
      refine lv_if_ne (tgt := 52) hx hb dX1_follow_44 (by decide) (fun h13 => ?_) (fun h13 => ?_)
      · have hf := ifn h13 hf
        refine lv_aload_n hx hb dX1_follow_52 rfl (lv_at hl 0 rfl) ?_
        refine va_get (D := (dC, dI)) (ci := 1) (v := .int v3) (C := RX1) (T := TX1) (N := 12) hx hb hts (fun w hw => List.mem_cons_of_mem _ (inX1 w hw)) hown hK hP 0 rfl rfl 0 (by decide) (hts _ (List.mem_cons_of_mem _ mw_444)) (fun _ h9 => h9) rfl dX1_follow_53 ?_
        refine lv_if_le (tgt := 61) hx hb dX1_follow_56 (by decide) (fun h14 => ?_) (fun h14 => ?_)
        · have hf := ift h14 hf
          refine lv_aload_n hx hb dX1_follow_61 rfl (lv_at hl 0 rfl) ?_
          refine va_get (D := (dC, dI)) (ci := 1) (v := .ref b9) (C := RX1) (T := TX1) (N := 12) hx hb hts (fun w hw => List.mem_cons_of_mem _ (inX1 w hw)) hown hK hP 0 rfl rfl 11 (by decide) (hts _ (List.mem_cons_of_mem _ mw_455)) (fun _ h9 => h9) rfl dX1_follow_62 ?_
          refine lv_iload_n hx hb dX1_follow_65 rfl (lv_at hl 3 rfl) ?_
          refine lv_aload_n hx hb dX1_follow_66 rfl (lv_at hl 0 rfl) ?_
          refine va_get (D := (dC, dI)) (ci := 1) (v := .ref b5) (C := RX1) (T := TX1) (N := 12) hx hb hts (fun w hw => List.mem_cons_of_mem _ (inX1 w hw)) hown hK hP 0 rfl rfl 6 (by decide) (hts _ (List.mem_cons_of_mem _ mw_450)) (fun _ h9 => h9) rfl dX1_follow_67 ?_
          refine lv_bipush (v := (6 : Int32)) hx hb dX1_follow_70 (by decide) ?_
          refine lv_aload_n hx hb dX1_follow_72 rfl (lv_at hl 0 rfl) ?_
          refine va_get (D := (dC, dI)) (ci := 1) (v := .ref b9) (C := RX1) (T := TX1) (N := 12) hx hb hts (fun w hw => List.mem_cons_of_mem _ (inX1 w hw)) hown hK hP 0 rfl rfl 11 (by decide) (hts _ (List.mem_cons_of_mem _ mw_455)) (fun _ h9 => h9) rfl dX1_follow_73 ?_
          refine lv_iload_n hx hb dX1_follow_76 rfl (lv_at hl 1 rfl) ?_
          obtain ⟨v15, hv, hf⟩ := bd hf
          refine q_ild hx hb hK hP 9 0 rfl rfl hv dX1_follow_77 ?_
          refine lv_imul hx hb dX1_follow_78 ?_
          refine lv_iload_n hx hb dX1_follow_79 rfl (lv_at hl 2 rfl) ?_
          refine lv_iadd hx hb dX1_follow_80 ?_
          obtain ⟨v16, hv, hf⟩ := bd hf
          refine q_ild hx hb hK hP 5 0 rfl rfl hv dX1_follow_81 ?_
          obtain ⟨ro_17, hv, hf⟩ := bd hf
          refine q_ist hx hb hK hP hD hS 9 0 rfl rfl hv dX1_follow_82 (fun H locs hP hD hS => ?_)
          have hP : va_P (dC, dI) vwCl (wM cI cZ hm b1 b2 b3 b4 b5 b6 b7 b8 b9 v3 mk us fi se ki va li ct od ne ro_17) _ := hP
          have hD : va_D A (wM cI cZ hm b1 b2 b3 b4 b5 b6 b7 b8 b9 v3 mk us fi se ki va li ct od ne ro_17) := hD
          refine lv_aload_n hx hb dX1_follow_83 rfl (lv_at hl 0 rfl) ?_
          refine va_get (D := (dC, dI)) (ci := 1) (v := .ref b9) (C := RX1) (T := TX1) (N := 12) hx hb hts (fun w hw => List.mem_cons_of_mem _ (inX1 w hw)) hown hK hP 0 rfl rfl 11 (by decide) (hts _ (List.mem_cons_of_mem _ mw_455)) (fun _ h9 => h9) rfl dX1_follow_84 ?_
          refine lv_iload_n hx hb dX1_follow_87 rfl (lv_at hl 3 rfl) ?_
          obtain ⟨v18, hv, hf⟩ := bd hf
          refine q_ild hx hb hK hP 9 0 rfl rfl hv dX1_follow_88 ?_
          refine lv_if_lt (tgt := 96) hx hb dX1_follow_89 (by decide) (fun h19 => ?_) (fun h19 => ?_)
          · have hf := ift h19 hf
            refine lv_iconst (v := (0 : Int32)) hx hb dX1_follow_96 (by decide) ?_
            have hg0 := Option.some.inj hf
            obtain ⟨hq1, hg1⟩ := Prod.mk.inj hg0
            subst hq1
            obtain ⟨hq2, hg2⟩ := Prod.mk.inj hg1
            subst hq2
            subst hg2
            exact W.zret hx hb hr rfl (fun t ht hW => ⟨⟨_, (), rfl, rfl, by rw [ht]; exact hP, va_K.moved hW.alike hK, hD⟩, hS.F ht⟩) hS.2.2 dX1_follow_97
          · have hf := ifn h19 hf
            refine lv_iconst (v := (1 : Int32)) hx hb dX1_follow_92 (by decide) ?_
            refine lv_goto (tgt := 97) hx hb dX1_follow_93 (by decide) ?_
            have hg0 := Option.some.inj hf
            obtain ⟨hq1, hg1⟩ := Prod.mk.inj hg0
            subst hq1
            obtain ⟨hq2, hg2⟩ := Prod.mk.inj hg1
            subst hq2
            subst hg2
            exact W.zret hx hb hr rfl (fun t ht hW => ⟨⟨_, (), rfl, rfl, by rw [ht]; exact hP, va_K.moved hW.alike hK, hD⟩, hS.F ht⟩) hS.2.2 dX1_follow_97
        · have hf := ifn h14 hf
          refine lv_iconst (v := (0 : Int32)) hx hb dX1_follow_59 (by decide) ?_
          have hg0 := Option.some.inj hf
          obtain ⟨hq1, hg1⟩ := Prod.mk.inj hg0
          subst hq1
          obtain ⟨hq2, hg2⟩ := Prod.mk.inj hg1
          subst hq2
          subst hg2
          exact W.zret hx hb hr rfl (fun t ht hW => ⟨⟨_, (), rfl, rfl, by rw [ht]; exact hP, va_K.moved hW.alike hK, hD⟩, hS.F ht⟩) hS.2.2 dX1_follow_60
      · have hf := ift h13 hf
        refine lv_aload_n hx hb dX1_follow_47 rfl (lv_at hl 0 rfl) ?_
        refine lv_iconst (v := (3 : Int32)) hx hb dX1_follow_48 (by decide) ?_
        refine va_put (D := (dC, dI)) (ci := 1) (v := .int (3 : Int32)) (ty := .int) (C := RX1) (T := TX1) (N := 12) hx hb hts (fun w hw => List.mem_cons_of_mem _ (inX1 w hw)) tyX1 tyX1_ok nmX1 hown hK hP hD hS 0 rfl rfl 0 (by decide) (hts _ (List.mem_cons_of_mem _ mw_444)) (fun _ h9 => h9) rfl (by decide +kernel) rfl rfl (Nat.le_of_ble_eq_true rfl) dX1_follow_49 (fun H locs hP hD hS => ?_)
        have hP : va_P (dC, dI) vwCl (wM cI cZ hm b1 b2 b3 b4 b5 b6 b7 b8 b9 (3 : Int32) mk us fi se ki va li ct od ne ro) _ := hP
        have hD : va_D A (wM cI cZ hm b1 b2 b3 b4 b5 b6 b7 b8 b9 (3 : Int32) mk us fi se ki va li ct od ne ro) := hD
        refine lv_aload_n hx hb dX1_follow_52 rfl (lv_at hl 0 rfl) ?_
        refine va_get (D := (dC, dI)) (ci := 1) (v := .int (3 : Int32)) (C := RX1) (T := TX1) (N := 12) hx hb hts (fun w hw => List.mem_cons_of_mem _ (inX1 w hw)) hown hK hP 0 rfl rfl 0 (by decide) (hts _ (List.mem_cons_of_mem _ mw_444)) (fun _ h9 => h9) rfl dX1_follow_53 ?_
        refine lv_if_le (tgt := 61) hx hb dX1_follow_56 (by decide) (fun h9 => absurd h9 (by decide)) (fun _ => ?_)
        refine lv_iconst (v := (0 : Int32)) hx hb dX1_follow_59 (by decide) ?_
        have hg0 := Option.some.inj hf
        obtain ⟨hq1, hg1⟩ := Prod.mk.inj hg0
        subst hq1
        obtain ⟨hq2, hg2⟩ := Prod.mk.inj hg1
        subst hq2
        subst hg2
        exact W.zret hx hb hr rfl (fun t ht hW => ⟨⟨_, (), rfl, rfl, by rw [ht]; exact hP, va_K.moved hW.alike hK, hD⟩, hS.F ht⟩) hS.2.2 dX1_follow_60
set_option maxHeartbeats 4000000 in
set_option maxRecDepth 100000 in
theorem ctX1_kind (l : Launch) (dC : Nat → ClassId) (dI : Nat → Nat → Nat) (cI cZ cL : ClassId) (hm b1 b2 b3 b4 b5 b6 b7 b8 b9 : Nat) (sz : Nat) (th : Int32) (mk : Int32) (us : Nat → Int32) (fi : Nat → Int32) (se : Nat → Int32) (ki : Nat → Int32) (va : Nat → Int32) (li : Nat → Int32) (ct : Int32) (od : Nat → Int32) (ne : Nat → Int32) (ro : Nat → Int32) (x1 : Int32) (x2 : Int32) (rs : Int32) (th' : Int32) (hf : fX1_kind th fi ki ro x1 x2 = some (rs, th')) : Met l yX1_kind wsX1_kind rmX1_kind (va_Pc [.ref hm, .int x1, .int x2] (q_pre (dC, dI) vwCl (tyA cI cZ cL) sz (wM cI cZ hm b1 b2 b3 b4 b5 b6 b7 b8 b9 th mk us fi se ki va li ct od ne ro))) (va_Qi (fun r (_ : Unit) => r = rs) (fun _ => q_post (dC, dI) vwCl (tyA cI cZ cL) (va_A (wM cI cZ hm b1 b2 b3 b4 b5 b6 b7 b8 b9 th mk us fi se ki va li ct od ne ro) sz) (wM cI cZ hm b1 b2 b3 b4 b5 b6 b7 b8 b9 th' mk us fi se ki va li ct od ne ro)) (va_A (wM cI cZ hm b1 b2 b3 b4 b5 b6 b7 b8 b9 th mk us fi se ki va li ct od ne ro) sz)) 0 0 (va_A (wM cI cZ hm b1 b2 b3 b4 b5 b6 b7 b8 b9 th mk us fi se ki va li ct od ne ro) sz) := by
  refine Met.ofW (cc := cX1_kind) (maxL := 3) (ret := (some .int)) (by decide) rfl ?_
  intro p e s m args below meth c s₁ B hml hv
  obtain ⟨rfl, hsz, hP, hK, hD0⟩ := hv
  have hx := B.exec
  have hb := B.bytes
  have hr := B.returns
  have hts := atoms_spec (ws := wsX1_kind) B.pre
  have hown : s.vm.findClass RX1 = some m.cls := findClass_of_methodNamed B.named
  subst hsz
  have hD := hD0.self (sz := s.heap.size)
  generalize hAe : va_A (wM cI cZ hm b1 b2 b3 b4 b5 b6 b7 b8 b9 th mk us fi se ki va li ct od ne ro) s.heap.size = A at hD ⊢
  have hA : ∀ q : Nat, s.heap.size ≤ q → A q := fun q h => by rw [← hAe]; exact Or.inr h
  have hS : va_S A s.heap s.heap [] := va_S.rf
  have hl := lv_entry ([.ref hm, .int x1, .int x2]) (n := 3) (Nat.le_of_ble_eq_true rfl)
  rw [lg_entry_eq]
  generalize (lg_sl ([.ref hm, .int x1, .int x2]) ++ List.replicate (3 - (lg_sl ([.ref hm, .int x1, .int x2])).length) Slot.unset).toArray = ls at hl ⊢
  have hl : lv_has ls 3 [(0, .ref hm), (1, .int x1), (2, .int x2)] := hl
  unfold fX1_kind at hf
  refine lv_aload_n hx hb dX1_kind_0 rfl (lv_at hl 0 rfl) ?_
  refine lv_aload_n hx hb dX1_kind_1 rfl (lv_at hl 0 rfl) ?_
  refine lv_iload_n hx hb dX1_kind_2 rfl (lv_at hl 1 rfl) ?_
  refine lv_iload_n hx hb dX1_kind_3 rfl (lv_at hl 2 rfl) ?_
  obtain ⟨v1, hv, hf⟩ := bd hf
  refine q_ci (wr := []) (va_runV (As := [.int x1, .int x2]) (rest := [.ref hm]) ⟨hx, hb, hml, hown, hts⟩ (ctX1_bar l dC dI cI cZ cL hm b1 b2 b3 b4 b5 b6 b7 b8 b9 _ th mk us fi se ki va li ct od ne ro x1 x2 v1 hv) (cwV 2 hts (gV mw_556 mw_558 mw_33 mw_40 mw_559) rfl rfl rfl (by decide +kernel) ⟨Nat.le_of_ble_eq_true rfl, Nat.le_of_ble_eq_true rfl⟩) (q_preV [.int x1, .int x2] hK hP hD [0, 1, 2, 3, 4, 5, 6, 7, 8, 9] (by decide) rfl (ci := 1) rfl rfl) rfl rfl hl.1 rfl (lv_room (Nat.le_of_ble_eq_true rfl)) dX1_kind_4 ⟨Nat.le_of_ble_eq_true rfl, Nat.le_of_ble_eq_true rfl⟩) hP hD hS hA [0, 1, 2, 3, 4, 5, 6, 7, 8, 9] [] rfl rfl (by decide) (by decide) (fun H locs hP hD hS => ?_)
  have hP : va_P (dC, dI) vwCl (wM cI cZ hm b1 b2 b3 b4 b5 b6 b7 b8 b9 th mk us fi se ki va li ct od ne ro) _ := hP
  have hD : va_D A (wM cI cZ hm b1 b2 b3 b4 b5 b6 b7 b8 b9 th mk us fi se ki va li ct od ne ro) := hD
  refine va_put (D := (dC, dI)) (ci := 1) (v := .int v1) (ty := .int) (C := RX1) (T := TX1) (N := 12) hx hb hts (fun w hw => List.mem_cons_of_mem _ (inX1 w hw)) tyX1 tyX1_ok nmX1 hown hK hP hD hS 0 rfl rfl 0 (by decide) (hts _ (List.mem_cons_of_mem _ mw_444)) (fun _ h9 => h9) rfl (by decide +kernel) rfl rfl (Nat.le_of_ble_eq_true rfl) dX1_kind_7 (fun H locs hP hD hS => ?_)
  have hP : va_P (dC, dI) vwCl (wM cI cZ hm b1 b2 b3 b4 b5 b6 b7 b8 b9 v1 mk us fi se ki va li ct od ne ro) _ := hP
  have hD : va_D A (wM cI cZ hm b1 b2 b3 b4 b5 b6 b7 b8 b9 v1 mk us fi se ki va li ct od ne ro) := hD
  refine lv_aload_n hx hb dX1_kind_10 rfl (lv_at hl 0 rfl) ?_
  refine va_get (D := (dC, dI)) (ci := 1) (v := .int v1) (C := RX1) (T := TX1) (N := 12) hx hb hts (fun w hw => List.mem_cons_of_mem _ (inX1 w hw)) hown hK hP 0 rfl rfl 0 (by decide) (hts _ (List.mem_cons_of_mem _ mw_444)) (fun _ h9 => h9) rfl dX1_kind_11 ?_
  refine lv_if_le (tgt := 21) hx hb dX1_kind_14 (by decide) (fun h2 => ?_) (fun h2 => ?_)
  · have hf := ift h2 hf
    refine lv_aload_n hx hb dX1_kind_21 rfl (lv_at hl 0 rfl) ?_
    refine va_get (D := (dC, dI)) (ci := 1) (v := .ref b4) (C := RX1) (T := TX1) (N := 12) hx hb hts (fun w hw => List.mem_cons_of_mem _ (inX1 w hw)) hown hK hP 0 rfl rfl 5 (by decide) (hts _ (List.mem_cons_of_mem _ mw_449)) (fun _ h9 => h9) rfl dX1_kind_22 ?_
    refine lv_bipush (v := (6 : Int32)) hx hb dX1_kind_25 (by decide) ?_
    refine lv_aload_n hx hb dX1_kind_27 rfl (lv_at hl 0 rfl) ?_
    refine va_get (D := (dC, dI)) (ci := 1) (v := .ref b9) (C := RX1) (T := TX1) (N := 12) hx hb hts (fun w hw => List.mem_cons_of_mem _ (inX1 w hw)) hown hK hP 0 rfl rfl 11 (by decide) (hts _ (List.mem_cons_of_mem _ mw_455)) (fun _ h9 => h9) rfl dX1_kind_28 ?_
    refine lv_iload_n hx hb dX1_kind_31 rfl (lv_at hl 1 rfl) ?_
    obtain ⟨v3, hv, hf⟩ := bd hf
    refine q_ild hx hb hK hP 9 0 rfl rfl hv dX1_kind_32 ?_
    refine lv_imul hx hb dX1_kind_33 ?_
    refine lv_iload_n hx hb dX1_kind_34 rfl (lv_at hl 2 rfl) ?_
    refine lv_iadd hx hb dX1_kind_35 ?_
    obtain ⟨v4, hv, hf⟩ := bd hf
    refine q_ild hx hb hK hP 4 0 rfl rfl hv dX1_kind_36 ?_
    have hg0 := Option.some.inj hf
    obtain ⟨hq1, hg1⟩ := Prod.mk.inj hg0
    subst hq1
    subst hg1
    exact W.iret hx hb hr (fun t ht hW => ⟨⟨_, (), rfl, rfl, by rw [ht]; exact hP, va_K.moved hW.alike hK, hD⟩, hS.F ht⟩) hS.2.2 dX1_kind_37
  · have hf := ifn h2 hf
    refine lv_iconst (v := (0 : Int32)) hx hb dX1_kind_17 (by decide) ?_
    refine lv_goto (tgt := 37) hx hb dX1_kind_18 (by decide) ?_
    have hg0 := Option.some.inj hf
    obtain ⟨hq1, hg1⟩ := Prod.mk.inj hg0
    subst hq1
    subst hg1
    exact W.iret hx hb hr (fun t ht hW => ⟨⟨_, (), rfl, rfl, by rw [ht]; exact hP, va_K.moved hW.alike hK, hD⟩, hS.F ht⟩) hS.2.2 dX1_kind_37
set_option maxHeartbeats 4000000 in
set_option maxRecDepth 100000 in
theorem ctX1_serial (l : Launch) (dC : Nat → ClassId) (dI : Nat → Nat → Nat) (cI cZ cL : ClassId) (hm b1 b2 b3 b4 b5 b6 b7 b8 b9 : Nat) (sz : Nat) (th : Int32) (mk : Int32) (us : Nat → Int32) (fi : Nat → Int32) (se : Nat → Int32) (ki : Nat → Int32) (va : Nat → Int32) (li : Nat → Int32) (ct : Int32) (od : Nat → Int32) (ne : Nat → Int32) (ro : Nat → Int32) (x1 : Int32) (rs : Int32) (th' : Int32) (hf : fX1_serial th se ro x1 = some (rs, th')) : Met l yX1_serial wsX1_serial rmX1_serial (va_Pc [.ref hm, .int x1] (q_pre (dC, dI) vwCl (tyA cI cZ cL) sz (wM cI cZ hm b1 b2 b3 b4 b5 b6 b7 b8 b9 th mk us fi se ki va li ct od ne ro))) (va_Qi (fun r (_ : Unit) => r = rs) (fun _ => q_post (dC, dI) vwCl (tyA cI cZ cL) (va_A (wM cI cZ hm b1 b2 b3 b4 b5 b6 b7 b8 b9 th mk us fi se ki va li ct od ne ro) sz) (wM cI cZ hm b1 b2 b3 b4 b5 b6 b7 b8 b9 th' mk us fi se ki va li ct od ne ro)) (va_A (wM cI cZ hm b1 b2 b3 b4 b5 b6 b7 b8 b9 th mk us fi se ki va li ct od ne ro) sz)) 0 0 (va_A (wM cI cZ hm b1 b2 b3 b4 b5 b6 b7 b8 b9 th mk us fi se ki va li ct od ne ro) sz) := by
  refine Met.ofW (cc := cX1_serial) (maxL := 2) (ret := (some .int)) (by decide) rfl ?_
  intro p e s m args below meth c s₁ B hml hv
  obtain ⟨rfl, hsz, hP, hK, hD0⟩ := hv
  have hx := B.exec
  have hb := B.bytes
  have hr := B.returns
  have hts := atoms_spec (ws := wsX1_serial) B.pre
  have hown : s.vm.findClass RX1 = some m.cls := findClass_of_methodNamed B.named
  subst hsz
  have hD := hD0.self (sz := s.heap.size)
  generalize hAe : va_A (wM cI cZ hm b1 b2 b3 b4 b5 b6 b7 b8 b9 th mk us fi se ki va li ct od ne ro) s.heap.size = A at hD ⊢
  have hA : ∀ q : Nat, s.heap.size ≤ q → A q := fun q h => by rw [← hAe]; exact Or.inr h
  have hS : va_S A s.heap s.heap [] := va_S.rf
  have hl := lv_entry ([.ref hm, .int x1]) (n := 2) (Nat.le_of_ble_eq_true rfl)
  rw [lg_entry_eq]
  generalize (lg_sl ([.ref hm, .int x1]) ++ List.replicate (2 - (lg_sl ([.ref hm, .int x1])).length) Slot.unset).toArray = ls at hl ⊢
  have hl : lv_has ls 2 [(0, .ref hm), (1, .int x1)] := hl
  unfold fX1_serial at hf
  refine lv_aload_n hx hb dX1_serial_0 rfl (lv_at hl 0 rfl) ?_
  refine lv_iload_n hx hb dX1_serial_1 rfl (lv_at hl 1 rfl) ?_
  obtain ⟨v1, hv, hf⟩ := bd hf
  refine q_ci (wr := (wM cI cZ hm b1 b2 b3 b4 b5 b6 b7 b8 b9 th mk us fi se ki va li ct od ne ro)) (va_runS (As := [.int x1]) (rest := [.ref hm]) ⟨hx, hb, hml, hown, hts⟩ (ctX1_isRoot l dC dI cI cZ cL _ x1 v1 hv) (va_cwS 1 hts (gS mw_526 mw_527 mw_40 mw_528) rfl rfl rfl (by decide +kernel) ⟨Nat.le_of_ble_eq_true rfl, Nat.le_of_ble_eq_true rfl⟩) (q_preS [.int x1] hK hP hD [] (by decide) rfl) rfl rfl hl.1 rfl (lv_room (Nat.le_of_ble_eq_true rfl)) dX1_serial_2 ⟨Nat.le_of_ble_eq_true rfl, Nat.le_of_ble_eq_true rfl⟩) hP hD hS hA [] [0, 1, 2, 3, 4, 5, 6, 7, 8, 9] rfl rfl (by decide) (by decide) (fun H locs hP hD hS => ?_)
  have hP : va_P (dC, dI) vwCl (wM cI cZ hm b1 b2 b3 b4 b5 b6 b7 b8 b9 th mk us fi se ki va li ct od ne ro) _ := hP
  have hD : va_D A (wM cI cZ hm b1 b2 b3 b4 b5 b6 b7 b8 b9 th mk us fi se ki va li ct od ne ro) := hD
  refine lv_if_eq (tgt := 12) hx hb dX1_serial_5 (by decide) (fun h2 => ?_) (fun h2 => ?_)
  · have hf := ift h2 hf
    refine lv_iconst (v := (1 : Int32)) hx hb dX1_serial_12 (by decide) ?_
    refine va_put (D := (dC, dI)) (ci := 1) (v := .int (1 : Int32)) (ty := .int) (C := RX1) (T := TX1) (N := 12) hx hb hts (fun w hw => List.mem_cons_of_mem _ (inX1 w hw)) tyX1 tyX1_ok nmX1 hown hK hP hD hS 0 rfl rfl 0 (by decide) (hts _ (List.mem_cons_of_mem _ mw_444)) (fun _ h9 => h9) rfl (by decide +kernel) rfl rfl (Nat.le_of_ble_eq_true rfl) dX1_serial_13 (fun H locs hP hD hS => ?_)
    have hP : va_P (dC, dI) vwCl (wM cI cZ hm b1 b2 b3 b4 b5 b6 b7 b8 b9 (1 : Int32) mk us fi se ki va li ct od ne ro) _ := hP
    have hD : va_D A (wM cI cZ hm b1 b2 b3 b4 b5 b6 b7 b8 b9 (1 : Int32) mk us fi se ki va li ct od ne ro) := hD
    refine lv_aload_n hx hb dX1_serial_16 rfl (lv_at hl 0 rfl) ?_
    refine va_get (D := (dC, dI)) (ci := 1) (v := .int (1 : Int32)) (C := RX1) (T := TX1) (N := 12) hx hb hts (fun w hw => List.mem_cons_of_mem _ (inX1 w hw)) hown hK hP 0 rfl rfl 0 (by decide) (hts _ (List.mem_cons_of_mem _ mw_444)) (fun _ h9 => h9) rfl dX1_serial_17 ?_
    refine lv_if_le (tgt := 27) hx hb dX1_serial_20 (by decide) (fun h9 => absurd h9 (by decide)) (fun _ => ?_)
    refine lv_iconst (v := (0 : Int32)) hx hb dX1_serial_23 (by decide) ?_
    refine lv_goto (tgt := 51) hx hb dX1_serial_24 (by decide) ?_
    have hg0 := Option.some.inj hf
    obtain ⟨hq1, hg1⟩ := Prod.mk.inj hg0
    subst hq1
    subst hg1
    exact W.iret hx hb hr (fun t ht hW => ⟨⟨_, (), rfl, rfl, by rw [ht]; exact hP, va_K.moved hW.alike hK, hD⟩, hS.F ht⟩) hS.2.2 dX1_serial_51
  · have hf := ifn h2 hf
    refine lv_iconst (v := (0 : Int32)) hx hb dX1_serial_8 (by decide) ?_
    refine lv_goto (tgt := 13) hx hb dX1_serial_9 (by decide) ?_
    refine va_put (D := (dC, dI)) (ci := 1) (v := .int (0 : Int32)) (ty := .int) (C := RX1) (T := TX1) (N := 12) hx hb hts (fun w hw => List.mem_cons_of_mem _ (inX1 w hw)) tyX1 tyX1_ok nmX1 hown hK hP hD hS 0 rfl rfl 0 (by decide) (hts _ (List.mem_cons_of_mem _ mw_444)) (fun _ h9 => h9) rfl (by decide +kernel) rfl rfl (Nat.le_of_ble_eq_true rfl) dX1_serial_13 (fun H locs hP hD hS => ?_)
    have hP : va_P (dC, dI) vwCl (wM cI cZ hm b1 b2 b3 b4 b5 b6 b7 b8 b9 (0 : Int32) mk us fi se ki va li ct od ne ro) _ := hP
    have hD : va_D A (wM cI cZ hm b1 b2 b3 b4 b5 b6 b7 b8 b9 (0 : Int32) mk us fi se ki va li ct od ne ro) := hD
    refine lv_aload_n hx hb dX1_serial_16 rfl (lv_at hl 0 rfl) ?_
    refine va_get (D := (dC, dI)) (ci := 1) (v := .int (0 : Int32)) (C := RX1) (T := TX1) (N := 12) hx hb hts (fun w hw => List.mem_cons_of_mem _ (inX1 w hw)) hown hK hP 0 rfl rfl 0 (by decide) (hts _ (List.mem_cons_of_mem _ mw_444)) (fun _ h9 => h9) rfl dX1_serial_17 ?_
    refine lv_if_le (tgt := 27) hx hb dX1_serial_20 (by decide) (fun _ => ?_) (fun h9 => absurd h9 (by decide))
    refine lv_aload_n hx hb dX1_serial_27 rfl (lv_at hl 0 rfl) ?_
    refine va_get (D := (dC, dI)) (ci := 1) (v := .ref b9) (C := RX1) (T := TX1) (N := 12) hx hb hts (fun w hw => List.mem_cons_of_mem _ (inX1 w hw)) hown hK hP 0 rfl rfl 11 (by decide) (hts _ (List.mem_cons_of_mem _ mw_455)) (fun _ h9 => h9) rfl dX1_serial_28 ?_
    refine lv_iload_n hx hb dX1_serial_31 rfl (lv_at hl 1 rfl) ?_
    obtain ⟨v3, hv, hf⟩ := bd hf
    refine q_ild hx hb hK hP 9 0 rfl rfl hv dX1_serial_32 ?_
    refine lv_if_ge (tgt := 40) hx hb dX1_serial_33 (by decide) (fun h4 => ?_) (fun h4 => ?_)
    · have hf := ift h4 hf
      refine lv_aload_n hx hb dX1_serial_40 rfl (lv_at hl 0 rfl) ?_
      refine va_get (D := (dC, dI)) (ci := 1) (v := .ref b3) (C := RX1) (T := TX1) (N := 12) hx hb hts (fun w hw => List.mem_cons_of_mem _ (inX1 w hw)) hown hK hP 0 rfl rfl 4 (by decide) (hts _ (List.mem_cons_of_mem _ mw_448)) (fun _ h9 => h9) rfl dX1_serial_41 ?_
      refine lv_aload_n hx hb dX1_serial_44 rfl (lv_at hl 0 rfl) ?_
      refine va_get (D := (dC, dI)) (ci := 1) (v := .ref b9) (C := RX1) (T := TX1) (N := 12) hx hb hts (fun w hw => List.mem_cons_of_mem _ (inX1 w hw)) hown hK hP 0 rfl rfl 11 (by decide) (hts _ (List.mem_cons_of_mem _ mw_455)) (fun _ h9 => h9) rfl dX1_serial_45 ?_
      refine lv_iload_n hx hb dX1_serial_48 rfl (lv_at hl 1 rfl) ?_
      obtain ⟨v5, hv, hf⟩ := bd hf
      refine q_ild hx hb hK hP 9 0 rfl rfl hv dX1_serial_49 ?_
      obtain ⟨v6, hv, hf⟩ := bd hf
      refine q_ild hx hb hK hP 3 0 rfl rfl hv dX1_serial_50 ?_
      have hg0 := Option.some.inj hf
      obtain ⟨hq1, hg1⟩ := Prod.mk.inj hg0
      subst hq1
      subst hg1
      exact W.iret hx hb hr (fun t ht hW => ⟨⟨_, (), rfl, rfl, by rw [ht]; exact hP, va_K.moved hW.alike hK, hD⟩, hS.F ht⟩) hS.2.2 dX1_serial_51
    · have hf := ifn h4 hf
      refine lv_iconst (v := (-1 : Int32)) hx hb dX1_serial_36 (by decide) ?_
      refine lv_goto (tgt := 51) hx hb dX1_serial_37 (by decide) ?_
      have hg0 := Option.some.inj hf
      obtain ⟨hq1, hg1⟩ := Prod.mk.inj hg0
      subst hq1
      subst hg1
      exact W.iret hx hb hr (fun t ht hW => ⟨⟨_, (), rfl, rfl, by rw [ht]; exact hP, va_K.moved hW.alike hK, hD⟩, hS.F ht⟩) hS.2.2 dX1_serial_51
set_option maxHeartbeats 4000000 in
set_option maxRecDepth 100000 in
theorem ctX1_address (l : Launch) (dC : Nat → ClassId) (dI : Nat → Nat → Nat) (cI cZ cL : ClassId) (hm b1 b2 b3 b4 b5 b6 b7 b8 b9 : Nat) (sz : Nat) (th : Int32) (mk : Int32) (us : Nat → Int32) (fi : Nat → Int32) (se : Nat → Int32) (ki : Nat → Int32) (va : Nat → Int32) (li : Nat → Int32) (ct : Int32) (od : Nat → Int32) (ne : Nat → Int32) (ro : Nat → Int32) (x1 : Int32) (rs : Int32) (th' : Int32) (hf : fX1_address th fi ct od ro x1 = some (rs, th')) : Met l yX1_address wsX1_address rmX1_address (va_Pc [.ref hm, .int x1] (q_pre (dC, dI) vwCl (tyA cI cZ cL) sz (wM cI cZ hm b1 b2 b3 b4 b5 b6 b7 b8 b9 th mk us fi se ki va li ct od ne ro))) (va_Qi (fun r (_ : Unit) => r = rs) (fun _ => q_post (dC, dI) vwCl (tyA cI cZ cL) (va_A (wM cI cZ hm b1 b2 b3 b4 b5 b6 b7 b8 b9 th mk us fi se ki va li ct od ne ro) sz) (wM cI cZ hm b1 b2 b3 b4 b5 b6 b7 b8 b9 th' mk us fi se ki va li ct od ne ro)) (va_A (wM cI cZ hm b1 b2 b3 b4 b5 b6 b7 b8 b9 th mk us fi se ki va li ct od ne ro) sz)) 0 0 (va_A (wM cI cZ hm b1 b2 b3 b4 b5 b6 b7 b8 b9 th mk us fi se ki va li ct od ne ro) sz) := by
  refine Met.ofW (cc := cX1_address) (maxL := 2) (ret := (some .int)) (by decide) rfl ?_
  intro p e s m args below meth c s₁ B hml hv
  obtain ⟨rfl, hsz, hP, hK, hD0⟩ := hv
  have hx := B.exec
  have hb := B.bytes
  have hr := B.returns
  have hts := atoms_spec (ws := wsX1_address) B.pre
  have hown : s.vm.findClass RX1 = some m.cls := findClass_of_methodNamed B.named
  subst hsz
  have hD := hD0.self (sz := s.heap.size)
  generalize hAe : va_A (wM cI cZ hm b1 b2 b3 b4 b5 b6 b7 b8 b9 th mk us fi se ki va li ct od ne ro) s.heap.size = A at hD ⊢
  have hA : ∀ q : Nat, s.heap.size ≤ q → A q := fun q h => by rw [← hAe]; exact Or.inr h
  have hS : va_S A s.heap s.heap [] := va_S.rf
  have hl := lv_entry ([.ref hm, .int x1]) (n := 2) (Nat.le_of_ble_eq_true rfl)
  rw [lg_entry_eq]
  generalize (lg_sl ([.ref hm, .int x1]) ++ List.replicate (2 - (lg_sl ([.ref hm, .int x1])).length) Slot.unset).toArray = ls at hl ⊢
  have hl : lv_has ls 2 [(0, .ref hm), (1, .int x1)] := hl
  unfold fX1_address at hf
  refine lv_aload_n hx hb dX1_address_0 rfl (lv_at hl 0 rfl) ?_
  refine lv_iload_n hx hb dX1_address_1 rfl (lv_at hl 1 rfl) ?_
  obtain ⟨v1, hv, hf⟩ := bd hf
  refine q_ci (wr := (wM cI cZ hm b1 b2 b3 b4 b5 b6 b7 b8 b9 th mk us fi se ki va li ct od ne ro)) (va_runS (As := [.int x1]) (rest := [.ref hm]) ⟨hx, hb, hml, hown, hts⟩ (ctX1_isRoot l dC dI cI cZ cL _ x1 v1 hv) (va_cwS 1 hts (gS mw_526 mw_527 mw_40 mw_528) rfl rfl rfl (by decide +kernel) ⟨Nat.le_of_ble_eq_true rfl, Nat.le_of_ble_eq_true rfl⟩) (q_preS [.int x1] hK hP hD [] (by decide) rfl) rfl rfl hl.1 rfl (lv_room (Nat.le_of_ble_eq_true rfl)) dX1_address_2 ⟨Nat.le_of_ble_eq_true rfl, Nat.le_of_ble_eq_true rfl⟩) hP hD hS hA [] [0, 1, 2, 3, 4, 5, 6, 7, 8, 9] rfl rfl (by decide) (by decide) (fun H locs hP hD hS => ?_)
  have hP : va_P (dC, dI) vwCl (wM cI cZ hm b1 b2 b3 b4 b5 b6 b7 b8 b9 th mk us fi se ki va li ct od ne ro) _ := hP
  have hD : va_D A (wM cI cZ hm b1 b2 b3 b4 b5 b6 b7 b8 b9 th mk us fi se ki va li ct od ne ro) := hD
  refine lv_if_eq (tgt := 12) hx hb dX1_address_5 (by decide) (fun h2 => ?_) (fun h2 => ?_)
  · have hf := ift h2 hf
    refine lv_iconst (v := (1 : Int32)) hx hb dX1_address_12 (by decide) ?_
    refine va_put (D := (dC, dI)) (ci := 1) (v := .int (1 : Int32)) (ty := .int) (C := RX1) (T := TX1) (N := 12) hx hb hts (fun w hw => List.mem_cons_of_mem _ (inX1 w hw)) tyX1 tyX1_ok nmX1 hown hK hP hD hS 0 rfl rfl 0 (by decide) (hts _ (List.mem_cons_of_mem _ mw_444)) (fun _ h9 => h9) rfl (by decide +kernel) rfl rfl (Nat.le_of_ble_eq_true rfl) dX1_address_13 (fun H locs hP hD hS => ?_)
    have hP : va_P (dC, dI) vwCl (wM cI cZ hm b1 b2 b3 b4 b5 b6 b7 b8 b9 (1 : Int32) mk us fi se ki va li ct od ne ro) _ := hP
    have hD : va_D A (wM cI cZ hm b1 b2 b3 b4 b5 b6 b7 b8 b9 (1 : Int32) mk us fi se ki va li ct od ne ro) := hD
    refine lv_aload_n hx hb dX1_address_16 rfl (lv_at hl 0 rfl) ?_
    refine va_get (D := (dC, dI)) (ci := 1) (v := .int (1 : Int32)) (C := RX1) (T := TX1) (N := 12) hx hb hts (fun w hw => List.mem_cons_of_mem _ (inX1 w hw)) hown hK hP 0 rfl rfl 0 (by decide) (hts _ (List.mem_cons_of_mem _ mw_444)) (fun _ h9 => h9) rfl dX1_address_17 ?_
    refine lv_if_le (tgt := 27) hx hb dX1_address_20 (by decide) (fun h9 => absurd h9 (by decide)) (fun _ => ?_)
    refine lv_iconst (v := (0 : Int32)) hx hb dX1_address_23 (by decide) ?_
    refine lv_goto (tgt := 37) hx hb dX1_address_24 (by decide) ?_
    have hg0 := Option.some.inj hf
    obtain ⟨hq1, hg1⟩ := Prod.mk.inj hg0
    subst hq1
    subst hg1
    exact W.iret hx hb hr (fun t ht hW => ⟨⟨_, (), rfl, rfl, by rw [ht]; exact hP, va_K.moved hW.alike hK, hD⟩, hS.F ht⟩) hS.2.2 dX1_address_37
  · have hf := ifn h2 hf
    refine lv_iconst (v := (0 : Int32)) hx hb dX1_address_8 (by decide) ?_
    refine lv_goto (tgt := 13) hx hb dX1_address_9 (by decide) ?_
    refine va_put (D := (dC, dI)) (ci := 1) (v := .int (0 : Int32)) (ty := .int) (C := RX1) (T := TX1) (N := 12) hx hb hts (fun w hw => List.mem_cons_of_mem _ (inX1 w hw)) tyX1 tyX1_ok nmX1 hown hK hP hD hS 0 rfl rfl 0 (by decide) (hts _ (List.mem_cons_of_mem _ mw_444)) (fun _ h9 => h9) rfl (by decide +kernel) rfl rfl (Nat.le_of_ble_eq_true rfl) dX1_address_13 (fun H locs hP hD hS => ?_)
    have hP : va_P (dC, dI) vwCl (wM cI cZ hm b1 b2 b3 b4 b5 b6 b7 b8 b9 (0 : Int32) mk us fi se ki va li ct od ne ro) _ := hP
    have hD : va_D A (wM cI cZ hm b1 b2 b3 b4 b5 b6 b7 b8 b9 (0 : Int32) mk us fi se ki va li ct od ne ro) := hD
    refine lv_aload_n hx hb dX1_address_16 rfl (lv_at hl 0 rfl) ?_
    refine va_get (D := (dC, dI)) (ci := 1) (v := .int (0 : Int32)) (C := RX1) (T := TX1) (N := 12) hx hb hts (fun w hw => List.mem_cons_of_mem _ (inX1 w hw)) hown hK hP 0 rfl rfl 0 (by decide) (hts _ (List.mem_cons_of_mem _ mw_444)) (fun _ h9 => h9) rfl dX1_address_17 ?_
    refine lv_if_le (tgt := 27) hx hb dX1_address_20 (by decide) (fun _ => ?_) (fun h9 => absurd h9 (by decide))
    refine lv_aload_n hx hb dX1_address_27 rfl (lv_at hl 0 rfl) ?_
    refine lv_aload_n hx hb dX1_address_28 rfl (lv_at hl 0 rfl) ?_
    refine va_get (D := (dC, dI)) (ci := 1) (v := .ref b9) (C := RX1) (T := TX1) (N := 12) hx hb hts (fun w hw => List.mem_cons_of_mem _ (inX1 w hw)) hown hK hP 0 rfl rfl 11 (by decide) (hts _ (List.mem_cons_of_mem _ mw_455)) (fun _ h9 => h9) rfl dX1_address_29 ?_
    refine lv_iload_n hx hb dX1_address_32 rfl (lv_at hl 1 rfl) ?_
    obtain ⟨v3, hv, hf⟩ := bd hf
    refine q_ild hx hb hK hP 9 0 rfl rfl hv dX1_address_33 ?_
    obtain ⟨v4, hv, hf⟩ := bd hf
    refine q_ci (wr := []) (va_runV (As := [.int v3]) (rest := []) ⟨hx, hb, hml, hown, hts⟩ (ctX1_addressOf l dC dI cI cZ cL hm b1 b2 b3 b4 b5 b6 b7 b8 b9 _ (0 : Int32) mk us fi se ki va li ct od ne ro v3 v4 hv) (cwV 1 hts (gV mw_584 mw_586 mw_35 mw_40 mw_587) rfl rfl rfl (by decide +kernel) ⟨Nat.le_of_ble_eq_true rfl, Nat.le_of_ble_eq_true rfl⟩) (q_preV [.int v3] hK hP hD [0, 1, 2, 3, 4, 5, 6, 7, 8, 9] (by decide) rfl (ci := 1) rfl rfl) rfl rfl hl.1 rfl (lv_room (Nat.le_of_ble_eq_true rfl)) dX1_address_34 ⟨Nat.le_of_ble_eq_true rfl, Nat.le_of_ble_eq_true rfl⟩) hP hD hS hA [0, 1, 2, 3, 4, 5, 6, 7, 8, 9] [] rfl rfl (by decide) (by decide) (fun H locs hP hD hS => ?_)
    have hP : va_P (dC, dI) vwCl (wM cI cZ hm b1 b2 b3 b4 b5 b6 b7 b8 b9 (0 : Int32) mk us fi se ki va li ct od ne ro) _ := hP
    have hD : va_D A (wM cI cZ hm b1 b2 b3 b4 b5 b6 b7 b8 b9 (0 : Int32) mk us fi se ki va li ct od ne ro) := hD
    have hg0 := Option.some.inj hf
    obtain ⟨hq1, hg1⟩ := Prod.mk.inj hg0
    subst hq1
    subst hg1
    exact W.iret hx hb hr (fun t ht hW => ⟨⟨_, (), rfl, rfl, by rw [ht]; exact hP, va_K.moved hW.alike hK, hD⟩, hS.F ht⟩) hS.2.2 dX1_address_37
