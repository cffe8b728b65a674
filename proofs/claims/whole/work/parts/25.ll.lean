set_option maxHeartbeats 40000000 in
set_option maxRecDepth 100000 in
theorem wL_law {p : Program} {l : Launch} {e : Env} {s : State} {m : MethodId} {args : Array Value} {below : List Frame} {meth : Method} {c : Code} {Q : State → Prop} {A : Nat → Prop} (hlt : l.stackTraces = false) (dC : Nat → ClassId) (dI : Nat → Nat → Nat) (cI cZ cL : ClassId) (h a1 a2 a3 a4 a5 hm b1 b2 b3 b4 b5 b6 b7 b8 b9 oa : Nat) {b L : Nat} {xs : Nat → Int32} (hx : p.tables.exec = Jvm.exec) (hb : c.code = cL_law) (hml : c.maxLocals = 7) (hown : s.vm.findClass RL = some m.cls) (hts : ∀ w ∈ wsL_law, w.before args s = true) (hK : va_K (dC, dI) vwCl (tyA cI cZ cL) s) (hA : ∀ q : Nat, s.heap.size ≤ q → A q) (hX : va_X b L xs s s.heap) (hbl : b < s.heap.size) (hbA : ¬ A b) (hZ0 : q_Z A s s.heap) (hT : q_T RX0 q_tx s) (hN : q_N s) (hC : q_C s) (n : Nat) :
    ∀ (x4_ : Int32) (w : Nat → Int32) (r : Nat → Int32) (st : Nat → Int32) (rc : Nat → Int32) (na : Nat → Int32) (tp : Int32) (cn : Int32) (rh : Int32) (sr : Int32) (th : Int32) (mk : Int32) (us : Nat → Int32) (fi : Nat → Int32) (se : Nat → Int32) (ki : Nat → Int32) (va : Nat → Int32) (li : Nat → Int32) (ct : Int32) (od : Nat → Int32) (ne : Nat → Int32) (ro : Nat → Int32) (ou : Nat → Int64) (x4_' : Int32) (w' : Nat → Int32) (r' : Nat → Int32) (st' : Nat → Int32) (rc' : Nat → Int32) (na' : Nat → Int32) (tp' : Int32) (cn' : Int32) (rh' : Int32) (sr' : Int32) (th' : Int32) (mk' : Int32) (us' : Nat → Int32) (fi' : Nat → Int32) (se' : Nat → Int32) (ki' : Nat → Int32) (va' : Nat → Int32) (li' : Nat → Int32) (ct' : Int32) (od' : Nat → Int32) (ne' : Nat → Int32) (ro' : Nat → Int32) (ou' : Nat → Int64), fL_law xs L n x4_ w r st rc na tp cn rh sr th mk us fi se ki va li ct od ne ro ou = some (x4_', w', r', st', rc', na', tp', cn', rh', sr', th', mk', us', fi', se', ki', va', li', ct', od', ne', ro', ou') → ∀ (H : Heap) (locs : List Loc) (ls : Array Slot) (cells slots : Nat), cells + n ≤ 1040 → slots + 6 * n ≤ 11000 → va_P (dC, dI) vwCl (wL cI cZ cL h a1 a2 a3 a4 a5 hm b1 b2 b3 b4 b5 b6 b7 b8 b9 oa w r st rc na tp cn rh sr th mk us fi se ki va li ct od ne ro ou) H → va_D A (wL cI cZ cL h a1 a2 a3 a4 a5 hm b1 b2 b3 b4 b5 b6 b7 b8 b9 oa w r st rc na tp cn rh sr th mk us fi se ki va li ct od ne ro ou) → va_S A s.heap H locs → lv_has ls 7 [(0, .ref b), (1, .ref h), (2, .ref hm), (3, .ref oa), (4, .int x4_)] → (∀ (H : Heap) (locs : List Loc) (ls : Array Slot) (cells slots : Nat), cells ≤ 1040 → slots ≤ 11000 → va_P (dC, dI) vwCl (wL cI cZ cL h a1 a2 a3 a4 a5 hm b1 b2 b3 b4 b5 b6 b7 b8 b9 oa w' r' st' rc' na' tp' cn' rh' sr' th' mk' us' fi' se' ki' va' li' ct' od' ne' ro' ou') H → va_D A (wL cI cZ cL h a1 a2 a3 a4 a5 hm b1 b2 b3 b4 b5 b6 b7 b8 b9 oa w' r' st' rc' na' tp' cn' rh' sr' th' mk' us' fi' se' ki' va' li' ct' od' ne' ro' ou') → va_S A s.heap H locs → lv_has ls 7 [(0, .ref b), (1, .ref h), (2, .ref hm), (3, .ref oa), (4, .int x4_')] → W p l e room_1 s m args below meth c H locs cells slots Q (F0 m 916 ls [])) → W p l e room_1 s m args below meth c H locs cells slots Q (F0 m 23 ls []) := by
  induction n with
  | zero => intro x4_ w r st rc na tp cn rh sr th mk us fi se ki va li ct od ne ro ou x4_' w' r' st' rc' na' tp' cn' rh' sr' th' mk' us' fi' se' ki' va' li' ct' od' ne' ro' ou' hf; cases hf
  | succ n ih =>
    intro x4_ w r st rc na tp cn rh sr th mk us fi se ki va li ct od ne ro ou x4_' w' r' st' rc' na' tp' cn' rh' sr' th' mk' us' fi' se' ki' va' li' ct' od' ne' ro' ou' hf H locs ls cells slots hcb hsb hP hD hS hl k0
    have hf := (fL_law_s xs L n x4_ w r st rc na tp cn rh sr th mk us fi se ki va li ct od ne ro ou).symm.trans hf
    refine lv_iload hx hb dL_law_23 (lv_at hl 4 rfl) ?_
    refine lv_aload_n hx hb dL_law_25 rfl (lv_at hl 0 rfl) ?_
    refine va_slen hx hb hX hbl hbA hS dL_law_26 ?_
    refine lv_iconst (v := (5 : Int32)) hx hb dL_law_27 (by decide) ?_
    refine lv_isub hx hb dL_law_28 ?_
    refine lv_icmp_gt (tgt := 916) hx hb dL_law_29 (by decide) (fun h1 => ?_) (fun h1 => ?_)
    · have hf := ift h1 hf
      cases hf
      exact k0 _ _ _ _ _ (by omega) (by omega) hP hD hS (lv_sub hl [0, 1, 2, 3, 4] rfl)
    · have hf := ifn h1 hf
      refine lv_aload_n hx hb dL_law_32 rfl (lv_at hl 0 rfl) ?_
      refine lv_iload hx hb dL_law_33 (lv_at hl 4 rfl) ?_
      obtain ⟨v2, hv, hf⟩ := bd hf
      refine q_sld hx hb hX hbl hbA hS hv dL_law_35 ?_
      refine lv_bipush (v := (15 : Int32)) hx hb dL_law_36 (by decide) ?_
      refine lv_iand hx hb dL_law_38 ?_
      refine lv_topi (fun xx3 exx => ?_)
      by_cases hk0 : xx3 = (0 : Int32)
      · replace hf := ift (exx.symm.trans hk0) hf
        subst hk0
        refine lv_tableIn (tgt := 112) hx hb dL_law_39 (by decide) (by decide) rfl (by decide) ?_
        refine lv_aload_n hx hb dL_law_112 rfl (lv_at hl 1 rfl) ?_
        refine lv_aload_n hx hb dL_law_113 rfl (lv_at hl 0 rfl) ?_
        refine lv_iload hx hb dL_law_114 (lv_at hl 4 rfl) ?_
        refine lv_iconst (v := (1 : Int32)) hx hb dL_law_116 (by decide) ?_
        refine lv_iadd hx hb dL_law_117 ?_
        obtain ⟨v4, hv, hf⟩ := bd hf
        refine q_sld hx hb hX hbl hbA hS hv dL_law_118 ?_
        refine lv_aload_n hx hb dL_law_119 rfl (lv_at hl 0 rfl) ?_
        refine lv_iload hx hb dL_law_120 (lv_at hl 4 rfl) ?_
        refine lv_iconst (v := (2 : Int32)) hx hb dL_law_122 (by decide) ?_
        refine lv_iadd hx hb dL_law_123 ?_
        obtain ⟨v5, hv, hf⟩ := bd hf
        refine q_sld hx hb hX hbl hbA hS hv dL_law_124 ?_
        refine lv_aload_n hx hb dL_law_125 rfl (lv_at hl 3 rfl) ?_
        obtain ⟨⟨v6, w_7, r_8, st_9, tp_10, cn_11, sr_12, ou_13⟩, hv, hf⟩ := bd hf
        dsimp only at hf
        refine q_wi (wr := [(hm, .inr (1, [.int th, .int mk, .ref b1, .ref b2, .ref b3, .ref b4, .ref b5, .ref b6, .int ct, .ref b7, .ref b8, .ref b9])), (b1, .inl (cZ, 128, .inl us)), (b2, .inl (cI, 128, .inl fi)), (b3, .inl (cI, 128, .inl se)), (b4, .inl (cI, 768, .inl ki)), (b5, .inl (cI, 768, .inl va)), (b6, .inl (cZ, 128, .inl li)), (b7, .inl (cI, 128, .inl od)), (b8, .inl (cI, 128, .inl ne)), (b9, .inl (cI, 8, .inl ro))]) (vx_runSX (As := [.ref h, .int v4, .int v5, .ref oa]) (rest := []) ⟨hx, hb, hml, hown, hts⟩ (ctL_allocate l hlt dC dI cI cZ cL h a1 a2 a3 a4 a5 oa _ w r st rc na tp cn rh sr ou v4 v5 v6 w_7 r_8 st_9 tp_10 cn_11 sr_12 ou_13 hv) (vx_cwSW 4 hts (gW mw_125 mw_126 mw_37 mw_127) rfl rfl rfl (by decide +kernel) ⟨Nat.le_of_ble_eq_true rfl, Nat.le_of_ble_eq_true rfl⟩) (q_preWS [.ref h, .int v4, .int v5, .ref oa] hK hP hD hS hA hZ0 hT hN hC [0, 1, 2, 3, 4, 5, 16] (by decide) rfl) rfl rfl hl.1 rfl (lv_room (Nat.le_of_ble_eq_true rfl)) dL_law_126 ⟨q_rc (by omega), q_rs (by omega)⟩) hP hD hS hA [0, 1, 2, 3, 4, 5, 16] [6, 7, 8, 9, 10, 11, 12, 13, 14, 15] rfl rfl (by decide) (by decide) (fun H locs hP hD hS => ?_)
        have hP := hP.sub (ws' := (wL cI cZ cL h a1 a2 a3 a4 a5 hm b1 b2 b3 b4 b5 b6 b7 b8 b9 oa w_7 r_8 st_9 rc na tp_10 cn_11 rh sr_12 th mk us fi se ki va li ct od ne ro ou_13)) [10, 11, 12, 13, 14, 15, 0, 1, 2, 3, 4, 5, 6, 7, 8, 9, 16] rfl
        have hD := hD.sub (ws' := (wL cI cZ cL h a1 a2 a3 a4 a5 hm b1 b2 b3 b4 b5 b6 b7 b8 b9 oa w_7 r_8 st_9 rc na tp_10 cn_11 rh sr_12 th mk us fi se ki va li ct od ne ro ou_13)) [10, 11, 12, 13, 14, 15, 0, 1, 2, 3, 4, 5, 6, 7, 8, 9, 16] (by decide) rfl
        have hP : va_P (dC, dI) vwCl (wL cI cZ cL h a1 a2 a3 a4 a5 hm b1 b2 b3 b4 b5 b6 b7 b8 b9 oa w_7 r_8 st_9 rc na tp_10 cn_11 rh sr_12 th mk us fi se ki va li ct od ne ro ou_13) _ := hP
        have hD : va_D A (wL cI cZ cL h a1 a2 a3 a4 a5 hm b1 b2 b3 b4 b5 b6 b7 b8 b9 oa w_7 r_8 st_9 rc na tp_10 cn_11 rh sr_12 th mk us fi se ki va li ct od ne ro ou_13) := hD
        refine lv_istore hx hb dL_law_129 hl (by decide) rfl (fun ls hl => ?_)
        have hl : lv_has ls 7 [(5, .int v6), (0, .ref b), (1, .ref h), (2, .ref hm), (3, .ref oa), (4, .int x4_)] := hl
        refine lv_aload_n hx hb dL_law_131 rfl (lv_at hl 3 rfl) ?_
        refine lv_aload_n hx hb dL_law_132 rfl (lv_at hl 1 rfl) ?_
        refine lv_iload hx hb dL_law_133 (lv_at hl 5 rfl) ?_
        refine lv_iconst (v := (1 : Int32)) hx hb dL_law_135 (by decide) ?_
        refine lv_iadd hx hb dL_law_136 ?_
        obtain ⟨v14, hv, hf⟩ := bd hf
        refine q_sld hx hb hX hbl hbA hS hv dL_law_137 ?_
        refine lv_aload_n hx hb dL_law_138 rfl (lv_at hl 1 rfl) ?_
        refine lv_iload hx hb dL_law_139 (lv_at hl 5 rfl) ?_
        refine lv_iconst (v := (2 : Int32)) hx hb dL_law_141 (by decide) ?_
        refine lv_iadd hx hb dL_law_142 ?_
        obtain ⟨v15, hv, hf⟩ := bd hf
        refine q_sld hx hb hX hbl hbA hS hv dL_law_143 ?_
        obtain ⟨⟨v16, th_17, mk_18, us_19, fi_20, se_21, ki_22, va_23, ct_24, od_25, ro_26⟩, hv, hf⟩ := bd hf
        dsimp only at hf
        refine q_ci (wr := [(h, .inr (0, [.ref a1, .ref a2, .ref a3, .ref a4, .ref a5, .int tp_10, .int cn_11, .int rh, .int sr_12])), (a1, .inl (cI, 256, .inl w_7)), (a2, .inl (cI, 8, .inl r_8)), (a3, .inl (cI, 128, .inl st_9)), (a4, .inl (cI, 128, .inl rc)), (a5, .inl (cI, 256, .inl na)), (oa, .inl (cL, 1, .inr (.inl ou_13)))]) (va_runV (As := [.int v14, .int v15]) (rest := []) ⟨hx, hb, hml, hown, hts⟩ (ctX1_allocate l dC dI cI cZ cL hm b1 b2 b3 b4 b5 b6 b7 b8 b9 _ th mk us fi se ki va li ct od ne ro v14 v15 v16 th_17 mk_18 us_19 fi_20 se_21 ki_22 va_23 ct_24 od_25 ro_26 hv) (cwV 2 hts (gV mw_522 mw_523 mw_524 mw_40 mw_525) rfl rfl rfl (by decide +kernel) ⟨Nat.le_of_ble_eq_true rfl, Nat.le_of_ble_eq_true rfl⟩) (q_preV [.int v14, .int v15] hK hP hD [6, 7, 8, 9, 10, 11, 12, 13, 14, 15] (by decide) rfl (ci := 1) rfl rfl) rfl rfl hl.1 rfl (lv_room (Nat.le_of_ble_eq_true rfl)) dL_law_144 ⟨q_rc (by omega), q_rs (by omega)⟩) hP hD hS hA [6, 7, 8, 9, 10, 11, 12, 13, 14, 15] [0, 1, 2, 3, 4, 5, 16] rfl rfl (by decide) (by decide) (fun H locs hP hD hS => ?_)
        have hP := hP.sub (ws' := (wL cI cZ cL h a1 a2 a3 a4 a5 hm b1 b2 b3 b4 b5 b6 b7 b8 b9 oa w_7 r_8 st_9 rc na tp_10 cn_11 rh sr_12 th_17 mk_18 us_19 fi_20 se_21 ki_22 va_23 li ct_24 od_25 ne ro_26 ou_13)) [0, 1, 2, 3, 4, 5, 7, 8, 9, 10, 11, 12, 13, 14, 15, 16, 6] rfl
        have hD := hD.sub (ws' := (wL cI cZ cL h a1 a2 a3 a4 a5 hm b1 b2 b3 b4 b5 b6 b7 b8 b9 oa w_7 r_8 st_9 rc na tp_10 cn_11 rh sr_12 th_17 mk_18 us_19 fi_20 se_21 ki_22 va_23 li ct_24 od_25 ne ro_26 ou_13)) [0, 1, 2, 3, 4, 5, 7, 8, 9, 10, 11, 12, 13, 14, 15, 16, 6] (by decide) rfl
        have hP : va_P (dC, dI) vwCl (wL cI cZ cL h a1 a2 a3 a4 a5 hm b1 b2 b3 b4 b5 b6 b7 b8 b9 oa w_7 r_8 st_9 rc na tp_10 cn_11 rh sr_12 th_17 mk_18 us_19 fi_20 se_21 ki_22 va_23 li ct_24 od_25 ne ro_26 ou_13) _ := hP
        have hD : va_D A (wL cI cZ cL h a1 a2 a3 a4 a5 hm b1 b2 b3 b4 b5 b6 b7 b8 b9 oa w_7 r_8 st_9 rc na tp_10 cn_11 rh sr_12 th_17 mk_18 us_19 fi_20 se_21 ki_22 va_23 li ct_24 od_25 ne ro_26 ou_13) := hD
        refine lv_istore hx hb dL_law_147 hl (by decide) rfl (fun ls hl => ?_)
        have hl : lv_has ls 7 [(6, .int v16), (5, .int v6), (0, .ref b), (1, .ref h), (2, .ref hm), (3, .ref oa), (4, .int x4_)] := hl
        refine lv_aload_n hx hb dL_law_149 rfl (lv_at hl 4 rfl) ?_
        obtain ⟨v27, hv, hf⟩ := bd hf
        refine q_ci (wr := [(h, .inr (0, [.ref a1, .ref a2, .ref a3, .ref a4, .ref a5, .int tp_10, .int cn_11, .int rh, .int sr_12])), (a1, .inl (cI, 256, .inl w_7)), (a2, .inl (cI, 8, .inl r_8)), (a3, .inl (cI, 128, .inl st_9)), (a4, .inl (cI, 128, .inl rc)), (a5, .inl (cI, 256, .inl na)), (oa, .inl (cL, 1, .inr (.inl ou_13)))]) (va_runV (As := []) (rest := []) ⟨hx, hb, hml, hown, hts⟩ (ctX1_thrown l dC dI cI cZ cL hm b1 b2 b3 b4 b5 b6 b7 b8 b9 _ th_17 mk_18 us_19 fi_20 se_21 ki_22 va_23 li ct_24 od_25 ne ro_26 v27 hv) (cwV 0 hts (gV mw_482 mw_483 mw_484 mw_40 mw_485) rfl rfl rfl (by decide +kernel) ⟨Nat.le_of_ble_eq_true rfl, Nat.le_of_ble_eq_true rfl⟩) (q_preV [] hK hP hD [6, 7, 8, 9, 10, 11, 12, 13, 14, 15] (by decide) rfl (ci := 1) rfl rfl) rfl rfl hl.1 rfl (lv_room (Nat.le_of_ble_eq_true rfl)) dL_law_150 ⟨q_rc (by omega), q_rs (by omega)⟩) hP hD hS hA [6, 7, 8, 9, 10, 11, 12, 13, 14, 15] [0, 1, 2, 3, 4, 5, 16] rfl rfl (by decide) (by decide) (fun H locs hP hD hS => ?_)
        have hP := hP.sub (ws' := (wL cI cZ cL h a1 a2 a3 a4 a5 hm b1 b2 b3 b4 b5 b6 b7 b8 b9 oa w_7 r_8 st_9 rc na tp_10 cn_11 rh sr_12 th_17 mk_18 us_19 fi_20 se_21 ki_22 va_23 li ct_24 od_25 ne ro_26 ou_13)) [0, 1, 2, 3, 4, 5, 7, 8, 9, 10, 11, 12, 13, 14, 15, 16, 6] rfl
        have hD := hD.sub (ws' := (wL cI cZ cL h a1 a2 a3 a4 a5 hm b1 b2 b3 b4 b5 b6 b7 b8 b9 oa w_7 r_8 st_9 rc na tp_10 cn_11 rh sr_12 th_17 mk_18 us_19 fi_20 se_21 ki_22 va_23 li ct_24 od_25 ne ro_26 ou_13)) [0, 1, 2, 3, 4, 5, 7, 8, 9, 10, 11, 12, 13, 14, 15, 16, 6] (by decide) rfl
        have hP : va_P (dC, dI) vwCl (wL cI cZ cL h a1 a2 a3 a4 a5 hm b1 b2 b3 b4 b5 b6 b7 b8 b9 oa w_7 r_8 st_9 rc na tp_10 cn_11 rh sr_12 th_17 mk_18 us_19 fi_20 se_21 ki_22 va_23 li ct_24 od_25 ne ro_26 ou_13) _ := hP
        have hD : va_D A (wL cI cZ cL h a1 a2 a3 a4 a5 hm b1 b2 b3 b4 b5 b6 b7 b8 b9 oa w_7 r_8 st_9 rc na tp_10 cn_11 rh sr_12 th_17 mk_18 us_19 fi_20 se_21 ki_22 va_23 li ct_24 od_25 ne ro_26 ou_13) := hD
        refine lv_iload hx hb dL_law_153 (lv_at hl 1 rfl) ?_
        refine lv_icmp_eq (tgt := 160) hx hb dL_law_155 (by decide) (fun h28 => ?_) (fun h28 => ?_)
        · have hf := ift h28 hf
          refine lv_iload hx hb dL_law_160 (lv_at hl 1 rfl) ?_
          refine lv_if_ne (tgt := 177) hx hb dL_law_162 (by decide) (fun h29 => ?_) (fun h29 => ?_)
          · have hf := ifn h29 hf
            refine lv_goto (tgt := 910) hx hb dL_law_177 (by decide) ?_
            refine lv_iinc (v := x4_ + (5 : Int32)) hx hb dL_law_910 hl (k := 6) rfl (by rfl) (by decide) rfl (fun ls hl => ?_)
            have hl : lv_has ls 7 [(4, .int (x4_ + (5 : Int32))), (6, .int v16), (5, .int v6), (0, .ref b), (1, .ref h), (2, .ref hm), (3, .ref oa)] := hl
            refine lv_goto (tgt := 23) hx hb dL_law_913 (by decide) ?_
            exact ih _ _ _ _ _ _ _ _ _ _ _ _ _ _ _ _ _ _ _ _ _ _ _ _ _ _ _ _ _ _ _ _ _ _ _ _ _ _ _ _ _ _ _ _ _ _ hf _ _ _ _ _ (by omega) (by omega) hP hD hS (lv_sub hl [3, 4, 5, 6, 0] rfl) k0
          · have hf := ift h29 hf
            refine lv_aload_n hx hb dL_law_165 rfl (lv_at hl 5 rfl) ?_
            refine lv_iconst (v := (0 : Int32)) hx hb dL_law_166 (by decide) ?_
            obtain ⟨v30, hv, hf⟩ := bd hf
            refine q_lld hx hb hK hP 16 2 rfl rfl hv dL_law_167 ?_
            refine lv_iload hx hb dL_law_168 (lv_at hl 0 rfl) ?_
            refine lv_i2l hx hb dL_law_170 rfl ?_
            refine W.lcmp hx hb dL_law_171 ?_
            refine lv_if_eq (tgt := 177) hx hb dL_law_172 (by decide) (fun h31 => ?_) (fun h31 => ?_)
            · have hf := ift h31 hf
              refine lv_goto (tgt := 910) hx hb dL_law_177 (by decide) ?_
              refine lv_iinc (v := x4_ + (5 : Int32)) hx hb dL_law_910 hl (k := 6) rfl (by rfl) (by decide) rfl (fun ls hl => ?_)
              have hl : lv_has ls 7 [(4, .int (x4_ + (5 : Int32))), (6, .int v16), (5, .int v6), (0, .ref b), (1, .ref h), (2, .ref hm), (3, .ref oa)] := hl
              refine lv_goto (tgt := 23) hx hb dL_law_913 (by decide) ?_
              exact ih _ _ _ _ _ _ _ _ _ _ _ _ _ _ _ _ _ _ _ _ _ _ _ _ _ _ _ _ _ _ _ _ _ _ _ _ _ _ _ _ _ _ _ _ _ _ hf _ _ _ _ _ (by omega) (by omega) hP hD hS (lv_sub hl [3, 4, 5, 6, 0] rfl) k0
            · have hf := ifn h31 hf
              refine lv_iconst (v := (0 : Int32)) hx hb dL_law_175 (by decide) ?_
              cases hf
        · have hf := ifn h28 hf
          refine lv_iconst (v := (0 : Int32)) hx hb dL_law_158 (by decide) ?_
          cases hf
      · replace hf := ifn (fun z => hk0 (exx.trans z)) hf
        by_cases hk1 : xx3 = (1 : Int32)
        · replace hf := ift (exx.symm.trans hk1) hf
          subst hk1
          refine lv_tableIn (tgt := 180) hx hb dL_law_39 (by decide) (by decide) rfl (by decide) ?_
          refine lv_aload_n hx hb dL_law_180 rfl (lv_at hl 1 rfl) ?_
          refine lv_aload_n hx hb dL_law_181 rfl (lv_at hl 0 rfl) ?_
          refine lv_iload hx hb dL_law_182 (lv_at hl 4 rfl) ?_
          refine lv_iconst (v := (1 : Int32)) hx hb dL_law_184 (by decide) ?_
          refine lv_iadd hx hb dL_law_185 ?_
          obtain ⟨v32, hv, hf⟩ := bd hf
          refine q_sld hx hb hX hbl hbA hS hv dL_law_186 ?_
          refine lv_aload_n hx hb dL_law_187 rfl (lv_at hl 0 rfl) ?_
          refine lv_iload hx hb dL_law_188 (lv_at hl 4 rfl) ?_
          refine lv_iconst (v := (2 : Int32)) hx hb dL_law_190 (by decide) ?_
          refine lv_iadd hx hb dL_law_191 ?_
          obtain ⟨v33, hv, hf⟩ := bd hf
          refine q_sld hx hb hX hbl hbA hS hv dL_law_192 ?_
          refine lv_aload_n hx hb dL_law_193 rfl (lv_at hl 0 rfl) ?_
          refine lv_iload hx hb dL_law_194 (lv_at hl 4 rfl) ?_
          refine lv_iconst (v := (3 : Int32)) hx hb dL_law_196 (by decide) ?_
          refine lv_iadd hx hb dL_law_197 ?_
          obtain ⟨v34, hv, hf⟩ := bd hf
          refine q_sld hx hb hX hbl hbA hS hv dL_law_198 ?_
          refine lv_aload_n hx hb dL_law_199 rfl (lv_at hl 3 rfl) ?_
          obtain ⟨⟨v35, w_36, r_37, st_38, rc_39, na_40, tp_41, cn_42, rh_43, sr_44, ou_45⟩, hv, hf⟩ := bd hf
          dsimp only at hf
          refine q_wi (wr := [(hm, .inr (1, [.int th, .int mk, .ref b1, .ref b2, .ref b3, .ref b4, .ref b5, .ref b6, .int ct, .ref b7, .ref b8, .ref b9])), (b1, .inl (cZ, 128, .inl us)), (b2, .inl (cI, 128, .inl fi)), (b3, .inl (cI, 128, .inl se)), (b4, .inl (cI, 768, .inl ki)), (b5, .inl (cI, 768, .inl va)), (b6, .inl (cZ, 128, .inl li)), (b7, .inl (cI, 128, .inl od)), (b8, .inl (cI, 128, .inl ne)), (b9, .inl (cI, 8, .inl ro))]) (vx_runSX (As := [.ref h, .int v32, .int v33, .int v34, .ref oa]) (rest := []) ⟨hx, hb, hml, hown, hts⟩ (ctL_claim l hlt dC dI cI cZ cL h a1 a2 a3 a4 a5 oa _ w r st rc na tp cn rh sr ou v32 v33 v34 v35 w_36 r_37 st_38 rc_39 na_40 tp_41 cn_42 rh_43 sr_44 ou_45 hv) (vx_cwSW 5 hts (gW mw_255 mw_256 mw_37 mw_257) rfl rfl rfl (by decide +kernel) ⟨Nat.le_of_ble_eq_true rfl, Nat.le_of_ble_eq_true rfl⟩) (q_preWS [.ref h, .int v32, .int v33, .int v34, .ref oa] hK hP hD hS hA hZ0 hT hN hC [0, 1, 2, 3, 4, 5, 16] (by decide) rfl) rfl rfl hl.1 rfl (lv_room (Nat.le_of_ble_eq_true rfl)) dL_law_200 ⟨q_rc (by omega), q_rs (by omega)⟩) hP hD hS hA [0, 1, 2, 3, 4, 5, 16] [6, 7, 8, 9, 10, 11, 12, 13, 14, 15] rfl rfl (by decide) (by decide) (fun H locs hP hD hS => ?_)
          have hP := hP.sub (ws' := (wL cI cZ cL h a1 a2 a3 a4 a5 hm b1 b2 b3 b4 b5 b6 b7 b8 b9 oa w_36 r_37 st_38 rc_39 na_40 tp_41 cn_42 rh_43 sr_44 th mk us fi se ki va li ct od ne ro ou_45)) [10, 11, 12, 13, 14, 15, 0, 1, 2, 3, 4, 5, 6, 7, 8, 9, 16] rfl
          have hD := hD.sub (ws' := (wL cI cZ cL h a1 a2 a3 a4 a5 hm b1 b2 b3 b4 b5 b6 b7 b8 b9 oa w_36 r_37 st_38 rc_39 na_40 tp_41 cn_42 rh_43 sr_44 th mk us fi se ki va li ct od ne ro ou_45)) [10, 11, 12, 13, 14, 15, 0, 1, 2, 3, 4, 5, 6, 7, 8, 9, 16] (by decide) rfl
          have hP : va_P (dC, dI) vwCl (wL cI cZ cL h a1 a2 a3 a4 a5 hm b1 b2 b3 b4 b5 b6 b7 b8 b9 oa w_36 r_37 st_38 rc_39 na_40 tp_41 cn_42 rh_43 sr_44 th mk us fi se ki va li ct od ne ro ou_45) _ := hP
          have hD : va_D A (wL cI cZ cL h a1 a2 a3 a4 a5 hm b1 b2 b3 b4 b5 b6 b7 b8 b9 oa w_36 r_37 st_38 rc_39 na_40 tp_41 cn_42 rh_43 sr_44 th mk us fi se ki va li ct od ne ro ou_45) := hD
          refine lv_istore hx hb dL_law_203 hl (by decide) rfl (fun ls hl => ?_)
          have hl : lv_has ls 7 [(5, .int v35), (0, .ref b), (1, .ref h), (2, .ref hm), (3, .ref oa), (4, .int x4_)] := hl
          refine lv_aload_n hx hb dL_law_205 rfl (lv_at hl 3 rfl) ?_
          refine lv_aload_n hx hb dL_law_206 rfl (lv_at hl 1 rfl) ?_
          refine lv_iload hx hb dL_law_207 (lv_at hl 5 rfl) ?_
          refine lv_iconst (v := (1 : Int32)) hx hb dL_law_209 (by decide) ?_
          refine lv_iadd hx hb dL_law_210 ?_
          obtain ⟨v46, hv, hf⟩ := bd hf
          refine q_sld hx hb hX hbl hbA hS hv dL_law_211 ?_
          refine lv_aload_n hx hb dL_law_212 rfl (lv_at hl 1 rfl) ?_
          refine lv_iload hx hb dL_law_213 (lv_at hl 5 rfl) ?_
          refine lv_iconst (v := (2 : Int32)) hx hb dL_law_215 (by decide) ?_
          refine lv_iadd hx hb dL_law_216 ?_
          obtain ⟨v47, hv, hf⟩ := bd hf
          refine q_sld hx hb hX hbl hbA hS hv dL_law_217 ?_
          refine lv_aload_n hx hb dL_law_218 rfl (lv_at hl 1 rfl) ?_
          refine lv_iload hx hb dL_law_219 (lv_at hl 5 rfl) ?_
          refine lv_iconst (v := (3 : Int32)) hx hb dL_law_221 (by decide) ?_
          refine lv_iadd hx hb dL_law_222 ?_
          obtain ⟨v48, hv, hf⟩ := bd hf
          refine q_sld hx hb hX hbl hbA hS hv dL_law_223 ?_
          obtain ⟨⟨v49, th_50, mk_51, us_52, fi_53, se_54, ki_55, va_56, li_57, ct_58, od_59, ne_60, ro_61⟩, hv, hf⟩ := bd hf
          dsimp only at hf
          refine q_ci (wr := [(h, .inr (0, [.ref a1, .ref a2, .ref a3, .ref a4, .ref a5, .int tp_41, .int cn_42, .int rh_43, .int sr_44])), (a1, .inl (cI, 256, .inl w_36)), (a2, .inl (cI, 8, .inl r_37)), (a3, .inl (cI, 128, .inl st_38)), (a4, .inl (cI, 128, .inl rc_39)), (a5, .inl (cI, 256, .inl na_40)), (oa, .inl (cL, 1, .inr (.inl ou_45)))]) (va_runV (As := [.int v46, .int v47, .int v48]) (rest := []) ⟨hx, hb, hml, hown, hts⟩ (ctX1_claim l dC dI cI cZ cL hm b1 b2 b3 b4 b5 b6 b7 b8 b9 _ th mk us fi se ki va li ct od ne ro v46 v47 v48 v49 th_50 mk_51 us_52 fi_53 se_54 ki_55 va_56 li_57 ct_58 od_59 ne_60 ro_61 hv) (cwV 3 hts (gV mw_540 mw_541 mw_542 mw_40 mw_543) rfl rfl rfl (by decide +kernel) ⟨Nat.le_of_ble_eq_true rfl, Nat.le_of_ble_eq_true rfl⟩) (q_preV [.int v46, .int v47, .int v48] hK hP hD [6, 7, 8, 9, 10, 11, 12, 13, 14, 15] (by decide) rfl (ci := 1) rfl rfl) rfl rfl hl.1 rfl (lv_room (Nat.le_of_ble_eq_true rfl)) dL_law_224 ⟨q_rc (by omega), q_rs (by omega)⟩) hP hD hS hA [6, 7, 8, 9, 10, 11, 12, 13, 14, 15] [0, 1, 2, 3, 4, 5, 16] rfl rfl (by decide) (by decide) (fun H locs hP hD hS => ?_)
          have hP := hP.sub (ws' := (wL cI cZ cL h a1 a2 a3 a4 a5 hm b1 b2 b3 b4 b5 b6 b7 b8 b9 oa w_36 r_37 st_38 rc_39 na_40 tp_41 cn_42 rh_43 sr_44 th_50 mk_51 us_52 fi_53 se_54 ki_55 va_56 li_57 ct_58 od_59 ne_60 ro_61 ou_45)) [0, 1, 2, 3, 4, 5, 7, 8, 9, 10, 11, 12, 13, 14, 15, 16, 6] rfl
          have hD := hD.sub (ws' := (wL cI cZ cL h a1 a2 a3 a4 a5 hm b1 b2 b3 b4 b5 b6 b7 b8 b9 oa w_36 r_37 st_38 rc_39 na_40 tp_41 cn_42 rh_43 sr_44 th_50 mk_51 us_52 fi_53 se_54 ki_55 va_56 li_57 ct_58 od_59 ne_60 ro_61 ou_45)) [0, 1, 2, 3, 4, 5, 7, 8, 9, 10, 11, 12, 13, 14, 15, 16, 6] (by decide) rfl
          have hP : va_P (dC, dI) vwCl (wL cI cZ cL h a1 a2 a3 a4 a5 hm b1 b2 b3 b4 b5 b6 b7 b8 b9 oa w_36 r_37 st_38 rc_39 na_40 tp_41 cn_42 rh_43 sr_44 th_50 mk_51 us_52 fi_53 se_54 ki_55 va_56 li_57 ct_58 od_59 ne_60 ro_61 ou_45) _ := hP
          have hD : va_D A (wL cI cZ cL h a1 a2 a3 a4 a5 hm b1 b2 b3 b4 b5 b6 b7 b8 b9 oa w_36 r_37 st_38 rc_39 na_40 tp_41 cn_42 rh_43 sr_44 th_50 mk_51 us_52 fi_53 se_54 ki_55 va_56 li_57 ct_58 od_59 ne_60 ro_61 ou_45) := hD
          refine lv_istore hx hb dL_law_227 hl (by decide) rfl (fun ls hl => ?_)
          have hl : lv_has ls 7 [(6, .int v49), (5, .int v35), (0, .ref b), (1, .ref h), (2, .ref hm), (3, .ref oa), (4, .int x4_)] := hl
          refine lv_aload_n hx hb dL_law_229 rfl (lv_at hl 4 rfl) ?_
          obtain ⟨v62, hv, hf⟩ := bd hf
          refine q_ci (wr := [(h, .inr (0, [.ref a1, .ref a2, .ref a3, .ref a4, .ref a5, .int tp_41, .int cn_42, .int rh_43, .int sr_44])), (a1, .inl (cI, 256, .inl w_36)), (a2, .inl (cI, 8, .inl r_37)), (a3, .inl (cI, 128, .inl st_38)), (a4, .inl (cI, 128, .inl rc_39)), (a5, .inl (cI, 256, .inl na_40)), (oa, .inl (cL, 1, .inr (.inl ou_45)))]) (va_runV (As := []) (rest := []) ⟨hx, hb, hml, hown, hts⟩ (ctX1_thrown l dC dI cI cZ cL hm b1 b2 b3 b4 b5 b6 b7 b8 b9 _ th_50 mk_51 us_52 fi_53 se_54 ki_55 va_56 li_57 ct_58 od_59 ne_60 ro_61 v62 hv) (cwV 0 hts (gV mw_482 mw_483 mw_484 mw_40 mw_485) rfl rfl rfl (by decide +kernel) ⟨Nat.le_of_ble_eq_true rfl, Nat.le_of_ble_eq_true rfl⟩) (q_preV [] hK hP hD [6, 7, 8, 9, 10, 11, 12, 13, 14, 15] (by decide) rfl (ci := 1) rfl rfl) rfl rfl hl.1 rfl (lv_room (Nat.le_of_ble_eq_true rfl)) dL_law_230 ⟨q_rc (by omega), q_rs (by omega)⟩) hP hD hS hA [6, 7, 8, 9, 10, 11, 12, 13, 14, 15] [0, 1, 2, 3, 4, 5, 16] rfl rfl (by decide) (by decide) (fun H locs hP hD hS => ?_)
          have hP := hP.sub (ws' := (wL cI cZ cL h a1 a2 a3 a4 a5 hm b1 b2 b3 b4 b5 b6 b7 b8 b9 oa w_36 r_37 st_38 rc_39 na_40 tp_41 cn_42 rh_43 sr_44 th_50 mk_51 us_52 fi_53 se_54 ki_55 va_56 li_57 ct_58 od_59 ne_60 ro_61 ou_45)) [0, 1, 2, 3, 4, 5, 7, 8, 9, 10, 11, 12, 13, 14, 15, 16, 6] rfl
          have hD := hD.sub (ws' := (wL cI cZ cL h a1 a2 a3 a4 a5 hm b1 b2 b3 b4 b5 b6 b7 b8 b9 oa w_36 r_37 st_38 rc_39 na_40 tp_41 cn_42 rh_43 sr_44 th_50 mk_51 us_52 fi_53 se_54 ki_55 va_56 li_57 ct_58 od_59 ne_60 ro_61 ou_45)) [0, 1, 2, 3, 4, 5, 7, 8, 9, 10, 11, 12, 13, 14, 15, 16, 6] (by decide) rfl
          have hP : va_P (dC, dI) vwCl (wL cI cZ cL h a1 a2 a3 a4 a5 hm b1 b2 b3 b4 b5 b6 b7 b8 b9 oa w_36 r_37 st_38 rc_39 na_40 tp_41 cn_42 rh_43 sr_44 th_50 mk_51 us_52 fi_53 se_54 ki_55 va_56 li_57 ct_58 od_59 ne_60 ro_61 ou_45) _ := hP
          have hD : va_D A (wL cI cZ cL h a1 a2 a3 a4 a5 hm b1 b2 b3 b4 b5 b6 b7 b8 b9 oa w_36 r_37 st_38 rc_39 na_40 tp_41 cn_42 rh_43 sr_44 th_50 mk_51 us_52 fi_53 se_54 ki_55 va_56 li_57 ct_58 od_59 ne_60 ro_61 ou_45) := hD
          refine lv_iload hx hb dL_law_233 (lv_at hl 1 rfl) ?_
          refine lv_icmp_eq (tgt := 240) hx hb dL_law_235 (by decide) (fun h63 => ?_) (fun h63 => ?_)
          · have hf := ift h63 hf
            refine lv_iload hx hb dL_law_240 (lv_at hl 1 rfl) ?_
            refine lv_if_ne (tgt := 257) hx hb dL_law_242 (by decide) (fun h64 => ?_) (fun h64 => ?_)
            · have hf := ifn h64 hf
              refine lv_goto (tgt := 910) hx hb dL_law_257 (by decide) ?_
              refine lv_iinc (v := x4_ + (5 : Int32)) hx hb dL_law_910 hl (k := 6) rfl (by rfl) (by decide) rfl (fun ls hl => ?_)
              have hl : lv_has ls 7 [(4, .int (x4_ + (5 : Int32))), (6, .int v49), (5, .int v35), (0, .ref b), (1, .ref h), (2, .ref hm), (3, .ref oa)] := hl
              refine lv_goto (tgt := 23) hx hb dL_law_913 (by decide) ?_
              exact ih _ _ _ _ _ _ _ _ _ _ _ _ _ _ _ _ _ _ _ _ _ _ _ _ _ _ _ _ _ _ _ _ _ _ _ _ _ _ _ _ _ _ _ _ _ _ hf _ _ _ _ _ (by omega) (by omega) hP hD hS (lv_sub hl [3, 4, 5, 6, 0] rfl) k0
            · have hf := ift h64 hf
              refine lv_aload_n hx hb dL_law_245 rfl (lv_at hl 5 rfl) ?_
              refine lv_iconst (v := (0 : Int32)) hx hb dL_law_246 (by decide) ?_
              obtain ⟨v65, hv, hf⟩ := bd hf
              refine q_lld hx hb hK hP 16 2 rfl rfl hv dL_law_247 ?_
              refine lv_iload hx hb dL_law_248 (lv_at hl 0 rfl) ?_
              refine lv_i2l hx hb dL_law_250 rfl ?_
              refine W.lcmp hx hb dL_law_251 ?_
              refine lv_if_eq (tgt := 257) hx hb dL_law_252 (by decide) (fun h66 => ?_) (fun h66 => ?_)
              · have hf := ift h66 hf
                refine lv_goto (tgt := 910) hx hb dL_law_257 (by decide) ?_
                refine lv_iinc (v := x4_ + (5 : Int32)) hx hb dL_law_910 hl (k := 6) rfl (by rfl) (by decide) rfl (fun ls hl => ?_)
                have hl : lv_has ls 7 [(4, .int (x4_ + (5 : Int32))), (6, .int v49), (5, .int v35), (0, .ref b), (1, .ref h), (2, .ref hm), (3, .ref oa)] := hl
                refine lv_goto (tgt := 23) hx hb dL_law_913 (by decide) ?_
                exact ih _ _ _ _ _ _ _ _ _ _ _ _ _ _ _ _ _ _ _ _ _ _ _ _ _ _ _ _ _ _ _ _ _ _ _ _ _ _ _ _ _ _ _ _ _ _ hf _ _ _ _ _ (by omega) (by omega) hP hD hS (lv_sub hl [3, 4, 5, 6, 0] rfl) k0
              · have hf := ifn h66 hf
                refine lv_iconst (v := (0 : Int32)) hx hb dL_law_255 (by decide) ?_
                cases hf
          · have hf := ifn h63 hf
            refine lv_iconst (v := (0 : Int32)) hx hb dL_law_238 (by decide) ?_
            cases hf
        · replace hf := ifn (fun z => hk1 (exx.trans z)) hf
          by_cases hk2 : xx3 = (2 : Int32)
          · replace hf := ift (exx.symm.trans hk2) hf
            subst hk2
            refine lv_tableIn (tgt := 260) hx hb dL_law_39 (by decide) (by decide) rfl (by decide) ?_
            refine lv_aload_n hx hb dL_law_260 rfl (lv_at hl 1 rfl) ?_
            refine lv_aload_n hx hb dL_law_261 rfl (lv_at hl 0 rfl) ?_
            refine lv_iload hx hb dL_law_262 (lv_at hl 4 rfl) ?_
            refine lv_iconst (v := (1 : Int32)) hx hb dL_law_264 (by decide) ?_
            refine lv_iadd hx hb dL_law_265 ?_
            obtain ⟨v67, hv, hf⟩ := bd hf
            refine q_sld hx hb hX hbl hbA hS hv dL_law_266 ?_
            refine lv_aload_n hx hb dL_law_267 rfl (lv_at hl 3 rfl) ?_
            obtain ⟨⟨v68, w_69, r_70, st_71, rc_72, na_73, tp_74, cn_75, rh_76, ou_77⟩, hv, hf⟩ := bd hf
            dsimp only at hf
            refine q_wi (wr := [(hm, .inr (1, [.int th, .int mk, .ref b1, .ref b2, .ref b3, .ref b4, .ref b5, .ref b6, .int ct, .ref b7, .ref b8, .ref b9])), (b1, .inl (cZ, 128, .inl us)), (b2, .inl (cI, 128, .inl fi)), (b3, .inl (cI, 128, .inl se)), (b4, .inl (cI, 768, .inl ki)), (b5, .inl (cI, 768, .inl va)), (b6, .inl (cZ, 128, .inl li)), (b7, .inl (cI, 128, .inl od)), (b8, .inl (cI, 128, .inl ne)), (b9, .inl (cI, 8, .inl ro))]) (vx_runSX (As := [.ref h, .int v67, .ref oa]) (rest := []) ⟨hx, hb, hml, hown, hts⟩ (ctL_compact l hlt dC dI cI cZ cL h a1 a2 a3 a4 a5 oa _ w r st rc na tp cn rh sr ou v67 v68 w_69 r_70 st_71 rc_72 na_73 tp_74 cn_75 rh_76 ou_77 hv) (vx_cwSW 3 hts (gW mw_336 mw_337 mw_37 mw_338) rfl rfl rfl (by decide +kernel) ⟨Nat.le_of_ble_eq_true rfl, Nat.le_of_ble_eq_true rfl⟩) (q_preWS [.ref h, .int v67, .ref oa] hK hP hD hS hA hZ0 hT hN hC [0, 1, 2, 3, 4, 5, 16] (by decide) rfl) rfl rfl hl.1 rfl (lv_room (Nat.le_of_ble_eq_true rfl)) dL_law_268 ⟨q_rc (by omega), q_rs (by omega)⟩) hP hD hS hA [0, 1, 2, 3, 4, 5, 16] [6, 7, 8, 9, 10, 11, 12, 13, 14, 15] rfl rfl (by decide) (by decide) (fun H locs hP hD hS => ?_)
            have hP := hP.sub (ws' := (wL cI cZ cL h a1 a2 a3 a4 a5 hm b1 b2 b3 b4 b5 b6 b7 b8 b9 oa w_69 r_70 st_71 rc_72 na_73 tp_74 cn_75 rh_76 sr th mk us fi se ki va li ct od ne ro ou_77)) [10, 11, 12, 13, 14, 15, 0, 1, 2, 3, 4, 5, 6, 7, 8, 9, 16] rfl
            have hD := hD.sub (ws' := (wL cI cZ cL h a1 a2 a3 a4 a5 hm b1 b2 b3 b4 b5 b6 b7 b8 b9 oa w_69 r_70 st_71 rc_72 na_73 tp_74 cn_75 rh_76 sr th mk us fi se ki va li ct od ne ro ou_77)) [10, 11, 12, 13, 14, 15, 0, 1, 2, 3, 4, 5, 6, 7, 8, 9, 16] (by decide) rfl
            have hP : va_P (dC, dI) vwCl (wL cI cZ cL h a1 a2 a3 a4 a5 hm b1 b2 b3 b4 b5 b6 b7 b8 b9 oa w_69 r_70 st_71 rc_72 na_73 tp_74 cn_75 rh_76 sr th mk us fi se ki va li ct od ne ro ou_77) _ := hP
            have hD : va_D A (wL cI cZ cL h a1 a2 a3 a4 a5 hm b1 b2 b3 b4 b5 b6 b7 b8 b9 oa w_69 r_70 st_71 rc_72 na_73 tp_74 cn_75 rh_76 sr th mk us fi se ki va li ct od ne ro ou_77) := hD
            refine lv_istore hx hb dL_law_271 hl (by decide) rfl (fun ls hl => ?_)
            have hl : lv_has ls 7 [(5, .int v68), (0, .ref b), (1, .ref h), (2, .ref hm), (3, .ref oa), (4, .int x4_)] := hl
            refine lv_aload_n hx hb dL_law_273 rfl (lv_at hl 3 rfl) ?_
            refine lv_aload_n hx hb dL_law_274 rfl (lv_at hl 1 rfl) ?_
            refine lv_iload hx hb dL_law_275 (lv_at hl 5 rfl) ?_
            refine lv_iconst (v := (1 : Int32)) hx hb dL_law_277 (by decide) ?_
            refine lv_iadd hx hb dL_law_278 ?_
            obtain ⟨v78, hv, hf⟩ := bd hf
            refine q_sld hx hb hX hbl hbA hS hv dL_law_279 ?_
            obtain ⟨⟨v79, th_80, us_81, va_82, li_83, ct_84, od_85, ne_86⟩, hv, hf⟩ := bd hf
            dsimp only at hf
            refine q_ci (wr := [(h, .inr (0, [.ref a1, .ref a2, .ref a3, .ref a4, .ref a5, .int tp_74, .int cn_75, .int rh_76, .int sr])), (a1, .inl (cI, 256, .inl w_69)), (a2, .inl (cI, 8, .inl r_70)), (a3, .inl (cI, 128, .inl st_71)), (a4, .inl (cI, 128, .inl rc_72)), (a5, .inl (cI, 256, .inl na_73)), (oa, .inl (cL, 1, .inr (.inl ou_77)))]) (va_runV (As := [.int v78]) (rest := []) ⟨hx, hb, hml, hown, hts⟩ (ctX1_compact l dC dI cI cZ cL hm b1 b2 b3 b4 b5 b6 b7 b8 b9 _ th mk us fi se ki va li ct od ne ro v78 v79 th_80 us_81 va_82 li_83 ct_84 od_85 ne_86 hv) (cwV 1 hts (gV mw_486 mw_487 mw_488 mw_40 mw_489) rfl rfl rfl (by decide +kernel) ⟨Nat.le_of_ble_eq_true rfl, Nat.le_of_ble_eq_true rfl⟩) (q_preV [.int v78] hK hP hD [6, 7, 8, 9, 10, 11, 12, 13, 14, 15] (by decide) rfl (ci := 1) rfl rfl) rfl rfl hl.1 rfl (lv_room (Nat.le_of_ble_eq_true rfl)) dL_law_280 ⟨q_rc (by omega), q_rs (by omega)⟩) hP hD hS hA [6, 7, 8, 9, 10, 11, 12, 13, 14, 15] [0, 1, 2, 3, 4, 5, 16] rfl rfl (by decide) (by decide) (fun H locs hP hD hS => ?_)
            have hP := hP.sub (ws' := (wL cI cZ cL h a1 a2 a3 a4 a5 hm b1 b2 b3 b4 b5 b6 b7 b8 b9 oa w_69 r_70 st_71 rc_72 na_73 tp_74 cn_75 rh_76 sr th_80 mk us_81 fi se ki va_82 li_83 ct_84 od_85 ne_86 ro ou_77)) [0, 1, 2, 3, 4, 5, 7, 8, 9, 10, 11, 12, 13, 14, 15, 16, 6] rfl
            have hD := hD.sub (ws' := (wL cI cZ cL h a1 a2 a3 a4 a5 hm b1 b2 b3 b4 b5 b6 b7 b8 b9 oa w_69 r_70 st_71 rc_72 na_73 tp_74 cn_75 rh_76 sr th_80 mk us_81 fi se ki va_82 li_83 ct_84 od_85 ne_86 ro ou_77)) [0, 1, 2, 3, 4, 5, 7, 8, 9, 10, 11, 12, 13, 14, 15, 16, 6] (by decide) rfl
            have hP : va_P (dC, dI) vwCl (wL cI cZ cL h a1 a2 a3 a4 a5 hm b1 b2 b3 b4 b5 b6 b7 b8 b9 oa w_69 r_70 st_71 rc_72 na_73 tp_74 cn_75 rh_76 sr th_80 mk us_81 fi se ki va_82 li_83 ct_84 od_85 ne_86 ro ou_77) _ := hP
            have hD : va_D A (wL cI cZ cL h a1 a2 a3 a4 a5 hm b1 b2 b3 b4 b5 b6 b7 b8 b9 oa w_69 r_70 st_71 rc_72 na_73 tp_74 cn_75 rh_76 sr th_80 mk us_81 fi se ki va_82 li_83 ct_84 od_85 ne_86 ro ou_77) := hD
            refine lv_istore hx hb dL_law_283 hl (by decide) rfl (fun ls hl => ?_)
            have hl : lv_has ls 7 [(6, .int v79), (5, .int v68), (0, .ref b), (1, .ref h), (2, .ref hm), (3, .ref oa), (4, .int x4_)] := hl
            refine lv_aload_n hx hb dL_law_285 rfl (lv_at hl 4 rfl) ?_
            obtain ⟨v87, hv, hf⟩ := bd hf
            refine q_ci (wr := [(h, .inr (0, [.ref a1, .ref a2, .ref a3, .ref a4, .ref a5, .int tp_74, .int cn_75, .int rh_76, .int sr])), (a1, .inl (cI, 256, .inl w_69)), (a2, .inl (cI, 8, .inl r_70)), (a3, .inl (cI, 128, .inl st_71)), (a4, .inl (cI, 128, .inl rc_72)), (a5, .inl (cI, 256, .inl na_73)), (oa, .inl (cL, 1, .inr (.inl ou_77)))]) (va_runV (As := []) (rest := []) ⟨hx, hb, hml, hown, hts⟩ (ctX1_thrown l dC dI cI cZ cL hm b1 b2 b3 b4 b5 b6 b7 b8 b9 _ th_80 mk us_81 fi se ki va_82 li_83 ct_84 od_85 ne_86 ro v87 hv) (cwV 0 hts (gV mw_482 mw_483 mw_484 mw_40 mw_485) rfl rfl rfl (by decide +kernel) ⟨Nat.le_of_ble_eq_true rfl, Nat.le_of_ble_eq_true rfl⟩) (q_preV [] hK hP hD [6, 7, 8, 9, 10, 11, 12, 13, 14, 15] (by decide) rfl (ci := 1) rfl rfl) rfl rfl hl.1 rfl (lv_room (Nat.le_of_ble_eq_true rfl)) dL_law_286 ⟨q_rc (by omega), q_rs (by omega)⟩) hP hD hS hA [6, 7, 8, 9, 10, 11, 12, 13, 14, 15] [0, 1, 2, 3, 4, 5, 16] rfl rfl (by decide) (by decide) (fun H locs hP hD hS => ?_)
            have hP := hP.sub (ws' := (wL cI cZ cL h a1 a2 a3 a4 a5 hm b1 b2 b3 b4 b5 b6 b7 b8 b9 oa w_69 r_70 st_71 rc_72 na_73 tp_74 cn_75 rh_76 sr th_80 mk us_81 fi se ki va_82 li_83 ct_84 od_85 ne_86 ro ou_77)) [0, 1, 2, 3, 4, 5, 7, 8, 9, 10, 11, 12, 13, 14, 15, 16, 6] rfl
            have hD := hD.sub (ws' := (wL cI cZ cL h a1 a2 a3 a4 a5 hm b1 b2 b3 b4 b5 b6 b7 b8 b9 oa w_69 r_70 st_71 rc_72 na_73 tp_74 cn_75 rh_76 sr th_80 mk us_81 fi se ki va_82 li_83 ct_84 od_85 ne_86 ro ou_77)) [0, 1, 2, 3, 4, 5, 7, 8, 9, 10, 11, 12, 13, 14, 15, 16, 6] (by decide) rfl
            have hP : va_P (dC, dI) vwCl (wL cI cZ cL h a1 a2 a3 a4 a5 hm b1 b2 b3 b4 b5 b6 b7 b8 b9 oa w_69 r_70 st_71 rc_72 na_73 tp_74 cn_75 rh_76 sr th_80 mk us_81 fi se ki va_82 li_83 ct_84 od_85 ne_86 ro ou_77) _ := hP
            have hD : va_D A (wL cI cZ cL h a1 a2 a3 a4 a5 hm b1 b2 b3 b4 b5 b6 b7 b8 b9 oa w_69 r_70 st_71 rc_72 na_73 tp_74 cn_75 rh_76 sr th_80 mk us_81 fi se ki va_82 li_83 ct_84 od_85 ne_86 ro ou_77) := hD
            refine lv_iload hx hb dL_law_289 (lv_at hl 1 rfl) ?_
            refine lv_icmp_eq (tgt := 296) hx hb dL_law_291 (by decide) (fun h88 => ?_) (fun h88 => ?_)
            · have hf := ift h88 hf
              refine lv_iload hx hb dL_law_296 (lv_at hl 1 rfl) ?_
              refine lv_if_ne (tgt := 313) hx hb dL_law_298 (by decide) (fun h89 => ?_) (fun h89 => ?_)
              · have hf := ifn h89 hf
                refine lv_goto (tgt := 910) hx hb dL_law_313 (by decide) ?_
                refine lv_iinc (v := x4_ + (5 : Int32)) hx hb dL_law_910 hl (k := 6) rfl (by rfl) (by decide) rfl (fun ls hl => ?_)
                have hl : lv_has ls 7 [(4, .int (x4_ + (5 : Int32))), (6, .int v79), (5, .int v68), (0, .ref b), (1, .ref h), (2, .ref hm), (3, .ref oa)] := hl
                refine lv_goto (tgt := 23) hx hb dL_law_913 (by decide) ?_
                exact ih _ _ _ _ _ _ _ _ _ _ _ _ _ _ _ _ _ _ _ _ _ _ _ _ _ _ _ _ _ _ _ _ _ _ _ _ _ _ _ _ _ _ _ _ _ _ hf _ _ _ _ _ (by omega) (by omega) hP hD hS (lv_sub hl [3, 4, 5, 6, 0] rfl) k0
              · have hf := ift h89 hf
                refine lv_aload_n hx hb dL_law_301 rfl (lv_at hl 5 rfl) ?_
                refine lv_iconst (v := (0 : Int32)) hx hb dL_law_302 (by decide) ?_
                obtain ⟨v90, hv, hf⟩ := bd hf
                refine q_lld hx hb hK hP 16 2 rfl rfl hv dL_law_303 ?_
                refine lv_iload hx hb dL_law_304 (lv_at hl 0 rfl) ?_
                refine lv_i2l hx hb dL_law_306 rfl ?_
                refine W.lcmp hx hb dL_law_307 ?_
                refine lv_if_eq (tgt := 313) hx hb dL_law_308 (by decide) (fun h91 => ?_) (fun h91 => ?_)
                · have hf := ift h91 hf
                  refine lv_goto (tgt := 910) hx hb dL_law_313 (by decide) ?_
                  refine lv_iinc (v := x4_ + (5 : Int32)) hx hb dL_law_910 hl (k := 6) rfl (by rfl) (by decide) rfl (fun ls hl => ?_)
                  have hl : lv_has ls 7 [(4, .int (x4_ + (5 : Int32))), (6, .int v79), (5, .int v68), (0, .ref b), (1, .ref h), (2, .ref hm), (3, .ref oa)] := hl
                  refine lv_goto (tgt := 23) hx hb dL_law_913 (by decide) ?_
                  exact ih _ _ _ _ _ _ _ _ _ _ _ _ _ _ _ _ _ _ _ _ _ _ _ _ _ _ _ _ _ _ _ _ _ _ _ _ _ _ _ _ _ _ _ _ _ _ hf _ _ _ _ _ (by omega) (by omega) hP hD hS (lv_sub hl [3, 4, 5, 6, 0] rfl) k0
                · have hf := ifn h91 hf
                  refine lv_iconst (v := (0 : Int32)) hx hb dL_law_311 (by decide) ?_
                  cases hf
            · have hf := ifn h88 hf
              refine lv_iconst (v := (0 : Int32)) hx hb dL_law_294 (by decide) ?_
              cases hf
          · replace hf := ifn (fun z => hk2 (exx.trans z)) hf
            by_cases hk3 : xx3 = (3 : Int32)
            · replace hf := ift (exx.symm.trans hk3) hf
              subst hk3
              refine lv_tableIn (tgt := 316) hx hb dL_law_39 (by decide) (by decide) rfl (by decide) ?_
              refine lv_aload_n hx hb dL_law_316 rfl (lv_at hl 1 rfl) ?_
              refine lv_aload_n hx hb dL_law_317 rfl (lv_at hl 0 rfl) ?_
              refine lv_iload hx hb dL_law_318 (lv_at hl 4 rfl) ?_
              refine lv_iconst (v := (1 : Int32)) hx hb dL_law_320 (by decide) ?_
              refine lv_iadd hx hb dL_law_321 ?_
              obtain ⟨v92, hv, hf⟩ := bd hf
              refine q_sld hx hb hX hbl hbA hS hv dL_law_322 ?_
              refine lv_aload_n hx hb dL_law_323 rfl (lv_at hl 0 rfl) ?_
              refine lv_iload hx hb dL_law_324 (lv_at hl 4 rfl) ?_
              refine lv_iconst (v := (2 : Int32)) hx hb dL_law_326 (by decide) ?_
              refine lv_iadd hx hb dL_law_327 ?_
              obtain ⟨v93, hv, hf⟩ := bd hf
              refine q_sld hx hb hX hbl hbA hS hv dL_law_328 ?_
              obtain ⟨⟨v94, r_95⟩, hv, hf⟩ := bd hf
              dsimp only at hf
              refine q_wi (wr := [(hm, .inr (1, [.int th, .int mk, .ref b1, .ref b2, .ref b3, .ref b4, .ref b5, .ref b6, .int ct, .ref b7, .ref b8, .ref b9])), (b1, .inl (cZ, 128, .inl us)), (b2, .inl (cI, 128, .inl fi)), (b3, .inl (cI, 128, .inl se)), (b4, .inl (cI, 768, .inl ki)), (b5, .inl (cI, 768, .inl va)), (b6, .inl (cZ, 128, .inl li)), (b7, .inl (cI, 128, .inl od)), (b8, .inl (cI, 128, .inl ne)), (b9, .inl (cI, 8, .inl ro)), (oa, .inl (cL, 1, .inr (.inl ou)))]) (vx_runSX (As := [.ref h, .int v92, .int v93]) (rest := []) ⟨hx, hb, hml, hown, hts⟩ (ctL_copy l hlt dC dI cI cZ cL h a1 a2 a3 a4 a5 _ w r st rc na tp cn rh sr v92 v93 v94 r_95 hv) (vx_cwSW 3 hts (gW mw_343 mw_344 mw_37 mw_345) rfl rfl rfl (by decide +kernel) ⟨Nat.le_of_ble_eq_true rfl, Nat.le_of_ble_eq_true rfl⟩) (q_preWS [.ref h, .int v92, .int v93] hK hP hD hS hA hZ0 hT hN hC [0, 1, 2, 3, 4, 5] (by decide) rfl) rfl rfl hl.1 rfl (lv_room (Nat.le_of_ble_eq_true rfl)) dL_law_329 ⟨q_rc (by omega), q_rs (by omega)⟩) hP hD hS hA [0, 1, 2, 3, 4, 5] [6, 7, 8, 9, 10, 11, 12, 13, 14, 15, 16] rfl rfl (by decide) (by decide) (fun H locs hP hD hS => ?_)
              have hP := hP.sub (ws' := (wL cI cZ cL h a1 a2 a3 a4 a5 hm b1 b2 b3 b4 b5 b6 b7 b8 b9 oa w r_95 st rc na tp cn rh sr th mk us fi se ki va li ct od ne ro ou)) [11, 12, 13, 14, 15, 16, 0, 1, 2, 3, 4, 5, 6, 7, 8, 9, 10] rfl
              have hD := hD.sub (ws' := (wL cI cZ cL h a1 a2 a3 a4 a5 hm b1 b2 b3 b4 b5 b6 b7 b8 b9 oa w r_95 st rc na tp cn rh sr th mk us fi se ki va li ct od ne ro ou)) [11, 12, 13, 14, 15, 16, 0, 1, 2, 3, 4, 5, 6, 7, 8, 9, 10] (by decide) rfl
              have hP : va_P (dC, dI) vwCl (wL cI cZ cL h a1 a2 a3 a4 a5 hm b1 b2 b3 b4 b5 b6 b7 b8 b9 oa w r_95 st rc na tp cn rh sr th mk us fi se ki va li ct od ne ro ou) _ := hP
              have hD : va_D A (wL cI cZ cL h a1 a2 a3 a4 a5 hm b1 b2 b3 b4 b5 b6 b7 b8 b9 oa w r_95 st rc na tp cn rh sr th mk us fi se ki va li ct od ne ro ou) := hD
              refine lv_istore hx hb dL_law_332 hl (by decide) rfl (fun ls hl => ?_)
              have hl : lv_has ls 7 [(5, .int v94), (0, .ref b), (1, .ref h), (2, .ref hm), (3, .ref oa), (4, .int x4_)] := hl
              refine lv_aload_n hx hb dL_law_334 rfl (lv_at hl 3 rfl) ?_
              refine lv_aload_n hx hb dL_law_335 rfl (lv_at hl 1 rfl) ?_
              refine lv_iload hx hb dL_law_336 (lv_at hl 5 rfl) ?_
              refine lv_iconst (v := (1 : Int32)) hx hb dL_law_338 (by decide) ?_
              refine lv_iadd hx hb dL_law_339 ?_
              obtain ⟨v96, hv, hf⟩ := bd hf
              refine q_sld hx hb hX hbl hbA hS hv dL_law_340 ?_
              refine lv_aload_n hx hb dL_law_341 rfl (lv_at hl 1 rfl) ?_
              refine lv_iload hx hb dL_law_342 (lv_at hl 5 rfl) ?_
              refine lv_iconst (v := (2 : Int32)) hx hb dL_law_344 (by decide) ?_
              refine lv_iadd hx hb dL_law_345 ?_
              obtain ⟨v97, hv, hf⟩ := bd hf
              refine q_sld hx hb hX hbl hbA hS hv dL_law_346 ?_
              obtain ⟨⟨th_98, ro_99⟩, hv, hf⟩ := bd hf
              dsimp only at hf
              refine q_cv (wr := [(h, .inr (0, [.ref a1, .ref a2, .ref a3, .ref a4, .ref a5, .int tp, .int cn, .int rh, .int sr])), (a1, .inl (cI, 256, .inl w)), (a2, .inl (cI, 8, .inl r_95)), (a3, .inl (cI, 128, .inl st)), (a4, .inl (cI, 128, .inl rc)), (a5, .inl (cI, 256, .inl na)), (oa, .inl (cL, 1, .inr (.inl ou)))]) (va_runV (As := [.int v96, .int v97]) (rest := []) ⟨hx, hb, hml, hown, hts⟩ (ctX1_copy l dC dI cI cZ cL hm b1 b2 b3 b4 b5 b6 b7 b8 b9 _ th mk us fi se ki va li ct od ne ro v96 v97 th_98 ro_99 hv) (cwV 2 hts (gV mw_544 mw_545 mw_546 mw_40 mw_547) rfl rfl rfl (by decide +kernel) ⟨Nat.le_of_ble_eq_true rfl, Nat.le_of_ble_eq_true rfl⟩) (q_preV [.int v96, .int v97] hK hP hD [6, 7, 8, 9, 10, 11, 12, 13, 14, 15] (by decide) rfl (ci := 1) rfl rfl) rfl rfl hl.1 rfl (lv_room (Nat.le_of_ble_eq_true rfl)) dL_law_347 ⟨q_rc (by omega), q_rs (by omega)⟩) hP hD hS hA [6, 7, 8, 9, 10, 11, 12, 13, 14, 15] [0, 1, 2, 3, 4, 5, 16] rfl rfl (by decide) (by decide) (fun H locs hP hD hS => ?_)
              have hP := hP.sub (ws' := (wL cI cZ cL h a1 a2 a3 a4 a5 hm b1 b2 b3 b4 b5 b6 b7 b8 b9 oa w r_95 st rc na tp cn rh sr th_98 mk us fi se ki va li ct od ne ro_99 ou)) [0, 1, 2, 3, 4, 5, 7, 8, 9, 10, 11, 12, 13, 14, 15, 16, 6] rfl
              have hD := hD.sub (ws' := (wL cI cZ cL h a1 a2 a3 a4 a5 hm b1 b2 b3 b4 b5 b6 b7 b8 b9 oa w r_95 st rc na tp cn rh sr th_98 mk us fi se ki va li ct od ne ro_99 ou)) [0, 1, 2, 3, 4, 5, 7, 8, 9, 10, 11, 12, 13, 14, 15, 16, 6] (by decide) rfl
              have hP : va_P (dC, dI) vwCl (wL cI cZ cL h a1 a2 a3 a4 a5 hm b1 b2 b3 b4 b5 b6 b7 b8 b9 oa w r_95 st rc na tp cn rh sr th_98 mk us fi se ki va li ct od ne ro_99 ou) _ := hP
              have hD : va_D A (wL cI cZ cL h a1 a2 a3 a4 a5 hm b1 b2 b3 b4 b5 b6 b7 b8 b9 oa w r_95 st rc na tp cn rh sr th_98 mk us fi se ki va li ct od ne ro_99 ou) := hD
              refine lv_aload_n hx hb dL_law_350 rfl (lv_at hl 3 rfl) ?_
              obtain ⟨v100, hv, hf⟩ := bd hf
              refine q_ci (wr := [(h, .inr (0, [.ref a1, .ref a2, .ref a3, .ref a4, .ref a5, .int tp, .int cn, .int rh, .int sr])), (a1, .inl (cI, 256, .inl w)), (a2, .inl (cI, 8, .inl r_95)), (a3, .inl (cI, 128, .inl st)), (a4, .inl (cI, 128, .inl rc)), (a5, .inl (cI, 256, .inl na)), (oa, .inl (cL, 1, .inr (.inl ou)))]) (va_runV (As := []) (rest := []) ⟨hx, hb, hml, hown, hts⟩ (ctX1_thrown l dC dI cI cZ cL hm b1 b2 b3 b4 b5 b6 b7 b8 b9 _ th_98 mk us fi se ki va li ct od ne ro_99 v100 hv) (cwV 0 hts (gV mw_482 mw_483 mw_484 mw_40 mw_485) rfl rfl rfl (by decide +kernel) ⟨Nat.le_of_ble_eq_true rfl, Nat.le_of_ble_eq_true rfl⟩) (q_preV [] hK hP hD [6, 7, 8, 9, 10, 11, 12, 13, 14, 15] (by decide) rfl (ci := 1) rfl rfl) rfl rfl hl.1 rfl (lv_room (Nat.le_of_ble_eq_true rfl)) dL_law_351 ⟨q_rc (by omega), q_rs (by omega)⟩) hP hD hS hA [6, 7, 8, 9, 10, 11, 12, 13, 14, 15] [0, 1, 2, 3, 4, 5, 16] rfl rfl (by decide) (by decide) (fun H locs hP hD hS => ?_)
              have hP := hP.sub (ws' := (wL cI cZ cL h a1 a2 a3 a4 a5 hm b1 b2 b3 b4 b5 b6 b7 b8 b9 oa w r_95 st rc na tp cn rh sr th_98 mk us fi se ki va li ct od ne ro_99 ou)) [0, 1, 2, 3, 4, 5, 7, 8, 9, 10, 11, 12, 13, 14, 15, 16, 6] rfl
              have hD := hD.sub (ws' := (wL cI cZ cL h a1 a2 a3 a4 a5 hm b1 b2 b3 b4 b5 b6 b7 b8 b9 oa w r_95 st rc na tp cn rh sr th_98 mk us fi se ki va li ct od ne ro_99 ou)) [0, 1, 2, 3, 4, 5, 7, 8, 9, 10, 11, 12, 13, 14, 15, 16, 6] (by decide) rfl
              have hP : va_P (dC, dI) vwCl (wL cI cZ cL h a1 a2 a3 a4 a5 hm b1 b2 b3 b4 b5 b6 b7 b8 b9 oa w r_95 st rc na tp cn rh sr th_98 mk us fi se ki va li ct od ne ro_99 ou) _ := hP
              have hD : va_D A (wL cI cZ cL h a1 a2 a3 a4 a5 hm b1 b2 b3 b4 b5 b6 b7 b8 b9 oa w r_95 st rc na tp cn rh sr th_98 mk us fi se ki va li ct od ne ro_99 ou) := hD
              refine lv_iload hx hb dL_law_354 (lv_at hl 0 rfl) ?_
              refine lv_icmp_eq (tgt := 361) hx hb dL_law_356 (by decide) (fun h101 => ?_) (fun h101 => ?_)
              · have hf := ift h101 hf
                refine lv_goto (tgt := 910) hx hb dL_law_361 (by decide) ?_
                refine lv_iinc (v := x4_ + (5 : Int32)) hx hb dL_law_910 hl (k := 5) rfl (by rfl) (by decide) rfl (fun ls hl => ?_)
                have hl : lv_has ls 7 [(4, .int (x4_ + (5 : Int32))), (5, .int v94), (0, .ref b), (1, .ref h), (2, .ref hm), (3, .ref oa)] := hl
                refine lv_goto (tgt := 23) hx hb dL_law_913 (by decide) ?_
                exact ih _ _ _ _ _ _ _ _ _ _ _ _ _ _ _ _ _ _ _ _ _ _ _ _ _ _ _ _ _ _ _ _ _ _ _ _ _ _ _ _ _ _ _ _ _ _ hf _ _ _ _ _ (by omega) (by omega) hP hD hS (lv_sub hl [2, 3, 4, 5, 0] rfl) k0
              · have hf := ifn h101 hf
                refine lv_iconst (v := (0 : Int32)) hx hb dL_law_359 (by decide) ?_
                cases hf
            · replace hf := ifn (fun z => hk3 (exx.trans z)) hf
              by_cases hk4 : xx3 = (4 : Int32)
              · replace hf := ift (exx.symm.trans hk4) hf
                subst hk4
                refine lv_tableIn (tgt := 364) hx hb dL_law_39 (by decide) (by decide) rfl (by decide) ?_
                refine lv_aload_n hx hb dL_law_364 rfl (lv_at hl 1 rfl) ?_
                refine lv_aload_n hx hb dL_law_365 rfl (lv_at hl 0 rfl) ?_
                refine lv_iload hx hb dL_law_366 (lv_at hl 4 rfl) ?_
                refine lv_iconst (v := (1 : Int32)) hx hb dL_law_368 (by decide) ?_
                refine lv_iadd hx hb dL_law_369 ?_
                obtain ⟨v102, hv, hf⟩ := bd hf
                refine q_sld hx hb hX hbl hbA hS hv dL_law_370 ?_
                obtain ⟨⟨v103, r_104⟩, hv, hf⟩ := bd hf
                dsimp only at hf
                refine q_wi (wr := [(hm, .inr (1, [.int th, .int mk, .ref b1, .ref b2, .ref b3, .ref b4, .ref b5, .ref b6, .int ct, .ref b7, .ref b8, .ref b9])), (b1, .inl (cZ, 128, .inl us)), (b2, .inl (cI, 128, .inl fi)), (b3, .inl (cI, 128, .inl se)), (b4, .inl (cI, 768, .inl ki)), (b5, .inl (cI, 768, .inl va)), (b6, .inl (cZ, 128, .inl li)), (b7, .inl (cI, 128, .inl od)), (b8, .inl (cI, 128, .inl ne)), (b9, .inl (cI, 8, .inl ro)), (oa, .inl (cL, 1, .inr (.inl ou)))]) (vx_runSX (As := [.ref h, .int v102]) (rest := []) ⟨hx, hb, hml, hown, hts⟩ (ctL_clear l hlt dC dI cI cZ cL h a1 a2 a3 a4 a5 _ w r st rc na tp cn rh sr v102 v103 r_104 hv) (vx_cwSW 2 hts (gW mw_350 mw_351 mw_37 mw_352) rfl rfl rfl (by decide +kernel) ⟨Nat.le_of_ble_eq_true rfl, Nat.le_of_ble_eq_true rfl⟩) (q_preWS [.ref h, .int v102] hK hP hD hS hA hZ0 hT hN hC [0, 1, 2, 3, 4, 5] (by decide) rfl) rfl rfl hl.1 rfl (lv_room (Nat.le_of_ble_eq_true rfl)) dL_law_371 ⟨q_rc (by omega), q_rs (by omega)⟩) hP hD hS hA [0, 1, 2, 3, 4, 5] [6, 7, 8, 9, 10, 11, 12, 13, 14, 15, 16] rfl rfl (by decide) (by decide) (fun H locs hP hD hS => ?_)
                have hP := hP.sub (ws' := (wL cI cZ cL h a1 a2 a3 a4 a5 hm b1 b2 b3 b4 b5 b6 b7 b8 b9 oa w r_104 st rc na tp cn rh sr th mk us fi se ki va li ct od ne ro ou)) [11, 12, 13, 14, 15, 16, 0, 1, 2, 3, 4, 5, 6, 7, 8, 9, 10] rfl
                have hD := hD.sub (ws' := (wL cI cZ cL h a1 a2 a3 a4 a5 hm b1 b2 b3 b4 b5 b6 b7 b8 b9 oa w r_104 st rc na tp cn rh sr th mk us fi se ki va li ct od ne ro ou)) [11, 12, 13, 14, 15, 16, 0, 1, 2, 3, 4, 5, 6, 7, 8, 9, 10] (by decide) rfl
                have hP : va_P (dC, dI) vwCl (wL cI cZ cL h a1 a2 a3 a4 a5 hm b1 b2 b3 b4 b5 b6 b7 b8 b9 oa w r_104 st rc na tp cn rh sr th mk us fi se ki va li ct od ne ro ou) _ := hP
                have hD : va_D A (wL cI cZ cL h a1 a2 a3 a4 a5 hm b1 b2 b3 b4 b5 b6 b7 b8 b9 oa w r_104 st rc na tp cn rh sr th mk us fi se ki va li ct od ne ro ou) := hD
                refine lv_istore hx hb dL_law_374 hl (by decide) rfl (fun ls hl => ?_)
                have hl : lv_has ls 7 [(5, .int v103), (0, .ref b), (1, .ref h), (2, .ref hm), (3, .ref oa), (4, .int x4_)] := hl
                refine lv_aload_n hx hb dL_law_376 rfl (lv_at hl 3 rfl) ?_
                refine lv_aload_n hx hb dL_law_377 rfl (lv_at hl 1 rfl) ?_
                refine lv_iload hx hb dL_law_378 (lv_at hl 5 rfl) ?_
                refine lv_iconst (v := (1 : Int32)) hx hb dL_law_380 (by decide) ?_
                refine lv_iadd hx hb dL_law_381 ?_
                obtain ⟨v105, hv, hf⟩ := bd hf
                refine q_sld hx hb hX hbl hbA hS hv dL_law_382 ?_
                obtain ⟨⟨th_106, ro_107⟩, hv, hf⟩ := bd hf
                dsimp only at hf
                refine q_cv (wr := [(h, .inr (0, [.ref a1, .ref a2, .ref a3, .ref a4, .ref a5, .int tp, .int cn, .int rh, .int sr])), (a1, .inl (cI, 256, .inl w)), (a2, .inl (cI, 8, .inl r_104)), (a3, .inl (cI, 128, .inl st)), (a4, .inl (cI, 128, .inl rc)), (a5, .inl (cI, 256, .inl na)), (oa, .inl (cL, 1, .inr (.inl ou)))]) (va_runV (As := [.int v105]) (rest := []) ⟨hx, hb, hml, hown, hts⟩ (ctX1_clear l dC dI cI cZ cL hm b1 b2 b3 b4 b5 b6 b7 b8 b9 _ th mk us fi se ki va li ct od ne ro v105 th_106 ro_107 hv) (cwV 1 hts (gV mw_548 mw_549 mw_550 mw_40 mw_551) rfl rfl rfl (by decide +kernel) ⟨Nat.le_of_ble_eq_true rfl, Nat.le_of_ble_eq_true rfl⟩) (q_preV [.int v105] hK hP hD [6, 7, 8, 9, 10, 11, 12, 13, 14, 15] (by decide) rfl (ci := 1) rfl rfl) rfl rfl hl.1 rfl (lv_room (Nat.le_of_ble_eq_true rfl)) dL_law_383 ⟨q_rc (by omega), q_rs (by omega)⟩) hP hD hS hA [6, 7, 8, 9, 10, 11, 12, 13, 14, 15] [0, 1, 2, 3, 4, 5, 16] rfl rfl (by decide) (by decide) (fun H locs hP hD hS => ?_)
                have hP := hP.sub (ws' := (wL cI cZ cL h a1 a2 a3 a4 a5 hm b1 b2 b3 b4 b5 b6 b7 b8 b9 oa w r_104 st rc na tp cn rh sr th_106 mk us fi se ki va li ct od ne ro_107 ou)) [0, 1, 2, 3, 4, 5, 7, 8, 9, 10, 11, 12, 13, 14, 15, 16, 6] rfl
                have hD := hD.sub (ws' := (wL cI cZ cL h a1 a2 a3 a4 a5 hm b1 b2 b3 b4 b5 b6 b7 b8 b9 oa w r_104 st rc na tp cn rh sr th_106 mk us fi se ki va li ct od ne ro_107 ou)) [0, 1, 2, 3, 4, 5, 7, 8, 9, 10, 11, 12, 13, 14, 15, 16, 6] (by decide) rfl
                have hP : va_P (dC, dI) vwCl (wL cI cZ cL h a1 a2 a3 a4 a5 hm b1 b2 b3 b4 b5 b6 b7 b8 b9 oa w r_104 st rc na tp cn rh sr th_106 mk us fi se ki va li ct od ne ro_107 ou) _ := hP
                have hD : va_D A (wL cI cZ cL h a1 a2 a3 a4 a5 hm b1 b2 b3 b4 b5 b6 b7 b8 b9 oa w r_104 st rc na tp cn rh sr th_106 mk us fi se ki va li ct od ne ro_107 ou) := hD
                refine lv_aload_n hx hb dL_law_386 rfl (lv_at hl 3 rfl) ?_
                obtain ⟨v108, hv, hf⟩ := bd hf
                refine q_ci (wr := [(h, .inr (0, [.ref a1, .ref a2, .ref a3, .ref a4, .ref a5, .int tp, .int cn, .int rh, .int sr])), (a1, .inl (cI, 256, .inl w)), (a2, .inl (cI, 8, .inl r_104)), (a3, .inl (cI, 128, .inl st)), (a4, .inl (cI, 128, .inl rc)), (a5, .inl (cI, 256, .inl na)), (oa, .inl (cL, 1, .inr (.inl ou)))]) (va_runV (As := []) (rest := []) ⟨hx, hb, hml, hown, hts⟩ (ctX1_thrown l dC dI cI cZ cL hm b1 b2 b3 b4 b5 b6 b7 b8 b9 _ th_106 mk us fi se ki va li ct od ne ro_107 v108 hv) (cwV 0 hts (gV mw_482 mw_483 mw_484 mw_40 mw_485) rfl rfl rfl (by decide +kernel) ⟨Nat.le_of_ble_eq_true rfl, Nat.le_of_ble_eq_true rfl⟩) (q_preV [] hK hP hD [6, 7, 8, 9, 10, 11, 12, 13, 14, 15] (by decide) rfl (ci := 1) rfl rfl) rfl rfl hl.1 rfl (lv_room (Nat.le_of_ble_eq_true rfl)) dL_law_387 ⟨q_rc (by omega), q_rs (by omega)⟩) hP hD hS hA [6, 7, 8, 9, 10, 11, 12, 13, 14, 15] [0, 1, 2, 3, 4, 5, 16] rfl rfl (by decide) (by decide) (fun H locs hP hD hS => ?_)
                have hP := hP.sub (ws' := (wL cI cZ cL h a1 a2 a3 a4 a5 hm b1 b2 b3 b4 b5 b6 b7 b8 b9 oa w r_104 st rc na tp cn rh sr th_106 mk us fi se ki va li ct od ne ro_107 ou)) [0, 1, 2, 3, 4, 5, 7, 8, 9, 10, 11, 12, 13, 14, 15, 16, 6] rfl
                have hD := hD.sub (ws' := (wL cI cZ cL h a1 a2 a3 a4 a5 hm b1 b2 b3 b4 b5 b6 b7 b8 b9 oa w r_104 st rc na tp cn rh sr th_106 mk us fi se ki va li ct od ne ro_107 ou)) [0, 1, 2, 3, 4, 5, 7, 8, 9, 10, 11, 12, 13, 14, 15, 16, 6] (by decide) rfl
                have hP : va_P (dC, dI) vwCl (wL cI cZ cL h a1 a2 a3 a4 a5 hm b1 b2 b3 b4 b5 b6 b7 b8 b9 oa w r_104 st rc na tp cn rh sr th_106 mk us fi se ki va li ct od ne ro_107 ou) _ := hP
                have hD : va_D A (wL cI cZ cL h a1 a2 a3 a4 a5 hm b1 b2 b3 b4 b5 b6 b7 b8 b9 oa w r_104 st rc na tp cn rh sr th_106 mk us fi se ki va li ct od ne ro_107 ou) := hD
                refine lv_iload hx hb dL_law_390 (lv_at hl 0 rfl) ?_
                refine lv_icmp_eq (tgt := 397) hx hb dL_law_392 (by decide) (fun h109 => ?_) (fun h109 => ?_)
                · have hf := ift h109 hf
                  refine lv_goto (tgt := 910) hx hb dL_law_397 (by decide) ?_
                  refine lv_iinc (v := x4_ + (5 : Int32)) hx hb dL_law_910 hl (k := 5) rfl (by rfl) (by decide) rfl (fun ls hl => ?_)
                  have hl : lv_has ls 7 [(4, .int (x4_ + (5 : Int32))), (5, .int v103), (0, .ref b), (1, .ref h), (2, .ref hm), (3, .ref oa)] := hl
                  refine lv_goto (tgt := 23) hx hb dL_law_913 (by decide) ?_
                  exact ih _ _ _ _ _ _ _ _ _ _ _ _ _ _ _ _ _ _ _ _ _ _ _ _ _ _ _ _ _ _ _ _ _ _ _ _ _ _ _ _ _ _ _ _ _ _ hf _ _ _ _ _ (by omega) (by omega) hP hD hS (lv_sub hl [2, 3, 4, 5, 0] rfl) k0
                · have hf := ifn h109 hf
                  refine lv_iconst (v := (0 : Int32)) hx hb dL_law_395 (by decide) ?_
                  cases hf
              · replace hf := ifn (fun z => hk4 (exx.trans z)) hf
                by_cases hk5 : xx3 = (5 : Int32)
                · replace hf := ift (exx.symm.trans hk5) hf
                  subst hk5
                  refine lv_tableIn (tgt := 400) hx hb dL_law_39 (by decide) (by decide) rfl (by decide) ?_
                  refine lv_aload_n hx hb dL_law_400 rfl (lv_at hl 1 rfl) ?_
                  refine lv_aload_n hx hb dL_law_401 rfl (lv_at hl 0 rfl) ?_
                  refine lv_iload hx hb dL_law_402 (lv_at hl 4 rfl) ?_
                  refine lv_iconst (v := (1 : Int32)) hx hb dL_law_404 (by decide) ?_
                  refine lv_iadd hx hb dL_law_405 ?_
                  obtain ⟨v110, hv, hf⟩ := bd hf
                  refine q_sld hx hb hX hbl hbA hS hv dL_law_406 ?_
                  refine lv_aload_n hx hb dL_law_407 rfl (lv_at hl 0 rfl) ?_
                  refine lv_iload hx hb dL_law_408 (lv_at hl 4 rfl) ?_
                  refine lv_iconst (v := (2 : Int32)) hx hb dL_law_410 (by decide) ?_
                  refine lv_iadd hx hb dL_law_411 ?_
                  obtain ⟨v111, hv, hf⟩ := bd hf
                  refine q_sld hx hb hX hbl hbA hS hv dL_law_412 ?_
                  refine lv_aload_n hx hb dL_law_413 rfl (lv_at hl 0 rfl) ?_
                  refine lv_iload hx hb dL_law_414 (lv_at hl 4 rfl) ?_
                  refine lv_iconst (v := (3 : Int32)) hx hb dL_law_416 (by decide) ?_
                  refine lv_iadd hx hb dL_law_417 ?_
                  obtain ⟨v112, hv, hf⟩ := bd hf
                  refine q_sld hx hb hX hbl hbA hS hv dL_law_418 ?_
                  obtain ⟨⟨v113, w_114⟩, hv, hf⟩ := bd hf
                  dsimp only at hf
                  refine q_wi (wr := [(hm, .inr (1, [.int th, .int mk, .ref b1, .ref b2, .ref b3, .ref b4, .ref b5, .ref b6, .int ct, .ref b7, .ref b8, .ref b9])), (b1, .inl (cZ, 128, .inl us)), (b2, .inl (cI, 128, .inl fi)), (b3, .inl (cI, 128, .inl se)), (b4, .inl (cI, 768, .inl ki)), (b5, .inl (cI, 768, .inl va)), (b6, .inl (cZ, 128, .inl li)), (b7, .inl (cI, 128, .inl od)), (b8, .inl (cI, 128, .inl ne)), (b9, .inl (cI, 8, .inl ro)), (oa, .inl (cL, 1, .inr (.inl ou)))]) (vx_runSX (As := [.ref h, .int v110, .int v111, .int v112]) (rest := []) ⟨hx, hb, hml, hown, hts⟩ (ctL_put l hlt dC dI cI cZ cL h a1 a2 a3 a4 a5 _ w r st rc na tp cn rh sr v110 v111 v112 v113 w_114 hv) (vx_cwSW 4 hts (gW mw_357 mw_358 mw_37 mw_359) rfl rfl rfl (by decide +kernel) ⟨Nat.le_of_ble_eq_true rfl, Nat.le_of_ble_eq_true rfl⟩) (q_preWS [.ref h, .int v110, .int v111, .int v112] hK hP hD hS hA hZ0 hT hN hC [0, 1, 2, 3, 4, 5] (by decide) rfl) rfl rfl hl.1 rfl (lv_room (Nat.le_of_ble_eq_true rfl)) dL_law_419 ⟨q_rc (by omega), q_rs (by omega)⟩) hP hD hS hA [0, 1, 2, 3, 4, 5] [6, 7, 8, 9, 10, 11, 12, 13, 14, 15, 16] rfl rfl (by decide) (by decide) (fun H locs hP hD hS => ?_)
                  have hP := hP.sub (ws' := (wL cI cZ cL h a1 a2 a3 a4 a5 hm b1 b2 b3 b4 b5 b6 b7 b8 b9 oa w_114 r st rc na tp cn rh sr th mk us fi se ki va li ct od ne ro ou)) [11, 12, 13, 14, 15, 16, 0, 1, 2, 3, 4, 5, 6, 7, 8, 9, 10] rfl
                  have hD := hD.sub (ws' := (wL cI cZ cL h a1 a2 a3 a4 a5 hm b1 b2 b3 b4 b5 b6 b7 b8 b9 oa w_114 r st rc na tp cn rh sr th mk us fi se ki va li ct od ne ro ou)) [11, 12, 13, 14, 15, 16, 0, 1, 2, 3, 4, 5, 6, 7, 8, 9, 10] (by decide) rfl
                  have hP : va_P (dC, dI) vwCl (wL cI cZ cL h a1 a2 a3 a4 a5 hm b1 b2 b3 b4 b5 b6 b7 b8 b9 oa w_114 r st rc na tp cn rh sr th mk us fi se ki va li ct od ne ro ou) _ := hP
                  have hD : va_D A (wL cI cZ cL h a1 a2 a3 a4 a5 hm b1 b2 b3 b4 b5 b6 b7 b8 b9 oa w_114 r st rc na tp cn rh sr th mk us fi se ki va li ct od ne ro ou) := hD
                  refine lv_istore hx hb dL_law_422 hl (by decide) rfl (fun ls hl => ?_)
                  have hl : lv_has ls 7 [(5, .int v113), (0, .ref b), (1, .ref h), (2, .ref hm), (3, .ref oa), (4, .int x4_)] := hl
                  refine lv_aload_n hx hb dL_law_424 rfl (lv_at hl 3 rfl) ?_
                  refine lv_aload_n hx hb dL_law_425 rfl (lv_at hl 1 rfl) ?_
                  refine lv_iload hx hb dL_law_426 (lv_at hl 5 rfl) ?_
                  refine lv_iconst (v := (1 : Int32)) hx hb dL_law_428 (by decide) ?_
                  refine lv_iadd hx hb dL_law_429 ?_
                  obtain ⟨v115, hv, hf⟩ := bd hf
                  refine q_sld hx hb hX hbl hbA hS hv dL_law_430 ?_
                  refine lv_aload_n hx hb dL_law_431 rfl (lv_at hl 1 rfl) ?_
                  refine lv_iload hx hb dL_law_432 (lv_at hl 5 rfl) ?_
                  refine lv_iconst (v := (2 : Int32)) hx hb dL_law_434 (by decide) ?_
                  refine lv_iadd hx hb dL_law_435 ?_
                  obtain ⟨v116, hv, hf⟩ := bd hf
                  refine q_sld hx hb hX hbl hbA hS hv dL_law_436 ?_
                  refine lv_aload_n hx hb dL_law_437 rfl (lv_at hl 1 rfl) ?_
                  refine lv_iload hx hb dL_law_438 (lv_at hl 5 rfl) ?_
                  refine lv_iconst (v := (3 : Int32)) hx hb dL_law_440 (by decide) ?_
                  refine lv_iadd hx hb dL_law_441 ?_
                  obtain ⟨v117, hv, hf⟩ := bd hf
                  refine q_sld hx hb hX hbl hbA hS hv dL_law_442 ?_
                  obtain ⟨⟨th_118, ki_119, va_120⟩, hv, hf⟩ := bd hf
                  dsimp only at hf
                  refine q_cv (wr := [(h, .inr (0, [.ref a1, .ref a2, .ref a3, .ref a4, .ref a5, .int tp, .int cn, .int rh, .int sr])), (a1, .inl (cI, 256, .inl w_114)), (a2, .inl (cI, 8, .inl r)), (a3, .inl (cI, 128, .inl st)), (a4, .inl (cI, 128, .inl rc)), (a5, .inl (cI, 256, .inl na)), (oa, .inl (cL, 1, .inr (.inl ou)))]) (va_runV (As := [.int v115, .int v116, .int v117]) (rest := []) ⟨hx, hb, hml, hown, hts⟩ (ctX1_put l dC dI cI cZ cL hm b1 b2 b3 b4 b5 b6 b7 b8 b9 _ th mk us fi se ki va li ct od ne ro v115 v116 v117 th_118 ki_119 va_120 hv) (cwV 3 hts (gV mw_552 mw_553 mw_554 mw_40 mw_555) rfl rfl rfl (by decide +kernel) ⟨Nat.le_of_ble_eq_true rfl, Nat.le_of_ble_eq_true rfl⟩) (q_preV [.int v115, .int v116, .int v117] hK hP hD [6, 7, 8, 9, 10, 11, 12, 13, 14, 15] (by decide) rfl (ci := 1) rfl rfl) rfl rfl hl.1 rfl (lv_room (Nat.le_of_ble_eq_true rfl)) dL_law_443 ⟨q_rc (by omega), q_rs (by omega)⟩) hP hD hS hA [6, 7, 8, 9, 10, 11, 12, 13, 14, 15] [0, 1, 2, 3, 4, 5, 16] rfl rfl (by decide) (by decide) (fun H locs hP hD hS => ?_)
                  have hP := hP.sub (ws' := (wL cI cZ cL h a1 a2 a3 a4 a5 hm b1 b2 b3 b4 b5 b6 b7 b8 b9 oa w_114 r st rc na tp cn rh sr th_118 mk us fi se ki_119 va_120 li ct od ne ro ou)) [0, 1, 2, 3, 4, 5, 7, 8, 9, 10, 11, 12, 13, 14, 15, 16, 6] rfl
                  have hD := hD.sub (ws' := (wL cI cZ cL h a1 a2 a3 a4 a5 hm b1 b2 b3 b4 b5 b6 b7 b8 b9 oa w_114 r st rc na tp cn rh sr th_118 mk us fi se ki_119 va_120 li ct od ne ro ou)) [0, 1, 2, 3, 4, 5, 7, 8, 9, 10, 11, 12, 13, 14, 15, 16, 6] (by decide) rfl
                  have hP : va_P (dC, dI) vwCl (wL cI cZ cL h a1 a2 a3 a4 a5 hm b1 b2 b3 b4 b5 b6 b7 b8 b9 oa w_114 r st rc na tp cn rh sr th_118 mk us fi se ki_119 va_120 li ct od ne ro ou) _ := hP
                  have hD : va_D A (wL cI cZ cL h a1 a2 a3 a4 a5 hm b1 b2 b3 b4 b5 b6 b7 b8 b9 oa w_114 r st rc na tp cn rh sr th_118 mk us fi se ki_119 va_120 li ct od ne ro ou) := hD
                  refine lv_aload_n hx hb dL_law_446 rfl (lv_at hl 3 rfl) ?_
                  obtain ⟨v121, hv, hf⟩ := bd hf
                  refine q_ci (wr := [(h, .inr (0, [.ref a1, .ref a2, .ref a3, .ref a4, .ref a5, .int tp, .int cn, .int rh, .int sr])), (a1, .inl (cI, 256, .inl w_114)), (a2, .inl (cI, 8, .inl r)), (a3, .inl (cI, 128, .inl st)), (a4, .inl (cI, 128, .inl rc)), (a5, .inl (cI, 256, .inl na)), (oa, .inl (cL, 1, .inr (.inl ou)))]) (va_runV (As := []) (rest := []) ⟨hx, hb, hml, hown, hts⟩ (ctX1_thrown l dC dI cI cZ cL hm b1 b2 b3 b4 b5 b6 b7 b8 b9 _ th_118 mk us fi se ki_119 va_120 li ct od ne ro v121 hv) (cwV 0 hts (gV mw_482 mw_483 mw_484 mw_40 mw_485) rfl rfl rfl (by decide +kernel) ⟨Nat.le_of_ble_eq_true rfl, Nat.le_of_ble_eq_true rfl⟩) (q_preV [] hK hP hD [6, 7, 8, 9, 10, 11, 12, 13, 14, 15] (by decide) rfl (ci := 1) rfl rfl) rfl rfl hl.1 rfl (lv_room (Nat.le_of_ble_eq_true rfl)) dL_law_447 ⟨q_rc (by omega), q_rs (by omega)⟩) hP hD hS hA [6, 7, 8, 9, 10, 11, 12, 13, 14, 15] [0, 1, 2, 3, 4, 5, 16] rfl rfl (by decide) (by decide) (fun H locs hP hD hS => ?_)
                  have hP := hP.sub (ws' := (wL cI cZ cL h a1 a2 a3 a4 a5 hm b1 b2 b3 b4 b5 b6 b7 b8 b9 oa w_114 r st rc na tp cn rh sr th_118 mk us fi se ki_119 va_120 li ct od ne ro ou)) [0, 1, 2, 3, 4, 5, 7, 8, 9, 10, 11, 12, 13, 14, 15, 16, 6] rfl
                  have hD := hD.sub (ws' := (wL cI cZ cL h a1 a2 a3 a4 a5 hm b1 b2 b3 b4 b5 b6 b7 b8 b9 oa w_114 r st rc na tp cn rh sr th_118 mk us fi se ki_119 va_120 li ct od ne ro ou)) [0, 1, 2, 3, 4, 5, 7, 8, 9, 10, 11, 12, 13, 14, 15, 16, 6] (by decide) rfl
                  have hP : va_P (dC, dI) vwCl (wL cI cZ cL h a1 a2 a3 a4 a5 hm b1 b2 b3 b4 b5 b6 b7 b8 b9 oa w_114 r st rc na tp cn rh sr th_118 mk us fi se ki_119 va_120 li ct od ne ro ou) _ := hP
                  have hD : va_D A (wL cI cZ cL h a1 a2 a3 a4 a5 hm b1 b2 b3 b4 b5 b6 b7 b8 b9 oa w_114 r st rc na tp cn rh sr th_118 mk us fi se ki_119 va_120 li ct od ne ro ou) := hD
                  refine lv_iload hx hb dL_law_450 (lv_at hl 0 rfl) ?_
                  refine lv_icmp_eq (tgt := 457) hx hb dL_law_452 (by decide) (fun h122 => ?_) (fun h122 => ?_)
                  · have hf := ift h122 hf
                    refine lv_goto (tgt := 910) hx hb dL_law_457 (by decide) ?_
                    refine lv_iinc (v := x4_ + (5 : Int32)) hx hb dL_law_910 hl (k := 5) rfl (by rfl) (by decide) rfl (fun ls hl => ?_)
                    have hl : lv_has ls 7 [(4, .int (x4_ + (5 : Int32))), (5, .int v113), (0, .ref b), (1, .ref h), (2, .ref hm), (3, .ref oa)] := hl
                    refine lv_goto (tgt := 23) hx hb dL_law_913 (by decide) ?_
                    exact ih _ _ _ _ _ _ _ _ _ _ _ _ _ _ _ _ _ _ _ _ _ _ _ _ _ _ _ _ _ _ _ _ _ _ _ _ _ _ _ _ _ _ _ _ _ _ hf _ _ _ _ _ (by omega) (by omega) hP hD hS (lv_sub hl [2, 3, 4, 5, 0] rfl) k0
                  · have hf := ifn h122 hf
                    refine lv_iconst (v := (0 : Int32)) hx hb dL_law_455 (by decide) ?_
                    cases hf
                · replace hf := ifn (fun z => hk5 (exx.trans z)) hf
                  by_cases hk6 : xx3 = (6 : Int32)
                  · replace hf := ift (exx.symm.trans hk6) hf
                    subst hk6
                    refine lv_tableIn (tgt := 460) hx hb dL_law_39 (by decide) (by decide) rfl (by decide) ?_
                    refine lv_aload_n hx hb dL_law_460 rfl (lv_at hl 1 rfl) ?_
                    refine lv_aload_n hx hb dL_law_461 rfl (lv_at hl 0 rfl) ?_
                    refine lv_iload hx hb dL_law_462 (lv_at hl 4 rfl) ?_
                    refine lv_iconst (v := (1 : Int32)) hx hb dL_law_464 (by decide) ?_
                    refine lv_iadd hx hb dL_law_465 ?_
                    obtain ⟨v123, hv, hf⟩ := bd hf
                    refine q_sld hx hb hX hbl hbA hS hv dL_law_466 ?_
                    refine lv_aload_n hx hb dL_law_467 rfl (lv_at hl 0 rfl) ?_
                    refine lv_iload hx hb dL_law_468 (lv_at hl 4 rfl) ?_
                    refine lv_iconst (v := (2 : Int32)) hx hb dL_law_470 (by decide) ?_
                    refine lv_iadd hx hb dL_law_471 ?_
                    obtain ⟨v124, hv, hf⟩ := bd hf
                    refine q_sld hx hb hX hbl hbA hS hv dL_law_472 ?_
                    refine lv_aload_n hx hb dL_law_473 rfl (lv_at hl 0 rfl) ?_
                    refine lv_iload hx hb dL_law_474 (lv_at hl 4 rfl) ?_
                    refine lv_iconst (v := (3 : Int32)) hx hb dL_law_476 (by decide) ?_
                    refine lv_iadd hx hb dL_law_477 ?_
                    obtain ⟨v125, hv, hf⟩ := bd hf
                    refine q_sld hx hb hX hbl hbA hS hv dL_law_478 ?_
                    refine lv_aload_n hx hb dL_law_479 rfl (lv_at hl 0 rfl) ?_
                    refine lv_iload hx hb dL_law_480 (lv_at hl 4 rfl) ?_
                    refine lv_iconst (v := (4 : Int32)) hx hb dL_law_482 (by decide) ?_
                    refine lv_iadd hx hb dL_law_483 ?_
                    obtain ⟨v126, hv, hf⟩ := bd hf
                    refine q_sld hx hb hX hbl hbA hS hv dL_law_484 ?_
                    refine lv_if_eq (tgt := 492) hx hb dL_law_485 (by decide) (fun h127 => ?_) (fun h127 => ?_)
                    · have hf := ift h127 hf
                      refine lv_iconst (v := (0 : Int32)) hx hb dL_law_492 (by decide) ?_
                      obtain ⟨⟨v128, w_129⟩, hv, hf⟩ := bd hf
                      dsimp only at hf
                      refine q_wi (wr := [(hm, .inr (1, [.int th, .int mk, .ref b1, .ref b2, .ref b3, .ref b4, .ref b5, .ref b6, .int ct, .ref b7, .ref b8, .ref b9])), (b1, .inl (cZ, 128, .inl us)), (b2, .inl (cI, 128, .inl fi)), (b3, .inl (cI, 128, .inl se)), (b4, .inl (cI, 768, .inl ki)), (b5, .inl (cI, 768, .inl va)), (b6, .inl (cZ, 128, .inl li)), (b7, .inl (cI, 128, .inl od)), (b8, .inl (cI, 128, .inl ne)), (b9, .inl (cI, 8, .inl ro)), (oa, .inl (cL, 1, .inr (.inl ou)))]) (vx_runSX (As := [.ref h, .int v123, .int v124, .int v125, .int (0 : Int32)]) (rest := []) ⟨hx, hb, hml, hown, hts⟩ (ctL_refer l hlt dC dI cI cZ cL h a1 a2 a3 a4 a5 _ w r st rc na tp cn rh sr v123 v124 v125 (0 : Int32) v128 w_129 hv) (vx_cwSW 5 hts (gW mw_390 mw_391 mw_37 mw_392) rfl rfl rfl (by decide +kernel) ⟨Nat.le_of_ble_eq_true rfl, Nat.le_of_ble_eq_true rfl⟩) (q_preWS [.ref h, .int v123, .int v124, .int v125, .int (0 : Int32)] hK hP hD hS hA hZ0 hT hN hC [0, 1, 2, 3, 4, 5] (by decide) rfl) rfl rfl hl.1 rfl (lv_room (Nat.le_of_ble_eq_true rfl)) dL_law_493 ⟨q_rc (by omega), q_rs (by omega)⟩) hP hD hS hA [0, 1, 2, 3, 4, 5] [6, 7, 8, 9, 10, 11, 12, 13, 14, 15, 16] rfl rfl (by decide) (by decide) (fun H locs hP hD hS => ?_)
                      have hP := hP.sub (ws' := (wL cI cZ cL h a1 a2 a3 a4 a5 hm b1 b2 b3 b4 b5 b6 b7 b8 b9 oa w_129 r st rc na tp cn rh sr th mk us fi se ki va li ct od ne ro ou)) [11, 12, 13, 14, 15, 16, 0, 1, 2, 3, 4, 5, 6, 7, 8, 9, 10] rfl
                      have hD := hD.sub (ws' := (wL cI cZ cL h a1 a2 a3 a4 a5 hm b1 b2 b3 b4 b5 b6 b7 b8 b9 oa w_129 r st rc na tp cn rh sr th mk us fi se ki va li ct od ne ro ou)) [11, 12, 13, 14, 15, 16, 0, 1, 2, 3, 4, 5, 6, 7, 8, 9, 10] (by decide) rfl
                      have hP : va_P (dC, dI) vwCl (wL cI cZ cL h a1 a2 a3 a4 a5 hm b1 b2 b3 b4 b5 b6 b7 b8 b9 oa w_129 r st rc na tp cn rh sr th mk us fi se ki va li ct od ne ro ou) _ := hP
                      have hD : va_D A (wL cI cZ cL h a1 a2 a3 a4 a5 hm b1 b2 b3 b4 b5 b6 b7 b8 b9 oa w_129 r st rc na tp cn rh sr th mk us fi se ki va li ct od ne ro ou) := hD
                      refine lv_istore hx hb dL_law_496 hl (by decide) rfl (fun ls hl => ?_)
                      have hl : lv_has ls 7 [(5, .int v128), (0, .ref b), (1, .ref h), (2, .ref hm), (3, .ref oa), (4, .int x4_)] := hl
                      refine lv_aload_n hx hb dL_law_498 rfl (lv_at hl 3 rfl) ?_
                      refine lv_aload_n hx hb dL_law_499 rfl (lv_at hl 1 rfl) ?_
                      refine lv_iload hx hb dL_law_500 (lv_at hl 5 rfl) ?_
                      refine lv_iconst (v := (1 : Int32)) hx hb dL_law_502 (by decide) ?_
                      refine lv_iadd hx hb dL_law_503 ?_
                      obtain ⟨v130, hv, hf⟩ := bd hf
                      refine q_sld hx hb hX hbl hbA hS hv dL_law_504 ?_
                      refine lv_aload_n hx hb dL_law_505 rfl (lv_at hl 1 rfl) ?_
                      refine lv_iload hx hb dL_law_506 (lv_at hl 5 rfl) ?_
                      refine lv_iconst (v := (2 : Int32)) hx hb dL_law_508 (by decide) ?_
                      refine lv_iadd hx hb dL_law_509 ?_
                      obtain ⟨v131, hv, hf⟩ := bd hf
                      refine q_sld hx hb hX hbl hbA hS hv dL_law_510 ?_
                      refine lv_aload_n hx hb dL_law_511 rfl (lv_at hl 1 rfl) ?_
                      refine lv_iload hx hb dL_law_512 (lv_at hl 5 rfl) ?_
                      refine lv_iconst (v := (3 : Int32)) hx hb dL_law_514 (by decide) ?_
                      refine lv_iadd hx hb dL_law_515 ?_
                      obtain ⟨v132, hv, hf⟩ := bd hf
                      refine q_sld hx hb hX hbl hbA hS hv dL_law_516 ?_
                      refine lv_aload_n hx hb dL_law_517 rfl (lv_at hl 1 rfl) ?_
                      refine lv_iload hx hb dL_law_518 (lv_at hl 5 rfl) ?_
                      refine lv_iconst (v := (4 : Int32)) hx hb dL_law_520 (by decide) ?_
                      refine lv_iadd hx hb dL_law_521 ?_
                      obtain ⟨v133, hv, hf⟩ := bd hf
                      refine q_sld hx hb hX hbl hbA hS hv dL_law_522 ?_
                      refine lv_if_eq (tgt := 530) hx hb dL_law_523 (by decide) (fun h134 => ?_) (fun h134 => ?_)
                      · have hf := ift h134 hf
                        refine lv_iconst (v := (0 : Int32)) hx hb dL_law_530 (by decide) ?_
                        obtain ⟨⟨th_135, ki_136, va_137⟩, hv, hf⟩ := bd hf
                        dsimp only at hf
                        refine q_cv (wr := [(h, .inr (0, [.ref a1, .ref a2, .ref a3, .ref a4, .ref a5, .int tp, .int cn, .int rh, .int sr])), (a1, .inl (cI, 256, .inl w_129)), (a2, .inl (cI, 8, .inl r)), (a3, .inl (cI, 128, .inl st)), (a4, .inl (cI, 128, .inl rc)), (a5, .inl (cI, 256, .inl na)), (oa, .inl (cL, 1, .inr (.inl ou)))]) (va_runV (As := [.int v130, .int v131, .int v132, .int (0 : Int32)]) (rest := []) ⟨hx, hb, hml, hown, hts⟩ (ctX1_refer l dC dI cI cZ cL hm b1 b2 b3 b4 b5 b6 b7 b8 b9 _ th mk us fi se ki va li ct od ne ro v130 v131 v132 (0 : Int32) th_135 ki_136 va_137 hv) (cwV 4 hts (gV mw_564 mw_565 mw_566 mw_40 mw_567) rfl rfl rfl (by decide +kernel) ⟨Nat.le_of_ble_eq_true rfl, Nat.le_of_ble_eq_true rfl⟩) (q_preV [.int v130, .int v131, .int v132, .int (0 : Int32)] hK hP hD [6, 7, 8, 9, 10, 11, 12, 13, 14, 15] (by decide) rfl (ci := 1) rfl rfl) rfl rfl hl.1 rfl (lv_room (Nat.le_of_ble_eq_true rfl)) dL_law_531 ⟨q_rc (by omega), q_rs (by omega)⟩) hP hD hS hA [6, 7, 8, 9, 10, 11, 12, 13, 14, 15] [0, 1, 2, 3, 4, 5, 16] rfl rfl (by decide) (by decide) (fun H locs hP hD hS => ?_)
                        have hP := hP.sub (ws' := (wL cI cZ cL h a1 a2 a3 a4 a5 hm b1 b2 b3 b4 b5 b6 b7 b8 b9 oa w_129 r st rc na tp cn rh sr th_135 mk us fi se ki_136 va_137 li ct od ne ro ou)) [0, 1, 2, 3, 4, 5, 7, 8, 9, 10, 11, 12, 13, 14, 15, 16, 6] rfl
                        have hD := hD.sub (ws' := (wL cI cZ cL h a1 a2 a3 a4 a5 hm b1 b2 b3 b4 b5 b6 b7 b8 b9 oa w_129 r st rc na tp cn rh sr th_135 mk us fi se ki_136 va_137 li ct od ne ro ou)) [0, 1, 2, 3, 4, 5, 7, 8, 9, 10, 11, 12, 13, 14, 15, 16, 6] (by decide) rfl
                        have hP : va_P (dC, dI) vwCl (wL cI cZ cL h a1 a2 a3 a4 a5 hm b1 b2 b3 b4 b5 b6 b7 b8 b9 oa w_129 r st rc na tp cn rh sr th_135 mk us fi se ki_136 va_137 li ct od ne ro ou) _ := hP
                        have hD : va_D A (wL cI cZ cL h a1 a2 a3 a4 a5 hm b1 b2 b3 b4 b5 b6 b7 b8 b9 oa w_129 r st rc na tp cn rh sr th_135 mk us fi se ki_136 va_137 li ct od ne ro ou) := hD
                        refine lv_aload_n hx hb dL_law_534 rfl (lv_at hl 3 rfl) ?_
                        obtain ⟨v138, hv, hf⟩ := bd hf
                        refine q_ci (wr := [(h, .inr (0, [.ref a1, .ref a2, .ref a3, .ref a4, .ref a5, .int tp, .int cn, .int rh, .int sr])), (a1, .inl (cI, 256, .inl w_129)), (a2, .inl (cI, 8, .inl r)), (a3, .inl (cI, 128, .inl st)), (a4, .inl (cI, 128, .inl rc)), (a5, .inl (cI, 256, .inl na)), (oa, .inl (cL, 1, .inr (.inl ou)))]) (va_runV (As := []) (rest := []) ⟨hx, hb, hml, hown, hts⟩ (ctX1_thrown l dC dI cI cZ cL hm b1 b2 b3 b4 b5 b6 b7 b8 b9 _ th_135 mk us fi se ki_136 va_137 li ct od ne ro v138 hv) (cwV 0 hts (gV mw_482 mw_483 mw_484 mw_40 mw_485) rfl rfl rfl (by decide +kernel) ⟨Nat.le_of_ble_eq_true rfl, Nat.le_of_ble_eq_true rfl⟩) (q_preV [] hK hP hD [6, 7, 8, 9, 10, 11, 12, 13, 14, 15] (by decide) rfl (ci := 1) rfl rfl) rfl rfl hl.1 rfl (lv_room (Nat.le_of_ble_eq_true rfl)) dL_law_535 ⟨q_rc (by omega), q_rs (by omega)⟩) hP hD hS hA [6, 7, 8, 9, 10, 11, 12, 13, 14, 15] [0, 1, 2, 3, 4, 5, 16] rfl rfl (by decide) (by decide) (fun H locs hP hD hS => ?_)
                        have hP := hP.sub (ws' := (wL cI cZ cL h a1 a2 a3 a4 a5 hm b1 b2 b3 b4 b5 b6 b7 b8 b9 oa w_129 r st rc na tp cn rh sr th_135 mk us fi se ki_136 va_137 li ct od ne ro ou)) [0, 1, 2, 3, 4, 5, 7, 8, 9, 10, 11, 12, 13, 14, 15, 16, 6] rfl
                        have hD := hD.sub (ws' := (wL cI cZ cL h a1 a2 a3 a4 a5 hm b1 b2 b3 b4 b5 b6 b7 b8 b9 oa w_129 r st rc na tp cn rh sr th_135 mk us fi se ki_136 va_137 li ct od ne ro ou)) [0, 1, 2, 3, 4, 5, 7, 8, 9, 10, 11, 12, 13, 14, 15, 16, 6] (by decide) rfl
                        have hP : va_P (dC, dI) vwCl (wL cI cZ cL h a1 a2 a3 a4 a5 hm b1 b2 b3 b4 b5 b6 b7 b8 b9 oa w_129 r st rc na tp cn rh sr th_135 mk us fi se ki_136 va_137 li ct od ne ro ou) _ := hP
                        have hD : va_D A (wL cI cZ cL h a1 a2 a3 a4 a5 hm b1 b2 b3 b4 b5 b6 b7 b8 b9 oa w_129 r st rc na tp cn rh sr th_135 mk us fi se ki_136 va_137 li ct od ne ro ou) := hD
                        refine lv_iload hx hb dL_law_538 (lv_at hl 0 rfl) ?_
                        refine lv_icmp_eq (tgt := 545) hx hb dL_law_540 (by decide) (fun h139 => ?_) (fun h139 => ?_)
                        · have hf := ift h139 hf
                          refine lv_goto (tgt := 910) hx hb dL_law_545 (by decide) ?_
                          refine lv_iinc (v := x4_ + (5 : Int32)) hx hb dL_law_910 hl (k := 5) rfl (by rfl) (by decide) rfl (fun ls hl => ?_)
                          have hl : lv_has ls 7 [(4, .int (x4_ + (5 : Int32))), (5, .int v128), (0, .ref b), (1, .ref h), (2, .ref hm), (3, .ref oa)] := hl
                          refine lv_goto (tgt := 23) hx hb dL_law_913 (by decide) ?_
                          exact ih _ _ _ _ _ _ _ _ _ _ _ _ _ _ _ _ _ _ _ _ _ _ _ _ _ _ _ _ _ _ _ _ _ _ _ _ _ _ _ _ _ _ _ _ _ _ hf _ _ _ _ _ (by omega) (by omega) hP hD hS (lv_sub hl [2, 3, 4, 5, 0] rfl) k0
                        · have hf := ifn h139 hf
                          refine lv_iconst (v := (0 : Int32)) hx hb dL_law_543 (by decide) ?_
                          cases hf
                      · have hf := ifn h134 hf
                        refine lv_iconst (v := (1 : Int32)) hx hb dL_law_526 (by decide) ?_
                        refine lv_goto (tgt := 531) hx hb dL_law_527 (by decide) ?_
                        obtain ⟨⟨th_140, ki_141, va_142⟩, hv, hf⟩ := bd hf
                        dsimp only at hf
                        refine q_cv (wr := [(h, .inr (0, [.ref a1, .ref a2, .ref a3, .ref a4, .ref a5, .int tp, .int cn, .int rh, .int sr])), (a1, .inl (cI, 256, .inl w_129)), (a2, .inl (cI, 8, .inl r)), (a3, .inl (cI, 128, .inl st)), (a4, .inl (cI, 128, .inl rc)), (a5, .inl (cI, 256, .inl na)), (oa, .inl (cL, 1, .inr (.inl ou)))]) (va_runV (As := [.int v130, .int v131, .int v132, .int (1 : Int32)]) (rest := []) ⟨hx, hb, hml, hown, hts⟩ (ctX1_refer l dC dI cI cZ cL hm b1 b2 b3 b4 b5 b6 b7 b8 b9 _ th mk us fi se ki va li ct od ne ro v130 v131 v132 (1 : Int32) th_140 ki_141 va_142 hv) (cwV 4 hts (gV mw_564 mw_565 mw_566 mw_40 mw_567) rfl rfl rfl (by decide +kernel) ⟨Nat.le_of_ble_eq_true rfl, Nat.le_of_ble_eq_true rfl⟩) (q_preV [.int v130, .int v131, .int v132, .int (1 : Int32)] hK hP hD [6, 7, 8, 9, 10, 11, 12, 13, 14, 15] (by decide) rfl (ci := 1) rfl rfl) rfl rfl hl.1 rfl (lv_room (Nat.le_of_ble_eq_true rfl)) dL_law_531 ⟨q_rc (by omega), q_rs (by omega)⟩) hP hD hS hA [6, 7, 8, 9, 10, 11, 12, 13, 14, 15] [0, 1, 2, 3, 4, 5, 16] rfl rfl (by decide) (by decide) (fun H locs hP hD hS => ?_)
                        have hP := hP.sub (ws' := (wL cI cZ cL h a1 a2 a3 a4 a5 hm b1 b2 b3 b4 b5 b6 b7 b8 b9 oa w_129 r st rc na tp cn rh sr th_140 mk us fi se ki_141 va_142 li ct od ne ro ou)) [0, 1, 2, 3, 4, 5, 7, 8, 9, 10, 11, 12, 13, 14, 15, 16, 6] rfl
                        have hD := hD.sub (ws' := (wL cI cZ cL h a1 a2 a3 a4 a5 hm b1 b2 b3 b4 b5 b6 b7 b8 b9 oa w_129 r st rc na tp cn rh sr th_140 mk us fi se ki_141 va_142 li ct od ne ro ou)) [0, 1, 2, 3, 4, 5, 7, 8, 9, 10, 11, 12, 13, 14, 15, 16, 6] (by decide) rfl
                        have hP : va_P (dC, dI) vwCl (wL cI cZ cL h a1 a2 a3 a4 a5 hm b1 b2 b3 b4 b5 b6 b7 b8 b9 oa w_129 r st rc na tp cn rh sr th_140 mk us fi se ki_141 va_142 li ct od ne ro ou) _ := hP
                        have hD : va_D A (wL cI cZ cL h a1 a2 a3 a4 a5 hm b1 b2 b3 b4 b5 b6 b7 b8 b9 oa w_129 r st rc na tp cn rh sr th_140 mk us fi se ki_141 va_142 li ct od ne ro ou) := hD
                        refine lv_aload_n hx hb dL_law_534 rfl (lv_at hl 3 rfl) ?_
                        obtain ⟨v143, hv, hf⟩ := bd hf
                        refine q_ci (wr := [(h, .inr (0, [.ref a1, .ref a2, .ref a3, .ref a4, .ref a5, .int tp, .int cn, .int rh, .int sr])), (a1, .inl (cI, 256, .inl w_129)), (a2, .inl (cI, 8, .inl r)), (a3, .inl (cI, 128, .inl st)), (a4, .inl (cI, 128, .inl rc)), (a5, .inl (cI, 256, .inl na)), (oa, .inl (cL, 1, .inr (.inl ou)))]) (va_runV (As := []) (rest := []) ⟨hx, hb, hml, hown, hts⟩ (ctX1_thrown l dC dI cI cZ cL hm b1 b2 b3 b4 b5 b6 b7 b8 b9 _ th_140 mk us fi se ki_141 va_142 li ct od ne ro v143 hv) (cwV 0 hts (gV mw_482 mw_483 mw_484 mw_40 mw_485) rfl rfl rfl (by decide +kernel) ⟨Nat.le_of_ble_eq_true rfl, Nat.le_of_ble_eq_true rfl⟩) (q_preV [] hK hP hD [6, 7, 8, 9, 10, 11, 12, 13, 14, 15] (by decide) rfl (ci := 1) rfl rfl) rfl rfl hl.1 rfl (lv_room (Nat.le_of_ble_eq_true rfl)) dL_law_535 ⟨q_rc (by omega), q_rs (by omega)⟩) hP hD hS hA [6, 7, 8, 9, 10, 11, 12, 13, 14, 15] [0, 1, 2, 3, 4, 5, 16] rfl rfl (by decide) (by decide) (fun H locs hP hD hS => ?_)
                        have hP := hP.sub (ws' := (wL cI cZ cL h a1 a2 a3 a4 a5 hm b1 b2 b3 b4 b5 b6 b7 b8 b9 oa w_129 r st rc na tp cn rh sr th_140 mk us fi se ki_141 va_142 li ct od ne ro ou)) [0, 1, 2, 3, 4, 5, 7, 8, 9, 10, 11, 12, 13, 14, 15, 16, 6] rfl
                        have hD := hD.sub (ws' := (wL cI cZ cL h a1 a2 a3 a4 a5 hm b1 b2 b3 b4 b5 b6 b7 b8 b9 oa w_129 r st rc na tp cn rh sr th_140 mk us fi se ki_141 va_142 li ct od ne ro ou)) [0, 1, 2, 3, 4, 5, 7, 8, 9, 10, 11, 12, 13, 14, 15, 16, 6] (by decide) rfl
                        have hP : va_P (dC, dI) vwCl (wL cI cZ cL h a1 a2 a3 a4 a5 hm b1 b2 b3 b4 b5 b6 b7 b8 b9 oa w_129 r st rc na tp cn rh sr th_140 mk us fi se ki_141 va_142 li ct od ne ro ou) _ := hP
                        have hD : va_D A (wL cI cZ cL h a1 a2 a3 a4 a5 hm b1 b2 b3 b4 b5 b6 b7 b8 b9 oa w_129 r st rc na tp cn rh sr th_140 mk us fi se ki_141 va_142 li ct od ne ro ou) := hD
                        refine lv_iload hx hb dL_law_538 (lv_at hl 0 rfl) ?_
                        refine lv_icmp_eq (tgt := 545) hx hb dL_law_540 (by decide) (fun h144 => ?_) (fun h144 => ?_)
                        · have hf := ift h144 hf
                          refine lv_goto (tgt := 910) hx hb dL_law_545 (by decide) ?_
                          refine lv_iinc (v := x4_ + (5 : Int32)) hx hb dL_law_910 hl (k := 5) rfl (by rfl) (by decide) rfl (fun ls hl => ?_)
                          have hl : lv_has ls 7 [(4, .int (x4_ + (5 : Int32))), (5, .int v128), (0, .ref b), (1, .ref h), (2, .ref hm), (3, .ref oa)] := hl
                          refine lv_goto (tgt := 23) hx hb dL_law_913 (by decide) ?_
                          exact ih _ _ _ _ _ _ _ _ _ _ _ _ _ _ _ _ _ _ _ _ _ _ _ _ _ _ _ _ _ _ _ _ _ _ _ _ _ _ _ _ _ _ _ _ _ _ hf _ _ _ _ _ (by omega) (by omega) hP hD hS (lv_sub hl [2, 3, 4, 5, 0] rfl) k0
                        · have hf := ifn h144 hf
                          refine lv_iconst (v := (0 : Int32)) hx hb dL_law_543 (by decide) ?_
                          cases hf
                    · have hf := ifn h127 hf
                      refine lv_iconst (v := (1 : Int32)) hx hb dL_law_488 (by decide) ?_
                      refine lv_goto (tgt := 493) hx hb dL_law_489 (by decide) ?_
                      obtain ⟨⟨v145, w_146⟩, hv, hf⟩ := bd hf
                      dsimp only at hf
                      refine q_wi (wr := [(hm, .inr (1, [.int th, .int mk, .ref b1, .ref b2, .ref b3, .ref b4, .ref b5, .ref b6, .int ct, .ref b7, .ref b8, .ref b9])), (b1, .inl (cZ, 128, .inl us)), (b2, .inl (cI, 128, .inl fi)), (b3, .inl (cI, 128, .inl se)), (b4, .inl (cI, 768, .inl ki)), (b5, .inl (cI, 768, .inl va)), (b6, .inl (cZ, 128, .inl li)), (b7, .inl (cI, 128, .inl od)), (b8, .inl (cI, 128, .inl ne)), (b9, .inl (cI, 8, .inl ro)), (oa, .inl (cL, 1, .inr (.inl ou)))]) (vx_runSX (As := [.ref h, .int v123, .int v124, .int v125, .int (1 : Int32)]) (rest := []) ⟨hx, hb, hml, hown, hts⟩ (ctL_refer l hlt dC dI cI cZ cL h a1 a2 a3 a4 a5 _ w r st rc na tp cn rh sr v123 v124 v125 (1 : Int32) v145 w_146 hv) (vx_cwSW 5 hts (gW mw_390 mw_391 mw_37 mw_392) rfl rfl rfl (by decide +kernel) ⟨Nat.le_of_ble_eq_true rfl, Nat.le_of_ble_eq_true rfl⟩) (q_preWS [.ref h, .int v123, .int v124, .int v125, .int (1 : Int32)] hK hP hD hS hA hZ0 hT hN hC [0, 1, 2, 3, 4, 5] (by decide) rfl) rfl rfl hl.1 rfl (lv_room (Nat.le_of_ble_eq_true rfl)) dL_law_493 ⟨q_rc (by omega), q_rs (by omega)⟩) hP hD hS hA [0, 1, 2, 3, 4, 5] [6, 7, 8, 9, 10, 11, 12, 13, 14, 15, 16] rfl rfl (by decide) (by decide) (fun H locs hP hD hS => ?_)
                      have hP := hP.sub (ws' := (wL cI cZ cL h a1 a2 a3 a4 a5 hm b1 b2 b3 b4 b5 b6 b7 b8 b9 oa w_146 r st rc na tp cn rh sr th mk us fi se ki va li ct od ne ro ou)) [11, 12, 13, 14, 15, 16, 0, 1, 2, 3, 4, 5, 6, 7, 8, 9, 10] rfl
                      have hD := hD.sub (ws' := (wL cI cZ cL h a1 a2 a3 a4 a5 hm b1 b2 b3 b4 b5 b6 b7 b8 b9 oa w_146 r st rc na tp cn rh sr th mk us fi se ki va li ct od ne ro ou)) [11, 12, 13, 14, 15, 16, 0, 1, 2, 3, 4, 5, 6, 7, 8, 9, 10] (by decide) rfl
                      have hP : va_P (dC, dI) vwCl (wL cI cZ cL h a1 a2 a3 a4 a5 hm b1 b2 b3 b4 b5 b6 b7 b8 b9 oa w_146 r st rc na tp cn rh sr th mk us fi se ki va li ct od ne ro ou) _ := hP
                      have hD : va_D A (wL cI cZ cL h a1 a2 a3 a4 a5 hm b1 b2 b3 b4 b5 b6 b7 b8 b9 oa w_146 r st rc na tp cn rh sr th mk us fi se ki va li ct od ne ro ou) := hD
                      refine lv_istore hx hb dL_law_496 hl (by decide) rfl (fun ls hl => ?_)
                      have hl : lv_has ls 7 [(5, .int v145), (0, .ref b), (1, .ref h), (2, .ref hm), (3, .ref oa), (4, .int x4_)] := hl
                      refine lv_aload_n hx hb dL_law_498 rfl (lv_at hl 3 rfl) ?_
                      refine lv_aload_n hx hb dL_law_499 rfl (lv_at hl 1 rfl) ?_
                      refine lv_iload hx hb dL_law_500 (lv_at hl 5 rfl) ?_
                      refine lv_iconst (v := (1 : Int32)) hx hb dL_law_502 (by decide) ?_
                      refine lv_iadd hx hb dL_law_503 ?_
                      obtain ⟨v147, hv, hf⟩ := bd hf
                      refine q_sld hx hb hX hbl hbA hS hv dL_law_504 ?_
                      refine lv_aload_n hx hb dL_law_505 rfl (lv_at hl 1 rfl) ?_
                      refine lv_iload hx hb dL_law_506 (lv_at hl 5 rfl) ?_
                      refine lv_iconst (v := (2 : Int32)) hx hb dL_law_508 (by decide) ?_
                      refine lv_iadd hx hb dL_law_509 ?_
                      obtain ⟨v148, hv, hf⟩ := bd hf
                      refine q_sld hx hb hX hbl hbA hS hv dL_law_510 ?_
                      refine lv_aload_n hx hb dL_law_511 rfl (lv_at hl 1 rfl) ?_
                      refine lv_iload hx hb dL_law_512 (lv_at hl 5 rfl) ?_
                      refine lv_iconst (v := (3 : Int32)) hx hb dL_law_514 (by decide) ?_
                      refine lv_iadd hx hb dL_law_515 ?_
                      obtain ⟨v149, hv, hf⟩ := bd hf
                      refine q_sld hx hb hX hbl hbA hS hv dL_law_516 ?_
                      refine lv_aload_n hx hb dL_law_517 rfl (lv_at hl 1 rfl) ?_
                      refine lv_iload hx hb dL_law_518 (lv_at hl 5 rfl) ?_
                      refine lv_iconst (v := (4 : Int32)) hx hb dL_law_520 (by decide) ?_
                      refine lv_iadd hx hb dL_law_521 ?_
                      obtain ⟨v150, hv, hf⟩ := bd hf
                      refine q_sld hx hb hX hbl hbA hS hv dL_law_522 ?_
                      refine lv_if_eq (tgt := 530) hx hb dL_law_523 (by decide) (fun h151 => ?_) (fun h151 => ?_)
                      · have hf := ift h151 hf
                        refine lv_iconst (v := (0 : Int32)) hx hb dL_law_530 (by decide) ?_
                        obtain ⟨⟨th_152, ki_153, va_154⟩, hv, hf⟩ := bd hf
                        dsimp only at hf
                        refine q_cv (wr := [(h, .inr (0, [.ref a1, .ref a2, .ref a3, .ref a4, .ref a5, .int tp, .int cn, .int rh, .int sr])), (a1, .inl (cI, 256, .inl w_146)), (a2, .inl (cI, 8, .inl r)), (a3, .inl (cI, 128, .inl st)), (a4, .inl (cI, 128, .inl rc)), (a5, .inl (cI, 256, .inl na)), (oa, .inl (cL, 1, .inr (.inl ou)))]) (va_runV (As := [.int v147, .int v148, .int v149, .int (0 : Int32)]) (rest := []) ⟨hx, hb, hml, hown, hts⟩ (ctX1_refer l dC dI cI cZ cL hm b1 b2 b3 b4 b5 b6 b7 b8 b9 _ th mk us fi se ki va li ct od ne ro v147 v148 v149 (0 : Int32) th_152 ki_153 va_154 hv) (cwV 4 hts (gV mw_564 mw_565 mw_566 mw_40 mw_567) rfl rfl rfl (by decide +kernel) ⟨Nat.le_of_ble_eq_true rfl, Nat.le_of_ble_eq_true rfl⟩) (q_preV [.int v147, .int v148, .int v149, .int (0 : Int32)] hK hP hD [6, 7, 8, 9, 10, 11, 12, 13, 14, 15] (by decide) rfl (ci := 1) rfl rfl) rfl rfl hl.1 rfl (lv_room (Nat.le_of_ble_eq_true rfl)) dL_law_531 ⟨q_rc (by omega), q_rs (by omega)⟩) hP hD hS hA [6, 7, 8, 9, 10, 11, 12, 13, 14, 15] [0, 1, 2, 3, 4, 5, 16] rfl rfl (by decide) (by decide) (fun H locs hP hD hS => ?_)
                        have hP := hP.sub (ws' := (wL cI cZ cL h a1 a2 a3 a4 a5 hm b1 b2 b3 b4 b5 b6 b7 b8 b9 oa w_146 r st rc na tp cn rh sr th_152 mk us fi se ki_153 va_154 li ct od ne ro ou)) [0, 1, 2, 3, 4, 5, 7, 8, 9, 10, 11, 12, 13, 14, 15, 16, 6] rfl
                        have hD := hD.sub (ws' := (wL cI cZ cL h a1 a2 a3 a4 a5 hm b1 b2 b3 b4 b5 b6 b7 b8 b9 oa w_146 r st rc na tp cn rh sr th_152 mk us fi se ki_153 va_154 li ct od ne ro ou)) [0, 1, 2, 3, 4, 5, 7, 8, 9, 10, 11, 12, 13, 14, 15, 16, 6] (by decide) rfl
                        have hP : va_P (dC, dI) vwCl (wL cI cZ cL h a1 a2 a3 a4 a5 hm b1 b2 b3 b4 b5 b6 b7 b8 b9 oa w_146 r st rc na tp cn rh sr th_152 mk us fi se ki_153 va_154 li ct od ne ro ou) _ := hP
                        have hD : va_D A (wL cI cZ cL h a1 a2 a3 a4 a5 hm b1 b2 b3 b4 b5 b6 b7 b8 b9 oa w_146 r st rc na tp cn rh sr th_152 mk us fi se ki_153 va_154 li ct od ne ro ou) := hD
                        refine lv_aload_n hx hb dL_law_534 rfl (lv_at hl 3 rfl) ?_
                        obtain ⟨v155, hv, hf⟩ := bd hf
                        refine q_ci (wr := [(h, .inr (0, [.ref a1, .ref a2, .ref a3, .ref a4, .ref a5, .int tp, .int cn, .int rh, .int sr])), (a1, .inl (cI, 256, .inl w_146)), (a2, .inl (cI, 8, .inl r)), (a3, .inl (cI, 128, .inl st)), (a4, .inl (cI, 128, .inl rc)), (a5, .inl (cI, 256, .inl na)), (oa, .inl (cL, 1, .inr (.inl ou)))]) (va_runV (As := []) (rest := []) ⟨hx, hb, hml, hown, hts⟩ (ctX1_thrown l dC dI cI cZ cL hm b1 b2 b3 b4 b5 b6 b7 b8 b9 _ th_152 mk us fi se ki_153 va_154 li ct od ne ro v155 hv) (cwV 0 hts (gV mw_482 mw_483 mw_484 mw_40 mw_485) rfl rfl rfl (by decide +kernel) ⟨Nat.le_of_ble_eq_true rfl, Nat.le_of_ble_eq_true rfl⟩) (q_preV [] hK hP hD [6, 7, 8, 9, 10, 11, 12, 13, 14, 15] (by decide) rfl (ci := 1) rfl rfl) rfl rfl hl.1 rfl (lv_room (Nat.le_of_ble_eq_true rfl)) dL_law_535 ⟨q_rc (by omega), q_rs (by omega)⟩) hP hD hS hA [6, 7, 8, 9, 10, 11, 12, 13, 14, 15] [0, 1, 2, 3, 4, 5, 16] rfl rfl (by decide) (by decide) (fun H locs hP hD hS => ?_)
                        have hP := hP.sub (ws' := (wL cI cZ cL h a1 a2 a3 a4 a5 hm b1 b2 b3 b4 b5 b6 b7 b8 b9 oa w_146 r st rc na tp cn rh sr th_152 mk us fi se ki_153 va_154 li ct od ne ro ou)) [0, 1, 2, 3, 4, 5, 7, 8, 9, 10, 11, 12, 13, 14, 15, 16, 6] rfl
                        have hD := hD.sub (ws' := (wL cI cZ cL h a1 a2 a3 a4 a5 hm b1 b2 b3 b4 b5 b6 b7 b8 b9 oa w_146 r st rc na tp cn rh sr th_152 mk us fi se ki_153 va_154 li ct od ne ro ou)) [0, 1, 2, 3, 4, 5, 7, 8, 9, 10, 11, 12, 13, 14, 15, 16, 6] (by decide) rfl
                        have hP : va_P (dC, dI) vwCl (wL cI cZ cL h a1 a2 a3 a4 a5 hm b1 b2 b3 b4 b5 b6 b7 b8 b9 oa w_146 r st rc na tp cn rh sr th_152 mk us fi se ki_153 va_154 li ct od ne ro ou) _ := hP
                        have hD : va_D A (wL cI cZ cL h a1 a2 a3 a4 a5 hm b1 b2 b3 b4 b5 b6 b7 b8 b9 oa w_146 r st rc na tp cn rh sr th_152 mk us fi se ki_153 va_154 li ct od ne ro ou) := hD
                        refine lv_iload hx hb dL_law_538 (lv_at hl 0 rfl) ?_
                        refine lv_icmp_eq (tgt := 545) hx hb dL_law_540 (by decide) (fun h156 => ?_) (fun h156 => ?_)
                        · have hf := ift h156 hf
                          refine lv_goto (tgt := 910) hx hb dL_law_545 (by decide) ?_
                          refine lv_iinc (v := x4_ + (5 : Int32)) hx hb dL_law_910 hl (k := 5) rfl (by rfl) (by decide) rfl (fun ls hl => ?_)
                          have hl : lv_has ls 7 [(4, .int (x4_ + (5 : Int32))), (5, .int v145), (0, .ref b), (1, .ref h), (2, .ref hm), (3, .ref oa)] := hl
                          refine lv_goto (tgt := 23) hx hb dL_law_913 (by decide) ?_
                          exact ih _ _ _ _ _ _ _ _ _ _ _ _ _ _ _ _ _ _ _ _ _ _ _ _ _ _ _ _ _ _ _ _ _ _ _ _ _ _ _ _ _ _ _ _ _ _ hf _ _ _ _ _ (by omega) (by omega) hP hD hS (lv_sub hl [2, 3, 4, 5, 0] rfl) k0
                        · have hf := ifn h156 hf
                          refine lv_iconst (v := (0 : Int32)) hx hb dL_law_543 (by decide) ?_
                          cases hf
                      · have hf := ifn h151 hf
                        refine lv_iconst (v := (1 : Int32)) hx hb dL_law_526 (by decide) ?_
                        refine lv_goto (tgt := 531) hx hb dL_law_527 (by decide) ?_
                        obtain ⟨⟨th_157, ki_158, va_159⟩, hv, hf⟩ := bd hf
                        dsimp only at hf
                        refine q_cv (wr := [(h, .inr (0, [.ref a1, .ref a2, .ref a3, .ref a4, .ref a5, .int tp, .int cn, .int rh, .int sr])), (a1, .inl (cI, 256, .inl w_146)), (a2, .inl (cI, 8, .inl r)), (a3, .inl (cI, 128, .inl st)), (a4, .inl (cI, 128, .inl rc)), (a5, .inl (cI, 256, .inl na)), (oa, .inl (cL, 1, .inr (.inl ou)))]) (va_runV (As := [.int v147, .int v148, .int v149, .int (1 : Int32)]) (rest := []) ⟨hx, hb, hml, hown, hts⟩ (ctX1_refer l dC dI cI cZ cL hm b1 b2 b3 b4 b5 b6 b7 b8 b9 _ th mk us fi se ki va li ct od ne ro v147 v148 v149 (1 : Int32) th_157 ki_158 va_159 hv) (cwV 4 hts (gV mw_564 mw_565 mw_566 mw_40 mw_567) rfl rfl rfl (by decide +kernel) ⟨Nat.le_of_ble_eq_true rfl, Nat.le_of_ble_eq_true rfl⟩) (q_preV [.int v147, .int v148, .int v149, .int (1 : Int32)] hK hP hD [6, 7, 8, 9, 10, 11, 12, 13, 14, 15] (by decide) rfl (ci := 1) rfl rfl) rfl rfl hl.1 rfl (lv_room (Nat.le_of_ble_eq_true rfl)) dL_law_531 ⟨q_rc (by omega), q_rs (by omega)⟩) hP hD hS hA [6, 7, 8, 9, 10, 11, 12, 13, 14, 15] [0, 1, 2, 3, 4, 5, 16] rfl rfl (by decide) (by decide) (fun H locs hP hD hS => ?_)
                        have hP := hP.sub (ws' := (wL cI cZ cL h a1 a2 a3 a4 a5 hm b1 b2 b3 b4 b5 b6 b7 b8 b9 oa w_146 r st rc na tp cn rh sr th_157 mk us fi se ki_158 va_159 li ct od ne ro ou)) [0, 1, 2, 3, 4, 5, 7, 8, 9, 10, 11, 12, 13, 14, 15, 16, 6] rfl
                        have hD := hD.sub (ws' := (wL cI cZ cL h a1 a2 a3 a4 a5 hm b1 b2 b3 b4 b5 b6 b7 b8 b9 oa w_146 r st rc na tp cn rh sr th_157 mk us fi se ki_158 va_159 li ct od ne ro ou)) [0, 1, 2, 3, 4, 5, 7, 8, 9, 10, 11, 12, 13, 14, 15, 16, 6] (by decide) rfl
                        have hP : va_P (dC, dI) vwCl (wL cI cZ cL h a1 a2 a3 a4 a5 hm b1 b2 b3 b4 b5 b6 b7 b8 b9 oa w_146 r st rc na tp cn rh sr th_157 mk us fi se ki_158 va_159 li ct od ne ro ou) _ := hP
                        have hD : va_D A (wL cI cZ cL h a1 a2 a3 a4 a5 hm b1 b2 b3 b4 b5 b6 b7 b8 b9 oa w_146 r st rc na tp cn rh sr th_157 mk us fi se ki_158 va_159 li ct od ne ro ou) := hD
                        refine lv_aload_n hx hb dL_law_534 rfl (lv_at hl 3 rfl) ?_
                        obtain ⟨v160, hv, hf⟩ := bd hf
                        refine q_ci (wr := [(h, .inr (0, [.ref a1, .ref a2, .ref a3, .ref a4, .ref a5, .int tp, .int cn, .int rh, .int sr])), (a1, .inl (cI, 256, .inl w_146)), (a2, .inl (cI, 8, .inl r)), (a3, .inl (cI, 128, .inl st)), (a4, .inl (cI, 128, .inl rc)), (a5, .inl (cI, 256, .inl na)), (oa, .inl (cL, 1, .inr (.inl ou)))]) (va_runV (As := []) (rest := []) ⟨hx, hb, hml, hown, hts⟩ (ctX1_thrown l dC dI cI cZ cL hm b1 b2 b3 b4 b5 b6 b7 b8 b9 _ th_157 mk us fi se ki_158 va_159 li ct od ne ro v160 hv) (cwV 0 hts (gV mw_482 mw_483 mw_484 mw_40 mw_485) rfl rfl rfl (by decide +kernel) ⟨Nat.le_of_ble_eq_true rfl, Nat.le_of_ble_eq_true rfl⟩) (q_preV [] hK hP hD [6, 7, 8, 9, 10, 11, 12, 13, 14, 15] (by decide) rfl (ci := 1) rfl rfl) rfl rfl hl.1 rfl (lv_room (Nat.le_of_ble_eq_true rfl)) dL_law_535 ⟨q_rc (by omega), q_rs (by omega)⟩) hP hD hS hA [6, 7, 8, 9, 10, 11, 12, 13, 14, 15] [0, 1, 2, 3, 4, 5, 16] rfl rfl (by decide) (by decide) (fun H locs hP hD hS => ?_)
                        have hP := hP.sub (ws' := (wL cI cZ cL h a1 a2 a3 a4 a5 hm b1 b2 b3 b4 b5 b6 b7 b8 b9 oa w_146 r st rc na tp cn rh sr th_157 mk us fi se ki_158 va_159 li ct od ne ro ou)) [0, 1, 2, 3, 4, 5, 7, 8, 9, 10, 11, 12, 13, 14, 15, 16, 6] rfl
                        have hD := hD.sub (ws' := (wL cI cZ cL h a1 a2 a3 a4 a5 hm b1 b2 b3 b4 b5 b6 b7 b8 b9 oa w_146 r st rc na tp cn rh sr th_157 mk us fi se ki_158 va_159 li ct od ne ro ou)) [0, 1, 2, 3, 4, 5, 7, 8, 9, 10, 11, 12, 13, 14, 15, 16, 6] (by decide) rfl
                        have hP : va_P (dC, dI) vwCl (wL cI cZ cL h a1 a2 a3 a4 a5 hm b1 b2 b3 b4 b5 b6 b7 b8 b9 oa w_146 r st rc na tp cn rh sr th_157 mk us fi se ki_158 va_159 li ct od ne ro ou) _ := hP
                        have hD : va_D A (wL cI cZ cL h a1 a2 a3 a4 a5 hm b1 b2 b3 b4 b5 b6 b7 b8 b9 oa w_146 r st rc na tp cn rh sr th_157 mk us fi se ki_158 va_159 li ct od ne ro ou) := hD
                        refine lv_iload hx hb dL_law_538 (lv_at hl 0 rfl) ?_
                        refine lv_icmp_eq (tgt := 545) hx hb dL_law_540 (by decide) (fun h161 => ?_) (fun h161 => ?_)
                        · have hf := ift h161 hf
                          refine lv_goto (tgt := 910) hx hb dL_law_545 (by decide) ?_
                          refine lv_iinc (v := x4_ + (5 : Int32)) hx hb dL_law_910 hl (k := 5) rfl (by rfl) (by decide) rfl (fun ls hl => ?_)
                          have hl : lv_has ls 7 [(4, .int (x4_ + (5 : Int32))), (5, .int v145), (0, .ref b), (1, .ref h), (2, .ref hm), (3, .ref oa)] := hl
                          refine lv_goto (tgt := 23) hx hb dL_law_913 (by decide) ?_
                          exact ih _ _ _ _ _ _ _ _ _ _ _ _ _ _ _ _ _ _ _ _ _ _ _ _ _ _ _ _ _ _ _ _ _ _ _ _ _ _ _ _ _ _ _ _ _ _ hf _ _ _ _ _ (by omega) (by omega) hP hD hS (lv_sub hl [2, 3, 4, 5, 0] rfl) k0
                        · have hf := ifn h161 hf
                          refine lv_iconst (v := (0 : Int32)) hx hb dL_law_543 (by decide) ?_
                          cases hf
                  · replace hf := ifn (fun z => hk6 (exx.trans z)) hf
                    by_cases hk7 : xx3 = (7 : Int32)
                    · replace hf := ift (exx.symm.trans hk7) hf
                      subst hk7
                      refine lv_tableIn (tgt := 548) hx hb dL_law_39 (by decide) (by decide) rfl (by decide) ?_
                      refine lv_aload_n hx hb dL_law_548 rfl (lv_at hl 1 rfl) ?_
                      refine lv_aload_n hx hb dL_law_549 rfl (lv_at hl 0 rfl) ?_
                      refine lv_iload hx hb dL_law_550 (lv_at hl 4 rfl) ?_
                      refine lv_iconst (v := (1 : Int32)) hx hb dL_law_552 (by decide) ?_
                      refine lv_iadd hx hb dL_law_553 ?_
                      obtain ⟨v162, hv, hf⟩ := bd hf
                      refine q_sld hx hb hX hbl hbA hS hv dL_law_554 ?_
                      refine lv_aload_n hx hb dL_law_555 rfl (lv_at hl 0 rfl) ?_
                      refine lv_iload hx hb dL_law_556 (lv_at hl 4 rfl) ?_
                      refine lv_iconst (v := (2 : Int32)) hx hb dL_law_558 (by decide) ?_
                      refine lv_iadd hx hb dL_law_559 ?_
                      obtain ⟨v163, hv, hf⟩ := bd hf
                      refine q_sld hx hb hX hbl hbA hS hv dL_law_560 ?_
                      refine lv_aload_n hx hb dL_law_561 rfl (lv_at hl 0 rfl) ?_
                      refine lv_iload hx hb dL_law_562 (lv_at hl 4 rfl) ?_
                      refine lv_iconst (v := (3 : Int32)) hx hb dL_law_564 (by decide) ?_
                      refine lv_iadd hx hb dL_law_565 ?_
                      obtain ⟨v164, hv, hf⟩ := bd hf
                      refine q_sld hx hb hX hbl hbA hS hv dL_law_566 ?_
                      refine lv_aload_n hx hb dL_law_567 rfl (lv_at hl 3 rfl) ?_
                      obtain ⟨⟨v165, r_166, ou_167⟩, hv, hf⟩ := bd hf
                      dsimp only at hf
                      refine q_wi (wr := [(hm, .inr (1, [.int th, .int mk, .ref b1, .ref b2, .ref b3, .ref b4, .ref b5, .ref b6, .int ct, .ref b7, .ref b8, .ref b9])), (b1, .inl (cZ, 128, .inl us)), (b2, .inl (cI, 128, .inl fi)), (b3, .inl (cI, 128, .inl se)), (b4, .inl (cI, 768, .inl ki)), (b5, .inl (cI, 768, .inl va)), (b6, .inl (cZ, 128, .inl li)), (b7, .inl (cI, 128, .inl od)), (b8, .inl (cI, 128, .inl ne)), (b9, .inl (cI, 8, .inl ro))]) (vx_runSX (As := [.ref h, .int v162, .int v163, .int v164, .ref oa]) (rest := []) ⟨hx, hb, hml, hown, hts⟩ (ctL_follow l hlt dC dI cI cZ cL h a1 a2 a3 a4 a5 oa _ w r st rc na tp cn rh sr ou v162 v163 v164 v165 r_166 ou_167 hv) (vx_cwSW 5 hts (gW mw_397 mw_398 mw_37 mw_399) rfl rfl rfl (by decide +kernel) ⟨Nat.le_of_ble_eq_true rfl, Nat.le_of_ble_eq_true rfl⟩) (q_preWS [.ref h, .int v162, .int v163, .int v164, .ref oa] hK hP hD hS hA hZ0 hT hN hC [0, 1, 2, 3, 4, 5, 16] (by decide) rfl) rfl rfl hl.1 rfl (lv_room (Nat.le_of_ble_eq_true rfl)) dL_law_568 ⟨q_rc (by omega), q_rs (by omega)⟩) hP hD hS hA [0, 1, 2, 3, 4, 5, 16] [6, 7, 8, 9, 10, 11, 12, 13, 14, 15] rfl rfl (by decide) (by decide) (fun H locs hP hD hS => ?_)
                      have hP := hP.sub (ws' := (wL cI cZ cL h a1 a2 a3 a4 a5 hm b1 b2 b3 b4 b5 b6 b7 b8 b9 oa w r_166 st rc na tp cn rh sr th mk us fi se ki va li ct od ne ro ou_167)) [10, 11, 12, 13, 14, 15, 0, 1, 2, 3, 4, 5, 6, 7, 8, 9, 16] rfl
                      have hD := hD.sub (ws' := (wL cI cZ cL h a1 a2 a3 a4 a5 hm b1 b2 b3 b4 b5 b6 b7 b8 b9 oa w r_166 st rc na tp cn rh sr th mk us fi se ki va li ct od ne ro ou_167)) [10, 11, 12, 13, 14, 15, 0, 1, 2, 3, 4, 5, 6, 7, 8, 9, 16] (by decide) rfl
                      have hP : va_P (dC, dI) vwCl (wL cI cZ cL h a1 a2 a3 a4 a5 hm b1 b2 b3 b4 b5 b6 b7 b8 b9 oa w r_166 st rc na tp cn rh sr th mk us fi se ki va li ct od ne ro ou_167) _ := hP
                      have hD : va_D A (wL cI cZ cL h a1 a2 a3 a4 a5 hm b1 b2 b3 b4 b5 b6 b7 b8 b9 oa w r_166 st rc na tp cn rh sr th mk us fi se ki va li ct od ne ro ou_167) := hD
                      refine lv_istore hx hb dL_law_571 hl (by decide) rfl (fun ls hl => ?_)
                      have hl : lv_has ls 7 [(5, .int v165), (0, .ref b), (1, .ref h), (2, .ref hm), (3, .ref oa), (4, .int x4_)] := hl
                      refine lv_aload_n hx hb dL_law_573 rfl (lv_at hl 3 rfl) ?_
                      refine lv_aload_n hx hb dL_law_574 rfl (lv_at hl 1 rfl) ?_
                      refine lv_iload hx hb dL_law_575 (lv_at hl 5 rfl) ?_
                      refine lv_iconst (v := (1 : Int32)) hx hb dL_law_577 (by decide) ?_
                      refine lv_iadd hx hb dL_law_578 ?_
                      obtain ⟨v168, hv, hf⟩ := bd hf
                      refine q_sld hx hb hX hbl hbA hS hv dL_law_579 ?_
                      refine lv_aload_n hx hb dL_law_580 rfl (lv_at hl 1 rfl) ?_
                      refine lv_iload hx hb dL_law_581 (lv_at hl 5 rfl) ?_
                      refine lv_iconst (v := (2 : Int32)) hx hb dL_law_583 (by decide) ?_
                      refine lv_iadd hx hb dL_law_584 ?_
                      obtain ⟨v169, hv, hf⟩ := bd hf
                      refine q_sld hx hb hX hbl hbA hS hv dL_law_585 ?_
                      refine lv_aload_n hx hb dL_law_586 rfl (lv_at hl 1 rfl) ?_
                      refine lv_iload hx hb dL_law_587 (lv_at hl 5 rfl) ?_
                      refine lv_iconst (v := (3 : Int32)) hx hb dL_law_589 (by decide) ?_
                      refine lv_iadd hx hb dL_law_590 ?_
                      obtain ⟨v170, hv, hf⟩ := bd hf
                      refine q_sld hx hb hX hbl hbA hS hv dL_law_591 ?_
                      obtain ⟨⟨v171, th_172, ro_173⟩, hv, hf⟩ := bd hf
                      dsimp only at hf
                      refine q_ci (wr := [(h, .inr (0, [.ref a1, .ref a2, .ref a3, .ref a4, .ref a5, .int tp, .int cn, .int rh, .int sr])), (a1, .inl (cI, 256, .inl w)), (a2, .inl (cI, 8, .inl r_166)), (a3, .inl (cI, 128, .inl st)), (a4, .inl (cI, 128, .inl rc)), (a5, .inl (cI, 256, .inl na)), (oa, .inl (cL, 1, .inr (.inl ou_167)))]) (va_runV (As := [.int v168, .int v169, .int v170]) (rest := []) ⟨hx, hb, hml, hown, hts⟩ (ctX1_follow l dC dI cI cZ cL hm b1 b2 b3 b4 b5 b6 b7 b8 b9 _ th mk us fi se ki va li ct od ne ro v168 v169 v170 v171 th_172 ro_173 hv) (cwV 3 hts (gV mw_568 mw_569 mw_570 mw_40 mw_571) rfl rfl rfl (by decide +kernel) ⟨Nat.le_of_ble_eq_true rfl, Nat.le_of_ble_eq_true rfl⟩) (q_preV [.int v168, .int v169, .int v170] hK hP hD [6, 7, 8, 9, 10, 11, 12, 13, 14, 15] (by decide) rfl (ci := 1) rfl rfl) rfl rfl hl.1 rfl (lv_room (Nat.le_of_ble_eq_true rfl)) dL_law_592 ⟨q_rc (by omega), q_rs (by omega)⟩) hP hD hS hA [6, 7, 8, 9, 10, 11, 12, 13, 14, 15] [0, 1, 2, 3, 4, 5, 16] rfl rfl (by decide) (by decide) (fun H locs hP hD hS => ?_)
                      have hP := hP.sub (ws' := (wL cI cZ cL h a1 a2 a3 a4 a5 hm b1 b2 b3 b4 b5 b6 b7 b8 b9 oa w r_166 st rc na tp cn rh sr th_172 mk us fi se ki va li ct od ne ro_173 ou_167)) [0, 1, 2, 3, 4, 5, 7, 8, 9, 10, 11, 12, 13, 14, 15, 16, 6] rfl
                      have hD := hD.sub (ws' := (wL cI cZ cL h a1 a2 a3 a4 a5 hm b1 b2 b3 b4 b5 b6 b7 b8 b9 oa w r_166 st rc na tp cn rh sr th_172 mk us fi se ki va li ct od ne ro_173 ou_167)) [0, 1, 2, 3, 4, 5, 7, 8, 9, 10, 11, 12, 13, 14, 15, 16, 6] (by decide) rfl
                      have hP : va_P (dC, dI) vwCl (wL cI cZ cL h a1 a2 a3 a4 a5 hm b1 b2 b3 b4 b5 b6 b7 b8 b9 oa w r_166 st rc na tp cn rh sr th_172 mk us fi se ki va li ct od ne ro_173 ou_167) _ := hP
                      have hD : va_D A (wL cI cZ cL h a1 a2 a3 a4 a5 hm b1 b2 b3 b4 b5 b6 b7 b8 b9 oa w r_166 st rc na tp cn rh sr th_172 mk us fi se ki va li ct od ne ro_173 ou_167) := hD
                      refine lv_istore hx hb dL_law_595 hl (by decide) rfl (fun ls hl => ?_)
                      have hl : lv_has ls 7 [(6, .int v171), (5, .int v165), (0, .ref b), (1, .ref h), (2, .ref hm), (3, .ref oa), (4, .int x4_)] := hl
                      refine lv_aload_n hx hb dL_law_597 rfl (lv_at hl 4 rfl) ?_
                      obtain ⟨v174, hv, hf⟩ := bd hf
                      refine q_ci (wr := [(h, .inr (0, [.ref a1, .ref a2, .ref a3, .ref a4, .ref a5, .int tp, .int cn, .int rh, .int sr])), (a1, .inl (cI, 256, .inl w)), (a2, .inl (cI, 8, .inl r_166)), (a3, .inl (cI, 128, .inl st)), (a4, .inl (cI, 128, .inl rc)), (a5, .inl (cI, 256, .inl na)), (oa, .inl (cL, 1, .inr (.inl ou_167)))]) (va_runV (As := []) (rest := []) ⟨hx, hb, hml, hown, hts⟩ (ctX1_thrown l dC dI cI cZ cL hm b1 b2 b3 b4 b5 b6 b7 b8 b9 _ th_172 mk us fi se ki va li ct od ne ro_173 v174 hv) (cwV 0 hts (gV mw_482 mw_483 mw_484 mw_40 mw_485) rfl rfl rfl (by decide +kernel) ⟨Nat.le_of_ble_eq_true rfl, Nat.le_of_ble_eq_true rfl⟩) (q_preV [] hK hP hD [6, 7, 8, 9, 10, 11, 12, 13, 14, 15] (by decide) rfl (ci := 1) rfl rfl) rfl rfl hl.1 rfl (lv_room (Nat.le_of_ble_eq_true rfl)) dL_law_598 ⟨q_rc (by omega), q_rs (by omega)⟩) hP hD hS hA [6, 7, 8, 9, 10, 11, 12, 13, 14, 15] [0, 1, 2, 3, 4, 5, 16] rfl rfl (by decide) (by decide) (fun H locs hP hD hS => ?_)
                      have hP := hP.sub (ws' := (wL cI cZ cL h a1 a2 a3 a4 a5 hm b1 b2 b3 b4 b5 b6 b7 b8 b9 oa w r_166 st rc na tp cn rh sr th_172 mk us fi se ki va li ct od ne ro_173 ou_167)) [0, 1, 2, 3, 4, 5, 7, 8, 9, 10, 11, 12, 13, 14, 15, 16, 6] rfl
                      have hD := hD.sub (ws' := (wL cI cZ cL h a1 a2 a3 a4 a5 hm b1 b2 b3 b4 b5 b6 b7 b8 b9 oa w r_166 st rc na tp cn rh sr th_172 mk us fi se ki va li ct od ne ro_173 ou_167)) [0, 1, 2, 3, 4, 5, 7, 8, 9, 10, 11, 12, 13, 14, 15, 16, 6] (by decide) rfl
                      have hP : va_P (dC, dI) vwCl (wL cI cZ cL h a1 a2 a3 a4 a5 hm b1 b2 b3 b4 b5 b6 b7 b8 b9 oa w r_166 st rc na tp cn rh sr th_172 mk us fi se ki va li ct od ne ro_173 ou_167) _ := hP
                      have hD : va_D A (wL cI cZ cL h a1 a2 a3 a4 a5 hm b1 b2 b3 b4 b5 b6 b7 b8 b9 oa w r_166 st rc na tp cn rh sr th_172 mk us fi se ki va li ct od ne ro_173 ou_167) := hD
                      refine lv_iload hx hb dL_law_601 (lv_at hl 1 rfl) ?_
                      refine lv_icmp_eq (tgt := 608) hx hb dL_law_603 (by decide) (fun h175 => ?_) (fun h175 => ?_)
                      · have hf := ift h175 hf
                        refine lv_iload hx hb dL_law_608 (lv_at hl 1 rfl) ?_
                        refine lv_if_ne (tgt := 632) hx hb dL_law_610 (by decide) (fun h176 => ?_) (fun h176 => ?_)
                        · have hf := ifn h176 hf
                          refine lv_goto (tgt := 910) hx hb dL_law_632 (by decide) ?_
                          refine lv_iinc (v := x4_ + (5 : Int32)) hx hb dL_law_910 hl (k := 6) rfl (by rfl) (by decide) rfl (fun ls hl => ?_)
                          have hl : lv_has ls 7 [(4, .int (x4_ + (5 : Int32))), (6, .int v171), (5, .int v165), (0, .ref b), (1, .ref h), (2, .ref hm), (3, .ref oa)] := hl
                          refine lv_goto (tgt := 23) hx hb dL_law_913 (by decide) ?_
                          exact ih _ _ _ _ _ _ _ _ _ _ _ _ _ _ _ _ _ _ _ _ _ _ _ _ _ _ _ _ _ _ _ _ _ _ _ _ _ _ _ _ _ _ _ _ _ _ hf _ _ _ _ _ (by omega) (by omega) hP hD hS (lv_sub hl [3, 4, 5, 6, 0] rfl) k0
                        · have hf := ift h176 hf
                          refine lv_aload_n hx hb dL_law_613 rfl (lv_at hl 5 rfl) ?_
                          refine lv_iconst (v := (0 : Int32)) hx hb dL_law_614 (by decide) ?_
                          obtain ⟨v177, hv, hf⟩ := bd hf
                          refine q_lld hx hb hK hP 16 2 rfl rfl hv dL_law_615 ?_
                          refine lv_iload hx hb dL_law_616 (lv_at hl 0 rfl) ?_
                          refine lv_if_eq (tgt := 625) hx hb dL_law_618 (by decide) (fun h178 => ?_) (fun h178 => ?_)
                          · have hf := ift h178 hf
                            refine lv_lconst (v := 0) hx hb dL_law_625 (by decide) ?_
                            refine W.lcmp hx hb dL_law_626 ?_
                            refine lv_if_eq (tgt := 632) hx hb dL_law_627 (by decide) (fun h179 => ?_) (fun h179 => ?_)
                            · have hf := ift h179 hf
                              refine lv_goto (tgt := 910) hx hb dL_law_632 (by decide) ?_
                              refine lv_iinc (v := x4_ + (5 : Int32)) hx hb dL_law_910 hl (k := 6) rfl (by rfl) (by decide) rfl (fun ls hl => ?_)
                              have hl : lv_has ls 7 [(4, .int (x4_ + (5 : Int32))), (6, .int v171), (5, .int v165), (0, .ref b), (1, .ref h), (2, .ref hm), (3, .ref oa)] := hl
                              refine lv_goto (tgt := 23) hx hb dL_law_913 (by decide) ?_
                              exact ih _ _ _ _ _ _ _ _ _ _ _ _ _ _ _ _ _ _ _ _ _ _ _ _ _ _ _ _ _ _ _ _ _ _ _ _ _ _ _ _ _ _ _ _ _ _ hf _ _ _ _ _ (by omega) (by omega) hP hD hS (lv_sub hl [3, 4, 5, 6, 0] rfl) k0
                            · have hf := ifn h179 hf
                              refine lv_iconst (v := (0 : Int32)) hx hb dL_law_630 (by decide) ?_
                              cases hf
                          · have hf := ifn h178 hf
                            refine lv_lconst (v := 1) hx hb dL_law_621 (by decide) ?_
                            refine lv_goto (tgt := 626) hx hb dL_law_622 (by decide) ?_
                            refine W.lcmp hx hb dL_law_626 ?_
                            refine lv_if_eq (tgt := 632) hx hb dL_law_627 (by decide) (fun h180 => ?_) (fun h180 => ?_)
                            · have hf := ift h180 hf
                              refine lv_goto (tgt := 910) hx hb dL_law_632 (by decide) ?_
                              refine lv_iinc (v := x4_ + (5 : Int32)) hx hb dL_law_910 hl (k := 6) rfl (by rfl) (by decide) rfl (fun ls hl => ?_)
                              have hl : lv_has ls 7 [(4, .int (x4_ + (5 : Int32))), (6, .int v171), (5, .int v165), (0, .ref b), (1, .ref h), (2, .ref hm), (3, .ref oa)] := hl
                              refine lv_goto (tgt := 23) hx hb dL_law_913 (by decide) ?_
                              exact ih _ _ _ _ _ _ _ _ _ _ _ _ _ _ _ _ _ _ _ _ _ _ _ _ _ _ _ _ _ _ _ _ _ _ _ _ _ _ _ _ _ _ _ _ _ _ hf _ _ _ _ _ (by omega) (by omega) hP hD hS (lv_sub hl [3, 4, 5, 6, 0] rfl) k0
                            · have hf := ifn h180 hf
                              refine lv_iconst (v := (0 : Int32)) hx hb dL_law_630 (by decide) ?_
                              cases hf
                      · have hf := ifn h175 hf
                        refine lv_iconst (v := (0 : Int32)) hx hb dL_law_606 (by decide) ?_
                        cases hf
                    · replace hf := ifn (fun z => hk7 (exx.trans z)) hf
                      by_cases hk8 : xx3 = (8 : Int32)
                      · replace hf := ift (exx.symm.trans hk8) hf
                        subst hk8
                        refine lv_tableIn (tgt := 635) hx hb dL_law_39 (by decide) (by decide) rfl (by decide) ?_
                        refine lv_aload_n hx hb dL_law_635 rfl (lv_at hl 1 rfl) ?_
                        refine lv_aload_n hx hb dL_law_636 rfl (lv_at hl 0 rfl) ?_
                        refine lv_iload hx hb dL_law_637 (lv_at hl 4 rfl) ?_
                        refine lv_iconst (v := (1 : Int32)) hx hb dL_law_639 (by decide) ?_
                        refine lv_iadd hx hb dL_law_640 ?_
                        obtain ⟨v181, hv, hf⟩ := bd hf
                        refine q_sld hx hb hX hbl hbA hS hv dL_law_641 ?_
                        refine lv_aload_n hx hb dL_law_642 rfl (lv_at hl 0 rfl) ?_
                        refine lv_iload hx hb dL_law_643 (lv_at hl 4 rfl) ?_
                        refine lv_iconst (v := (2 : Int32)) hx hb dL_law_645 (by decide) ?_
                        refine lv_iadd hx hb dL_law_646 ?_
                        obtain ⟨v182, hv, hf⟩ := bd hf
                        refine q_sld hx hb hX hbl hbA hS hv dL_law_647 ?_
                        refine lv_aload_n hx hb dL_law_648 rfl (lv_at hl 3 rfl) ?_
                        obtain ⟨⟨v183, ou_184⟩, hv, hf⟩ := bd hf
                        dsimp only at hf
                        refine q_wi (wr := [(hm, .inr (1, [.int th, .int mk, .ref b1, .ref b2, .ref b3, .ref b4, .ref b5, .ref b6, .int ct, .ref b7, .ref b8, .ref b9])), (b1, .inl (cZ, 128, .inl us)), (b2, .inl (cI, 128, .inl fi)), (b3, .inl (cI, 128, .inl se)), (b4, .inl (cI, 768, .inl ki)), (b5, .inl (cI, 768, .inl va)), (b6, .inl (cZ, 128, .inl li)), (b7, .inl (cI, 128, .inl od)), (b8, .inl (cI, 128, .inl ne)), (b9, .inl (cI, 8, .inl ro))]) (vx_runSX (As := [.ref h, .int v181, .int v182, .ref oa]) (rest := []) ⟨hx, hb, hml, hown, hts⟩ (ctL_kind l hlt dC dI cI cZ cL h a1 a2 a3 a4 a5 oa _ w r st rc na tp cn rh sr ou v181 v182 v183 ou_184 hv) (vx_cwSW 4 hts (gW mw_409 mw_410 mw_37 mw_411) rfl rfl rfl (by decide +kernel) ⟨Nat.le_of_ble_eq_true rfl, Nat.le_of_ble_eq_true rfl⟩) (q_preWS [.ref h, .int v181, .int v182, .ref oa] hK hP hD hS hA hZ0 hT hN hC [0, 1, 2, 3, 4, 5, 16] (by decide) rfl) rfl rfl hl.1 rfl (lv_room (Nat.le_of_ble_eq_true rfl)) dL_law_649 ⟨q_rc (by omega), q_rs (by omega)⟩) hP hD hS hA [0, 1, 2, 3, 4, 5, 16] [6, 7, 8, 9, 10, 11, 12, 13, 14, 15] rfl rfl (by decide) (by decide) (fun H locs hP hD hS => ?_)
                        have hP := hP.sub (ws' := (wL cI cZ cL h a1 a2 a3 a4 a5 hm b1 b2 b3 b4 b5 b6 b7 b8 b9 oa w r st rc na tp cn rh sr th mk us fi se ki va li ct od ne ro ou_184)) [10, 11, 12, 13, 14, 15, 0, 1, 2, 3, 4, 5, 6, 7, 8, 9, 16] rfl
                        have hD := hD.sub (ws' := (wL cI cZ cL h a1 a2 a3 a4 a5 hm b1 b2 b3 b4 b5 b6 b7 b8 b9 oa w r st rc na tp cn rh sr th mk us fi se ki va li ct od ne ro ou_184)) [10, 11, 12, 13, 14, 15, 0, 1, 2, 3, 4, 5, 6, 7, 8, 9, 16] (by decide) rfl
                        have hP : va_P (dC, dI) vwCl (wL cI cZ cL h a1 a2 a3 a4 a5 hm b1 b2 b3 b4 b5 b6 b7 b8 b9 oa w r st rc na tp cn rh sr th mk us fi se ki va li ct od ne ro ou_184) _ := hP
                        have hD : va_D A (wL cI cZ cL h a1 a2 a3 a4 a5 hm b1 b2 b3 b4 b5 b6 b7 b8 b9 oa w r st rc na tp cn rh sr th mk us fi se ki va li ct od ne ro ou_184) := hD
                        refine lv_istore hx hb dL_law_652 hl (by decide) rfl (fun ls hl => ?_)
                        have hl : lv_has ls 7 [(5, .int v183), (0, .ref b), (1, .ref h), (2, .ref hm), (3, .ref oa), (4, .int x4_)] := hl
                        refine lv_aload_n hx hb dL_law_654 rfl (lv_at hl 3 rfl) ?_
                        refine lv_aload_n hx hb dL_law_655 rfl (lv_at hl 1 rfl) ?_
                        refine lv_iload hx hb dL_law_656 (lv_at hl 5 rfl) ?_
                        refine lv_iconst (v := (1 : Int32)) hx hb dL_law_658 (by decide) ?_
                        refine lv_iadd hx hb dL_law_659 ?_
                        obtain ⟨v185, hv, hf⟩ := bd hf
                        refine q_sld hx hb hX hbl hbA hS hv dL_law_660 ?_
                        refine lv_aload_n hx hb dL_law_661 rfl (lv_at hl 1 rfl) ?_
                        refine lv_iload hx hb dL_law_662 (lv_at hl 5 rfl) ?_
                        refine lv_iconst (v := (2 : Int32)) hx hb dL_law_664 (by decide) ?_
                        refine lv_iadd hx hb dL_law_665 ?_
                        obtain ⟨v186, hv, hf⟩ := bd hf
                        refine q_sld hx hb hX hbl hbA hS hv dL_law_666 ?_
                        obtain ⟨⟨v187, th_188⟩, hv, hf⟩ := bd hf
                        dsimp only at hf
                        refine q_ci (wr := [(h, .inr (0, [.ref a1, .ref a2, .ref a3, .ref a4, .ref a5, .int tp, .int cn, .int rh, .int sr])), (a1, .inl (cI, 256, .inl w)), (a2, .inl (cI, 8, .inl r)), (a3, .inl (cI, 128, .inl st)), (a4, .inl (cI, 128, .inl rc)), (a5, .inl (cI, 256, .inl na)), (oa, .inl (cL, 1, .inr (.inl ou_184)))]) (va_runV (As := [.int v185, .int v186]) (rest := []) ⟨hx, hb, hml, hown, hts⟩ (ctX1_kind l dC dI cI cZ cL hm b1 b2 b3 b4 b5 b6 b7 b8 b9 _ th mk us fi se ki va li ct od ne ro v185 v186 v187 th_188 hv) (cwV 2 hts (gV mw_572 mw_573 mw_574 mw_40 mw_575) rfl rfl rfl (by decide +kernel) ⟨Nat.le_of_ble_eq_true rfl, Nat.le_of_ble_eq_true rfl⟩) (q_preV [.int v185, .int v186] hK hP hD [6, 7, 8, 9, 10, 11, 12, 13, 14, 15] (by decide) rfl (ci := 1) rfl rfl) rfl rfl hl.1 rfl (lv_room (Nat.le_of_ble_eq_true rfl)) dL_law_667 ⟨q_rc (by omega), q_rs (by omega)⟩) hP hD hS hA [6, 7, 8, 9, 10, 11, 12, 13, 14, 15] [0, 1, 2, 3, 4, 5, 16] rfl rfl (by decide) (by decide) (fun H locs hP hD hS => ?_)
                        have hP := hP.sub (ws' := (wL cI cZ cL h a1 a2 a3 a4 a5 hm b1 b2 b3 b4 b5 b6 b7 b8 b9 oa w r st rc na tp cn rh sr th_188 mk us fi se ki va li ct od ne ro ou_184)) [0, 1, 2, 3, 4, 5, 7, 8, 9, 10, 11, 12, 13, 14, 15, 16, 6] rfl
                        have hD := hD.sub (ws' := (wL cI cZ cL h a1 a2 a3 a4 a5 hm b1 b2 b3 b4 b5 b6 b7 b8 b9 oa w r st rc na tp cn rh sr th_188 mk us fi se ki va li ct od ne ro ou_184)) [0, 1, 2, 3, 4, 5, 7, 8, 9, 10, 11, 12, 13, 14, 15, 16, 6] (by decide) rfl
                        have hP : va_P (dC, dI) vwCl (wL cI cZ cL h a1 a2 a3 a4 a5 hm b1 b2 b3 b4 b5 b6 b7 b8 b9 oa w r st rc na tp cn rh sr th_188 mk us fi se ki va li ct od ne ro ou_184) _ := hP
                        have hD : va_D A (wL cI cZ cL h a1 a2 a3 a4 a5 hm b1 b2 b3 b4 b5 b6 b7 b8 b9 oa w r st rc na tp cn rh sr th_188 mk us fi se ki va li ct od ne ro ou_184) := hD
                        refine lv_istore hx hb dL_law_670 hl (by decide) rfl (fun ls hl => ?_)
                        have hl : lv_has ls 7 [(6, .int v187), (5, .int v183), (0, .ref b), (1, .ref h), (2, .ref hm), (3, .ref oa), (4, .int x4_)] := hl
                        refine lv_aload_n hx hb dL_law_672 rfl (lv_at hl 4 rfl) ?_
                        obtain ⟨v189, hv, hf⟩ := bd hf
                        refine q_ci (wr := [(h, .inr (0, [.ref a1, .ref a2, .ref a3, .ref a4, .ref a5, .int tp, .int cn, .int rh, .int sr])), (a1, .inl (cI, 256, .inl w)), (a2, .inl (cI, 8, .inl r)), (a3, .inl (cI, 128, .inl st)), (a4, .inl (cI, 128, .inl rc)), (a5, .inl (cI, 256, .inl na)), (oa, .inl (cL, 1, .inr (.inl ou_184)))]) (va_runV (As := []) (rest := []) ⟨hx, hb, hml, hown, hts⟩ (ctX1_thrown l dC dI cI cZ cL hm b1 b2 b3 b4 b5 b6 b7 b8 b9 _ th_188 mk us fi se ki va li ct od ne ro v189 hv) (cwV 0 hts (gV mw_482 mw_483 mw_484 mw_40 mw_485) rfl rfl rfl (by decide +kernel) ⟨Nat.le_of_ble_eq_true rfl, Nat.le_of_ble_eq_true rfl⟩) (q_preV [] hK hP hD [6, 7, 8, 9, 10, 11, 12, 13, 14, 15] (by decide) rfl (ci := 1) rfl rfl) rfl rfl hl.1 rfl (lv_room (Nat.le_of_ble_eq_true rfl)) dL_law_673 ⟨q_rc (by omega), q_rs (by omega)⟩) hP hD hS hA [6, 7, 8, 9, 10, 11, 12, 13, 14, 15] [0, 1, 2, 3, 4, 5, 16] rfl rfl (by decide) (by decide) (fun H locs hP hD hS => ?_)
                        have hP := hP.sub (ws' := (wL cI cZ cL h a1 a2 a3 a4 a5 hm b1 b2 b3 b4 b5 b6 b7 b8 b9 oa w r st rc na tp cn rh sr th_188 mk us fi se ki va li ct od ne ro ou_184)) [0, 1, 2, 3, 4, 5, 7, 8, 9, 10, 11, 12, 13, 14, 15, 16, 6] rfl
                        have hD := hD.sub (ws' := (wL cI cZ cL h a1 a2 a3 a4 a5 hm b1 b2 b3 b4 b5 b6 b7 b8 b9 oa w r st rc na tp cn rh sr th_188 mk us fi se ki va li ct od ne ro ou_184)) [0, 1, 2, 3, 4, 5, 7, 8, 9, 10, 11, 12, 13, 14, 15, 16, 6] (by decide) rfl
                        have hP : va_P (dC, dI) vwCl (wL cI cZ cL h a1 a2 a3 a4 a5 hm b1 b2 b3 b4 b5 b6 b7 b8 b9 oa w r st rc na tp cn rh sr th_188 mk us fi se ki va li ct od ne ro ou_184) _ := hP
                        have hD : va_D A (wL cI cZ cL h a1 a2 a3 a4 a5 hm b1 b2 b3 b4 b5 b6 b7 b8 b9 oa w r st rc na tp cn rh sr th_188 mk us fi se ki va li ct od ne ro ou_184) := hD
                        refine lv_iload hx hb dL_law_676 (lv_at hl 1 rfl) ?_
                        refine lv_icmp_eq (tgt := 683) hx hb dL_law_678 (by decide) (fun h190 => ?_) (fun h190 => ?_)
                        · have hf := ift h190 hf
                          refine lv_iload hx hb dL_law_683 (lv_at hl 1 rfl) ?_
                          refine lv_if_ne (tgt := 700) hx hb dL_law_685 (by decide) (fun h191 => ?_) (fun h191 => ?_)
                          · have hf := ifn h191 hf
                            refine lv_goto (tgt := 910) hx hb dL_law_700 (by decide) ?_
                            refine lv_iinc (v := x4_ + (5 : Int32)) hx hb dL_law_910 hl (k := 6) rfl (by rfl) (by decide) rfl (fun ls hl => ?_)
                            have hl : lv_has ls 7 [(4, .int (x4_ + (5 : Int32))), (6, .int v187), (5, .int v183), (0, .ref b), (1, .ref h), (2, .ref hm), (3, .ref oa)] := hl
                            refine lv_goto (tgt := 23) hx hb dL_law_913 (by decide) ?_
                            exact ih _ _ _ _ _ _ _ _ _ _ _ _ _ _ _ _ _ _ _ _ _ _ _ _ _ _ _ _ _ _ _ _ _ _ _ _ _ _ _ _ _ _ _ _ _ _ hf _ _ _ _ _ (by omega) (by omega) hP hD hS (lv_sub hl [3, 4, 5, 6, 0] rfl) k0
                          · have hf := ift h191 hf
                            refine lv_aload_n hx hb dL_law_688 rfl (lv_at hl 5 rfl) ?_
                            refine lv_iconst (v := (0 : Int32)) hx hb dL_law_689 (by decide) ?_
                            obtain ⟨v192, hv, hf⟩ := bd hf
                            refine q_lld hx hb hK hP 16 2 rfl rfl hv dL_law_690 ?_
                            refine lv_iload hx hb dL_law_691 (lv_at hl 0 rfl) ?_
                            refine lv_i2l hx hb dL_law_693 rfl ?_
                            refine W.lcmp hx hb dL_law_694 ?_
                            refine lv_if_eq (tgt := 700) hx hb dL_law_695 (by decide) (fun h193 => ?_) (fun h193 => ?_)
                            · have hf := ift h193 hf
                              refine lv_goto (tgt := 910) hx hb dL_law_700 (by decide) ?_
                              refine lv_iinc (v := x4_ + (5 : Int32)) hx hb dL_law_910 hl (k := 6) rfl (by rfl) (by decide) rfl (fun ls hl => ?_)
                              have hl : lv_has ls 7 [(4, .int (x4_ + (5 : Int32))), (6, .int v187), (5, .int v183), (0, .ref b), (1, .ref h), (2, .ref hm), (3, .ref oa)] := hl
                              refine lv_goto (tgt := 23) hx hb dL_law_913 (by decide) ?_
                              exact ih _ _ _ _ _ _ _ _ _ _ _ _ _ _ _ _ _ _ _ _ _ _ _ _ _ _ _ _ _ _ _ _ _ _ _ _ _ _ _ _ _ _ _ _ _ _ hf _ _ _ _ _ (by omega) (by omega) hP hD hS (lv_sub hl [3, 4, 5, 6, 0] rfl) k0
                            · have hf := ifn h193 hf
                              refine lv_iconst (v := (0 : Int32)) hx hb dL_law_698 (by decide) ?_
                              cases hf
                        · have hf := ifn h190 hf
                          refine lv_iconst (v := (0 : Int32)) hx hb dL_law_681 (by decide) ?_
                          cases hf
                      · replace hf := ifn (fun z => hk8 (exx.trans z)) hf
                        by_cases hk9 : xx3 = (9 : Int32)
                        · replace hf := ift (exx.symm.trans hk9) hf
                          subst hk9
                          refine lv_tableIn (tgt := 703) hx hb dL_law_39 (by decide) (by decide) rfl (by decide) ?_
                          refine lv_aload_n hx hb dL_law_703 rfl (lv_at hl 1 rfl) ?_
                          refine lv_aload_n hx hb dL_law_704 rfl (lv_at hl 0 rfl) ?_
                          refine lv_iload hx hb dL_law_705 (lv_at hl 4 rfl) ?_
                          refine lv_iconst (v := (1 : Int32)) hx hb dL_law_707 (by decide) ?_
                          refine lv_iadd hx hb dL_law_708 ?_
                          obtain ⟨v194, hv, hf⟩ := bd hf
                          refine q_sld hx hb hX hbl hbA hS hv dL_law_709 ?_
                          refine lv_aload_n hx hb dL_law_710 rfl (lv_at hl 3 rfl) ?_
                          obtain ⟨⟨v195, ou_196⟩, hv, hf⟩ := bd hf
                          dsimp only at hf
                          refine q_wi (wr := [(hm, .inr (1, [.int th, .int mk, .ref b1, .ref b2, .ref b3, .ref b4, .ref b5, .ref b6, .int ct, .ref b7, .ref b8, .ref b9])), (b1, .inl (cZ, 128, .inl us)), (b2, .inl (cI, 128, .inl fi)), (b3, .inl (cI, 128, .inl se)), (b4, .inl (cI, 768, .inl ki)), (b5, .inl (cI, 768, .inl va)), (b6, .inl (cZ, 128, .inl li)), (b7, .inl (cI, 128, .inl od)), (b8, .inl (cI, 128, .inl ne)), (b9, .inl (cI, 8, .inl ro))]) (vx_runSX (As := [.ref h, .int v194, .ref oa]) (rest := []) ⟨hx, hb, hml, hown, hts⟩ (ctL_serial l hlt dC dI cI cZ cL h a1 a2 a3 a4 a5 oa _ w r st rc na tp cn rh sr ou v194 v195 ou_196 hv) (vx_cwSW 3 hts (gW mw_416 mw_417 mw_37 mw_418) rfl rfl rfl (by decide +kernel) ⟨Nat.le_of_ble_eq_true rfl, Nat.le_of_ble_eq_true rfl⟩) (q_preWS [.ref h, .int v194, .ref oa] hK hP hD hS hA hZ0 hT hN hC [0, 1, 2, 3, 4, 5, 16] (by decide) rfl) rfl rfl hl.1 rfl (lv_room (Nat.le_of_ble_eq_true rfl)) dL_law_711 ⟨q_rc (by omega), q_rs (by omega)⟩) hP hD hS hA [0, 1, 2, 3, 4, 5, 16] [6, 7, 8, 9, 10, 11, 12, 13, 14, 15] rfl rfl (by decide) (by decide) (fun H locs hP hD hS => ?_)
                          have hP := hP.sub (ws' := (wL cI cZ cL h a1 a2 a3 a4 a5 hm b1 b2 b3 b4 b5 b6 b7 b8 b9 oa w r st rc na tp cn rh sr th mk us fi se ki va li ct od ne ro ou_196)) [10, 11, 12, 13, 14, 15, 0, 1, 2, 3, 4, 5, 6, 7, 8, 9, 16] rfl
                          have hD := hD.sub (ws' := (wL cI cZ cL h a1 a2 a3 a4 a5 hm b1 b2 b3 b4 b5 b6 b7 b8 b9 oa w r st rc na tp cn rh sr th mk us fi se ki va li ct od ne ro ou_196)) [10, 11, 12, 13, 14, 15, 0, 1, 2, 3, 4, 5, 6, 7, 8, 9, 16] (by decide) rfl
                          have hP : va_P (dC, dI) vwCl (wL cI cZ cL h a1 a2 a3 a4 a5 hm b1 b2 b3 b4 b5 b6 b7 b8 b9 oa w r st rc na tp cn rh sr th mk us fi se ki va li ct od ne ro ou_196) _ := hP
                          have hD : va_D A (wL cI cZ cL h a1 a2 a3 a4 a5 hm b1 b2 b3 b4 b5 b6 b7 b8 b9 oa w r st rc na tp cn rh sr th mk us fi se ki va li ct od ne ro ou_196) := hD
                          refine lv_istore hx hb dL_law_714 hl (by decide) rfl (fun ls hl => ?_)
                          have hl : lv_has ls 7 [(5, .int v195), (0, .ref b), (1, .ref h), (2, .ref hm), (3, .ref oa), (4, .int x4_)] := hl
                          refine lv_aload_n hx hb dL_law_716 rfl (lv_at hl 3 rfl) ?_
                          refine lv_aload_n hx hb dL_law_717 rfl (lv_at hl 1 rfl) ?_
                          refine lv_iload hx hb dL_law_718 (lv_at hl 5 rfl) ?_
                          refine lv_iconst (v := (1 : Int32)) hx hb dL_law_720 (by decide) ?_
                          refine lv_iadd hx hb dL_law_721 ?_
                          obtain ⟨v197, hv, hf⟩ := bd hf
                          refine q_sld hx hb hX hbl hbA hS hv dL_law_722 ?_
                          obtain ⟨⟨v198, th_199⟩, hv, hf⟩ := bd hf
                          dsimp only at hf
                          refine q_ci (wr := [(h, .inr (0, [.ref a1, .ref a2, .ref a3, .ref a4, .ref a5, .int tp, .int cn, .int rh, .int sr])), (a1, .inl (cI, 256, .inl w)), (a2, .inl (cI, 8, .inl r)), (a3, .inl (cI, 128, .inl st)), (a4, .inl (cI, 128, .inl rc)), (a5, .inl (cI, 256, .inl na)), (oa, .inl (cL, 1, .inr (.inl ou_196)))]) (va_runV (As := [.int v197]) (rest := []) ⟨hx, hb, hml, hown, hts⟩ (ctX1_serial l dC dI cI cZ cL hm b1 b2 b3 b4 b5 b6 b7 b8 b9 _ th mk us fi se ki va li ct od ne ro v197 v198 th_199 hv) (cwV 1 hts (gV mw_576 mw_577 mw_578 mw_40 mw_579) rfl rfl rfl (by decide +kernel) ⟨Nat.le_of_ble_eq_true rfl, Nat.le_of_ble_eq_true rfl⟩) (q_preV [.int v197] hK hP hD [6, 7, 8, 9, 10, 11, 12, 13, 14, 15] (by decide) rfl (ci := 1) rfl rfl) rfl rfl hl.1 rfl (lv_room (Nat.le_of_ble_eq_true rfl)) dL_law_723 ⟨q_rc (by omega), q_rs (by omega)⟩) hP hD hS hA [6, 7, 8, 9, 10, 11, 12, 13, 14, 15] [0, 1, 2, 3, 4, 5, 16] rfl rfl (by decide) (by decide) (fun H locs hP hD hS => ?_)
                          have hP := hP.sub (ws' := (wL cI cZ cL h a1 a2 a3 a4 a5 hm b1 b2 b3 b4 b5 b6 b7 b8 b9 oa w r st rc na tp cn rh sr th_199 mk us fi se ki va li ct od ne ro ou_196)) [0, 1, 2, 3, 4, 5, 7, 8, 9, 10, 11, 12, 13, 14, 15, 16, 6] rfl
                          have hD := hD.sub (ws' := (wL cI cZ cL h a1 a2 a3 a4 a5 hm b1 b2 b3 b4 b5 b6 b7 b8 b9 oa w r st rc na tp cn rh sr th_199 mk us fi se ki va li ct od ne ro ou_196)) [0, 1, 2, 3, 4, 5, 7, 8, 9, 10, 11, 12, 13, 14, 15, 16, 6] (by decide) rfl
                          have hP : va_P (dC, dI) vwCl (wL cI cZ cL h a1 a2 a3 a4 a5 hm b1 b2 b3 b4 b5 b6 b7 b8 b9 oa w r st rc na tp cn rh sr th_199 mk us fi se ki va li ct od ne ro ou_196) _ := hP
                          have hD : va_D A (wL cI cZ cL h a1 a2 a3 a4 a5 hm b1 b2 b3 b4 b5 b6 b7 b8 b9 oa w r st rc na tp cn rh sr th_199 mk us fi se ki va li ct od ne ro ou_196) := hD
                          refine lv_istore hx hb dL_law_726 hl (by decide) rfl (fun ls hl => ?_)
                          have hl : lv_has ls 7 [(6, .int v198), (5, .int v195), (0, .ref b), (1, .ref h), (2, .ref hm), (3, .ref oa), (4, .int x4_)] := hl
                          refine lv_aload_n hx hb dL_law_728 rfl (lv_at hl 4 rfl) ?_
                          obtain ⟨v200, hv, hf⟩ := bd hf
                          refine q_ci (wr := [(h, .inr (0, [.ref a1, .ref a2, .ref a3, .ref a4, .ref a5, .int tp, .int cn, .int rh, .int sr])), (a1, .inl (cI, 256, .inl w)), (a2, .inl (cI, 8, .inl r)), (a3, .inl (cI, 128, .inl st)), (a4, .inl (cI, 128, .inl rc)), (a5, .inl (cI, 256, .inl na)), (oa, .inl (cL, 1, .inr (.inl ou_196)))]) (va_runV (As := []) (rest := []) ⟨hx, hb, hml, hown, hts⟩ (ctX1_thrown l dC dI cI cZ cL hm b1 b2 b3 b4 b5 b6 b7 b8 b9 _ th_199 mk us fi se ki va li ct od ne ro v200 hv) (cwV 0 hts (gV mw_482 mw_483 mw_484 mw_40 mw_485) rfl rfl rfl (by decide +kernel) ⟨Nat.le_of_ble_eq_true rfl, Nat.le_of_ble_eq_true rfl⟩) (q_preV [] hK hP hD [6, 7, 8, 9, 10, 11, 12, 13, 14, 15] (by decide) rfl (ci := 1) rfl rfl) rfl rfl hl.1 rfl (lv_room (Nat.le_of_ble_eq_true rfl)) dL_law_729 ⟨q_rc (by omega), q_rs (by omega)⟩) hP hD hS hA [6, 7, 8, 9, 10, 11, 12, 13, 14, 15] [0, 1, 2, 3, 4, 5, 16] rfl rfl (by decide) (by decide) (fun H locs hP hD hS => ?_)
                          have hP := hP.sub (ws' := (wL cI cZ cL h a1 a2 a3 a4 a5 hm b1 b2 b3 b4 b5 b6 b7 b8 b9 oa w r st rc na tp cn rh sr th_199 mk us fi se ki va li ct od ne ro ou_196)) [0, 1, 2, 3, 4, 5, 7, 8, 9, 10, 11, 12, 13, 14, 15, 16, 6] rfl
                          have hD := hD.sub (ws' := (wL cI cZ cL h a1 a2 a3 a4 a5 hm b1 b2 b3 b4 b5 b6 b7 b8 b9 oa w r st rc na tp cn rh sr th_199 mk us fi se ki va li ct od ne ro ou_196)) [0, 1, 2, 3, 4, 5, 7, 8, 9, 10, 11, 12, 13, 14, 15, 16, 6] (by decide) rfl
                          have hP : va_P (dC, dI) vwCl (wL cI cZ cL h a1 a2 a3 a4 a5 hm b1 b2 b3 b4 b5 b6 b7 b8 b9 oa w r st rc na tp cn rh sr th_199 mk us fi se ki va li ct od ne ro ou_196) _ := hP
                          have hD : va_D A (wL cI cZ cL h a1 a2 a3 a4 a5 hm b1 b2 b3 b4 b5 b6 b7 b8 b9 oa w r st rc na tp cn rh sr th_199 mk us fi se ki va li ct od ne ro ou_196) := hD
                          refine lv_iload hx hb dL_law_732 (lv_at hl 1 rfl) ?_
                          refine lv_icmp_eq (tgt := 739) hx hb dL_law_734 (by decide) (fun h201 => ?_) (fun h201 => ?_)
                          · have hf := ift h201 hf
                            refine lv_iload hx hb dL_law_739 (lv_at hl 1 rfl) ?_
                            refine lv_if_ne (tgt := 756) hx hb dL_law_741 (by decide) (fun h202 => ?_) (fun h202 => ?_)
                            · have hf := ifn h202 hf
                              refine lv_goto (tgt := 910) hx hb dL_law_756 (by decide) ?_
                              refine lv_iinc (v := x4_ + (5 : Int32)) hx hb dL_law_910 hl (k := 6) rfl (by rfl) (by decide) rfl (fun ls hl => ?_)
                              have hl : lv_has ls 7 [(4, .int (x4_ + (5 : Int32))), (6, .int v198), (5, .int v195), (0, .ref b), (1, .ref h), (2, .ref hm), (3, .ref oa)] := hl
                              refine lv_goto (tgt := 23) hx hb dL_law_913 (by decide) ?_
                              exact ih _ _ _ _ _ _ _ _ _ _ _ _ _ _ _ _ _ _ _ _ _ _ _ _ _ _ _ _ _ _ _ _ _ _ _ _ _ _ _ _ _ _ _ _ _ _ hf _ _ _ _ _ (by omega) (by omega) hP hD hS (lv_sub hl [3, 4, 5, 6, 0] rfl) k0
                            · have hf := ift h202 hf
                              refine lv_aload_n hx hb dL_law_744 rfl (lv_at hl 5 rfl) ?_
                              refine lv_iconst (v := (0 : Int32)) hx hb dL_law_745 (by decide) ?_
                              obtain ⟨v203, hv, hf⟩ := bd hf
                              refine q_lld hx hb hK hP 16 2 rfl rfl hv dL_law_746 ?_
                              refine lv_iload hx hb dL_law_747 (lv_at hl 0 rfl) ?_
                              refine lv_i2l hx hb dL_law_749 rfl ?_
                              refine W.lcmp hx hb dL_law_750 ?_
                              refine lv_if_eq (tgt := 756) hx hb dL_law_751 (by decide) (fun h204 => ?_) (fun h204 => ?_)
                              · have hf := ift h204 hf
                                refine lv_goto (tgt := 910) hx hb dL_law_756 (by decide) ?_
                                refine lv_iinc (v := x4_ + (5 : Int32)) hx hb dL_law_910 hl (k := 6) rfl (by rfl) (by decide) rfl (fun ls hl => ?_)
                                have hl : lv_has ls 7 [(4, .int (x4_ + (5 : Int32))), (6, .int v198), (5, .int v195), (0, .ref b), (1, .ref h), (2, .ref hm), (3, .ref oa)] := hl
                                refine lv_goto (tgt := 23) hx hb dL_law_913 (by decide) ?_
                                exact ih _ _ _ _ _ _ _ _ _ _ _ _ _ _ _ _ _ _ _ _ _ _ _ _ _ _ _ _ _ _ _ _ _ _ _ _ _ _ _ _ _ _ _ _ _ _ hf _ _ _ _ _ (by omega) (by omega) hP hD hS (lv_sub hl [3, 4, 5, 6, 0] rfl) k0
                              · have hf := ifn h204 hf
                                refine lv_iconst (v := (0 : Int32)) hx hb dL_law_754 (by decide) ?_
                                cases hf
                          · have hf := ifn h201 hf
                            refine lv_iconst (v := (0 : Int32)) hx hb dL_law_737 (by decide) ?_
                            cases hf
                        · replace hf := ifn (fun z => hk9 (exx.trans z)) hf
                          by_cases hk10 : xx3 = (10 : Int32)
                          · replace hf := ift (exx.symm.trans hk10) hf
                            subst hk10
                            refine lv_tableIn (tgt := 759) hx hb dL_law_39 (by decide) (by decide) rfl (by decide) ?_
                            refine lv_aload_n hx hb dL_law_759 rfl (lv_at hl 1 rfl) ?_
                            refine lv_aload_n hx hb dL_law_760 rfl (lv_at hl 0 rfl) ?_
                            refine lv_iload hx hb dL_law_761 (lv_at hl 4 rfl) ?_
                            refine lv_iconst (v := (1 : Int32)) hx hb dL_law_763 (by decide) ?_
                            refine lv_iadd hx hb dL_law_764 ?_
                            obtain ⟨v205, hv, hf⟩ := bd hf
                            refine q_sld hx hb hX hbl hbA hS hv dL_law_765 ?_
                            refine lv_aload_n hx hb dL_law_766 rfl (lv_at hl 3 rfl) ?_
                            obtain ⟨⟨v206, ou_207⟩, hv, hf⟩ := bd hf
                            dsimp only at hf
                            refine q_wi (wr := [(hm, .inr (1, [.int th, .int mk, .ref b1, .ref b2, .ref b3, .ref b4, .ref b5, .ref b6, .int ct, .ref b7, .ref b8, .ref b9])), (b1, .inl (cZ, 128, .inl us)), (b2, .inl (cI, 128, .inl fi)), (b3, .inl (cI, 128, .inl se)), (b4, .inl (cI, 768, .inl ki)), (b5, .inl (cI, 768, .inl va)), (b6, .inl (cZ, 128, .inl li)), (b7, .inl (cI, 128, .inl od)), (b8, .inl (cI, 128, .inl ne)), (b9, .inl (cI, 8, .inl ro))]) (vx_runSX (As := [.ref h, .int v205, .ref oa]) (rest := []) ⟨hx, hb, hml, hown, hts⟩ (ctL_address l hlt dC dI cI cZ cL h a1 a2 a3 a4 a5 oa _ w r st rc na tp cn rh sr ou v205 v206 ou_207 hv) (vx_cwSW 3 hts (gW mw_423 mw_424 mw_37 mw_425) rfl rfl rfl (by decide +kernel) ⟨Nat.le_of_ble_eq_true rfl, Nat.le_of_ble_eq_true rfl⟩) (q_preWS [.ref h, .int v205, .ref oa] hK hP hD hS hA hZ0 hT hN hC [0, 1, 2, 3, 4, 5, 16] (by decide) rfl) rfl rfl hl.1 rfl (lv_room (Nat.le_of_ble_eq_true rfl)) dL_law_767 ⟨q_rc (by omega), q_rs (by omega)⟩) hP hD hS hA [0, 1, 2, 3, 4, 5, 16] [6, 7, 8, 9, 10, 11, 12, 13, 14, 15] rfl rfl (by decide) (by decide) (fun H locs hP hD hS => ?_)
                            have hP := hP.sub (ws' := (wL cI cZ cL h a1 a2 a3 a4 a5 hm b1 b2 b3 b4 b5 b6 b7 b8 b9 oa w r st rc na tp cn rh sr th mk us fi se ki va li ct od ne ro ou_207)) [10, 11, 12, 13, 14, 15, 0, 1, 2, 3, 4, 5, 6, 7, 8, 9, 16] rfl
                            have hD := hD.sub (ws' := (wL cI cZ cL h a1 a2 a3 a4 a5 hm b1 b2 b3 b4 b5 b6 b7 b8 b9 oa w r st rc na tp cn rh sr th mk us fi se ki va li ct od ne ro ou_207)) [10, 11, 12, 13, 14, 15, 0, 1, 2, 3, 4, 5, 6, 7, 8, 9, 16] (by decide) rfl
                            have hP : va_P (dC, dI) vwCl (wL cI cZ cL h a1 a2 a3 a4 a5 hm b1 b2 b3 b4 b5 b6 b7 b8 b9 oa w r st rc na tp cn rh sr th mk us fi se ki va li ct od ne ro ou_207) _ := hP
                            have hD : va_D A (wL cI cZ cL h a1 a2 a3 a4 a5 hm b1 b2 b3 b4 b5 b6 b7 b8 b9 oa w r st rc na tp cn rh sr th mk us fi se ki va li ct od ne ro ou_207) := hD
                            refine lv_istore hx hb dL_law_770 hl (by decide) rfl (fun ls hl => ?_)
                            have hl : lv_has ls 7 [(5, .int v206), (0, .ref b), (1, .ref h), (2, .ref hm), (3, .ref oa), (4, .int x4_)] := hl
                            refine lv_aload_n hx hb dL_law_772 rfl (lv_at hl 3 rfl) ?_
                            refine lv_aload_n hx hb dL_law_773 rfl (lv_at hl 1 rfl) ?_
                            refine lv_iload hx hb dL_law_774 (lv_at hl 5 rfl) ?_
                            refine lv_iconst (v := (1 : Int32)) hx hb dL_law_776 (by decide) ?_
                            refine lv_iadd hx hb dL_law_777 ?_
                            obtain ⟨v208, hv, hf⟩ := bd hf
                            refine q_sld hx hb hX hbl hbA hS hv dL_law_778 ?_
                            obtain ⟨⟨v209, th_210⟩, hv, hf⟩ := bd hf
                            dsimp only at hf
                            refine q_ci (wr := [(h, .inr (0, [.ref a1, .ref a2, .ref a3, .ref a4, .ref a5, .int tp, .int cn, .int rh, .int sr])), (a1, .inl (cI, 256, .inl w)), (a2, .inl (cI, 8, .inl r)), (a3, .inl (cI, 128, .inl st)), (a4, .inl (cI, 128, .inl rc)), (a5, .inl (cI, 256, .inl na)), (oa, .inl (cL, 1, .inr (.inl ou_207)))]) (va_runV (As := [.int v208]) (rest := []) ⟨hx, hb, hml, hown, hts⟩ (ctX1_address l dC dI cI cZ cL hm b1 b2 b3 b4 b5 b6 b7 b8 b9 _ th mk us fi se ki va li ct od ne ro v208 v209 th_210 hv) (cwV 1 hts (gV mw_580 mw_581 mw_582 mw_40 mw_583) rfl rfl rfl (by decide +kernel) ⟨Nat.le_of_ble_eq_true rfl, Nat.le_of_ble_eq_true rfl⟩) (q_preV [.int v208] hK hP hD [6, 7, 8, 9, 10, 11, 12, 13, 14, 15] (by decide) rfl (ci := 1) rfl rfl) rfl rfl hl.1 rfl (lv_room (Nat.le_of_ble_eq_true rfl)) dL_law_779 ⟨q_rc (by omega), q_rs (by omega)⟩) hP hD hS hA [6, 7, 8, 9, 10, 11, 12, 13, 14, 15] [0, 1, 2, 3, 4, 5, 16] rfl rfl (by decide) (by decide) (fun H locs hP hD hS => ?_)
                            have hP := hP.sub (ws' := (wL cI cZ cL h a1 a2 a3 a4 a5 hm b1 b2 b3 b4 b5 b6 b7 b8 b9 oa w r st rc na tp cn rh sr th_210 mk us fi se ki va li ct od ne ro ou_207)) [0, 1, 2, 3, 4, 5, 7, 8, 9, 10, 11, 12, 13, 14, 15, 16, 6] rfl
                            have hD := hD.sub (ws' := (wL cI cZ cL h a1 a2 a3 a4 a5 hm b1 b2 b3 b4 b5 b6 b7 b8 b9 oa w r st rc na tp cn rh sr th_210 mk us fi se ki va li ct od ne ro ou_207)) [0, 1, 2, 3, 4, 5, 7, 8, 9, 10, 11, 12, 13, 14, 15, 16, 6] (by decide) rfl
                            have hP : va_P (dC, dI) vwCl (wL cI cZ cL h a1 a2 a3 a4 a5 hm b1 b2 b3 b4 b5 b6 b7 b8 b9 oa w r st rc na tp cn rh sr th_210 mk us fi se ki va li ct od ne ro ou_207) _ := hP
                            have hD : va_D A (wL cI cZ cL h a1 a2 a3 a4 a5 hm b1 b2 b3 b4 b5 b6 b7 b8 b9 oa w r st rc na tp cn rh sr th_210 mk us fi se ki va li ct od ne ro ou_207) := hD
                            refine lv_istore hx hb dL_law_782 hl (by decide) rfl (fun ls hl => ?_)
                            have hl : lv_has ls 7 [(6, .int v209), (5, .int v206), (0, .ref b), (1, .ref h), (2, .ref hm), (3, .ref oa), (4, .int x4_)] := hl
                            refine lv_aload_n hx hb dL_law_784 rfl (lv_at hl 4 rfl) ?_
                            obtain ⟨v211, hv, hf⟩ := bd hf
                            refine q_ci (wr := [(h, .inr (0, [.ref a1, .ref a2, .ref a3, .ref a4, .ref a5, .int tp, .int cn, .int rh, .int sr])), (a1, .inl (cI, 256, .inl w)), (a2, .inl (cI, 8, .inl r)), (a3, .inl (cI, 128, .inl st)), (a4, .inl (cI, 128, .inl rc)), (a5, .inl (cI, 256, .inl na)), (oa, .inl (cL, 1, .inr (.inl ou_207)))]) (va_runV (As := []) (rest := []) ⟨hx, hb, hml, hown, hts⟩ (ctX1_thrown l dC dI cI cZ cL hm b1 b2 b3 b4 b5 b6 b7 b8 b9 _ th_210 mk us fi se ki va li ct od ne ro v211 hv) (cwV 0 hts (gV mw_482 mw_483 mw_484 mw_40 mw_485) rfl rfl rfl (by decide +kernel) ⟨Nat.le_of_ble_eq_true rfl, Nat.le_of_ble_eq_true rfl⟩) (q_preV [] hK hP hD [6, 7, 8, 9, 10, 11, 12, 13, 14, 15] (by decide) rfl (ci := 1) rfl rfl) rfl rfl hl.1 rfl (lv_room (Nat.le_of_ble_eq_true rfl)) dL_law_785 ⟨q_rc (by omega), q_rs (by omega)⟩) hP hD hS hA [6, 7, 8, 9, 10, 11, 12, 13, 14, 15] [0, 1, 2, 3, 4, 5, 16] rfl rfl (by decide) (by decide) (fun H locs hP hD hS => ?_)
                            have hP := hP.sub (ws' := (wL cI cZ cL h a1 a2 a3 a4 a5 hm b1 b2 b3 b4 b5 b6 b7 b8 b9 oa w r st rc na tp cn rh sr th_210 mk us fi se ki va li ct od ne ro ou_207)) [0, 1, 2, 3, 4, 5, 7, 8, 9, 10, 11, 12, 13, 14, 15, 16, 6] rfl
                            have hD := hD.sub (ws' := (wL cI cZ cL h a1 a2 a3 a4 a5 hm b1 b2 b3 b4 b5 b6 b7 b8 b9 oa w r st rc na tp cn rh sr th_210 mk us fi se ki va li ct od ne ro ou_207)) [0, 1, 2, 3, 4, 5, 7, 8, 9, 10, 11, 12, 13, 14, 15, 16, 6] (by decide) rfl
                            have hP : va_P (dC, dI) vwCl (wL cI cZ cL h a1 a2 a3 a4 a5 hm b1 b2 b3 b4 b5 b6 b7 b8 b9 oa w r st rc na tp cn rh sr th_210 mk us fi se ki va li ct od ne ro ou_207) _ := hP
                            have hD : va_D A (wL cI cZ cL h a1 a2 a3 a4 a5 hm b1 b2 b3 b4 b5 b6 b7 b8 b9 oa w r st rc na tp cn rh sr th_210 mk us fi se ki va li ct od ne ro ou_207) := hD
                            refine lv_iload hx hb dL_law_788 (lv_at hl 1 rfl) ?_
                            refine lv_icmp_eq (tgt := 795) hx hb dL_law_790 (by decide) (fun h212 => ?_) (fun h212 => ?_)
                            · have hf := ift h212 hf
                              refine lv_iload hx hb dL_law_795 (lv_at hl 1 rfl) ?_
                              refine lv_if_ne (tgt := 812) hx hb dL_law_797 (by decide) (fun h213 => ?_) (fun h213 => ?_)
                              · have hf := ifn h213 hf
                                refine lv_goto (tgt := 910) hx hb dL_law_812 (by decide) ?_
                                refine lv_iinc (v := x4_ + (5 : Int32)) hx hb dL_law_910 hl (k := 6) rfl (by rfl) (by decide) rfl (fun ls hl => ?_)
                                have hl : lv_has ls 7 [(4, .int (x4_ + (5 : Int32))), (6, .int v209), (5, .int v206), (0, .ref b), (1, .ref h), (2, .ref hm), (3, .ref oa)] := hl
                                refine lv_goto (tgt := 23) hx hb dL_law_913 (by decide) ?_
                                exact ih _ _ _ _ _ _ _ _ _ _ _ _ _ _ _ _ _ _ _ _ _ _ _ _ _ _ _ _ _ _ _ _ _ _ _ _ _ _ _ _ _ _ _ _ _ _ hf _ _ _ _ _ (by omega) (by omega) hP hD hS (lv_sub hl [3, 4, 5, 6, 0] rfl) k0
                              · have hf := ift h213 hf
                                refine lv_aload_n hx hb dL_law_800 rfl (lv_at hl 5 rfl) ?_
                                refine lv_iconst (v := (0 : Int32)) hx hb dL_law_801 (by decide) ?_
                                obtain ⟨v214, hv, hf⟩ := bd hf
                                refine q_lld hx hb hK hP 16 2 rfl rfl hv dL_law_802 ?_
                                refine lv_iload hx hb dL_law_803 (lv_at hl 0 rfl) ?_
                                refine lv_i2l hx hb dL_law_805 rfl ?_
                                refine W.lcmp hx hb dL_law_806 ?_
                                refine lv_if_eq (tgt := 812) hx hb dL_law_807 (by decide) (fun h215 => ?_) (fun h215 => ?_)
                                · have hf := ift h215 hf
                                  refine lv_goto (tgt := 910) hx hb dL_law_812 (by decide) ?_
                                  refine lv_iinc (v := x4_ + (5 : Int32)) hx hb dL_law_910 hl (k := 6) rfl (by rfl) (by decide) rfl (fun ls hl => ?_)
                                  have hl : lv_has ls 7 [(4, .int (x4_ + (5 : Int32))), (6, .int v209), (5, .int v206), (0, .ref b), (1, .ref h), (2, .ref hm), (3, .ref oa)] := hl
                                  refine lv_goto (tgt := 23) hx hb dL_law_913 (by decide) ?_
                                  exact ih _ _ _ _ _ _ _ _ _ _ _ _ _ _ _ _ _ _ _ _ _ _ _ _ _ _ _ _ _ _ _ _ _ _ _ _ _ _ _ _ _ _ _ _ _ _ hf _ _ _ _ _ (by omega) (by omega) hP hD hS (lv_sub hl [3, 4, 5, 6, 0] rfl) k0
                                · have hf := ifn h215 hf
                                  refine lv_iconst (v := (0 : Int32)) hx hb dL_law_810 (by decide) ?_
                                  cases hf
                            · have hf := ifn h212 hf
                              refine lv_iconst (v := (0 : Int32)) hx hb dL_law_793 (by decide) ?_
                              cases hf
                          · replace hf := ifn (fun z => hk10 (exx.trans z)) hf
                            by_cases hk11 : xx3 = (11 : Int32)
                            · replace hf := ift (exx.symm.trans hk11) hf
                              subst hk11
                              refine lv_tableIn (tgt := 815) hx hb dL_law_39 (by decide) (by decide) rfl (by decide) ?_
                              refine lv_aload_n hx hb dL_law_815 rfl (lv_at hl 1 rfl) ?_
                              refine lv_aload_n hx hb dL_law_816 rfl (lv_at hl 0 rfl) ?_
                              refine lv_iload hx hb dL_law_817 (lv_at hl 4 rfl) ?_
                              refine lv_iconst (v := (1 : Int32)) hx hb dL_law_819 (by decide) ?_
                              refine lv_iadd hx hb dL_law_820 ?_
                              obtain ⟨v216, hv, hf⟩ := bd hf
                              refine q_sld hx hb hX hbl hbA hS hv dL_law_821 ?_
                              refine lv_aload_n hx hb dL_law_822 rfl (lv_at hl 3 rfl) ?_
                              obtain ⟨⟨v217, ou_218⟩, hv, hf⟩ := bd hf
                              dsimp only at hf
                              refine q_wi (wr := [(hm, .inr (1, [.int th, .int mk, .ref b1, .ref b2, .ref b3, .ref b4, .ref b5, .ref b6, .int ct, .ref b7, .ref b8, .ref b9])), (b1, .inl (cZ, 128, .inl us)), (b2, .inl (cI, 128, .inl fi)), (b3, .inl (cI, 128, .inl se)), (b4, .inl (cI, 768, .inl ki)), (b5, .inl (cI, 768, .inl va)), (b6, .inl (cZ, 128, .inl li)), (b7, .inl (cI, 128, .inl od)), (b8, .inl (cI, 128, .inl ne)), (b9, .inl (cI, 8, .inl ro))]) (vx_runSX (As := [.ref h, .int v216, .ref oa]) (rest := []) ⟨hx, hb, hml, hown, hts⟩ (ctL_word l hlt dC dI cI cZ cL h a1 a2 a3 a4 a5 oa _ w r st rc na tp cn rh sr ou v216 v217 ou_218 hv) (vx_cwSW 3 hts (gW mw_430 mw_431 mw_37 mw_432) rfl rfl rfl (by decide +kernel) ⟨Nat.le_of_ble_eq_true rfl, Nat.le_of_ble_eq_true rfl⟩) (q_preWS [.ref h, .int v216, .ref oa] hK hP hD hS hA hZ0 hT hN hC [0, 1, 2, 3, 4, 5, 16] (by decide) rfl) rfl rfl hl.1 rfl (lv_room (Nat.le_of_ble_eq_true rfl)) dL_law_823 ⟨q_rc (by omega), q_rs (by omega)⟩) hP hD hS hA [0, 1, 2, 3, 4, 5, 16] [6, 7, 8, 9, 10, 11, 12, 13, 14, 15] rfl rfl (by decide) (by decide) (fun H locs hP hD hS => ?_)
                              have hP := hP.sub (ws' := (wL cI cZ cL h a1 a2 a3 a4 a5 hm b1 b2 b3 b4 b5 b6 b7 b8 b9 oa w r st rc na tp cn rh sr th mk us fi se ki va li ct od ne ro ou_218)) [10, 11, 12, 13, 14, 15, 0, 1, 2, 3, 4, 5, 6, 7, 8, 9, 16] rfl
                              have hD := hD.sub (ws' := (wL cI cZ cL h a1 a2 a3 a4 a5 hm b1 b2 b3 b4 b5 b6 b7 b8 b9 oa w r st rc na tp cn rh sr th mk us fi se ki va li ct od ne ro ou_218)) [10, 11, 12, 13, 14, 15, 0, 1, 2, 3, 4, 5, 6, 7, 8, 9, 16] (by decide) rfl
                              have hP : va_P (dC, dI) vwCl (wL cI cZ cL h a1 a2 a3 a4 a5 hm b1 b2 b3 b4 b5 b6 b7 b8 b9 oa w r st rc na tp cn rh sr th mk us fi se ki va li ct od ne ro ou_218) _ := hP
                              have hD : va_D A (wL cI cZ cL h a1 a2 a3 a4 a5 hm b1 b2 b3 b4 b5 b6 b7 b8 b9 oa w r st rc na tp cn rh sr th mk us fi se ki va li ct od ne ro ou_218) := hD
                              refine lv_istore hx hb dL_law_826 hl (by decide) rfl (fun ls hl => ?_)
                              have hl : lv_has ls 7 [(5, .int v217), (0, .ref b), (1, .ref h), (2, .ref hm), (3, .ref oa), (4, .int x4_)] := hl
                              refine lv_aload_n hx hb dL_law_828 rfl (lv_at hl 3 rfl) ?_
                              refine lv_aload_n hx hb dL_law_829 rfl (lv_at hl 1 rfl) ?_
                              refine lv_iload hx hb dL_law_830 (lv_at hl 5 rfl) ?_
                              refine lv_iconst (v := (1 : Int32)) hx hb dL_law_832 (by decide) ?_
                              refine lv_iadd hx hb dL_law_833 ?_
                              obtain ⟨v219, hv, hf⟩ := bd hf
                              refine q_sld hx hb hX hbl hbA hS hv dL_law_834 ?_
                              obtain ⟨⟨v220, th_221⟩, hv, hf⟩ := bd hf
                              dsimp only at hf
                              refine q_ci (wr := [(h, .inr (0, [.ref a1, .ref a2, .ref a3, .ref a4, .ref a5, .int tp, .int cn, .int rh, .int sr])), (a1, .inl (cI, 256, .inl w)), (a2, .inl (cI, 8, .inl r)), (a3, .inl (cI, 128, .inl st)), (a4, .inl (cI, 128, .inl rc)), (a5, .inl (cI, 256, .inl na)), (oa, .inl (cL, 1, .inr (.inl ou_218)))]) (va_runV (As := [.int v219]) (rest := []) ⟨hx, hb, hml, hown, hts⟩ (ctX1_word l dC dI cI cZ cL hm b1 b2 b3 b4 b5 b6 b7 b8 b9 _ th mk us fi se ki va li ct od ne ro v219 v220 th_221 hv) (cwV 1 hts (gV mw_588 mw_589 mw_590 mw_40 mw_591) rfl rfl rfl (by decide +kernel) ⟨Nat.le_of_ble_eq_true rfl, Nat.le_of_ble_eq_true rfl⟩) (q_preV [.int v219] hK hP hD [6, 7, 8, 9, 10, 11, 12, 13, 14, 15] (by decide) rfl (ci := 1) rfl rfl) rfl rfl hl.1 rfl (lv_room (Nat.le_of_ble_eq_true rfl)) dL_law_835 ⟨q_rc (by omega), q_rs (by omega)⟩) hP hD hS hA [6, 7, 8, 9, 10, 11, 12, 13, 14, 15] [0, 1, 2, 3, 4, 5, 16] rfl rfl (by decide) (by decide) (fun H locs hP hD hS => ?_)
                              have hP := hP.sub (ws' := (wL cI cZ cL h a1 a2 a3 a4 a5 hm b1 b2 b3 b4 b5 b6 b7 b8 b9 oa w r st rc na tp cn rh sr th_221 mk us fi se ki va li ct od ne ro ou_218)) [0, 1, 2, 3, 4, 5, 7, 8, 9, 10, 11, 12, 13, 14, 15, 16, 6] rfl
                              have hD := hD.sub (ws' := (wL cI cZ cL h a1 a2 a3 a4 a5 hm b1 b2 b3 b4 b5 b6 b7 b8 b9 oa w r st rc na tp cn rh sr th_221 mk us fi se ki va li ct od ne ro ou_218)) [0, 1, 2, 3, 4, 5, 7, 8, 9, 10, 11, 12, 13, 14, 15, 16, 6] (by decide) rfl
                              have hP : va_P (dC, dI) vwCl (wL cI cZ cL h a1 a2 a3 a4 a5 hm b1 b2 b3 b4 b5 b6 b7 b8 b9 oa w r st rc na tp cn rh sr th_221 mk us fi se ki va li ct od ne ro ou_218) _ := hP
                              have hD : va_D A (wL cI cZ cL h a1 a2 a3 a4 a5 hm b1 b2 b3 b4 b5 b6 b7 b8 b9 oa w r st rc na tp cn rh sr th_221 mk us fi se ki va li ct od ne ro ou_218) := hD
                              refine lv_istore hx hb dL_law_838 hl (by decide) rfl (fun ls hl => ?_)
                              have hl : lv_has ls 7 [(6, .int v220), (5, .int v217), (0, .ref b), (1, .ref h), (2, .ref hm), (3, .ref oa), (4, .int x4_)] := hl
                              refine lv_aload_n hx hb dL_law_840 rfl (lv_at hl 4 rfl) ?_
                              obtain ⟨v222, hv, hf⟩ := bd hf
                              refine q_ci (wr := [(h, .inr (0, [.ref a1, .ref a2, .ref a3, .ref a4, .ref a5, .int tp, .int cn, .int rh, .int sr])), (a1, .inl (cI, 256, .inl w)), (a2, .inl (cI, 8, .inl r)), (a3, .inl (cI, 128, .inl st)), (a4, .inl (cI, 128, .inl rc)), (a5, .inl (cI, 256, .inl na)), (oa, .inl (cL, 1, .inr (.inl ou_218)))]) (va_runV (As := []) (rest := []) ⟨hx, hb, hml, hown, hts⟩ (ctX1_thrown l dC dI cI cZ cL hm b1 b2 b3 b4 b5 b6 b7 b8 b9 _ th_221 mk us fi se ki va li ct od ne ro v222 hv) (cwV 0 hts (gV mw_482 mw_483 mw_484 mw_40 mw_485) rfl rfl rfl (by decide +kernel) ⟨Nat.le_of_ble_eq_true rfl, Nat.le_of_ble_eq_true rfl⟩) (q_preV [] hK hP hD [6, 7, 8, 9, 10, 11, 12, 13, 14, 15] (by decide) rfl (ci := 1) rfl rfl) rfl rfl hl.1 rfl (lv_room (Nat.le_of_ble_eq_true rfl)) dL_law_841 ⟨q_rc (by omega), q_rs (by omega)⟩) hP hD hS hA [6, 7, 8, 9, 10, 11, 12, 13, 14, 15] [0, 1, 2, 3, 4, 5, 16] rfl rfl (by decide) (by decide) (fun H locs hP hD hS => ?_)
                              have hP := hP.sub (ws' := (wL cI cZ cL h a1 a2 a3 a4 a5 hm b1 b2 b3 b4 b5 b6 b7 b8 b9 oa w r st rc na tp cn rh sr th_221 mk us fi se ki va li ct od ne ro ou_218)) [0, 1, 2, 3, 4, 5, 7, 8, 9, 10, 11, 12, 13, 14, 15, 16, 6] rfl
                              have hD := hD.sub (ws' := (wL cI cZ cL h a1 a2 a3 a4 a5 hm b1 b2 b3 b4 b5 b6 b7 b8 b9 oa w r st rc na tp cn rh sr th_221 mk us fi se ki va li ct od ne ro ou_218)) [0, 1, 2, 3, 4, 5, 7, 8, 9, 10, 11, 12, 13, 14, 15, 16, 6] (by decide) rfl
                              have hP : va_P (dC, dI) vwCl (wL cI cZ cL h a1 a2 a3 a4 a5 hm b1 b2 b3 b4 b5 b6 b7 b8 b9 oa w r st rc na tp cn rh sr th_221 mk us fi se ki va li ct od ne ro ou_218) _ := hP
                              have hD : va_D A (wL cI cZ cL h a1 a2 a3 a4 a5 hm b1 b2 b3 b4 b5 b6 b7 b8 b9 oa w r st rc na tp cn rh sr th_221 mk us fi se ki va li ct od ne ro ou_218) := hD
                              refine lv_iload hx hb dL_law_844 (lv_at hl 1 rfl) ?_
                              refine lv_icmp_eq (tgt := 851) hx hb dL_law_846 (by decide) (fun h223 => ?_) (fun h223 => ?_)
                              · have hf := ift h223 hf
                                refine lv_iload hx hb dL_law_851 (lv_at hl 1 rfl) ?_
                                refine lv_if_ne (tgt := 868) hx hb dL_law_853 (by decide) (fun h224 => ?_) (fun h224 => ?_)
                                · have hf := ifn h224 hf
                                  refine lv_goto (tgt := 910) hx hb dL_law_868 (by decide) ?_
                                  refine lv_iinc (v := x4_ + (5 : Int32)) hx hb dL_law_910 hl (k := 6) rfl (by rfl) (by decide) rfl (fun ls hl => ?_)
                                  have hl : lv_has ls 7 [(4, .int (x4_ + (5 : Int32))), (6, .int v220), (5, .int v217), (0, .ref b), (1, .ref h), (2, .ref hm), (3, .ref oa)] := hl
                                  refine lv_goto (tgt := 23) hx hb dL_law_913 (by decide) ?_
                                  exact ih _ _ _ _ _ _ _ _ _ _ _ _ _ _ _ _ _ _ _ _ _ _ _ _ _ _ _ _ _ _ _ _ _ _ _ _ _ _ _ _ _ _ _ _ _ _ hf _ _ _ _ _ (by omega) (by omega) hP hD hS (lv_sub hl [3, 4, 5, 6, 0] rfl) k0
                                · have hf := ift h224 hf
                                  refine lv_aload_n hx hb dL_law_856 rfl (lv_at hl 5 rfl) ?_
                                  refine lv_iconst (v := (0 : Int32)) hx hb dL_law_857 (by decide) ?_
                                  obtain ⟨v225, hv, hf⟩ := bd hf
                                  refine q_lld hx hb hK hP 16 2 rfl rfl hv dL_law_858 ?_
                                  refine lv_iload hx hb dL_law_859 (lv_at hl 0 rfl) ?_
                                  refine lv_i2l hx hb dL_law_861 rfl ?_
                                  refine W.lcmp hx hb dL_law_862 ?_
                                  refine lv_if_eq (tgt := 868) hx hb dL_law_863 (by decide) (fun h226 => ?_) (fun h226 => ?_)
                                  · have hf := ift h226 hf
                                    refine lv_goto (tgt := 910) hx hb dL_law_868 (by decide) ?_
                                    refine lv_iinc (v := x4_ + (5 : Int32)) hx hb dL_law_910 hl (k := 6) rfl (by rfl) (by decide) rfl (fun ls hl => ?_)
                                    have hl : lv_has ls 7 [(4, .int (x4_ + (5 : Int32))), (6, .int v220), (5, .int v217), (0, .ref b), (1, .ref h), (2, .ref hm), (3, .ref oa)] := hl
                                    refine lv_goto (tgt := 23) hx hb dL_law_913 (by decide) ?_
                                    exact ih _ _ _ _ _ _ _ _ _ _ _ _ _ _ _ _ _ _ _ _ _ _ _ _ _ _ _ _ _ _ _ _ _ _ _ _ _ _ _ _ _ _ _ _ _ _ hf _ _ _ _ _ (by omega) (by omega) hP hD hS (lv_sub hl [3, 4, 5, 6, 0] rfl) k0
                                  · have hf := ifn h226 hf
                                    refine lv_iconst (v := (0 : Int32)) hx hb dL_law_866 (by decide) ?_
                                    cases hf
                              · have hf := ifn h223 hf
                                refine lv_iconst (v := (0 : Int32)) hx hb dL_law_849 (by decide) ?_
                                cases hf
                            · replace hf := ifn (fun z => hk11 (exx.trans z)) hf
                              by_cases hk12 : xx3 = (12 : Int32)
                              · replace hf := ift (exx.symm.trans hk12) hf
                                subst hk12
                                refine lv_tableIn (tgt := 871) hx hb dL_law_39 (by decide) (by decide) rfl (by decide) ?_
                                refine lv_aload_n hx hb dL_law_871 rfl (lv_at hl 1 rfl) ?_
                                obtain ⟨v227, hv, hf⟩ := bd hf
                                refine q_ci (wr := [(hm, .inr (1, [.int th, .int mk, .ref b1, .ref b2, .ref b3, .ref b4, .ref b5, .ref b6, .int ct, .ref b7, .ref b8, .ref b9])), (b1, .inl (cZ, 128, .inl us)), (b2, .inl (cI, 128, .inl fi)), (b3, .inl (cI, 128, .inl se)), (b4, .inl (cI, 768, .inl ki)), (b5, .inl (cI, 768, .inl va)), (b6, .inl (cZ, 128, .inl li)), (b7, .inl (cI, 128, .inl od)), (b8, .inl (cI, 128, .inl ne)), (b9, .inl (cI, 8, .inl ro)), (oa, .inl (cL, 1, .inr (.inl ou)))]) (va_runV (As := []) (rest := []) ⟨hx, hb, hml, hown, hts⟩ (ctX0_top l dC dI cI cZ cL h a1 a2 a3 a4 a5 _ w r st rc na tp cn rh sr v227 hv) (cwV 0 hts (gV mw_90 mw_91 mw_92 mw_38 mw_93) rfl rfl rfl (by decide +kernel) ⟨Nat.le_of_ble_eq_true rfl, Nat.le_of_ble_eq_true rfl⟩) (q_preV [] hK hP hD [0, 1, 2, 3, 4, 5] (by decide) rfl (ci := 0) rfl rfl) rfl rfl hl.1 rfl (lv_room (Nat.le_of_ble_eq_true rfl)) dL_law_872 ⟨q_rc (by omega), q_rs (by omega)⟩) hP hD hS hA [0, 1, 2, 3, 4, 5] [6, 7, 8, 9, 10, 11, 12, 13, 14, 15, 16] rfl rfl (by decide) (by decide) (fun H locs hP hD hS => ?_)
                                have hP := hP.sub (ws' := (wL cI cZ cL h a1 a2 a3 a4 a5 hm b1 b2 b3 b4 b5 b6 b7 b8 b9 oa w r st rc na tp cn rh sr th mk us fi se ki va li ct od ne ro ou)) [11, 12, 13, 14, 15, 16, 0, 1, 2, 3, 4, 5, 6, 7, 8, 9, 10] rfl
                                have hD := hD.sub (ws' := (wL cI cZ cL h a1 a2 a3 a4 a5 hm b1 b2 b3 b4 b5 b6 b7 b8 b9 oa w r st rc na tp cn rh sr th mk us fi se ki va li ct od ne ro ou)) [11, 12, 13, 14, 15, 16, 0, 1, 2, 3, 4, 5, 6, 7, 8, 9, 10] (by decide) rfl
                                have hP : va_P (dC, dI) vwCl (wL cI cZ cL h a1 a2 a3 a4 a5 hm b1 b2 b3 b4 b5 b6 b7 b8 b9 oa w r st rc na tp cn rh sr th mk us fi se ki va li ct od ne ro ou) _ := hP
                                have hD : va_D A (wL cI cZ cL h a1 a2 a3 a4 a5 hm b1 b2 b3 b4 b5 b6 b7 b8 b9 oa w r st rc na tp cn rh sr th mk us fi se ki va li ct od ne ro ou) := hD
                                refine lv_aload_n hx hb dL_law_875 rfl (lv_at hl 2 rfl) ?_
                                obtain ⟨⟨v228, th_229⟩, hv, hf⟩ := bd hf
                                dsimp only at hf
                                refine q_ci (wr := [(h, .inr (0, [.ref a1, .ref a2, .ref a3, .ref a4, .ref a5, .int tp, .int cn, .int rh, .int sr])), (a1, .inl (cI, 256, .inl w)), (a2, .inl (cI, 8, .inl r)), (a3, .inl (cI, 128, .inl st)), (a4, .inl (cI, 128, .inl rc)), (a5, .inl (cI, 256, .inl na)), (oa, .inl (cL, 1, .inr (.inl ou)))]) (va_runV (As := []) (rest := [.int v227]) ⟨hx, hb, hml, hown, hts⟩ (ctX1_top l dC dI cI cZ cL hm b1 b2 b3 b4 b5 b6 b7 b8 b9 _ th mk us fi se ki va li ct od ne ro v228 th_229 hv) (cwV 0 hts (gV mw_596 mw_597 mw_598 mw_40 mw_599) rfl rfl rfl (by decide +kernel) ⟨Nat.le_of_ble_eq_true rfl, Nat.le_of_ble_eq_true rfl⟩) (q_preV [] hK hP hD [6, 7, 8, 9, 10, 11, 12, 13, 14, 15] (by decide) rfl (ci := 1) rfl rfl) rfl rfl hl.1 rfl (lv_room (Nat.le_of_ble_eq_true rfl)) dL_law_876 ⟨q_rc (by omega), q_rs (by omega)⟩) hP hD hS hA [6, 7, 8, 9, 10, 11, 12, 13, 14, 15] [0, 1, 2, 3, 4, 5, 16] rfl rfl (by decide) (by decide) (fun H locs hP hD hS => ?_)
                                have hP := hP.sub (ws' := (wL cI cZ cL h a1 a2 a3 a4 a5 hm b1 b2 b3 b4 b5 b6 b7 b8 b9 oa w r st rc na tp cn rh sr th_229 mk us fi se ki va li ct od ne ro ou)) [0, 1, 2, 3, 4, 5, 7, 8, 9, 10, 11, 12, 13, 14, 15, 16, 6] rfl
                                have hD := hD.sub (ws' := (wL cI cZ cL h a1 a2 a3 a4 a5 hm b1 b2 b3 b4 b5 b6 b7 b8 b9 oa w r st rc na tp cn rh sr th_229 mk us fi se ki va li ct od ne ro ou)) [0, 1, 2, 3, 4, 5, 7, 8, 9, 10, 11, 12, 13, 14, 15, 16, 6] (by decide) rfl
                                have hP : va_P (dC, dI) vwCl (wL cI cZ cL h a1 a2 a3 a4 a5 hm b1 b2 b3 b4 b5 b6 b7 b8 b9 oa w r st rc na tp cn rh sr th_229 mk us fi se ki va li ct od ne ro ou) _ := hP
                                have hD : va_D A (wL cI cZ cL h a1 a2 a3 a4 a5 hm b1 b2 b3 b4 b5 b6 b7 b8 b9 oa w r st rc na tp cn rh sr th_229 mk us fi se ki va li ct od ne ro ou) := hD
                                refine lv_icmp_eq (tgt := 910) hx hb dL_law_879 (by decide) (fun h230 => ?_) (fun h230 => ?_)
                                · have hf := ift h230 hf
                                  refine lv_iinc (v := x4_ + (5 : Int32)) hx hb dL_law_910 hl (k := 4) rfl (by rfl) (by decide) rfl (fun ls hl => ?_)
                                  have hl : lv_has ls 7 [(4, .int (x4_ + (5 : Int32))), (0, .ref b), (1, .ref h), (2, .ref hm), (3, .ref oa)] := hl
                                  refine lv_goto (tgt := 23) hx hb dL_law_913 (by decide) ?_
                                  exact ih _ _ _ _ _ _ _ _ _ _ _ _ _ _ _ _ _ _ _ _ _ _ _ _ _ _ _ _ _ _ _ _ _ _ _ _ _ _ _ _ _ _ _ _ _ _ hf _ _ _ _ _ (by omega) (by omega) hP hD hS (lv_sub hl [1, 2, 3, 4, 0] rfl) k0
                                · have hf := ifn h230 hf
                                  refine lv_iconst (v := (0 : Int32)) hx hb dL_law_882 (by decide) ?_
                                  cases hf
                              · replace hf := ifn (fun z => hk12 (exx.trans z)) hf
                                by_cases hk13 : xx3 = (13 : Int32)
                                · replace hf := ift (exx.symm.trans hk13) hf
                                  subst hk13
                                  refine lv_tableIn (tgt := 884) hx hb dL_law_39 (by decide) (by decide) rfl (by decide) ?_
                                  refine lv_aload_n hx hb dL_law_884 rfl (lv_at hl 1 rfl) ?_
                                  obtain ⟨v231, hv, hf⟩ := bd hf
                                  refine q_ci (wr := [(hm, .inr (1, [.int th, .int mk, .ref b1, .ref b2, .ref b3, .ref b4, .ref b5, .ref b6, .int ct, .ref b7, .ref b8, .ref b9])), (b1, .inl (cZ, 128, .inl us)), (b2, .inl (cI, 128, .inl fi)), (b3, .inl (cI, 128, .inl se)), (b4, .inl (cI, 768, .inl ki)), (b5, .inl (cI, 768, .inl va)), (b6, .inl (cZ, 128, .inl li)), (b7, .inl (cI, 128, .inl od)), (b8, .inl (cI, 128, .inl ne)), (b9, .inl (cI, 8, .inl ro)), (oa, .inl (cL, 1, .inr (.inl ou)))]) (va_runV (As := []) (rest := []) ⟨hx, hb, hml, hown, hts⟩ (ctX0_objects l dC dI cI cZ cL h a1 a2 a3 a4 a5 _ w r st rc na tp cn rh sr v231 hv) (cwV 0 hts (gV mw_94 mw_95 mw_96 mw_38 mw_97) rfl rfl rfl (by decide +kernel) ⟨Nat.le_of_ble_eq_true rfl, Nat.le_of_ble_eq_true rfl⟩) (q_preV [] hK hP hD [0, 1, 2, 3, 4, 5] (by decide) rfl (ci := 0) rfl rfl) rfl rfl hl.1 rfl (lv_room (Nat.le_of_ble_eq_true rfl)) dL_law_885 ⟨q_rc (by omega), q_rs (by omega)⟩) hP hD hS hA [0, 1, 2, 3, 4, 5] [6, 7, 8, 9, 10, 11, 12, 13, 14, 15, 16] rfl rfl (by decide) (by decide) (fun H locs hP hD hS => ?_)
                                  have hP := hP.sub (ws' := (wL cI cZ cL h a1 a2 a3 a4 a5 hm b1 b2 b3 b4 b5 b6 b7 b8 b9 oa w r st rc na tp cn rh sr th mk us fi se ki va li ct od ne ro ou)) [11, 12, 13, 14, 15, 16, 0, 1, 2, 3, 4, 5, 6, 7, 8, 9, 10] rfl
                                  have hD := hD.sub (ws' := (wL cI cZ cL h a1 a2 a3 a4 a5 hm b1 b2 b3 b4 b5 b6 b7 b8 b9 oa w r st rc na tp cn rh sr th mk us fi se ki va li ct od ne ro ou)) [11, 12, 13, 14, 15, 16, 0, 1, 2, 3, 4, 5, 6, 7, 8, 9, 10] (by decide) rfl
                                  have hP : va_P (dC, dI) vwCl (wL cI cZ cL h a1 a2 a3 a4 a5 hm b1 b2 b3 b4 b5 b6 b7 b8 b9 oa w r st rc na tp cn rh sr th mk us fi se ki va li ct od ne ro ou) _ := hP
                                  have hD : va_D A (wL cI cZ cL h a1 a2 a3 a4 a5 hm b1 b2 b3 b4 b5 b6 b7 b8 b9 oa w r st rc na tp cn rh sr th mk us fi se ki va li ct od ne ro ou) := hD
                                  refine lv_aload_n hx hb dL_law_888 rfl (lv_at hl 2 rfl) ?_
                                  obtain ⟨⟨v232, th_233⟩, hv, hf⟩ := bd hf
                                  dsimp only at hf
                                  refine q_ci (wr := [(h, .inr (0, [.ref a1, .ref a2, .ref a3, .ref a4, .ref a5, .int tp, .int cn, .int rh, .int sr])), (a1, .inl (cI, 256, .inl w)), (a2, .inl (cI, 8, .inl r)), (a3, .inl (cI, 128, .inl st)), (a4, .inl (cI, 128, .inl rc)), (a5, .inl (cI, 256, .inl na)), (oa, .inl (cL, 1, .inr (.inl ou)))]) (va_runV (As := []) (rest := [.int v231]) ⟨hx, hb, hml, hown, hts⟩ (ctX1_objects l dC dI cI cZ cL hm b1 b2 b3 b4 b5 b6 b7 b8 b9 _ th mk us fi se ki va li ct od ne ro v232 th_233 hv) (cwV 0 hts (gV mw_600 mw_601 mw_602 mw_40 mw_603) rfl rfl rfl (by decide +kernel) ⟨Nat.le_of_ble_eq_true rfl, Nat.le_of_ble_eq_true rfl⟩) (q_preV [] hK hP hD [6, 7, 8, 9, 10, 11, 12, 13, 14, 15] (by decide) rfl (ci := 1) rfl rfl) rfl rfl hl.1 rfl (lv_room (Nat.le_of_ble_eq_true rfl)) dL_law_889 ⟨q_rc (by omega), q_rs (by omega)⟩) hP hD hS hA [6, 7, 8, 9, 10, 11, 12, 13, 14, 15] [0, 1, 2, 3, 4, 5, 16] rfl rfl (by decide) (by decide) (fun H locs hP hD hS => ?_)
                                  have hP := hP.sub (ws' := (wL cI cZ cL h a1 a2 a3 a4 a5 hm b1 b2 b3 b4 b5 b6 b7 b8 b9 oa w r st rc na tp cn rh sr th_233 mk us fi se ki va li ct od ne ro ou)) [0, 1, 2, 3, 4, 5, 7, 8, 9, 10, 11, 12, 13, 14, 15, 16, 6] rfl
                                  have hD := hD.sub (ws' := (wL cI cZ cL h a1 a2 a3 a4 a5 hm b1 b2 b3 b4 b5 b6 b7 b8 b9 oa w r st rc na tp cn rh sr th_233 mk us fi se ki va li ct od ne ro ou)) [0, 1, 2, 3, 4, 5, 7, 8, 9, 10, 11, 12, 13, 14, 15, 16, 6] (by decide) rfl
                                  have hP : va_P (dC, dI) vwCl (wL cI cZ cL h a1 a2 a3 a4 a5 hm b1 b2 b3 b4 b5 b6 b7 b8 b9 oa w r st rc na tp cn rh sr th_233 mk us fi se ki va li ct od ne ro ou) _ := hP
                                  have hD : va_D A (wL cI cZ cL h a1 a2 a3 a4 a5 hm b1 b2 b3 b4 b5 b6 b7 b8 b9 oa w r st rc na tp cn rh sr th_233 mk us fi se ki va li ct od ne ro ou) := hD
                                  refine lv_icmp_eq (tgt := 910) hx hb dL_law_892 (by decide) (fun h234 => ?_) (fun h234 => ?_)
                                  · have hf := ift h234 hf
                                    refine lv_iinc (v := x4_ + (5 : Int32)) hx hb dL_law_910 hl (k := 4) rfl (by rfl) (by decide) rfl (fun ls hl => ?_)
                                    have hl : lv_has ls 7 [(4, .int (x4_ + (5 : Int32))), (0, .ref b), (1, .ref h), (2, .ref hm), (3, .ref oa)] := hl
                                    refine lv_goto (tgt := 23) hx hb dL_law_913 (by decide) ?_
                                    exact ih _ _ _ _ _ _ _ _ _ _ _ _ _ _ _ _ _ _ _ _ _ _ _ _ _ _ _ _ _ _ _ _ _ _ _ _ _ _ _ _ _ _ _ _ _ _ hf _ _ _ _ _ (by omega) (by omega) hP hD hS (lv_sub hl [1, 2, 3, 4, 0] rfl) k0
                                  · have hf := ifn h234 hf
                                    refine lv_iconst (v := (0 : Int32)) hx hb dL_law_895 (by decide) ?_
                                    cases hf
                                · replace hf := ifn (fun z => hk13 (exx.trans z)) hf
                                  by_cases hk14 : xx3 = (14 : Int32)
                                  · replace hf := ift (exx.symm.trans hk14) hf
                                    subst hk14
                                    refine lv_tableIn (tgt := 897) hx hb dL_law_39 (by decide) (by decide) rfl (by decide) ?_
                                    refine lv_aload_n hx hb dL_law_897 rfl (lv_at hl 1 rfl) ?_
                                    obtain ⟨⟨v235, rc_236, na_237, rh_238⟩, hv, hf⟩ := bd hf
                                    dsimp only at hf
                                    refine q_ci (wr := [(hm, .inr (1, [.int th, .int mk, .ref b1, .ref b2, .ref b3, .ref b4, .ref b5, .ref b6, .int ct, .ref b7, .ref b8, .ref b9])), (b1, .inl (cZ, 128, .inl us)), (b2, .inl (cI, 128, .inl fi)), (b3, .inl (cI, 128, .inl se)), (b4, .inl (cI, 768, .inl ki)), (b5, .inl (cI, 768, .inl va)), (b6, .inl (cZ, 128, .inl li)), (b7, .inl (cI, 128, .inl od)), (b8, .inl (cI, 128, .inl ne)), (b9, .inl (cI, 8, .inl ro)), (oa, .inl (cL, 1, .inr (.inl ou)))]) (va_runV (As := []) (rest := []) ⟨hx, hb, hml, hown, hts⟩ (ctX0_alive l dC dI cI cZ cL h a1 a2 a3 a4 a5 _ w r st rc na tp cn rh sr v235 rc_236 na_237 rh_238 hv) (cwV 0 hts (gV mw_98 mw_99 mw_100 mw_38 mw_101) rfl rfl rfl (by decide +kernel) ⟨Nat.le_of_ble_eq_true rfl, Nat.le_of_ble_eq_true rfl⟩) (q_preV [] hK hP hD [0, 1, 2, 3, 4, 5] (by decide) rfl (ci := 0) rfl rfl) rfl rfl hl.1 rfl (lv_room (Nat.le_of_ble_eq_true rfl)) dL_law_898 ⟨q_rc (by omega), q_rs (by omega)⟩) hP hD hS hA [0, 1, 2, 3, 4, 5] [6, 7, 8, 9, 10, 11, 12, 13, 14, 15, 16] rfl rfl (by decide) (by decide) (fun H locs hP hD hS => ?_)
                                    have hP := hP.sub (ws' := (wL cI cZ cL h a1 a2 a3 a4 a5 hm b1 b2 b3 b4 b5 b6 b7 b8 b9 oa w r st rc_236 na_237 tp cn rh_238 sr th mk us fi se ki va li ct od ne ro ou)) [11, 12, 13, 14, 15, 16, 0, 1, 2, 3, 4, 5, 6, 7, 8, 9, 10] rfl
                                    have hD := hD.sub (ws' := (wL cI cZ cL h a1 a2 a3 a4 a5 hm b1 b2 b3 b4 b5 b6 b7 b8 b9 oa w r st rc_236 na_237 tp cn rh_238 sr th mk us fi se ki va li ct od ne ro ou)) [11, 12, 13, 14, 15, 16, 0, 1, 2, 3, 4, 5, 6, 7, 8, 9, 10] (by decide) rfl
                                    have hP : va_P (dC, dI) vwCl (wL cI cZ cL h a1 a2 a3 a4 a5 hm b1 b2 b3 b4 b5 b6 b7 b8 b9 oa w r st rc_236 na_237 tp cn rh_238 sr th mk us fi se ki va li ct od ne ro ou) _ := hP
                                    have hD : va_D A (wL cI cZ cL h a1 a2 a3 a4 a5 hm b1 b2 b3 b4 b5 b6 b7 b8 b9 oa w r st rc_236 na_237 tp cn rh_238 sr th mk us fi se ki va li ct od ne ro ou) := hD
                                    refine lv_aload_n hx hb dL_law_901 rfl (lv_at hl 2 rfl) ?_
                                    obtain ⟨⟨v239, th_240, li_241⟩, hv, hf⟩ := bd hf
                                    dsimp only at hf
                                    refine q_ci (wr := [(h, .inr (0, [.ref a1, .ref a2, .ref a3, .ref a4, .ref a5, .int tp, .int cn, .int rh_238, .int sr])), (a1, .inl (cI, 256, .inl w)), (a2, .inl (cI, 8, .inl r)), (a3, .inl (cI, 128, .inl st)), (a4, .inl (cI, 128, .inl rc_236)), (a5, .inl (cI, 256, .inl na_237)), (oa, .inl (cL, 1, .inr (.inl ou)))]) (va_runV (As := []) (rest := [.int v235]) ⟨hx, hb, hml, hown, hts⟩ (ctX1_alive l dC dI cI cZ cL hm b1 b2 b3 b4 b5 b6 b7 b8 b9 _ th mk us fi se ki va li ct od ne ro v239 th_240 li_241 hv) (cwV 0 hts (gV mw_604 mw_605 mw_606 mw_40 mw_607) rfl rfl rfl (by decide +kernel) ⟨Nat.le_of_ble_eq_true rfl, Nat.le_of_ble_eq_true rfl⟩) (q_preV [] hK hP hD [6, 7, 8, 9, 10, 11, 12, 13, 14, 15] (by decide) rfl (ci := 1) rfl rfl) rfl rfl hl.1 rfl (lv_room (Nat.le_of_ble_eq_true rfl)) dL_law_902 ⟨q_rc (by omega), q_rs (by omega)⟩) hP hD hS hA [6, 7, 8, 9, 10, 11, 12, 13, 14, 15] [0, 1, 2, 3, 4, 5, 16] rfl rfl (by decide) (by decide) (fun H locs hP hD hS => ?_)
                                    have hP := hP.sub (ws' := (wL cI cZ cL h a1 a2 a3 a4 a5 hm b1 b2 b3 b4 b5 b6 b7 b8 b9 oa w r st rc_236 na_237 tp cn rh_238 sr th_240 mk us fi se ki va li_241 ct od ne ro ou)) [0, 1, 2, 3, 4, 5, 7, 8, 9, 10, 11, 12, 13, 14, 15, 16, 6] rfl
                                    have hD := hD.sub (ws' := (wL cI cZ cL h a1 a2 a3 a4 a5 hm b1 b2 b3 b4 b5 b6 b7 b8 b9 oa w r st rc_236 na_237 tp cn rh_238 sr th_240 mk us fi se ki va li_241 ct od ne ro ou)) [0, 1, 2, 3, 4, 5, 7, 8, 9, 10, 11, 12, 13, 14, 15, 16, 6] (by decide) rfl
                                    have hP : va_P (dC, dI) vwCl (wL cI cZ cL h a1 a2 a3 a4 a5 hm b1 b2 b3 b4 b5 b6 b7 b8 b9 oa w r st rc_236 na_237 tp cn rh_238 sr th_240 mk us fi se ki va li_241 ct od ne ro ou) _ := hP
                                    have hD : va_D A (wL cI cZ cL h a1 a2 a3 a4 a5 hm b1 b2 b3 b4 b5 b6 b7 b8 b9 oa w r st rc_236 na_237 tp cn rh_238 sr th_240 mk us fi se ki va li_241 ct od ne ro ou) := hD
                                    refine lv_icmp_eq (tgt := 910) hx hb dL_law_905 (by decide) (fun h242 => ?_) (fun h242 => ?_)
                                    · have hf := ift h242 hf
                                      refine lv_iinc (v := x4_ + (5 : Int32)) hx hb dL_law_910 hl (k := 4) rfl (by rfl) (by decide) rfl (fun ls hl => ?_)
                                      have hl : lv_has ls 7 [(4, .int (x4_ + (5 : Int32))), (0, .ref b), (1, .ref h), (2, .ref hm), (3, .ref oa)] := hl
                                      refine lv_goto (tgt := 23) hx hb dL_law_913 (by decide) ?_
                                      exact ih _ _ _ _ _ _ _ _ _ _ _ _ _ _ _ _ _ _ _ _ _ _ _ _ _ _ _ _ _ _ _ _ _ _ _ _ _ _ _ _ _ _ _ _ _ _ hf _ _ _ _ _ (by omega) (by omega) hP hD hS (lv_sub hl [1, 2, 3, 4, 0] rfl) k0
                                    · have hf := ifn h242 hf
                                      refine lv_iconst (v := (0 : Int32)) hx hb dL_law_908 (by decide) ?_
                                      cases hf
                                  · replace hf := ifn (fun z => hk14 (exx.trans z)) hf
                                    refine lv_tableOut (tgt := 910) hx hb dL_law_39 (q_sw (exx ▸ pk_andE _ 4 (by decide)) (q_15 hk0 hk1 hk2 hk3 hk4 hk5 hk6 hk7 hk8 hk9 hk10 hk11 hk12 hk13 hk14)) (by decide) ?_
                                    refine lv_iinc (v := x4_ + (5 : Int32)) hx hb dL_law_910 hl (k := 4) rfl (by rfl) (by decide) rfl (fun ls hl => ?_)
                                    have hl : lv_has ls 7 [(4, .int (x4_ + (5 : Int32))), (0, .ref b), (1, .ref h), (2, .ref hm), (3, .ref oa)] := hl
                                    refine lv_goto (tgt := 23) hx hb dL_law_913 (by decide) ?_
                                    exact ih _ _ _ _ _ _ _ _ _ _ _ _ _ _ _ _ _ _ _ _ _ _ _ _ _ _ _ _ _ _ _ _ _ _ _ _ _ _ _ _ _ _ _ _ _ _ hf _ _ _ _ _ (by omega) (by omega) hP hD hS (lv_sub hl [1, 2, 3, 4, 0] rfl) k0
